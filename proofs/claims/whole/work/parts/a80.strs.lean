/-! The text of the language, read by the JDK's own methods: they leave the heap as it is. -/
def sLen : jI := (yJ0_length_8abf5, cJ0_length_8abf5, 1, some .int, 1, 20)
def sCod : jI := (yJ0_coder_7d493, cJ0_coder_7d493, 1, some .byte, 0, 0)
def sChr : jI := (yJ0_charAt_5068e, cJ0_charAt_5068e, 2, some .char, 3, 64)
def sLat : jI := (yJ0_isLatin1_aae02, cJ0_isLatin1_aae02, 1, some .boolean, 0, 0)
def sL1 : jI := (yJ1_charAt_3b067, cJ1_charAt_3b067, 2, some .char, 2, 43)
def sChk : jI := (yJ0_checkIndex_df160, cJ0_checkIndex_df160, 2, none, 1, 22)
def sPre : jI := (yJ3_checkIndex_8e157, cJ3_checkIndex_8e157, 3, some .int, 0, 0)
theorem sLen_c : Cond.code sLen.1 sLen.2.1 sLen.2.2.1 sLen.2.2.2.1 ∈ jtbl := jat_m2 (k := 2) (l := 4) rfl rfl
theorem sLen_i : Cond.initialized sLen.1.cls ∈ jtbl := jat_m2 (k := 1) (l := 6) rfl rfl
theorem sLen_v : Cond.instanceMethod sLen.1 ∈ jtbl := jat_m2 (k := 2) (l := 2) rfl rfl
theorem sLen_s : Cond.selects sLen.1.cls sLen.1 sLen.1 ∈ jtbl := jat_m2 (k := 2) (l := 3) rfl rfl
theorem sCod_c : Cond.code sCod.1 sCod.2.1 sCod.2.2.1 sCod.2.2.2.1 ∈ jtbl := jat_m2 (k := 2) (l := 8) rfl rfl
theorem sCod_i : Cond.initialized sCod.1.cls ∈ jtbl := jat_m2 (k := 1) (l := 6) rfl rfl
theorem sCod_v : Cond.instanceMethod sCod.1 ∈ jtbl := jat_m2 (k := 2) (l := 6) rfl rfl
theorem sCod_s : Cond.selects sCod.1.cls sCod.1 sCod.1 ∈ jtbl := jat_m2 (k := 2) (l := 7) rfl rfl
theorem sChr_c : Cond.code sChr.1 sChr.2.1 sChr.2.2.1 sChr.2.2.2.1 ∈ jtbl := jat_m2 (k := 2) (l := 14) rfl rfl
theorem sChr_i : Cond.initialized sChr.1.cls ∈ jtbl := jat_m2 (k := 1) (l := 6) rfl rfl
theorem sChr_v : Cond.instanceMethod sChr.1 ∈ jtbl := jat_m2 (k := 2) (l := 12) rfl rfl
theorem sChr_s : Cond.selects sChr.1.cls sChr.1 sChr.1 ∈ jtbl := jat_m2 (k := 2) (l := 13) rfl rfl
theorem sLat_c : Cond.code sLat.1 sLat.2.1 sLat.2.2.1 sLat.2.2.2.1 ∈ jtbl := jat_m2 (k := 2) (l := 18) rfl rfl
theorem sLat_i : Cond.initialized sLat.1.cls ∈ jtbl := jat_m2 (k := 1) (l := 6) rfl rfl
theorem sLat_v : Cond.instanceMethod sLat.1 ∈ jtbl := jat_m2 (k := 2) (l := 16) rfl rfl
theorem sLat_s : Cond.selects sLat.1.cls sLat.1 sLat.1 ∈ jtbl := jat_m2 (k := 2) (l := 17) rfl rfl
theorem sL1_c : Cond.code sL1.1 sL1.2.1 sL1.2.2.1 sL1.2.2.2.1 ∈ jtbl := jat_m2 (k := 2) (l := 21) rfl rfl
theorem sL1_i : Cond.initialized sL1.1.cls ∈ jtbl := jat_m2 (k := 1) (l := 7) rfl rfl
theorem sL1_s : Cond.static sL1.1 ∈ jtbl := jat_m2 (k := 2) (l := 20) rfl rfl
theorem sChk_c : Cond.code sChk.1 sChk.2.1 sChk.2.2.1 sChk.2.2.2.1 ∈ jtbl := jat_m2 (k := 2) (l := 24) rfl rfl
theorem sChk_i : Cond.initialized sChk.1.cls ∈ jtbl := jat_m2 (k := 1) (l := 6) rfl rfl
theorem sChk_s : Cond.static sChk.1 ∈ jtbl := jat_m2 (k := 2) (l := 23) rfl rfl
theorem sPre_c : Cond.code sPre.1 sPre.2.1 sPre.2.2.1 sPre.2.2.2.1 ∈ jtbl := jat_m2 (k := 2) (l := 29) rfl rfl
theorem sPre_i : Cond.initialized sPre.1.cls ∈ jtbl := jat_m2 (k := 1) (l := 8) rfl rfl
theorem sPre_s : Cond.static sPre.1 ∈ jtbl := jat_m2 (k := 2) (l := 28) rfl rfl
theorem sk_1 : Cond.methodLink RJ0 335 sCod.1 ∈ jtbl := jat_m2 (k := 2) (l := 5) rfl rfl
theorem sk_2 : Cond.methodLink RJ0 492 sLat.1 ∈ jtbl := jat_m2 (k := 2) (l := 15) rfl rfl
theorem sk_3 : Cond.methodLink RJ0 495 sL1.1 ∈ jtbl := jat_m2 (k := 2) (l := 19) rfl rfl
theorem sk_4 : Cond.methodLink RJ1 9 sChk.1 ∈ jtbl := jat_m2 (k := 2) (l := 22) rfl rfl
theorem sk_5 : Cond.methodLink RJ0 1059 sPre.1 ∈ jtbl := jat_m2 (k := 2) (l := 27) rfl rfl
theorem sk_6 : Cond.methodLink RX7 17 sLen.1 ∈ jtbl := jat_m2 (k := 2) (l := 1) rfl rfl
theorem sk_7 : Cond.methodLink RX7 23 sChr.1 ∈ jtbl := jat_m2 (k := 2) (l := 11) rfl rfl
theorem sk_8 : Cond.methodLink RX12 130 sLen.1 ∈ jtbl := jat_m2 (k := 6) (l := 173) rfl rfl
theorem sk_9 : Cond.methodLink RX12 135 sChr.1 ∈ jtbl := jat_m2 (k := 6) (l := 174) rfl rfl
theorem sf_1 : Cond.fieldLink RJ0 38 "java/lang/String" "COMPACT_STRINGS" "Z" ∈ jtbl := jat_m2 (k := 2) (l := 9) rfl rfl
theorem sf_2 : Cond.fieldLink RJ0 1053 "jdk/internal/util/Preconditions" "SIOOBE_FORMATTER" "Ljava/util/function/BiFunction;" ∈ jtbl := jat_m2 (k := 2) (l := 25) rfl rfl
theorem sf_3 : Cond.fieldLink RJ0 9 "java/lang/String" "value" "[B" ∈ jtbl := jat_m2 (k := 9) (l := 140) rfl rfl
theorem sf_4 : Cond.fieldLink RJ0 15 "java/lang/String" "coder" "B" ∈ jtbl := jat_m2 (k := 9) (l := 141) rfl rfl
theorem sPre_p : (parseMethodDescriptor sPre.1.desc).map (fun d => d.parameters.length) = some 3 := by decide +kernel
theorem sChk_p : (parseMethodDescriptor sChk.1.desc).map (fun d => d.parameters.length) = some 2 := by decide +kernel
theorem sL1_p : (parseMethodDescriptor sL1.1.desc).map (fun d => d.parameters.length) = some 2 := by decide +kernel
theorem sChr_p : (parseMethodDescriptor sChr.1.desc).map (fun d => d.parameters.length) = some 1 := by decide +kernel
def sZ (b a v : Nat) (s : State) : Prop := vk_S 1 [48] [lgB] (fun _ => a) (fun _ => v) (fun q => b ≤ q) s s.heap ∧ va_Z "java/lang/String" "COMPACT_STRINGS" "Z" (.int 1) (fun q => b ≤ q) s s.heap ∧ va_Zq "jdk/internal/util/Preconditions" "SIOOBE_FORMATTER" "Ljava/util/function/BiFunction;" (fun q => b ≤ q) s s.heap
theorem sZ.go {b a v : Nat} {s U : State} {H : Heap} {locs : List Loc} (h : sZ b a v s) (hS : va_S (fun q => b ≤ q) s.heap H locs) (hU : U.heap = H) (hW : s.WarmedH U.vm) : sZ b a v U := by
  subst hU
  exact ⟨(h.1.kept hS.2.1).moved hW.alike, (h.2.1.kept hS.2.1).moved hW.alike, (h.2.2.kept hS.2.1).moved hW.alike⟩
def sQ (r : Option Value) : Array Value → State → Outcome → State → Prop := fun _ st o t => o = .returned r ∧ t.heap = st.heap
def sC (G : jG) (i : jI) (a v : Nat) (vals : List Value) (r : Option Value) : Prop := Met G.1 i.1 (Cond.code i.1 i.2.1 i.2.2.1 i.2.2.2.1 :: jtbl) (jRm i 0 0) (va_Pc vals (fun U => sZ G.2.2.1 a v U)) (sQ r) 0 0 (fun _ => False)
theorem s_blind {b a v : Nat} {vals : List Value} : FrameBlind (va_Pc vals (fun U => sZ b a v U)) := by
  intro q U g mk h
  exact h
def sX (G : jG) (i : jI) (a v : Nat) (p : Program) (s : State) (m : MethodId) (args : Array Value) (meth : Method) (c : Code) : Prop :=
  CallFix p m c i.2.1 i.2.2.1 s args jtbl i.1.cls ∧ meth.sig.returnType = i.2.2.2.1 ∧ meth.locks = false ∧ sZ G.2.2.1 a v s
theorem sC_of {G : jG} {i : jI} {a v : Nat} {vals : List Value} {r : Option Value} (hy : plainName i.1.cls = true) (hn : (lg_sl vals).length ≤ i.2.2.1)
    (k : ∀ (p : Program) (e : Env) (s : State) (m : MethodId) (args : Array Value) (below : List Frame) (meth : Method) (c : Code) (ls : Array Slot), sX G i a v p s m args meth c → lv_has ls i.2.2.1 (lv_args 0 vals) →
      W p G.1 e (jRm i 0 0) s m args below meth c s.heap [] 0 0 (MQ below (sQ r) args s 0 0 (fun _ => False)) (F0 m 0 ls [])) : sC G i a v vals r := by
  refine Met.ofW (cc := i.2.1) (maxL := i.2.2.1) (ret := i.2.2.2.1) hy rfl ?_
  intro p e s m args below meth c s₁ B hml hv
  obtain ⟨rfl, hZ⟩ := hv
  have hts := atoms_spec (ws := Cond.code i.1 i.2.1 i.2.2.1 i.2.2.2.1 :: jtbl) B.pre
  have hl := lv_entry vals (n := i.2.2.1) hn
  rw [lg_entry_eq]
  exact k p e s m _ below meth c _ ⟨⟨B.exec, B.bytes, hml, findClass_of_methodNamed B.named, fun w h => hts w (List.mem_cons_of_mem _ h)⟩, B.returns, B.notSynchronized, hZ⟩ hl
section SW
variable {G : jG} {i i' : jI} {a v mc ms : Nat} {As rest : List Value} {index : Nat} {r : Option Value} {p : Program} {e : Env} {s : State} {m : MethodId} {args : Array Value} {below : List Frame} {meth : Method} {c : Code} {H : Heap} {locs : List Loc} {ls : Array Slot} {c0 s0 pc : Nat} {Q : State → Prop}
theorem s_run {R : Room} {l : Launch} {st0 : List Value} {a' : Array Value} (k : W p l e R s m args below meth c H locs c0 s0 Q (F0 m (pc + 3) ls (r.toList ++ rest))) (hr : va_Run p l e R s m args below meth c H locs c0 s0 0 0 (F0 m pc ls st0) rest (sQ r a') (fun _ => False)) : W p l e R s m args below meth c H locs c0 s0 Q (F0 m pc ls st0) := by
  intro T hT Y
  obtain ⟨v, st₀, t, T', L, h0, X', hL, e1, e2, ⟨hv, hq⟩, stp⟩ := hr T hT Y
  have hv' : v = r := by injection hv
  subst hv'
  have hL0 : L = [] := by
    cases L with
    | nil => rfl
    | cons x y => exact (hL x List.mem_cons_self).elim
  subst hL0
  rw [List.append_nil] at X'
  obtain ⟨t2, a1, b1⟩ := k T' (by rw [e1, hq, h0]) X'
  exact ⟨t2, stp t2 a1, b1⟩
theorem s_callV (hX : CallFix p m c i.2.1 i.2.2.1 s args jtbl i.1.cls) (hZ : sZ G.2.2.1 a v s) (hS : va_S (fun q => G.2.2.1 ≤ q) s.heap H locs) (hs : ls.size = i.2.2.1) (hM : sC G i' a v (.ref a :: As) r) (hcls : i'.1.cls = "java/lang/String")
    (hc : Cond.code i'.1 i'.2.1 i'.2.2.1 i'.2.2.2.1 ∈ jtbl) (hi : Cond.initialized i'.1.cls ∈ jtbl) (hv : Cond.instanceMethod i'.1 ∈ jtbl) (hsel : Cond.selects i'.1.cls i'.1 i'.1 ∈ jtbl) (hlink : Cond.methodLink i.1.cls index i'.1 ∈ jtbl)
    (hp : (parseMethodDescriptor i'.1.desc).map (fun d => d.parameters.length) = some As.length) (hR : i'.2.2.2.2.1 + 1 ≤ i.2.2.2.2.1 ∧ 8 + (i'.2.2.1 + 11) + i'.2.2.2.2.2 ≤ i.2.2.2.2.2) (hd : decode i.2.1 pc = .ok (.invokevirtual index, 3)) (h8 : (rest.map fun v => v.category).sum ≤ 8) (h1 : c0 ≤ mc) (h2 : s0 ≤ ms)
    (k : W p G.1 e (jRm i mc ms) s m args below meth c H locs c0 s0 Q (F0 m (pc + 3) ls (r.toList ++ rest))) : W p G.1 e (jRm i mc ms) s m args below meth c H locs c0 s0 Q (F0 m pc ls (As.reverse ++ .ref a :: rest)) := by
  have hts := hX.2.2.2.2
  refine s_run k (a' := (Value.ref a :: As).toArray) ?_
  exact va_runV (C := "java/lang/String") (As := As) (n := As.length) (ret := i'.2.2.2.1) (bytes := i'.2.1) (maxL := i'.2.2.1) (index := index) (b := a) (rest := rest) hX hM
    ⟨callB_of As.length hts (jgoodIn hc) rfl rfl rfl (hts _ hi) (hts _ hlink) ⟨by rw [hcls]; decide, by rw [hcls]; decide, hp⟩ hR, hts _ hv, by rw [← hcls]; exact hts _ hsel⟩
    ⟨s_blind, vk_recv hZ.1 (Nat.lt_succ_self 0) hS, fun U hU hW => ⟨rfl, hZ.go hS hU hW⟩⟩ rfl rfl hs rfl (lv_room h8) hd ⟨h1, h2⟩
theorem s_callS (hX : CallFix p m c i.2.1 i.2.2.1 s args jtbl i.1.cls) (hZ : sZ G.2.2.1 a v s) (hS : va_S (fun q => G.2.2.1 ≤ q) s.heap H locs) (hs : ls.size = i.2.2.1) (hM : sC G i' a v As r) (hn : i'.1.cls ≠ "java/lang/invoke/MethodHandle" ∧ i'.1.cls ≠ "java/lang/invoke/VarHandle")
    (hc : Cond.code i'.1 i'.2.1 i'.2.2.1 i'.2.2.2.1 ∈ jtbl) (hi : Cond.initialized i'.1.cls ∈ jtbl) (hst : Cond.static i'.1 ∈ jtbl) (hlink : Cond.methodLink i.1.cls index i'.1 ∈ jtbl)
    (hp : (parseMethodDescriptor i'.1.desc).map (fun d => d.parameters.length) = some As.length) (hR : i'.2.2.2.2.1 + 1 ≤ i.2.2.2.2.1 ∧ 8 + (i'.2.2.1 + 11) + i'.2.2.2.2.2 ≤ i.2.2.2.2.2) (hd : decode i.2.1 pc = .ok (.invokestatic index, 3)) (h8 : (rest.map fun v => v.category).sum ≤ 8) (h1 : c0 ≤ mc) (h2 : s0 ≤ ms)
    (k : W p G.1 e (jRm i mc ms) s m args below meth c H locs c0 s0 Q (F0 m (pc + 3) ls (r.toList ++ rest))) : W p G.1 e (jRm i mc ms) s m args below meth c H locs c0 s0 Q (F0 m pc ls (As.reverse ++ rest)) := by
  have hts := hX.2.2.2.2
  refine s_run k (a' := As.toArray) ?_
  exact va_runS (As := As) (n := As.length) (ret := i'.2.2.2.1) (bytes := i'.2.1) (maxL := i'.2.2.1) (index := index) (rest := rest) hX hM
    ⟨callB_of As.length hts (jgoodIn hc) rfl rfl rfl (hts _ hi) (hts _ hlink) ⟨hn.1, hn.2, hp⟩ hR, hts _ hst⟩
    ⟨s_blind, fun U hU hW => ⟨rfl, hZ.go hS hU hW⟩⟩ rfl rfl hs rfl (lv_room h8) hd ⟨h1, h2⟩
end SW
theorem s_cod (G : jG) (a v : Nat) : sC G sCod a v [.ref a] (some (.int 0)) := by
  refine sC_of rfl (Nat.le_of_ble_eq_true rfl) ?_
  intro p e s m args below meth c ls hX hl
  obtain ⟨⟨x1, x2, x3, x4, x5⟩, hr, hlk, hZ⟩ := hX
  have l0 : ls[0]? = some (.val (.ref a)) := hl.2.2 (0, .ref a) List.mem_cons_self
  refine va_gets x1 x2 hZ.2.1 va_S.rf x4 (x5 _ sf_1) (fun x h => h) (by decide +kernel) ?_
  refine lv_if_eq (tgt := 13) (off := 10) x1 x2 (by decide +kernel) (by decide) (fun h => absurd h (by decide)) (fun _ => ?_)
  refine lv_aload_n x1 x2 (k := 0) (by decide +kernel) rfl l0 ?_
  refine vk_getf x1 x2 (hZ.1.1 0 (Nat.lt_succ_self 0)).2.1 va_S.rf x4 (x5 _ sf_4) (fun x h => h) (by decide +kernel) ?_
  refine lv_goto x1 x2 (tgt := 14) (off := 4) (by decide +kernel) (by decide) ?_
  exact W.zret (v := 0) x1 x2 hr rfl (fun t ht hW => ⟨rfl, ht⟩) (fun q hq => nomatch hq) (by decide +kernel) hlk
theorem s_lat (G : jG) (a v : Nat) : sC G sLat a v [.ref a] (some (.int 1)) := by
  refine sC_of rfl (Nat.le_of_ble_eq_true rfl) ?_
  intro p e s m args below meth c ls hX hl
  obtain ⟨⟨x1, x2, x3, x4, x5⟩, hr, hlk, hZ⟩ := hX
  have l0 : ls[0]? = some (.val (.ref a)) := hl.2.2 (0, .ref a) List.mem_cons_self
  refine va_gets x1 x2 hZ.2.1 va_S.rf x4 (x5 _ sf_1) (fun x h => h) (by decide +kernel) ?_
  refine lv_if_eq (tgt := 17) (off := 14) x1 x2 (by decide +kernel) (by decide) (fun h => absurd h (by decide)) (fun _ => ?_)
  refine lv_aload_n x1 x2 (k := 0) (by decide +kernel) rfl l0 ?_
  refine vk_getf x1 x2 (hZ.1.1 0 (Nat.lt_succ_self 0)).2.1 va_S.rf x4 (x5 _ sf_4) (fun x h => h) (by decide +kernel) ?_
  refine lv_if_ne (tgt := 17) (off := 7) x1 x2 (by decide +kernel) (by decide) (fun h => absurd rfl h) (fun _ => ?_)
  refine lv_iconst x1 x2 (v := 1) (n := 1) (by decide +kernel) rfl ?_
  refine lv_goto x1 x2 (tgt := 18) (off := 4) (by decide +kernel) (by decide) ?_
  exact W.zret (v := 1) x1 x2 hr rfl (fun t ht hW => ⟨rfl, ht⟩) (fun q hq => nomatch hq) (by decide +kernel) hlk
theorem s_len (G : jG) (a v : Nat) : sC G sLen a v [.ref a] (some (.int 48)) := by
  refine sC_of rfl (Nat.le_of_ble_eq_true rfl) ?_
  intro p e s m args below meth c ls hX hl
  have hX0 := hX
  obtain ⟨⟨x1, x2, x3, x4, x5⟩, hr, hlk, hZ⟩ := hX
  have l0 : ls[0]? = some (.val (.ref a)) := hl.2.2 (0, .ref a) List.mem_cons_self
  refine lv_aload_n x1 x2 (k := 0) (by decide +kernel) rfl l0 ?_
  refine vk_getf x1 x2 (hZ.1.1 0 (Nat.lt_succ_self 0)).2.2.1 va_S.rf x4 (x5 _ sf_3) (fun x h => h) (by decide +kernel) ?_
  refine va_tlen x1 x2 (hZ.1.1 0 (Nat.lt_succ_self 0)).2.2.2 va_S.rf (v := 48) rfl (by decide +kernel) ?_
  refine lv_aload_n x1 x2 (k := 0) (by decide +kernel) rfl l0 ?_
  refine s_callV (i := sLen) (i' := sCod) (As := []) (index := 335) hX0.1 hZ va_S.rf hl.1 (s_cod G a v) rfl sCod_c sCod_i sCod_v sCod_s sk_1 (by decide +kernel) ⟨by decide, by decide⟩ (by decide +kernel) (by decide) (Nat.le_refl _) (Nat.le_refl _) ?_
  refine lv_ishr x1 x2 (by decide +kernel) ?_
  exact W.iret (v := 48) x1 x2 hr (fun t ht hW => ⟨rfl, ht⟩) (fun q hq => nomatch hq) (by decide +kernel) hlk
theorem s_k : ∀ K : Nat, K < 48 → ¬ Int32.ofInt (K : Int) < 0 ∧ Int32.ofInt (K : Int) < 48 ∧ ¬ (Int32.ofInt (K : Int) < 0 ∨ 48 ≤ (Int32.ofInt (K : Int)).toNatClampNeg) ∧ (((lgB.getD (Int32.ofInt (K : Int)).toNatClampNeg 0) &&& 255).toUInt32 % 65536).toInt32 = Int32.ofInt (lgT.getD K 0) ∧ narrow .char (.int (Int32.ofInt (lgT.getD K 0))) = .int (Int32.ofInt (lgT.getD K 0)) := by decide +kernel
theorem s_pre (G : jG) (a v : Nat) {K : Nat} (hK : K < 48) {x : Value} (hx : x = .null ∨ ∃ t : Nat, x = .ref t) : sC G sPre a v [.int (Int32.ofInt (K : Int)), .int 48, x] (some (.int (Int32.ofInt (K : Int)))) := by
  refine sC_of rfl (by rcases hx with rfl | ⟨t, rfl⟩ <;> exact Nat.le_of_ble_eq_true rfl) ?_
  intro p e s m args below meth c ls hX hl
  obtain ⟨⟨x1, x2, x3, x4, x5⟩, hr, hlk, hZ⟩ := hX
  have l0 : ls[0]? = some (.val (.int (Int32.ofInt (K : Int)))) := hl.2.2 (0, .int _) List.mem_cons_self
  have l1 : ls[1]? = some (.val (.int 48)) := hl.2.2 (1, .int _) (List.mem_cons_of_mem _ List.mem_cons_self)
  obtain ⟨k1, k2, -⟩ := s_k K hK
  refine lv_iload_n x1 x2 (k := 0) (by decide +kernel) rfl l0 ?_
  refine lv_if_lt (tgt := 9) (off := 8) x1 x2 (by decide +kernel) (by decide) (fun h => absurd h k1) (fun _ => ?_)
  refine lv_iload_n x1 x2 (k := 0) (by decide +kernel) rfl l0 ?_
  refine lv_iload_n x1 x2 (k := 1) (by decide +kernel) rfl l1 ?_
  refine lv_icmp_lt (tgt := 16) (off := 10) x1 x2 (by decide +kernel) (by decide) (fun _ => ?_) (fun h => absurd k2 h)
  refine lv_iload_n x1 x2 (k := 0) (by decide +kernel) rfl l0 ?_
  exact W.iret x1 x2 hr (fun t ht hW => ⟨rfl, ht⟩) (fun q hq => nomatch hq) (by decide +kernel) hlk
theorem s_chk (G : jG) (a v : Nat) {K : Nat} (hK : K < 48) : sC G sChk a v [.int (Int32.ofInt (K : Int)), .int 48] none := by
  refine sC_of rfl (Nat.le_of_ble_eq_true rfl) ?_
  intro p e s m args below meth c ls hX hl
  have hX0 := hX
  obtain ⟨⟨x1, x2, x3, x4, x5⟩, hr, hlk, hZ⟩ := hX
  have l0 : ls[0]? = some (.val (.int (Int32.ofInt (K : Int)))) := hl.2.2 (0, .int _) List.mem_cons_self
  have l1 : ls[1]? = some (.val (.int 48)) := hl.2.2 (1, .int _) (List.mem_cons_of_mem _ List.mem_cons_self)
  refine lv_iload_n x1 x2 (k := 0) (by decide +kernel) rfl l0 ?_
  refine lv_iload_n x1 x2 (k := 1) (by decide +kernel) rfl l1 ?_
  have fin : ∀ x : Value, (x = .null ∨ ∃ t : Nat, x = .ref t) → W p G.1 e (jRm sChk 0 0) s m args below meth c s.heap [] 0 0 (MQ below (sQ none) args s 0 0 (fun _ => False)) (F0 m 5 ls [x, .int 48, .int (Int32.ofInt (K : Int))]) := by
    intro x hx
    refine s_callS (i := sChk) (i' := sPre) (As := [.int (Int32.ofInt (K : Int)), .int 48, x]) (rest := []) (index := 1059) hX0.1 hZ va_S.rf hl.1 (s_pre G a v hK hx) ⟨by decide, by decide⟩ sPre_c sPre_i sPre_s sk_5 sPre_p ⟨by decide, by decide⟩ (by decide +kernel) (by decide) (Nat.le_refl _) (Nat.le_refl _) ?_
    refine lv_pop x1 x2 (by decide +kernel) rfl ?_
    exact W.vret x1 x2 hr (fun t ht hW => ⟨rfl, ht⟩) (fun q hq => nomatch hq) (by decide +kernel) hlk
  rcases hZ.2.2 with h | ⟨t, h⟩
  · exact va_gets x1 x2 h va_S.rf x4 (x5 _ sf_2) (fun x h => h) (by decide +kernel) (fin _ (Or.inl rfl))
  · exact va_gets x1 x2 h va_S.rf x4 (x5 _ sf_2) (fun x h => h) (by decide +kernel) (fin _ (Or.inr ⟨t, rfl⟩))
theorem s_l1 (G : jG) (a v : Nat) {K : Nat} (hK : K < 48) : sC G sL1 a v [.ref v, .int (Int32.ofInt (K : Int))] (some (.int (Int32.ofInt (lgT.getD K 0)))) := by
  refine sC_of rfl (Nat.le_of_ble_eq_true rfl) ?_
  intro p e s m args below meth c ls hX hl
  have hX0 := hX
  obtain ⟨⟨x1, x2, x3, x4, x5⟩, hr, hlk, hZ⟩ := hX
  have l0 : ls[0]? = some (.val (.ref v)) := hl.2.2 (0, .ref v) List.mem_cons_self
  have l1 : ls[1]? = some (.val (.int (Int32.ofInt (K : Int)))) := hl.2.2 (1, .int _) (List.mem_cons_of_mem _ List.mem_cons_self)
  obtain ⟨k1, k2, k3, k4, k5⟩ := s_k K hK
  refine lv_iload_n x1 x2 (k := 1) (by decide +kernel) rfl l1 ?_
  refine lv_aload_n x1 x2 (k := 0) (by decide +kernel) rfl l0 ?_
  refine va_tlen x1 x2 (hZ.1.1 0 (Nat.lt_succ_self 0)).2.2.2 va_S.rf (v := 48) rfl (by decide +kernel) ?_
  refine s_callS (i := sL1) (i' := sChk) (As := [.int (Int32.ofInt (K : Int)), .int 48]) (rest := []) (index := 9) hX0.1 hZ va_S.rf hl.1 (s_chk G a v hK) ⟨by decide, by decide⟩ sChk_c sChk_i sChk_s sk_4 sChk_p ⟨by decide, by decide⟩ (by decide +kernel) (by decide) (Nat.le_refl _) (Nat.le_refl _) ?_
  refine lv_aload_n x1 x2 (k := 0) (by decide +kernel) rfl l0 ?_
  refine lv_iload_n x1 x2 (k := 1) (by decide +kernel) rfl l1 ?_
  refine va_tb x1 x2 (hZ.1.1 0 (Nat.lt_succ_self 0)).2.2.2 va_S.rf k3 rfl (by decide +kernel) ?_
  refine lv_sipush x1 x2 (n := 255) (v := 255) (by decide +kernel) rfl ?_
  refine lv_iand x1 x2 (by decide +kernel) ?_
  refine lv_i2c x1 x2 (by decide +kernel) k4 ?_
  exact W.zret x1 x2 hr k5 (fun t ht hW => ⟨rfl, ht⟩) (fun q hq => nomatch hq) (by decide +kernel) hlk
theorem s_chr (G : jG) (a v : Nat) {K : Nat} (hK : K < 48) : sC G sChr a v [.ref a, .int (Int32.ofInt (K : Int))] (some (.int (Int32.ofInt (lgT.getD K 0)))) := by
  refine sC_of rfl (Nat.le_of_ble_eq_true rfl) ?_
  intro p e s m args below meth c ls hX hl
  have hX0 := hX
  obtain ⟨⟨x1, x2, x3, x4, x5⟩, hr, hlk, hZ⟩ := hX
  have l0 : ls[0]? = some (.val (.ref a)) := hl.2.2 (0, .ref a) List.mem_cons_self
  have l1 : ls[1]? = some (.val (.int (Int32.ofInt (K : Int)))) := hl.2.2 (1, .int _) (List.mem_cons_of_mem _ List.mem_cons_self)
  obtain ⟨k1, k2, k3, k4, k5⟩ := s_k K hK
  refine lv_aload_n x1 x2 (k := 0) (by decide +kernel) rfl l0 ?_
  refine s_callV (i := sChr) (i' := sLat) (As := []) (rest := []) (index := 492) hX0.1 hZ va_S.rf hl.1 (s_lat G a v) rfl sLat_c sLat_i sLat_v sLat_s sk_2 (by decide +kernel) ⟨by decide, by decide⟩ (by decide +kernel) (by decide) (Nat.le_refl _) (Nat.le_refl _) ?_
  refine lv_if_eq (tgt := 16) (off := 12) x1 x2 (by decide +kernel) (by decide) (fun h => absurd h (by decide)) (fun _ => ?_)
  refine lv_aload_n x1 x2 (k := 0) (by decide +kernel) rfl l0 ?_
  refine vk_getf x1 x2 (hZ.1.1 0 (Nat.lt_succ_self 0)).2.2.1 va_S.rf x4 (x5 _ sf_3) (fun x h => h) (by decide +kernel) ?_
  refine lv_iload_n x1 x2 (k := 1) (by decide +kernel) rfl l1 ?_
  refine s_callS (i := sChr) (i' := sL1) (As := [.ref v, .int (Int32.ofInt (K : Int))]) (rest := []) (index := 495) hX0.1 hZ va_S.rf hl.1 (s_l1 G a v hK) ⟨by decide, by decide⟩ sL1_c sL1_i sL1_s sk_3 sL1_p ⟨by decide, by decide⟩ (by decide +kernel) (by decide) (Nat.le_refl _) (Nat.le_refl _) ?_
  exact W.zret x1 x2 hr k5 (fun t ht hW => ⟨rfl, ht⟩) (fun q hq => nomatch hq) (by decide +kernel) hlk
/-! Rows of the judgements: the text's length, a character of it. -/
section SR
variable {G : jG} {i : jI} {mc ms : Nat} {c0 s0 pc : Nat} {p : Program} {e : Env} {s : State} {m : MethodId} {args : Array Value} {below : List Frame} {meth : Method} {c : Code} {H : Heap} {locs : List Loc} {ls : Array Slot} {rest : List Value} {Q : State → Prop}
def sOf (i : jI) (k : Nat) : Prop := (i.1.cls = RX7 ∧ k = 15) ∨ (i.1.cls = RX12 ∧ k = 128)
theorem w_ldc {k : Nat} (X : jX G i p s m args meth c) (hk : sOf i k) (d : decode i.2.1 pc = .ok (.ldc k, 2))
    (kk : ∀ a v : Nat, sZ G.2.2.1 a v s → W p G.1 e (jRm i mc ms) s m args below meth c H locs c0 s0 Q (F0 m (pc + 2) ls (.ref a :: rest))) : W p G.1 e (jRm i mc ms) s m args below meth c H locs c0 s0 Q (F0 m pc ls rest) := by
  obtain ⟨a, v, m1, m2, h1, h2, h3, h4, h5, -⟩ := X.2.2.2.2.2.2.2.2.1.2
  rcases hk with ⟨hc, rfl⟩ | ⟨hc, rfl⟩
  · exact va_ldcS X.1 X.2.1 (by rw [← hc]; exact X.2.2.2.1) h2 d (kk a v ⟨h1, h4, h5⟩)
  · exact va_ldcS X.1 X.2.1 (by rw [← hc]; exact X.2.2.2.1) h3 d (kk a v ⟨h1, h4, h5⟩)
theorem w_len {a v index : Nat} (X : jX G i p s m args meth c) (hZ : sZ G.2.2.1 a v s) (hS : va_S (fun q => G.2.2.1 ≤ q) s.heap H locs) (hs : ls.size = i.2.2.1) (hlink : Cond.methodLink i.1.cls index sLen.1 ∈ jtbl) (hR : 2 ≤ i.2.2.2.2.1 ∧ 40 ≤ i.2.2.2.2.2) (hd : decode i.2.1 pc = .ok (.invokevirtual index, 3)) (h8 : (rest.map fun v => v.category).sum ≤ 8) (h1 : c0 ≤ mc) (h2 : s0 ≤ ms)
    (k : W p G.1 e (jRm i mc ms) s m args below meth c H locs c0 s0 Q (F0 m (pc + 3) ls (.int 48 :: rest))) : W p G.1 e (jRm i mc ms) s m args below meth c H locs c0 s0 Q (F0 m pc ls (.ref a :: rest)) :=
  s_callV (i' := sLen) (As := []) (v := v) ⟨X.1, X.2.1, X.2.2.1, X.2.2.2.1, X.2.2.2.2.1⟩ hZ hS hs (s_len G a v) rfl sLen_c sLen_i sLen_v sLen_s hlink (by decide +kernel) hR hd h8 h1 h2 k
theorem w_chr {a v index K : Nat} (hK : K < 48) (X : jX G i p s m args meth c) (hZ : sZ G.2.2.1 a v s) (hS : va_S (fun q => G.2.2.1 ≤ q) s.heap H locs) (hs : ls.size = i.2.2.1) (hlink : Cond.methodLink i.1.cls index sChr.1 ∈ jtbl) (hR : 4 ≤ i.2.2.2.2.1 ∧ 85 ≤ i.2.2.2.2.2) (hd : decode i.2.1 pc = .ok (.invokevirtual index, 3)) (h8 : (rest.map fun v => v.category).sum ≤ 8) (h1 : c0 ≤ mc) (h2 : s0 ≤ ms)
    (k : W p G.1 e (jRm i mc ms) s m args below meth c H locs c0 s0 Q (F0 m (pc + 3) ls (.int (Int32.ofInt (lgT.getD K 0)) :: rest))) : W p G.1 e (jRm i mc ms) s m args below meth c H locs c0 s0 Q (F0 m pc ls (.int (Int32.ofInt (K : Int)) :: .ref a :: rest)) :=
  s_callV (i' := sChr) (As := [.int (Int32.ofInt (K : Int))]) (v := v) ⟨X.1, X.2.1, X.2.2.1, X.2.2.2.1, X.2.2.2.2.1⟩ hZ hS hs (s_chr G a v hK) rfl sChr_c sChr_i sChr_v sChr_s hlink sChr_p hR hd h8 h1 h2 k
end SR

/-! SlopeCheckerLaw.mode: what the class throws is caught. -/
def lhh : List (Nat × Nat × Nat × Nat) := [(0, 10, 13, 13), (0, 10, 17, 15)]
theorem lm_c : Cond.codeWith yL_mode cL_mode 5 (some .int) lhh ∈ jtbl := jat_m2 (k := 6) (l := 39) rfl rfl
theorem lm_k1 : Cond.classLink RL 13 "java/lang/IndexOutOfBoundsException" ∈ jtbl := jat_m2 (k := 6) (l := 40) rfl rfl
theorem lm_k2 : Cond.classLink RL 15 "java/util/NoSuchElementException" ∈ jtbl := jat_m2 (k := 6) (l := 41) rfl rfl
theorem lm_l : Cond.methodLink RL 7 yX11_mode ∈ jtbl := jat_m2 (k := 6) (l := 42) rfl rfl
theorem lm_s : Cond.static yL_mode ∈ jtbl := jat_m2 (k := 6) (l := 38) rfl rfl
theorem lm_i : Cond.initialized RL ∈ jtbl := jat_m2 (k := 1) (l := 0) rfl rfl
theorem lm_w : Cond.methodLink RL 43 yL_mode ∈ jtbl := jat_m2 (k := 6) (l := 37) rfl rfl
theorem lm_t1 : Cond.castable "java/lang/IndexOutOfBoundsException" "java/lang/IndexOutOfBoundsException" ∈ nxs := by decide +kernel
theorem lm_t2 : Cond.castable "java/util/NoSuchElementException" "java/util/NoSuchElementException" ∈ nxs := by decide +kernel
theorem lm_m1 : Cond.code mX11_mode.1 mX11_mode.2.1 mX11_mode.2.2.1 mX11_mode.2.2.2.1 ∈ jtbl := jat_m2 (k := 6) (l := 45) rfl rfl
theorem lm_m2 : Cond.initialized mX11_mode.1.cls ∈ jtbl := jat_m2 (k := 1) (l := 1) rfl rfl
theorem lm_m3 : Cond.instanceMethod mX11_mode.1 ∈ jtbl := jat_m2 (k := 6) (l := 43) rfl rfl
theorem lm_m4 : Cond.selects RX11 mX11_mode.1 mX11_mode.1 ∈ jtbl := jat_m2 (k := 6) (l := 44) rfl rfl
theorem lm_d5 : decode mL_mode.2.1 5 = .ok (.invokevirtual 7, 3) := by decide +kernel
theorem lm_d355 : decode mL_law.2.1 355 = .ok (.invokestatic 43, 3) := by decide +kernel
def lmP : zP := (fun _ s _ _ _ c => iA s ∧ nW s ∧ c.exceptionTable.toList = tableOf lhh, [])
def lmR (z : Nat) (S : jS) (A : Int × Int) : Option jV → jM → Prop := fun r M' => r = some (0, A.1) ∧ ∃ (z' : Nat) (S' : jS), M' = mm z' S' ∧ 1 ≤ z' ∧ (∀ q j, q ≠ 1258 → S' q j = S q j) ∧ (A.1 = 0 → S' 1258 0 = A.2)
theorem lmH {G : jG} {i : jI} {P : Option jV → jM → Prop} : xH G i 1 6 lmP (zmQ G P 1 6) (0, fun _ => 0) P (mS i) true := by
  refine ⟨fun _ _ _ _ _ _ h => h.1, (fun h => nomatch h), fun n _ q hq => absurd hq List.not_mem_nil, fun e pc c0 s0 lv st M _ hx hc hs h => ?_⟩
  obtain ⟨op, len, x, a, b, d⟩ := e
  obtain ⟨hx, g4⟩ := jand hx
  obtain ⟨hx, g3⟩ := jand hx
  obtain ⟨g1, g2⟩ := jand hx
  have k1 : op = 31 := of_decide_eq_true g1
  have k2 : a = 0 := of_decide_eq_true g2
  subst k1
  subst k2
  match st, h with
  | [], h => exact h.elim
  | [v], h =>
    obtain ⟨h1, h2⟩ : v.1 = jtg 0 ∧ P (some v) M := h
    intro p e s m args below meth c H locs ls X F hh hS hl
    refine W.widen hc hs ?_
    obtain ⟨v1, v2⟩ := v
    have e0 : v1 = 0 := h1
    subst e0
    exact W.iret (v := Int32.ofInt v2) X.1 X.2.1 (X.2.2.2.2.2.1.trans (of_decide_eq_true g4)) (fun t ht hW => ⟨⟨some (0, v2), M, rfl, h2, by rw [ht]; exact hh⟩, hS.F ht⟩) hS.2.2 (of_decide_eq_true g3) X.2.2.2.2.2.2.1
  | _ :: _ :: _, h => exact h.elim
def xPre (G : jG) (M : jM) (av : List jV) : Array Value → State → Prop := va_Pc (av.map (jv G.2.2.1)) (fun U => jh G M U.heap ∧ jN G.2.2.1 U ∧ va_K G.2.1 vwCl (jtys G.2.2.2) U ∧ iA U ∧ nW U)
theorem xPre_blind {G : jG} {M : jM} {av : List jV} : FrameBlind (xPre G M av) := by
  intro a U g mk q
  obtain ⟨q0, qh, qN, qK, qA, qW⟩ := q
  exact ⟨q0, qh, ⟨fun w hw => va_Nw.same (u := U) (U := U.calling g mk a) (jnest_t w hw) rfl (qN.1 w hw), qN.2.blind⟩, va_K.moved (u := U) (U := U.calling g mk a) (Vm.Alike.refl U.vm) qK, iA.moved (u := U) (U := U.calling g mk a) (Vm.Alike.refl U.vm) qA, qW.blind⟩
theorem lm_end {G : jG} {z : Nat} {S : jS} {pc v : Nat} {lv : List (Nat × jV)} {p : Program} {e : Env} {s : State} {m : MethodId} {args : Array Value} {below : List Frame} {meth : Method} {c : Code} {H : Heap} {locs : List Loc} {ls : Array Slot} {q : Addr} {A : Int × Int} {c0 s0 : Nat} (X : jX G mL_mode p s m args meth c)
    (d1 : decode mL_mode.2.1 pc = .ok (.astore 4, 2)) (d2 : decode mL_mode.2.1 (pc + 2) = .ok (.iconst (v : Int), 1)) (d3 : decode mL_mode.2.1 (pc + 3) = .ok (.ireturn, 1)) (hv : A.1 = (v : Int)) (hv0 : v ≠ 0) {z' : Nat} (hz' : 1 ≤ z') (hh : jh G (mm z' S) H) (hS : va_S (fun q => G.2.2.1 ≤ q) s.heap H locs) (hls : lv_has ls 5 (lv.map fun q => (q.1, jv G.2.2.1 q.2))) (hc : c0 ≤ 1) (hs : s0 ≤ 6) :
    W p G.1 e (jRm mL_mode 1 6) s m args below meth c H locs c0 s0 (zmQ G (lmR z S A) 1 6 below args s) (F0 m pc ls [.ref q]) := by
  refine lv_astore X.1 X.2.1 d1 hls (by decide) rfl (fun ls' hl' => ?_)
  refine lv_iconst X.1 X.2.1 d2 rfl ?_
  refine W.widen hc hs ?_
  exact W.iret (v := Int32.ofInt (v : Int)) X.1 X.2.1 X.2.2.2.2.2.1 (fun t ht hW => ⟨⟨some (0, (v : Int)), mm z' S, rfl, ⟨by rw [hv], z', S, rfl, hz', fun _ _ _ => rfl, fun w => by omega⟩, by rw [ht]; exact hh⟩, hS.F ht⟩) hS.2.2 d3 X.2.2.2.2.2.2.1
section
variable {G : jG} {z u : Nat} {S : jS} {W : Nat → Int} {T : Nat → Nat → Int} {af : Nat → Nat} {m w : Int}
theorem v_qmode (hl : G.1.stackTraces = false) (h : kC S u W T af) (hz : 1 ≤ z) (hm : jI32 m) (hw : jI32 w) : vx_Met G.1 mX11_mode.1 (Cond.code mX11_mode.1 mX11_mode.2.1 mX11_mode.2.2.1 mX11_mode.2.2.2.1 :: jtbl) (jRm mX11_mode 1 6) (xPre G (mm z S) [(2, ((0 : Nat) : Int)), (0, m), (0, w)])
    (jQ G (fun r M' => r = some (0, (aMode W T m w).2) ∧ M' = mm z S ∧ (aMode W T m w).1 = 0)) (xmX G S (aMode W T m w)) 1 6 (fun q => G.2.2.1 ≤ q) := by
  refine vx_ofW (cc := mX11_mode.2.1) (maxL := mX11_mode.2.2.1) (ret := mX11_mode.2.2.2.1) rfl rfl ?_
  intro p e s m' args below meth c s₁ B hml ht hv
  obtain ⟨rfl, hh, hN, hK, hA, hW9⟩ := hv
  have hts := atoms_spec (ws := Cond.code mX11_mode.1 mX11_mode.2.1 mX11_mode.2.2.1 mX11_mode.2.2.2.1 :: jtbl) B.pre
  have hl' := lv_entry ([(2, ((0 : Nat) : Int)), (0, m), (0, w)].map (jv G.2.2.1)) (n := mX11_mode.2.2.1) (by rw [jsum_sl]; exact Nat.le_of_ble_eq_true rfl)
  rw [lg_entry_eq]
  rw [jargs_map] at hl'
  refine j_qmode hl h hz hm hw p e s m' _ below meth c s.heap [] _ ⟨B.exec, B.bytes, hml, findClass_of_methodNamed B.named, fun w h => hts w (List.mem_cons_of_mem _ h), B.returns, B.notSynchronized, ?_, hN, hK⟩ ⟨hA, hW9, ht⟩ hh va_S.rf hl'
  rw [hh.1]
  exact Nat.le_add_right _ _
set_option maxHeartbeats 1000000 in
set_option maxRecDepth 100000 in
theorem lm_call {st : List jV} {lv : List (Nat × jV)} (hl : G.1.stackTraces = false) (h : kC S u W T af) (hz : 1 ≤ z) (hm : jI32 m) (hw : jI32 w) (h8 : jsum st ≤ 8)
    (k : (aMode W T m w).1 = 0 → zJ G mL_mode 1 6 lmP (zmQ G (lmR z S (aMode W T m w)) 1 6) 1 6 8 lv ((0, (aMode W T m w).2) :: st) (mm z S)) : zJ G mL_mode 1 6 lmP (zmQ G (lmR z S (aMode W T m w)) 1 6) 0 0 5 lv ((0, w) :: (0, m) :: (2, ((0 : Nat) : Int)) :: st) (mm z S) := by
  intro p e s m' args below meth c H locs ls X F hh hS hls
  have hts := X.2.2.2.2.1
  obtain ⟨a0, v0, m1, m2, -, -, -, -, -, -, -, -, -, h10⟩ := X.2.2.2.2.2.2.2.2.1.2
  have hg := jw_get (b := G.2.2.1) (ac := G.2.2.2) (L := (mm z S).2.2.1) (S := (mm z S).2.2.2) (N := (mm z S).2.1) (p := 0) (by show 0 < min 1259 (1258 + z); omega)
  have hr : vx_Run p G.1 e (jRm mL_mode 1 6) s m' args below meth c H locs 0 0 1 6 (F0 m' 5 ls (((0, w) :: (0, m) :: (2, ((0 : Nat) : Int)) :: st).map (jv G.2.2.1))) (st.map (jv G.2.2.1)) (jQ G (fun r M' => r = some (0, (aMode W T m w).2) ∧ M' = mm z S ∧ (aMode W T m w).1 = 0) (Value.ref (G.2.2.1 + 0) :: [(0, m), (0, w)].map (jv G.2.2.1)).toArray) (xmX G S (aMode W T m w)) (fun q => G.2.2.1 ≤ q) := by
    exact vx_runV (C := RX11) (As := [(0, m), (0, w)].map (jv G.2.2.1)) (n := 2) (ret := some .int) (bytes := cX11_mode) (maxL := 3) (index := 7) (b := G.2.2.1 + 0) (rest := st.map (jv G.2.2.1)) ⟨X.1, X.2.1, X.2.2.1, X.2.2.2.1, hts⟩ (v_qmode hl h hz hm hw)
      ⟨callB_of 2 hts (jgoodIn lm_m1) rfl rfl rfl (hts _ lm_m2) (hts _ lm_l) ⟨by decide, by decide, by decide +kernel⟩ ⟨by decide, by decide⟩, hts _ lm_m3, hts _ lm_m4⟩
      ⟨xPre_blind, va_recv (q := (RX11, TX11, 12)) X.2.2.2.2.2.2.2.2.2 hh.2.2 rfl hg, fun U hU hW => ⟨rfl, by rw [hU]; exact hh, X.2.2.2.2.2.2.2.2.1.go hS hU hW, va_K.moved hW.alike X.2.2.2.2.2.2.2.2.2, F.1.moved hW.alike, F.2.1.warm hW⟩⟩
      rfl rfl hls.1 rfl (lv_room (by rw [jsum_cat]; exact h8)) lm_d5 ⟨Nat.le_refl _, Nat.le_refl _⟩
  intro T' hT Y
  rcases hr T' hT Y with ⟨v, st₀, t, T2, L, h0, X', hL, e1, e2, ⟨⟨r, M', hv, ⟨rfl, rfl, hp0⟩, hh'⟩, hF⟩, stp⟩ | ⟨q, st₀, t, T2, L, E, ce, h0, X', hL, e1, e2, ⟨hE, ⟨z', hz', hh'⟩, hF⟩, hce, hcv, hcl, stp⟩
  · obtain ⟨k1, k2, k3⟩ := vx_keep h0 e1 hS (fun q _ hq => hq) (fun q hq => hq) hL hF
    have hv' : v = (some ((0 : Nat), (aMode W T m w).2)).map (jv G.2.2.1) := by injection hv
    obtain ⟨t2, a1, b1⟩ := k hp0 p e s m' args below meth c T2.heap (locs ++ L) ls X F (by rw [e1]; exact hh') k3 hls T2 rfl X'
    refine ⟨t2, stp t2 ?_, b1⟩
    rw [hv']
    exact a1
  · obtain ⟨k1, k2, k3⟩ := vx_keep h0 e1 hS (fun q _ hq => hq) (fun q hq => hq) hL hF
    have hhT : jh G (mm z' S) T2.heap := by rw [e1]; exact hh'
    have hceT : T2.heap[q]? = some ce := by rw [e1]; exact hce
    have fin : vx_W p G.1 e (jRm mL_mode 1 6) s m' args below meth c T2.heap (locs ++ L) (0 + 1) (0 + 6) (zmQ G (lmR z S (aMode W T m w)) 1 6 below args s) (F0 m' 5 ls (st.map (jv G.2.2.1))) q := by
      rcases hE with ⟨rfl, hA⟩ | ⟨rfl, hA⟩
      · refine vx_catch (own := RL) (name := "java/lang/IndexOutOfBoundsException") X.2.2.2.1 [] ⟨0, 10, 13, 13⟩ [⟨0, 10, 17, 15⟩] (F.2.2.trans rfl) (fun z hz => nomatch hz) rfl (by decide) (hts _ lm_k1) (F.2.1.use lm_t1) hceT hcv hcl ?_
        exact lm_end (v := 1) X (by decide +kernel) (by decide +kernel) (by decide +kernel) hA (by decide) hz' hhT k3 hls (Nat.le_refl _) (Nat.le_refl _)
      · refine vx_catch (own := RL) (name := "java/util/NoSuchElementException") X.2.2.2.1 [⟨0, 10, 13, 13⟩] ⟨0, 10, 17, 15⟩ [] (F.2.2.trans rfl) (fun z hz => ?_) rfl (by decide) (hts _ lm_k2) (F.2.1.use lm_t2) hceT hcv hcl ?_
        · have : z = ⟨0, 10, 13, 13⟩ := List.mem_singleton.mp hz
          subst this
          exact Or.inr ⟨by decide, _, hts _ lm_k1, h10⟩
        · exact lm_end (v := 2) X (by decide +kernel) (by decide +kernel) (by decide +kernel) hA (by decide) hz' hhT k3 hls (Nat.le_refl _) (Nat.le_refl _)
    obtain ⟨t2, a1, b1⟩ := fin T2 rfl X'
    exact ⟨t2, stp.trans a1, b1⟩
theorem L_out : LAY 1258 = (2, 0, 1, jno) := rfl
theorem jarr_out (hz : 1 ≤ z) : jarr (mm z S) ((1258 : Nat) : Int) 0 2 = True := eq_true ⟨⟨Int.natCast_nonneg _, by show 1258 < min 1259 (1258 + z); omega⟩, by rw [mm_L, Int.toNat_natCast, L_out], by rw [mm_L, Int.toNat_natCast, L_out]; decide⟩
theorem eSum_b (W : Nat → Int) (m : Int) : ∀ k : Nat, 0 ≤ eSum W m k ∧ eSum W m k ≤ (k : Int)
  | 0 => ⟨Int.le_refl 0, Int.le_refl 0⟩
  | k + 1 => by
    have := eSum_b W m k
    simp only [eSum]
    split <;> omega
theorem aMode_b (hw : wfW W) (ht : wfT W T) : jI32 (aMode W T m w).2 := by
  have w1 := hw.2.2.1
  have t1 := ht.1
  unfold aMode
  by_cases c : 0 ≤ m ∧ m < W 0
  · rw [if_pos c]
    have q := hw.2.2.2.2.1 m.toNat (by omega)
    unfold wfM at q
    obtain ⟨q1, q2, -, ⟨q3, -⟩, q4, -⟩ := q
    by_cases c2 : 0 ≤ w ∧ w ≤ 3
    · rw [if_pos c2]
      show jI32 (W (59 + 25 * m.toNat + w.toNat))
      rcases (show w.toNat = 0 ∨ w.toNat = 1 ∨ w.toNat = 2 ∨ w.toNat = 3 by omega) with e | e | e | e
      · rw [e, Nat.add_zero]; exact ⟨by omega, by omega⟩
      · rw [e, show 59 + 25 * m.toNat + 1 = 60 + 25 * m.toNat by omega]; exact ⟨by omega, by omega⟩
      · rw [e, show 59 + 25 * m.toNat + 2 = 61 + 25 * m.toNat by omega]; exact ⟨by omega, by omega⟩
      · rw [e, show 59 + 25 * m.toNat + 3 = 62 + 25 * m.toNat by omega]; exact ⟨by omega, by omega⟩
    · rw [if_neg c2]
      by_cases c3 : w = 4
      · rw [if_pos c3]
        have := eSum_b W m (W 1).toNat
        exact ⟨by show _ ≤ eSum W m (W 1).toNat; omega, by show eSum W m (W 1).toNat ≤ _; omega⟩
      · rw [if_neg c3]
        by_cases c4 : w = 5
        · rw [if_pos c4]
          have := cnt_le (aLiv T m.toNat) (qN T)
          have : qN T = (T 0 0).toNat := rfl
          exact ⟨by show _ ≤ ((cnt (aLiv T m.toNat) (qN T) : Nat) : Int); omega, by show ((cnt (aLiv T m.toNat) (qN T) : Nat) : Int) ≤ _; omega⟩
        · rw [if_neg c4]; exact ⟨by decide, by decide⟩
  · rw [if_neg c]; exact ⟨by decide, by decide⟩
set_option maxHeartbeats 1000000 in
set_option maxRecDepth 100000 in
theorem j_lmode (hl : G.1.stackTraces = false) (h : kC S u W T af) (hz : 1 ≤ z) (hm : jI32 m) (hw : jI32 w) : zJ G mL_mode 1 6 lmP (zmQ G (lmR z S (aMode W T m w)) 1 6) 0 0 0 [(0, 2, ((0 : Nat) : Int)), (1, 0, m), (2, 0, w), (3, 2, ((1258 : Nat) : Int))] [] (mm z S) := by
  have hb := aMode_b (m := m) (w := w) h.2.1.1 h.2.1.2.1
  have hA := jarr_out (S := S) hz
  refine xJw kLm lmH (fun pc => pc == 5) 20 (by omega) (by omega) ?_
  simp -implicitDefEqProofs only [Nat.reduceAdd, Nat.reduceMul, Nat.reduceEqDiff, Nat.reduceBEq, Nat.reduceLT, Nat.reduceLeDiff, Int.reduceToNat, Int.reduceLE, Int.reduceLT, Int.reduceNeg, Int.reduceAdd, Int.reduceMul, Bool.or_false, Bool.or_true, Bool.true_or, Bool.false_or, jwq_s, jwp_sn, jwp_sc, jwp_0, jsum, jwx_s, ↓jol_c, ↓jo1_c, ↓jo2_c, ↓jo3_c, Bool.false_eq_true, beq_iff_eq, jst, jins_c, jins_n, jdrop_c, jdrop_n, jargs, jtg, jtag, jcnd, true_and, and_true, false_or, or_false, true_or, or_true, forall_const, ↓reduceIte, Option.toList, List.cons_append, List.nil_append, false_and, and_false, reduceCtorEq, false_imp_iff, forall_eq, true_imp_iff, joc_c, List.drop_succ_cons, List.drop_zero, List.take_succ_cons, List.take_zero, List.reverse_cons, List.reverse_nil, List.length_cons, List.length_nil, Int.reduceEq, not_true_eq_false, not_false_eq_true, xwx_s, xwp_sn, xwp_sc, xwp_0, xoi_c, jobj_R, mm_S, mm_L, mm_set, Int.toNat_natCast, Int.natCast_nonneg, ju_at, ne21, ne01, jrd_1, jrd_2, jrd_3, jobj_M, jfd_M0, jfd_M1, jfd_M2, jfd_M3, jfd_M4, jfd_M5, jfd_M6, jfd_M7, jfd_M8, jfd_M9, jfd_M10, jfd_M11, jfd_M12, jsn_M12, jfd_M13, jsn_M13, jfd_M14, jsn_M14, jfd_M15, jsn_M15, jarr_M5, jarr_M6, jarr_M7, jarr_M82, jarr_M83, jarr_M145, jarr_M146, jarr_M147, jarr_M8, jrd_M8, jarr_M9, jrd_M9, jarr_M84, jrd_M84, jobj_N, jfd_N0, jfd_N1, jfd_N2, jfd_N3, jsn_N3, jarr_N1, jarr_N2, jarr_N3, jobj_B, jfd_B0, jfd_B1, jfd_B2, jfd_B3, jfd_B4, jfd_B5, jsn_B5, jarr_B1, jarr_B2, jarr_B3, jarr_B4, jarr_B5, jobj_H, jfd_H0, jfd_H1, jfd_H2, jsn_H2, jfd_H3, jsn_H3, jfd_H4, jsn_H4, jfd_H5, jsn_H5, jfd_H6, jsn_H6, jfd_H7, jsn_H7, jfd_H8, jsn_H8, jfd_H9, jsn_H9, jfd_H10, jfd_H11, jarr_H429, jarr_H1, jrd_H1, jobj_P, jfd_P0, jfd_P1, jfd_P2, jsn_P2, jfd_P3, jsn_P3, jfd_P4, jsn_P4, jfd_P5, jsn_P5, jfd_P6, jsn_P6, jfd_P7, jsn_P7, jfd_P8, jsn_P8, jfd_P9, jsn_P9, jobj_G, jfd_G0, jfd_G1, jarr_G1, jarr_G2, jobj_A, jfd_A0, jsn_A0, jfd_A1, jsn_A1, jobj_O, jfd_O0, jfd_O1, jsn_O1, jfd_O2, jsn_O2, jfd_O3, jsn_O3, jfd_O4, jsn_O4, jfd_O5, jsn_O5, jfd_O6, jfd_O7, jfd_O10, jfd_O11, jarr_O1, jobj_E, jfd_E0, jfd_E1, jsn_E1, jfd_E2, jsn_E2, jfd_E3, jsn_E3, jfd_E4, jsn_E4, jfd_E5, jsn_E5, jfd_E6, jsn_E6, jfd_E7, jsn_E7, jfd_E8, jsn_E8, jfd_E9, jsn_E9, jfd_E10, jsn_E10, jfd_E11, jsn_E11, jfd_E12, jsn_E12, jfd_E13, jsn_E13, jfd_E14, jsn_E14, jarr_E1, jobj_C, jfd_C0, jfd_C1, jfd_C2, jfd_C3, jfd_C4, jfd_C5, jfd_C6, jsn_C6, jfd_C7, jsn_C7, jfd_C8, jsn_C8, jarr_C1, jarr_C2, jarr_C3, jarr_C4, jarr_C5, jarr_C6, jrd_C5, jsn_Ca5, jrd_C6, jsn_Ca6, jobj_Y, jfd_Y0, jfd_Y1, jfd_Y2, jsn_Y2, jfd_Y3, jfd_Y4, jfd_Y5, jarr_Y1, jobj_D, jfd_D0, jfd_D1, jfd_D2, jfd_D3, jsn_D3, jfd_D4, jsn_D4, jfd_D5, jsn_D5, jfd_D6, jfd_D7, jsn_D7, jfd_D8, jsn_D8, jfd_D9, jsn_D9, jfd_D10, jsn_D10, jfd_D11, jsn_D11, jfd_D12, jsn_D12, jfd_D13, jsn_D13, jfd_D14, jsn_D14, jfd_D15, jsn_D15, jfd_D16, jsn_D16, jarr_D1, jfd_O8c, jfd_O9c, hU_CK, hU_OT, jL32_0, jL32_1, jL32_2, jL32_3, jL32_4, jL32_5, jL32_6, jL32_7, jL32_8, jL32_9, jL32_10, jL32_11, jL32_12, jL32_13, jL32_14, jL32_15, jL32_16, jL32_17, jL32_18, jL32_19, jL32_20, jL32_21, jL32_22, jL32_23, jL32_24, jL32_25, jL32_26, jL32_27, jL32_28, jL32_29, jL32_30, jL32_31, jL32_32, jL32_33, jL32_34, jL32_35, jL32_36, jL32_37, jL32_38, jL32_39, jL32_57, jL32_60, jL32_97, jL32_122, jL32_255, jLm32_1, jLm32_2, jLm32_3, jLm32_1000, jL64_0, jL64_1, zne_10, zne_00, zne_01, zne_11, false_imp_iff, true_imp_iff, fLm_0, fLm_1, fLm_2, fLm_3, fLm_4, fLm_8, fLm_9, fLm_10, fLm_21, fLm_22, ↓xo_0, ↓jo_0, ↓xo_1, ↓jo_1, ↓xo_16, ↓jo_16, ↓xo_21, ↓jo_21, ↓xo_26, ↓jo_26, ↓xo_31i]
  refine lm_call hl h hz hm hw (by decide) (fun h0 => ?_)
  refine xJw kLm lmH (fun pc => false) 20 (Nat.le_refl _) (Nat.le_refl _) ?_
  generalize aMode W T m w = A at *
  simp -implicitDefEqProofs only [Nat.reduceAdd, Nat.reduceMul, Nat.reduceEqDiff, Nat.reduceBEq, Nat.reduceLT, Nat.reduceLeDiff, Int.reduceToNat, Int.reduceLE, Int.reduceLT, Int.reduceNeg, Int.reduceAdd, Int.reduceMul, Bool.or_false, Bool.or_true, Bool.true_or, Bool.false_or, jwq_s, jwp_sn, jwp_sc, jwp_0, jsum, jwx_s, ↓jol_c, ↓jo1_c, ↓jo2_c, ↓jo3_c, Bool.false_eq_true, beq_iff_eq, jst, jins_c, jins_n, jdrop_c, jdrop_n, jargs, jtg, jtag, jcnd, true_and, and_true, false_or, or_false, true_or, or_true, forall_const, ↓reduceIte, Option.toList, List.cons_append, List.nil_append, false_and, and_false, reduceCtorEq, false_imp_iff, forall_eq, true_imp_iff, joc_c, List.drop_succ_cons, List.drop_zero, List.take_succ_cons, List.take_zero, List.reverse_cons, List.reverse_nil, List.length_cons, List.length_nil, Int.reduceEq, not_true_eq_false, not_false_eq_true, xwx_s, xwp_sn, xwp_sc, xwp_0, xoi_c, jobj_R, mm_S, mm_L, mm_set, Int.toNat_natCast, Int.natCast_nonneg, ju_at, ne21, ne01, jrd_1, jrd_2, jrd_3, jobj_M, jfd_M0, jfd_M1, jfd_M2, jfd_M3, jfd_M4, jfd_M5, jfd_M6, jfd_M7, jfd_M8, jfd_M9, jfd_M10, jfd_M11, jfd_M12, jsn_M12, jfd_M13, jsn_M13, jfd_M14, jsn_M14, jfd_M15, jsn_M15, jarr_M5, jarr_M6, jarr_M7, jarr_M82, jarr_M83, jarr_M145, jarr_M146, jarr_M147, jarr_M8, jrd_M8, jarr_M9, jrd_M9, jarr_M84, jrd_M84, jobj_N, jfd_N0, jfd_N1, jfd_N2, jfd_N3, jsn_N3, jarr_N1, jarr_N2, jarr_N3, jobj_B, jfd_B0, jfd_B1, jfd_B2, jfd_B3, jfd_B4, jfd_B5, jsn_B5, jarr_B1, jarr_B2, jarr_B3, jarr_B4, jarr_B5, jobj_H, jfd_H0, jfd_H1, jfd_H2, jsn_H2, jfd_H3, jsn_H3, jfd_H4, jsn_H4, jfd_H5, jsn_H5, jfd_H6, jsn_H6, jfd_H7, jsn_H7, jfd_H8, jsn_H8, jfd_H9, jsn_H9, jfd_H10, jfd_H11, jarr_H429, jarr_H1, jrd_H1, jobj_P, jfd_P0, jfd_P1, jfd_P2, jsn_P2, jfd_P3, jsn_P3, jfd_P4, jsn_P4, jfd_P5, jsn_P5, jfd_P6, jsn_P6, jfd_P7, jsn_P7, jfd_P8, jsn_P8, jfd_P9, jsn_P9, jobj_G, jfd_G0, jfd_G1, jarr_G1, jarr_G2, jobj_A, jfd_A0, jsn_A0, jfd_A1, jsn_A1, jobj_O, jfd_O0, jfd_O1, jsn_O1, jfd_O2, jsn_O2, jfd_O3, jsn_O3, jfd_O4, jsn_O4, jfd_O5, jsn_O5, jfd_O6, jfd_O7, jfd_O10, jfd_O11, jarr_O1, jobj_E, jfd_E0, jfd_E1, jsn_E1, jfd_E2, jsn_E2, jfd_E3, jsn_E3, jfd_E4, jsn_E4, jfd_E5, jsn_E5, jfd_E6, jsn_E6, jfd_E7, jsn_E7, jfd_E8, jsn_E8, jfd_E9, jsn_E9, jfd_E10, jsn_E10, jfd_E11, jsn_E11, jfd_E12, jsn_E12, jfd_E13, jsn_E13, jfd_E14, jsn_E14, jarr_E1, jobj_C, jfd_C0, jfd_C1, jfd_C2, jfd_C3, jfd_C4, jfd_C5, jfd_C6, jsn_C6, jfd_C7, jsn_C7, jfd_C8, jsn_C8, jarr_C1, jarr_C2, jarr_C3, jarr_C4, jarr_C5, jarr_C6, jrd_C5, jsn_Ca5, jrd_C6, jsn_Ca6, jobj_Y, jfd_Y0, jfd_Y1, jfd_Y2, jsn_Y2, jfd_Y3, jfd_Y4, jfd_Y5, jarr_Y1, jobj_D, jfd_D0, jfd_D1, jfd_D2, jfd_D3, jsn_D3, jfd_D4, jsn_D4, jfd_D5, jsn_D5, jfd_D6, jfd_D7, jsn_D7, jfd_D8, jsn_D8, jfd_D9, jsn_D9, jfd_D10, jsn_D10, jfd_D11, jsn_D11, jfd_D12, jsn_D12, jfd_D13, jsn_D13, jfd_D14, jsn_D14, jfd_D15, jsn_D15, jfd_D16, jsn_D16, jarr_D1, jfd_O8c, jfd_O9c, hU_CK, hU_OT, jL32_0, jL32_1, jL32_2, jL32_3, jL32_4, jL32_5, jL32_6, jL32_7, jL32_8, jL32_9, jL32_10, jL32_11, jL32_12, jL32_13, jL32_14, jL32_15, jL32_16, jL32_17, jL32_18, jL32_19, jL32_20, jL32_21, jL32_22, jL32_23, jL32_24, jL32_25, jL32_26, jL32_27, jL32_28, jL32_29, jL32_30, jL32_31, jL32_32, jL32_33, jL32_34, jL32_35, jL32_36, jL32_37, jL32_38, jL32_39, jL32_57, jL32_60, jL32_97, jL32_122, jL32_255, jLm32_1, jLm32_2, jLm32_3, jLm32_1000, jL64_0, jL64_1, zne_10, zne_00, zne_01, zne_11, false_imp_iff, true_imp_iff, fLm_0, fLm_1, fLm_2, fLm_3, fLm_4, fLm_8, fLm_9, fLm_10, fLm_21, fLm_22, ↓xo_0, ↓jo_0, ↓xo_1, ↓jo_1, ↓xo_16, ↓jo_16, ↓xo_21, ↓jo_21, ↓xo_26, ↓jo_26, ↓xo_31i, hA]
  exact ⟨hb, by rw [h0], z, _, rfl, hz, fun q j hq => by rw [ju_at, if_neg (fun w => hq w.1)], fun _ => by rw [ju_at, if_pos ⟨rfl, rfl⟩]⟩
theorem c_lmode (hl : G.1.stackTraces = false) (h : kC S u W T af) (hz : 1 ≤ z) (hm : jI32 m) (hw : jI32 w) : Met G.1 mL_mode.1 (Cond.codeWith mL_mode.1 mL_mode.2.1 mL_mode.2.2.1 mL_mode.2.2.2.1 lhh :: jtbl) (jRm mL_mode 1 6) (xPre G (mm z S) [(2, ((0 : Nat) : Int)), (0, m), (0, w), (2, ((1258 : Nat) : Int))]) (jQ G (lmR z S (aMode W T m w))) 1 6 (fun q => G.2.2.1 ≤ q) := by
  refine va_MetW (cc := mL_mode.2.1) (maxL := mL_mode.2.2.1) (ret := mL_mode.2.2.2.1) (hh := lhh) rfl rfl ?_
  intro p e s m' args below meth c s₁ B hml hv
  obtain ⟨rfl, hh, hN, hK, hA, hW9⟩ := hv
  have hts := atoms_spec (ws := Cond.codeWith mL_mode.1 mL_mode.2.1 mL_mode.2.2.1 mL_mode.2.2.2.1 lhh :: jtbl) B.pre
  have hl' := lv_entry ([(2, ((0 : Nat) : Int)), (0, m), (0, w), (2, ((1258 : Nat) : Int))].map (jv G.2.2.1)) (n := mL_mode.2.2.1) (by rw [jsum_sl]; exact Nat.le_of_ble_eq_true rfl)
  rw [lg_entry_eq]
  rw [jargs_map] at hl'
  refine j_lmode hl h hz hm hw p e s m' _ below meth c s.heap [] _ ⟨B.exec, B.bytes, hml, findClass_of_methodNamed B.named, fun w h => hts w (List.mem_cons_of_mem _ h), B.returns, B.notSynchronized, ?_, hN, hK⟩ ⟨hA, hW9, vx_table (x := mL_mode.1) B (hts _ List.mem_cons_self)⟩ hh va_S.rf hl'
  rw [hh.1]
  exact Nat.le_add_right _ _
theorem lm_good : GoodIn jtbl (va_wsS RL 43 mL_mode.1 (Cond.codeWith mL_mode.1 mL_mode.2.1 mL_mode.2.2.1 mL_mode.2.2.2.1 lhh :: jtbl)) := by
  have g : ∀ v ∈ jtbl, v ∈ jtbl ∧ ((v.onTables && v.keeps) = true ∨ ∃ ty, v = .arrayClass ty) := fun v hv => ⟨hv, good_of_word (List.all_eq_true.mp jgood _ hv)⟩
  intro v hv
  unfold va_wsS at hv
  rcases List.mem_append.mp hv with hv | hv
  · simp only [List.mem_cons, List.not_mem_nil, or_false] at hv
    rcases hv with rfl | rfl | rfl
    · exact g _ lm_w
    · exact g _ lm_s
    · exact g _ lm_i
  · rcases List.mem_cons.mp hv with rfl | hv
    · exact g _ lm_c
    · exact g _ hv
theorem l_mode {a L c0 s0 : Nat} {xs : Nat → Int32} {lv : List (Nat × jV)} {st : List jV} (hl : G.1.stackTraces = false) (h : kC S u W T af) (hz : 1 ≤ z) (hm : jI32 m) (hw : jI32 w) (h8 : jsum st ≤ 8) (hc : c0 + 1 ≤ 601024) (hs : s0 + 6 ≤ 7293034)
    (k : ∀ (z' : Nat) (S' : jS), 1 ≤ z' → (∀ q j, q ≠ 1258 → S' q j = S q j) → ((aMode W T m w).1 = 0 → S' 1258 0 = (aMode W T m w).2) → zJ G mL_law 601024 7293034 (lP G.2.2.1 a L xs) lQ (c0 + 1) (s0 + 6) 358 lv ((0, (aMode W T m w).1) :: st) (mm z' S')) :
    zJ G mL_law 601024 7293034 (lP G.2.2.1 a L xs) lQ c0 s0 355 lv ((2, ((1258 : Nat) : Int)) :: (0, w) :: (0, m) :: (2, ((0 : Nat) : Int)) :: st) (mm z S) := by
  intro p e s m' args below meth c H locs ls X F hh hS hls
  have hts := X.2.2.2.2.1
  refine zrun (mc' := 1) (ms' := 6) (P0 := lmR z S (aMode W T m w)) (a := ([(2, ((0 : Nat) : Int)), (0, m), (0, w), (2, ((1258 : Nat) : Int))].map (jv G.2.2.1)).toArray) (st := st) (fun r M' hp => ?_) X F hS hls ?_
  · obtain ⟨rfl, z', S', rfl, h1, h2, h3⟩ := hp
    exact k z' S' h1 h2 h3
  · exact vx_runSW (As := [(2, ((0 : Nat) : Int)), (0, m), (0, w), (2, ((1258 : Nat) : Int))].map (jv G.2.2.1)) (n := 4) (rest := st.map (jv G.2.2.1)) (own := RL) (index := 43) ⟨X.1, X.2.1, X.2.2.1, X.2.2.2.1, hts⟩ (c_lmode hl h hz hm hw)
      (vx_cwSW 4 hts lm_good rfl rfl rfl ⟨by decide, by decide, by decide +kernel⟩ ⟨by decide, by decide⟩)
      ⟨xPre_blind, fun U hU hW => ⟨rfl, by rw [hU]; exact hh, X.2.2.2.2.2.2.2.2.1.go hS hU hW, va_K.moved hW.alike X.2.2.2.2.2.2.2.2.2, F.1.1.moved hW.alike, F.1.2.warm hW⟩⟩
      rfl rfl hls.1 rfl (lv_room (by rw [jsum_cat]; exact h8)) lm_d355 ⟨hc, hs⟩
end

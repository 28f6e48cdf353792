/-! THE CLAIM OUT OF ONE WALK OF THE LAW'S BODY. Your part is whole_start (and what it stands on); all else here is the same for every law, but numbers. -/
def R_law : String := "SlopeCheckerLaw"
def lw_P (b : Addr) (xs : List Int32) (args : Array Value) (s : State) : Prop := args = #[.ref b] ∧ s.IntsAt b xs ∧ xs.length ≤ 3584 ∧ (Jvm.Cond.and given_1 narrow_1).before args s = true
def lw_Q (_ : Array Value) (s : State) (o : Outcome) (t : State) : Prop := o = .returned (some (.int 1)) ∧ Framed s o t [] 601024 7293034
def lw_Z (below : List Frame) (a : Array Value) (s : State) : State → Prop := fun t => ∃ o, t.status = .running ∧ Ended t below o ∧ lw_Q a s o t
/-- the law's own end, with 1 on the stack, nothing written that was there before, its room as the claim has it -/
theorem lw_ret {p : Program} {l : Launch} {e : Env} {s : State} {m : MethodId} {below : List Frame} {meth : Method} {c : Code} {b : Nat} (hx : p.tables.exec = Jvm.exec) (hb : c.code = code) (hr : meth.sig.returnType = ret) (hlocks : meth.locks = false) {pc : Nat} {H : Heap} {ls : Array Slot} (hdg : decode code pc = .ok (.ireturn, 1)) : W p l e room_1 s m #[Value.ref b] below meth c H [] 601024 7293034 (lw_Z below #[Value.ref b] s) (F0 m pc ls [.int 1]) := by
  intro T hT X
  obtain ⟨fs, hret, hrun, hended, hW, hframe⟩ := X.leave (v := some (.int 1)) (hlocks := hlocks) (fun h => by rw [hr] at h; cases h)
  have hmeth' : T.vm.method? m = some meth := X.method'
  refine ⟨T.setFrames fs, ?_, .returned (some (.int 1)), hrun, hended, rfl, ⟨_, rfl⟩, hW, hframe⟩
  jvm_step X.here [X.here.top, hx, hb, hdg, hmeth', hr, ret, narrow_b1]
  (try refine ⟨rfl, ?_⟩); (try refine ⟨rfl, ?_⟩)
  first | (intro acts; rw [hret _ acts rfl rfl rfl]) | rw [hret _ _ rfl rfl rfl]
  exact Steps.refl _
/-- what holds at the law's entry: the machine, the code, the tables' words (any of lw_tbl by 'hts w (by decide +kernel)'), the script of L ints xs at the cell b, what the Statement gives of the start (any of its parts by flat_of_before) -/
def lw_At (p : Program) (s : State) (m : MethodId) (meth : Method) (c : Code) (b L : Nat) (xs : Nat → Int32) : Prop :=
  p.tables.exec = Jvm.exec ∧ c.code = code ∧ meth.sig.returnType = ret ∧ c.maxLocals = 7 ∧ s.vm.findClass R_law = some m.cls ∧ (∀ w ∈ lw_tbl, w.before #[Value.ref b] s = true) ∧ va_X b L xs s s.heap ∧ b < s.heap.size ∧ meth.locks = false ∧ (Jvm.Cond.and given_1 narrow_1).before #[Value.ref b] s = true
/-! The law's own rows: what it knows of its start, its end, the script. -/
/-- words that the tables alone decide, and no good ones: what a throw asks of them -/
def nxs : List Cond := [.declares (Bundle.initS "java/lang/RuntimeException"), .declares (Bundle.initS "java/lang/Exception"), .declares (Bundle.initS Bundle.tN), .castable "java/lang/IndexOutOfBoundsException" "java/lang/IndexOutOfBoundsException", .castable "java/util/NoSuchElementException" "java/util/NoSuchElementException"]
def nW (U : State) : Prop := ∀ w ∈ nxs, va_Nw w U
theorem nxs_t : ∀ w ∈ nxs, w.onTables = true := by decide +kernel
theorem nW.warm {s U : State} (hW : s.WarmedH U.vm) (h : nW s) : nW U := by
  intro w hw
  have hz := h w hw
  simp only [nxs, List.mem_cons, List.not_mem_nil, or_false] at hw
  rcases hw with rfl | rfl | rfl | rfl | rfl
  · exact va_Nw.warmD hW hz
  · exact va_Nw.warmD hW hz
  · exact va_Nw.warmD hW hz
  · exact va_Nw.warmC hW hz
  · exact va_Nw.warmC hW hz
theorem nW.use {s : State} {w : Cond} {args : Array Value} (h : nW s) (hw : w ∈ nxs) : w.before args s = true := va_Nw.use (nxs_t w hw) (h w hw)
theorem nW.blind {U : State} {g : JFrame} {mk : MethodId} {a : Array Value} (h : nW U) : nW (U.calling g mk a) := fun w hw => va_Nw.same (u := U) (U := U.calling g mk a) (nxs_t w hw) rfl (h w hw)
def lP (b0 a L : Nat) (xs : Nat → Int32) : zP := (fun _ s _ args _ _ => (iA s ∧ nW s) ∧ va_X a L xs s s.heap ∧ a < s.heap.size ∧ args = #[Value.ref a] ∧ s.heap.size = b0 ∧ L ≤ 3584, [(0, Value.ref a)])
def lQ : zQ := fun below args s => lw_Z below args s
def lX (L : Nat) (xs : Nat → Int32) : Nat × (Nat → Int) := (L, fun j => (xs j).toInt)
theorem lv_k {k : Int} {L : Nat} (h0 : 0 ≤ k) (h1 : k < (L : Int)) (hL : L ≤ 3584) : (Int32.ofInt k).toNatClampNeg = k.toNat ∧ vp_in (Int32.ofInt k) L := by
  have hk : (Int32.ofInt k).toInt = k := jI32_to ⟨by omega, by omega⟩
  have e : (Int32.ofInt k).toNatClampNeg = k.toNat := by
    show (Int32.ofInt k).toInt.toNat = k.toNat
    rw [hk]
  refine ⟨e, ?_⟩
  unfold vp_in
  rw [e]
  intro q
  rcases q with q | q
  · rw [Int32.lt_iff_toInt_lt, hk] at q
    have : (0 : Int32).toInt = 0 := rfl
    omega
  · omega
theorem lH {G : jG} {a L : Nat} {xs : Nat → Int32} : xH G mL_law 601024 7293034 (lP G.2.2.1 a L xs) lQ (lX L xs) (fun r _ => r = some (0, 1)) lS true := by
  refine ⟨fun _ _ _ _ _ _ h => h.1.1, (fun h => nomatch h), fun n hn q hq => ?_, fun e pc c0 s0 lv st M _ hx hc hs h => ?_⟩
  · have : q = (0, Value.ref a) := List.mem_singleton.mp hq
    subst this
    exact ⟨hn rfl, rfl⟩
  · obtain ⟨op, len, x, a', b', d⟩ := e
    have hy : ((decide (op = 31) && lS31 pc a') || (decide (op = 64) && lS64 pc len x a' b') || (decide (op = 65) && lS65 pc)) = true := hx
    clear hx
    simp only [Bool.or_eq_true, Bool.and_eq_true, decide_eq_true_eq] at hy
    rcases hy with (⟨rfl, hx⟩ | ⟨rfl, hx⟩) | ⟨rfl, hx⟩
    · unfold lS31 at hx
      obtain ⟨g1, g2⟩ := jand hx
      have g1 := of_decide_eq_true g1
      subst g1
      have g2 := of_decide_eq_true g2
      match st, h with
      | [], h => exact h.elim
      | [v], h =>
        obtain ⟨-, h2⟩ : v.1 = jtg 3 ∧ some v = some (0, 1) := h
        cases h2
        intro p e s m args below meth c H locs ls X F hh hS hl
        obtain ⟨F1, F2, F3, F4, F5, F6⟩ := F
        subst F4
        refine W.widen hc hs ?_
        refine va_forget (fun q hq => by rw [F5]; exact hS.2.2 q hq) ?_
        exact lw_ret X.1 X.2.1 X.2.2.2.2.2.1 X.2.2.2.2.2.2.1 g2
      | _ :: _ :: _, h => exact h.elim
    · unfold lS64 at hx
      obtain ⟨hx, hb⟩ := jand hx
      obtain ⟨d0, d1⟩ := jand hx
      have h : jol (jlk lv a') (fun v => v.1 = 0 ∧ 0 ≤ v.2 + x ∧ v.2 + x < (L : Int) ∧ zJ G mL_law 601024 7293034 (lP G.2.2.1 a L xs) lQ c0 s0 (pc + len) lv ((0, (xs (v.2 + x).toNat).toInt) :: st) M) := h
      cases hv : jlk lv a' with
      | none => rw [hv] at h; exact h.elim
      | some v =>
        rw [hv] at h
        obtain ⟨t, y⟩ := v
        obtain ⟨t0, h0, h1, k⟩ : t = 0 ∧ 0 ≤ y + x ∧ y + x < (L : Int) ∧ zJ G mL_law 601024 7293034 (lP G.2.2.1 a L xs) lQ c0 s0 (pc + len) lv ((0, (xs (y + x).toNat).toInt) :: st) M := h
        subst t0
        intro p e s m args below meth c H locs ls X F hh hS hl
        have kk := k p e s m args below meth c H locs ls X F hh hS hl
        obtain ⟨F1, F2, F3, F4, F5, F6⟩ := F
        have hl0 : ls[0]? = some (.val (.ref a)) := hl.2.2 (0, .ref a) (List.mem_append_left _ List.mem_cons_self)
        have hla : ls[a']? = some (.val (.int (Int32.ofInt y))) := zr_at hl hv
        obtain ⟨q1, q2⟩ := lv_k h0 h1 F6
        have nb : ¬ G.2.2.1 ≤ a := by omega
        have val : jv G.2.2.1 (0, (xs (y + x).toNat).toInt) = .int (xs (Int32.ofInt (y + x)).toNatClampNeg) := by
          rw [q1]
          show Value.int (Int32.ofInt (xs _).toInt) = _
          rw [Int32.ofInt_toInt]
        rw [List.map_cons, val] at kk
        refine lv_aload_n X.1 X.2.1 (k := 0) (of_decide_eq_true d0) rfl hl0 ?_
        refine lv_iload X.1 X.2.1 (of_decide_eq_true d1) hla ?_
        by_cases b0 : b' = 0
        · rw [if_pos b0] at hb
          obtain ⟨hb, b3⟩ := jand hb
          obtain ⟨b1, b2⟩ := jand hb
          have b2 := of_decide_eq_true b2
          have b3 := of_decide_eq_true b3
          subst b2
          rw [show Int32.ofInt y = Int32.ofInt (y + x) by rw [b3, Int.add_zero]]
          exact va_sld (A := fun q => G.2.2.1 ≤ q) X.1 X.2.1 F2 F3 nb hS q2 (of_decide_eq_true b1) kk
        · rw [if_neg b0] at hb
          by_cases b1 : b' = 1
          · rw [if_pos b1] at hb
            obtain ⟨hb, b5⟩ := jand hb
            obtain ⟨hb, b4⟩ := jand hb
            obtain ⟨b2, b3⟩ := jand hb
            have b5 := of_decide_eq_true b5
            subst b5
            refine lv_iconst X.1 X.2.1 (of_decide_eq_true b2) rfl ?_
            refine lv_iadd X.1 X.2.1 (of_decide_eq_true b3) ?_
            rw [← Int32.ofInt_add]
            exact va_sld (A := fun q => G.2.2.1 ≤ q) X.1 X.2.1 F2 F3 nb hS q2 (of_decide_eq_true b4) kk
          · rw [if_neg b1] at hb
            obtain ⟨hb, b6⟩ := jand hb
            obtain ⟨hb, b5⟩ := jand hb
            obtain ⟨hb, b4⟩ := jand hb
            obtain ⟨b2, b3⟩ := jand hb
            have b6 := of_decide_eq_true b6
            subst b6
            refine lv_bipush X.1 X.2.1 (of_decide_eq_true b2) (of_decide_eq_true b3) ?_
            refine lv_iadd X.1 X.2.1 (of_decide_eq_true b4) ?_
            rw [← Int32.ofInt_add]
            exact va_sld (A := fun q => G.2.2.1 ≤ q) X.1 X.2.1 F2 F3 nb hS q2 (of_decide_eq_true b5) kk
    · unfold lS65 at hx
      obtain ⟨d0, d1⟩ := jand hx
      have k : zJ G mL_law 601024 7293034 (lP G.2.2.1 a L xs) lQ c0 s0 (pc + 2) lv ((0, (L : Int)) :: st) M := h
      intro p e s m args below meth c H locs ls X F hh hS hl
      have kk := k p e s m args below meth c H locs ls X F hh hS hl
      obtain ⟨F1, F2, F3, F4, F5, F6⟩ := F
      have hl0 : ls[0]? = some (.val (.ref a)) := hl.2.2 (0, .ref a) (List.mem_append_left _ List.mem_cons_self)
      have nb : ¬ G.2.2.1 ≤ a := by omega
      refine lv_aload_n X.1 X.2.1 (k := 0) (of_decide_eq_true d0) rfl hl0 ?_
      refine va_slen (A := fun q => G.2.2.1 ≤ q) X.1 X.2.1 F2 F3 nb hS (of_decide_eq_true d1) ?_
      rw [← Int32.ofInt_eq_ofNat]
      exact kk

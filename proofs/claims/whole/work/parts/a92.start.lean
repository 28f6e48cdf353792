/-! The law's start: what the statement gives of it. -/
theorem st_w {k l : Nat} {w : Cond} (h : (jtk k)[l]? = some w) : w ∈ lw_tbl := jtk_mem (List.mem_of_getElem? h)
theorem st_inst : ∀ (ci : Nat) (r : vw_C), vwCl[ci]? = some r → Cond.instantiable r.1 r.2.2 ∈ jtbl := by
  intro ci r h
  match ci, h with
  | 0, h => cases h; exact jat_m2 (k := 1) (l := 84) rfl rfl
  | 1, h => cases h; exact jat_m2 (k := 2) (l := 160) rfl rfl
  | 2, h => cases h; exact jat_m2 (k := 2) (l := 99) rfl rfl
  | 3, h => cases h; exact jat_m2 (k := 1) (l := 34) rfl rfl
  | 4, h => cases h; exact jat_m2 (k := 1) (l := 40) rfl rfl
  | 5, h => cases h; exact jat_m2 (k := 2) (l := 167) rfl rfl
  | 6, h => cases h; exact jat_m2 (k := 2) (l := 106) rfl rfl
  | 7, h => cases h; exact jat_m2 (k := 1) (l := 235) rfl rfl
  | 8, h => cases h; exact jat_m2 (k := 2) (l := 173) rfl rfl
  | 9, h => cases h; exact jat_m2 (k := 3) (l := 82) rfl rfl
  | 10, h => cases h; exact jat_m2 (k := 3) (l := 52) rfl rfl
  | 11, h => cases h; exact jat_m2 (k := 1) (l := 26) rfl rfl
  | 12, h => cases h; exact jat_m2 (k := 6) (l := 134) rfl rfl
  | n + 13, h => simp [vwCl] at h
theorem st_p {ty : FieldType} {args : Array Value} {s : State} (h : (Cond.arrayClass ty).before args s = true) (hr : ∀ c : ClassId, s.vm.findClass ("[" ++ ty.toString) = some c → va_RA s c ty) : ∃ cA : ClassId, ArrOfT s cA ty ∧ va_RA s cA ty := by
  obtain ⟨c, k, comp, h1, h2, h3⟩ := Cond.arrayClass_spec (args := args) (first := s) (o := none) (idx := []) h
  exact ⟨c, fun N z => ⟨(fun k h => by cases h), k, h2, comp, h3⟩, hr c h1⟩
theorem sta_o {C : String} {s : State} (h : va_AO C s) : ∃ cA : ClassId, ArrOfT s cA (.object C) ∧ va_RA s cA (.object C) := by
  obtain ⟨comp, c, k, h1, -, h2, h3, h4⟩ := Cond.arrayOver_spec (args := #[]) (first := s) (o := none) (idx := []) h
  exact ⟨c, fun N z => ⟨(fun k h => by cases h), k, h2, comp, h3⟩, k, comp, h2, h3, h1, h4⟩
theorem st_K {args : Array Value} {s : State} (hts : ∀ w ∈ jtbl, w.before args s = true) (hA : iA s) : ∃ (D : va_G) (ac : Nat → ClassId), va_K D vwCl (jtys ac) s := by
  have h0 : ∀ ci : Nat, ∃ q : ClassId × (Nat → Nat), ∀ r : vw_C, vwCl[ci]? = some r → u_Kn s r.1 r.2.1 r.2.2 q.1 q.2 := by
    intro ci
    cases hr : vwCl[ci]? with
    | none => exact ⟨(0, fun _ => 0), fun r h => by cases h⟩
    | some r =>
      obtain ⟨c, i, h⟩ := u_known (C := r.1) (T := r.2.1) (N := r.2.2) (n := r.2.2) hts (jcls_all ci r hr).1 (hts _ (st_inst ci r hr))
      exact ⟨(c, i), fun r' e => by cases e; exact h⟩
  obtain ⟨d, hd⟩ := Classical.axiomOfChoice h0
  obtain ⟨c0, a0, b0⟩ := st_p (ty := .int) (hts _ (jat_m2 (k := 1) (l := 81) rfl rfl)) (fun c h => h)
  obtain ⟨c1, a1, b1⟩ := st_p (ty := .long) (hts _ (jat_m2 (k := 2) (l := 126) rfl rfl)) (fun c h => h)
  obtain ⟨c2, a2, b2⟩ := st_p (ty := .byte) (hts _ (jat_m2 (k := 1) (l := 80) rfl rfl)) (fun c h => h)
  obtain ⟨c3, a3, b3⟩ := st_p (ty := .boolean) (hts _ (jat_m2 (k := 8) (l := 35) rfl rfl)) (fun c h => h)
  obtain ⟨c4, a4, b4⟩ := sta_o hA.1
  obtain ⟨c5, a5, b5⟩ := sta_o hA.2.1
  obtain ⟨c6, a6, b6⟩ := sta_o hA.2.2
  refine ⟨(fun c => (d c).1, fun c => (d c).2), fun j => if j = 0 then c0 else if j = 1 then c1 else if j = 2 then c2 else if j = 3 then c3 else if j = 4 then c4 else if j = 5 then c5 else c6, fun c q hq => hd c q hq, fun k q hq => ?_⟩
  unfold jtys at hq
  match k, hq with
  | 0, hq => cases hq; exact ⟨a0, b0⟩
  | 1, hq => cases hq; exact ⟨a1, b1⟩
  | 2, hq => cases hq; exact ⟨a2, b2⟩
  | 3, hq => cases hq; exact ⟨a3, b3⟩
  | 4, hq => cases hq; exact ⟨a4, b4⟩
  | 5, hq => cases hq; exact ⟨a5, b5⟩
  | 6, hq => cases hq; exact ⟨a6, b6⟩
  | n + 7, hq => simp at hq
def stF : List Cond := flatC (Jvm.Cond.and given_1 narrow_1)
def stR : Term := .string "SlopeChecker$Reader" 15
theorem st_1 : Cond.exactly stR "java/lang/String" ∈ stF := by decide +kernel
theorem st_2 : Cond.eq (.field stR "java/lang/String" "coder" "B") (.int 0) ∈ stF := by decide +kernel
theorem st_3 : Cond.arrayOf (.field stR "java/lang/String" "value" "[B") .byte ∈ stF := by decide +kernel
theorem st_4 : Cond.eq (.length (.field stR "java/lang/String" "value" "[B")) (.int (Int32.ofNat 48)) ∈ stF := by decide +kernel
theorem st_5 : ∀ j : Nat, j < 48 → Cond.eq (.elem (.field stR "java/lang/String" "value" "[B") (.int (Int32.ofNat j))) (.int (lgB.getD j 0)) ∈ stF := by decide +kernel
theorem st_6 : Cond.eq stR (.string "SlopeCheckerModel" 128) ∈ stF := by decide +kernel
theorem st_7 : Cond.exactly (.string "SlopeChecker" 142) "java/lang/String" ∈ stF := by decide +kernel
theorem st_8 : Cond.exactly (.string "SlopeChecker" 175) "java/lang/String" ∈ stF := by decide +kernel
theorem st_9 : Cond.eq (.static "java/lang/String" "COMPACT_STRINGS" "Z") (.int 1) ∈ stF := by decide +kernel
theorem st_10 : Cond.isRef (.static "jdk/internal/util/Preconditions" "SIOOBE_FORMATTER" "Ljava/util/function/BiFunction;") ∈ stF := by decide +kernel
theorem st_11 : Cond.isRef (.static Bundle.tN "UNASSIGNED_STACK" Bundle.steD) ∈ stF := by decide +kernel
theorem st_12 : Cond.isRef (.static Bundle.tN "SUPPRESSED_SENTINEL" Bundle.listD) ∈ stF := by decide +kernel
theorem st_13 : Cond.not (.castable "java/util/NoSuchElementException" "java/lang/IndexOutOfBoundsException") ∈ stF := by decide +kernel
theorem st_Z {args : Array Value} {s : State} (hts : ∀ w ∈ lw_tbl, w.before args s = true) (hs : ∀ w ∈ stF, w.before args s = true) : jZ s.heap.size s := by
  have hA : ∀ a : Nat, a < s.heap.size → ¬ (fun q : Nat => s.heap.size ≤ q) a := fun a h => Nat.not_le.mpr h
  have i0 : ∀ i : Nat, i < 1 → i = 0 := fun i h => by omega
  obtain ⟨adK, adV, h1, h2⟩ := vk_Sof (N := 1) (tm := fun _ => stR) (len := [48]) (byt := [lgB]) (A := fun q => s.heap.size ≤ q) (args := args) (s := s) (fun i hi => by rw [i0 i hi]; decide) (fun i hi => hs _ st_1) (fun i hi => hs _ st_2) (fun i hi => hs _ st_3) (fun i hi => by rw [i0 i hi]; exact hs _ st_4) (fun i hi j hj => by rw [i0 i hi] at hj ⊢; exact hs _ (st_5 j hj)) (fun i j hi hj hij => absurd (by omega) hij) hA
  have e1 := h2 0 (by omega)
  obtain ⟨y, y1, y2⟩ := Cond.eq_one (args := args) (first := s) (o := none) (s := s) (idx := []) (hs _ st_6)
  cases e1.symm.trans y1
  obtain ⟨m1, -, -, -, q1, -⟩ := Cond.exactly_spec (args := args) (first := s) (o := none) (s := s) (idx := []) (hs _ st_7)
  obtain ⟨m2, -, -, -, q2, -⟩ := Cond.exactly_spec (args := args) (first := s) (o := none) (s := s) (idx := []) (hs _ st_8)
  refine ⟨adK 0, adV 0, m1, m2, ⟨fun i hi => ?_, fun i j hi hj _ => by omega⟩, vk_R.of (hts _ (st_w (k := 2) (l := 0) rfl)) e1, vk_R.of (hts _ (st_w (k := 6) (l := 172) rfl)) y2, va_Zof (hts _ (st_w (k := 2) (l := 10) rfl)) (hts _ (st_w (k := 1) (l := 6) rfl)) (va_eqt (hs _ st_9)) hA, va_Zqof (hts _ (st_w (k := 2) (l := 26) rfl)) (hts _ (st_w (k := 1) (l := 8) rfl)) (hs _ st_10) hA, vk_R.of (hts _ (st_w (k := 6) (l := 86) rfl)) q1, vk_R.of (hts _ (st_w (k := 6) (l := 126) rfl)) q2, vx_Zqof (hts _ (st_w (k := 6) (l := 73) rfl)) (hts _ (st_w (k := 1) (l := 19) rfl)) (hs _ st_11) hA, vx_Zqof (hts _ (st_w (k := 6) (l := 75) rfl)) (hts _ (st_w (k := 1) (l := 19) rfl)) (hs _ st_12) hA, va_Nc.of (hs _ st_13)⟩
  have e : i = 0 := by omega
  subst e
  exact h1.1 0 hi
theorem st_N {args : Array Value} {s : State} (hts : ∀ w ∈ lw_tbl, w.before args s = true) : jNw s := by
  intro w hw
  simp only [jnest, List.mem_cons, List.not_mem_nil, or_false] at hw
  rcases hw with rfl | rfl
  · exact va_Nw.of rfl (hts _ (st_w (k := 4) (l := 210) rfl))
  · exact va_Nw.of rfl (hts _ (st_w (k := 5) (l := 193) rfl))
theorem st_A {args : Array Value} {s : State} (hts : ∀ w ∈ lw_tbl, w.before args s = true) : iA s := ⟨va_AO.of (hts _ (st_w (k := 1) (l := 83) rfl)), va_AO.of (hts _ (st_w (k := 2) (l := 166) rfl)), va_AO.of (hts _ (st_w (k := 2) (l := 105) rfl))⟩
theorem st_X {args : Array Value} {s : State} (hts : ∀ w ∈ lw_tbl, w.before args s = true) : nW s := by
  intro w hw
  simp only [nxs, List.mem_cons, List.not_mem_nil, or_false] at hw
  rcases hw with rfl | rfl | rfl | rfl | rfl
  · exact va_Nw.of rfl (hts _ (st_w (k := 6) (l := 50) rfl))
  · exact va_Nw.of rfl (hts _ (st_w (k := 6) (l := 52) rfl))
  · exact va_Nw.of rfl (hts _ (st_w (k := 6) (l := 54) rfl))
  · exact va_Nw.of rfl (hts _ (st_w (k := 6) (l := 48) rfl))
  · exact va_Nw.of rfl (hts _ (st_w (k := 6) (l := 119) rfl))

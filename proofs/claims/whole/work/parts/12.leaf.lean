/-! Walks out of weakest preconditions. -/
theorem jCw {G : jG} {i : jI} {M : jM} {av : List jV} {P : Option jV → jM → Prop} {f : Nat → Option jE} (hf : jfok i f) (hy : plainName i.1.cls = true) (stop : Nat → Bool) (n : Nat) (hn : jsum av ≤ i.2.2.1) (h : jwq G f stop (jJ G i 0 0 P 0 0) P n 0 (jargs 0 av) [] M) : jC G i 0 0 M av P :=
  jC_of hy hn (jwq_sound stop n hf (Nat.le_refl 0) (Nat.le_refl 0) h)
theorem jJw {G : jG} {i : jI} {M : jM} {lv : List (Nat × jV)} {st : List jV} {P : Option jV → jM → Prop} {f : Nat → Option jE} (hf : jfok i f) (stop : Nat → Bool) (n pc : Nat) (h : jwq G f stop (jJ G i 0 0 P 0 0) P n pc lv st M) : jJ G i 0 0 P 0 0 pc lv st M :=
  jwq_sound stop n hf (Nat.le_refl 0) (Nat.le_refl 0) h
theorem jwp_sn (G : jG) (f : Nat → Option jE) (stop : Nat → Bool) (K : jKt) (R : Option jV → jM → Prop) (n pc : Nat) (lv : List (Nat × jV)) (M : jM) : jwp G f stop K R (n + 1) pc lv [] M = if stop pc = true then K pc lv [] M else jwx G (f pc) (jwp G f stop K R n) R pc lv [] M := by
  rw [jwp_s]
  cases stop pc <;> rfl
theorem jwp_sc (G : jG) (f : Nat → Option jE) (stop : Nat → Bool) (K : jKt) (R : Option jV → jM → Prop) (n pc : Nat) (lv : List (Nat × jV)) (v : jV) (r : List jV) (M : jM) : jwp G f stop K R (n + 1) pc lv (v :: r) M = if stop pc = true then K pc lv (v :: r) M else jwx G (f pc) (jwp G f stop K R n) R pc lv (v :: r) M := by
  rw [jwp_s]
  cases stop pc <;> rfl
theorem jol_c (q : Nat × jV) (r : List (Nat × jV)) (n : Nat) (f : jV → Prop) : jol (jlk (q :: r) n) f = if q.1 = n then f q.2 else jol (jlk r n) f := by
  rw [jlk_c]
  split <;> rfl
/-- an exact answer -/
def jP (r : Option jV) (M : jM) : Option jV → jM → Prop := fun r' M' => r = r' ∧ M = M'
theorem jP_i (r : Option jV) (M : jM) : jP r M r M := ⟨rfl, rfl⟩
theorem jC.go {G : jG} {i : jI} {mc ms : Nat} {M M1 : jM} {av : List jV} {r : Option jV} {P : Option jV → jM → Prop} (h : jC G i mc ms M av (jP r M1)) (k : P r M1) : jC G i mc ms M av P := h.mono (by rintro _ _ ⟨rfl, rfl⟩; exact k)
theorem jn_X12 : plainName "SlopeCheckerModel" = true := by decide +kernel
theorem jI64_0 : jI64 0 := ⟨by decide, by decide⟩
theorem jI32_0 : jI32 0 := ⟨by decide, by decide⟩
/-! gcd of longs (reference) -/
set_option maxHeartbeats 4000000 in
set_option maxRecDepth 100000 in
theorem l_gcd {G : jG} {M : jM} {P : Option jV → jM → Prop} {a b : Int} : ∀ (n m : Nat), m < 9223372036854775808 → n < 9223372036854775808 → P (some (1, ((Nat.gcd m n : Nat) : Int))) M → jJ G mX12_gcd 0 0 P 0 0 28 [(0, 1, a), (2, 1, b), (4, 1, (m : Int)), (6, 1, (n : Int))] [] M := by
  intro n
  induction n using Nat.strongRecOn with
  | _ n ih =>
    intro m hm hn hP
    refine jJw kX12_gcd (fun pc => pc == 28) 30 28 ?_
    simp -implicitDefEqProofs only [Nat.reduceAdd, Nat.reduceMul, Nat.reduceEqDiff, Nat.reduceBEq, Nat.reduceLT, Nat.reduceLeDiff, Int.reduceToNat, Int.reduceLE, Int.reduceLT, Int.reduceNeg, Int.reduceAdd, Int.reduceMul, Bool.or_false, Bool.or_true, Bool.true_or, Bool.false_or, jwq_s, jwp_sn, jwp_sc, jwp_0, jsum, jwx_s, ↓jol_c, ↓jo1_c, ↓jo2_c, ↓jo3_c, Bool.false_eq_true, beq_iff_eq, jst, jins_c, jins_n, jdrop_c, jdrop_n, jargs, jtg, jtag, jcnd, true_and, and_true, false_or, or_false, true_or, or_true, forall_const, ↓reduceIte, Option.toList, List.cons_append, List.nil_append, false_and, and_false, reduceCtorEq, false_imp_iff, forall_eq, true_imp_iff, joc_c, List.drop_succ_cons, List.drop_zero, List.take_succ_cons, List.take_zero, List.reverse_cons, List.reverse_nil, List.length_cons, List.length_nil, fX12_gcd_0, fX12_gcd_1, fX12_gcd_2, fX12_gcd_6, fX12_gcd_7, fX12_gcd_8, fX12_gcd_11, fX12_gcd_12, fX12_gcd_14, fX12_gcd_15, fX12_gcd_16, fX12_gcd_20, fX12_gcd_21, fX12_gcd_22, fX12_gcd_25, fX12_gcd_26, fX12_gcd_28, fX12_gcd_30, fX12_gcd_31, fX12_gcd_35, fX12_gcd_37, fX12_gcd_39, fX12_gcd_40, fX12_gcd_42, fX12_gcd_44, fX12_gcd_46, fX12_gcd_48, fX12_gcd_50, fX12_gcd_53, fX12_gcd_55, ↓jo_1, ↓jo_14, ↓jo_15, ↓jo_2, ↓jo_21, ↓jo_22, ↓jo_31l, ↓jo_41]
    refine ⟨⟨by omega, by omega⟩, jI64_0, fun h => ?_, fun h => ?_⟩
    · have h0 : n = 0 := by omega
      subst h0
      simpa using hP
    · have h0 : 0 < n := by omega
      refine ⟨⟨by omega, by omega⟩, ⟨by omega, by omega⟩, by omega, ?_⟩
      rw [← Int.ofNat_tmod]
      refine (ih (m % n) (Nat.mod_lt m h0) n hn (Nat.lt_of_lt_of_le (Nat.mod_lt m h0) (by omega)) ?_).sub (by simp)
      rw [Nat.gcd_comm, ← Nat.gcd_rec, Nat.gcd_comm]
      exact hP
theorem c_gcd {G : jG} {M : jM} {a b : Int} (ha : -9223372036854775807 ≤ a ∧ a ≤ 9223372036854775807) (hb : -9223372036854775807 ≤ b ∧ b ≤ 9223372036854775807) : jC G mX12_gcd 0 0 M [(1, a), (1, b)] (jP (some (1, (Int.gcd a b : Int))) M) := by
  refine jCw kX12_gcd jn_X12 (fun pc => pc == 28) 40 (Nat.le_of_ble_eq_true rfl) ?_
  have key : ∀ x y : Int, (x = a ∨ x = -a) → (y = b ∨ y = -b) → 0 ≤ x → 0 ≤ y → jJ G mX12_gcd 0 0 (jP (some (1, (Int.gcd a b : Int))) M) 0 0 28 [(0, 1, a), (2, 1, b), (4, 1, x), (6, 1, y)] [] M := by
    intro x y hx hy h1 h2
    have e1 : x = (a.natAbs : Int) := by omega
    have e2 : y = (b.natAbs : Int) := by omega
    rw [e1, e2]
    exact l_gcd _ _ (by omega) (by omega) ⟨rfl, rfl⟩
  simp -implicitDefEqProofs only [Nat.reduceAdd, Nat.reduceMul, Nat.reduceEqDiff, Nat.reduceBEq, Nat.reduceLT, Nat.reduceLeDiff, Int.reduceToNat, Int.reduceLE, Int.reduceLT, Int.reduceNeg, Int.reduceAdd, Int.reduceMul, Bool.or_false, Bool.or_true, Bool.true_or, Bool.false_or, jwq_s, jwp_sn, jwp_sc, jwp_0, jsum, jwx_s, ↓jol_c, ↓jo1_c, ↓jo2_c, ↓jo3_c, Bool.false_eq_true, beq_iff_eq, jst, jins_c, jins_n, jdrop_c, jdrop_n, jargs, jtg, jtag, jcnd, true_and, and_true, false_or, or_false, true_or, or_true, forall_const, ↓reduceIte, Option.toList, List.cons_append, List.nil_append, false_and, and_false, reduceCtorEq, false_imp_iff, forall_eq, true_imp_iff, joc_c, List.drop_succ_cons, List.drop_zero, List.take_succ_cons, List.take_zero, List.reverse_cons, List.reverse_nil, List.length_cons, List.length_nil, fX12_gcd_0, fX12_gcd_1, fX12_gcd_2, fX12_gcd_6, fX12_gcd_7, fX12_gcd_8, fX12_gcd_11, fX12_gcd_12, fX12_gcd_14, fX12_gcd_15, fX12_gcd_16, fX12_gcd_20, fX12_gcd_21, fX12_gcd_22, fX12_gcd_25, fX12_gcd_26, fX12_gcd_28, fX12_gcd_30, fX12_gcd_31, fX12_gcd_35, fX12_gcd_37, fX12_gcd_39, fX12_gcd_40, fX12_gcd_42, fX12_gcd_44, fX12_gcd_46, fX12_gcd_48, fX12_gcd_50, fX12_gcd_53, fX12_gcd_55, ↓jo_1, ↓jo_14, ↓jo_15, ↓jo_2, ↓jo_21, ↓jo_22, ↓jo_31l, ↓jo_41]
  refine ⟨⟨by omega, by omega⟩, jI64_0, fun h => ⟨⟨by omega, by omega⟩, jI64_0, fun h' => ?_, fun h' => ?_⟩, fun h => ⟨⟨by omega, by omega⟩, jI64_0, fun h' => ?_, fun h' => ?_⟩⟩
  · exact key _ _ (by simp) (by simp) (by omega) (by omega)
  · exact key _ _ (by simp) (by simp) (by omega) (by omega)
  · exact key _ _ (by simp) (by simp) (by omega) (by omega)
  · exact key _ _ (by simp) (by simp) (by omega) (by omega)
/-! floor -/
theorem floor_eq {a b : Int} (hb : 0 < b) : (if a < a.tdiv b * b then a.tdiv b - 1 else a.tdiv b) = a / b := by
  have h1 := Int.ediv_mul_le a (b := b) (by omega)
  have h2 := Int.lt_ediv_add_one_mul_self a hb
  rw [Int.tdiv_eq_ediv]
  by_cases h : 0 ≤ a ∨ b ∣ a
  · rw [if_pos h, Int.add_zero, if_neg (by omega)]
  · rw [if_neg h, Int.sign_eq_one_of_pos hb, if_pos h2]
    omega
set_option maxHeartbeats 4000000 in
set_option maxRecDepth 100000 in
theorem c_floor {G : jG} {M : jM} {a b : Int} (ha : -4611686018427387904 ≤ a ∧ a ≤ 4611686018427387904) (hb : 0 < b ∧ b ≤ 4611686018427387904) : jC G mX12_floor 0 0 M [(1, a), (1, b)] (jP (some (1, a / b)) M) := by
  refine jCw kX12_floor jn_X12 (fun pc => false) 40 (Nat.le_of_ble_eq_true rfl) ?_
  simp -implicitDefEqProofs only [Nat.reduceAdd, Nat.reduceMul, Nat.reduceEqDiff, Nat.reduceBEq, Nat.reduceLT, Nat.reduceLeDiff, Int.reduceToNat, Int.reduceLE, Int.reduceLT, Int.reduceNeg, Int.reduceAdd, Int.reduceMul, Bool.or_false, Bool.or_true, Bool.true_or, Bool.false_or, jwq_s, jwp_sn, jwp_sc, jwp_0, jsum, jwx_s, ↓jol_c, ↓jo1_c, ↓jo2_c, ↓jo3_c, Bool.false_eq_true, beq_iff_eq, jst, jins_c, jins_n, jdrop_c, jdrop_n, jargs, jtg, jtag, jcnd, true_and, and_true, false_or, or_false, true_or, or_true, forall_const, ↓reduceIte, Option.toList, List.cons_append, List.nil_append, false_and, and_false, reduceCtorEq, false_imp_iff, forall_eq, true_imp_iff, joc_c, List.drop_succ_cons, List.drop_zero, List.take_succ_cons, List.take_zero, List.reverse_cons, List.reverse_nil, List.length_cons, List.length_nil, fX12_floor_0, fX12_floor_1, fX12_floor_2, fX12_floor_3, fX12_floor_5, fX12_floor_7, fX12_floor_8, fX12_floor_9, fX12_floor_10, fX12_floor_14, fX12_floor_16, fX12_floor_17, fX12_floor_18, fX12_floor_21, fX12_floor_23, ↓jo_1, ↓jo_11, ↓jo_12, ↓jo_13, ↓jo_2, ↓jo_21, ↓jo_22, ↓jo_31l, ↓jo_41]
  have h1 := Int.ediv_mul_le a (b := b) (by omega)
  have h2 := Int.lt_ediv_add_one_mul_self a hb.1
  have e := floor_eq (a := a) hb.1
  have hr : jI64 (a.tdiv b * b) := by
    rw [Int.tdiv_eq_ediv]
    rw [Int.add_mul, Int.one_mul] at h2
    by_cases h : 0 ≤ a ∨ b ∣ a
    · rw [if_pos h, Int.add_zero]
      exact ⟨by omega, by omega⟩
    · rw [if_neg h, Int.sign_eq_one_of_pos hb.1, Int.add_mul, Int.one_mul]
      exact ⟨by omega, by omega⟩
  refine ⟨⟨by omega, by omega⟩, ⟨by omega, by omega⟩, by omega, hr, ⟨by omega, by omega⟩, fun h => ?_, fun h => ?_⟩
  · rw [if_neg (by omega)] at e
    rw [e]
    exact jP_i _ _
  · rw [if_pos (by omega)] at e
    rw [e]
    exact jP_i _ _
/-! compares: the sign of a by b less c by d -/
theorem cmp_step {a b c d : Int} (h : a / b = c / d) : a * d - c * b = (a - a / b * b) * d - (c - c / d * d) * b := by
  rw [← h]
  grind
theorem sgn_neg {x : Int} (h : x < 0) : x.sign = -1 := Int.sign_eq_neg_one_of_neg h
theorem sgn_pos {x : Int} (h : 0 < x) : x.sign = 1 := Int.sign_eq_one_of_pos h
theorem cmp_lt {a b c d : Int} (hb : 0 < b) (hd : 0 < d) (h : a / b < c / d) : a * d - c * b < 0 := by
  have h1 := Int.lt_ediv_add_one_mul_self a hb
  have h2 := Int.ediv_mul_le c (b := d) (by omega)
  have h3 : a * d < (a / b + 1) * b * d := Int.mul_lt_mul_of_pos_right h1 hd
  have h4 : c / d * d * b ≤ c * b := Int.mul_le_mul_of_nonneg_right h2 (by omega)
  have h5 : (a / b + 1) * (b * d) ≤ c / d * (b * d) := Int.mul_le_mul_of_nonneg_right (by omega) (Int.mul_nonneg (by omega) (by omega))
  have e1 : (a / b + 1) * b * d = (a / b + 1) * (b * d) := by grind
  have e2 : c / d * d * b = c / d * (b * d) := by grind
  omega
set_option maxHeartbeats 8000000 in
set_option maxRecDepth 100000 in
theorem l_compares {G : jG} {M : jM} {P : Option jV → jM → Prop} {a0 b0 c0 d0 : Int} : ∀ (n : Nat) (a b c d s : Int), b.toNat ≤ n → (-4611686018427387904 ≤ a ∧ a ≤ 4611686018427387904) → (0 < b ∧ b ≤ 4611686018427387904) → (-4611686018427387904 ≤ c ∧ c ≤ 4611686018427387904) → (0 < d ∧ d ≤ 4611686018427387904) → (s = 1 ∨ s = -1) → P (some (0, s * (a * d - c * b).sign)) M →
    jJ G mX12_compares 0 0 P 0 0 17 [(0, 1, a0), (2, 1, b0), (4, 1, c0), (6, 1, d0), (8, 1, a), (10, 1, b), (12, 1, c), (14, 1, d), (16, 0, s)] [] M := by
  intro n
  induction n with
  | zero =>
    intro a b c d s h1 h2 h3
    omega
  | succ n ih =>
    intro a b c d s hn ha hb hc hd hs hP
    refine jJw kX12_compares (fun pc => pc == 17) 60 17 ?_
    simp -implicitDefEqProofs only [Nat.reduceAdd, Nat.reduceMul, Nat.reduceEqDiff, Nat.reduceBEq, Nat.reduceLT, Nat.reduceLeDiff, Int.reduceToNat, Int.reduceLE, Int.reduceLT, Int.reduceNeg, Int.reduceAdd, Int.reduceMul, Bool.or_false, Bool.or_true, Bool.true_or, Bool.false_or, jwq_s, jwp_sn, jwp_sc, jwp_0, jsum, jwx_s, ↓jol_c, ↓jo1_c, ↓jo2_c, ↓jo3_c, Bool.false_eq_true, beq_iff_eq, jst, jins_c, jins_n, jdrop_c, jdrop_n, jargs, jtg, jtag, jcnd, true_and, and_true, false_or, or_false, true_or, or_true, forall_const, ↓reduceIte, Option.toList, List.cons_append, List.nil_append, false_and, and_false, reduceCtorEq, false_imp_iff, forall_eq, true_imp_iff, joc_c, List.drop_succ_cons, List.drop_zero, List.take_succ_cons, List.take_zero, List.reverse_cons, List.reverse_nil, List.length_cons, List.length_nil, fX12_compares_0, fX12_compares_1, fX12_compares_3, fX12_compares_4, fX12_compares_6, fX12_compares_8, fX12_compares_10, fX12_compares_12, fX12_compares_14, fX12_compares_15, fX12_compares_17, fX12_compares_19, fX12_compares_21, fX12_compares_24, fX12_compares_26, fX12_compares_28, fX12_compares_30, fX12_compares_33, fX12_compares_35, fX12_compares_37, fX12_compares_39, fX12_compares_43, fX12_compares_45, fX12_compares_47, fX12_compares_51, fX12_compares_53, fX12_compares_54, fX12_compares_57, fX12_compares_59, fX12_compares_60, fX12_compares_62, fX12_compares_64, fX12_compares_66, fX12_compares_67, fX12_compares_68, fX12_compares_70, fX12_compares_72, fX12_compares_74, fX12_compares_76, fX12_compares_77, fX12_compares_78, fX12_compares_80, fX12_compares_82, fX12_compares_83, fX12_compares_87, fX12_compares_89, fX12_compares_90, fX12_compares_94, fX12_compares_96, fX12_compares_98, fX12_compares_102, fX12_compares_103, fX12_compares_106, fX12_compares_108, fX12_compares_109, fX12_compares_113, fX12_compares_115, fX12_compares_116, fX12_compares_119, fX12_compares_121, fX12_compares_122, fX12_compares_124, fX12_compares_126, fX12_compares_128, fX12_compares_130, fX12_compares_132, fX12_compares_134, fX12_compares_136, fX12_compares_138, fX12_compares_140, fX12_compares_141, fX12_compares_143, jtm_193, ↓jo_0, ↓jo_1, ↓jo_11, ↓jo_12, ↓jo_2, ↓jo_21, ↓jo_22, ↓jo_29, ↓jo_31i, ↓jo_41, ↓jo_9]
    refine (c_floor ha hb).go ?_
    simp -implicitDefEqProofs only [Nat.reduceAdd, Nat.reduceMul, Nat.reduceEqDiff, Nat.reduceBEq, Nat.reduceLT, Nat.reduceLeDiff, Int.reduceToNat, Int.reduceLE, Int.reduceLT, Int.reduceNeg, Int.reduceAdd, Int.reduceMul, Bool.or_false, Bool.or_true, Bool.true_or, Bool.false_or, jwq_s, jwp_sn, jwp_sc, jwp_0, jsum, jwx_s, ↓jol_c, ↓jo1_c, ↓jo2_c, ↓jo3_c, Bool.false_eq_true, beq_iff_eq, jst, jins_c, jins_n, jdrop_c, jdrop_n, jargs, jtg, jtag, jcnd, true_and, and_true, false_or, or_false, true_or, or_true, forall_const, ↓reduceIte, Option.toList, List.cons_append, List.nil_append, false_and, and_false, reduceCtorEq, false_imp_iff, forall_eq, true_imp_iff, joc_c, List.drop_succ_cons, List.drop_zero, List.take_succ_cons, List.take_zero, List.reverse_cons, List.reverse_nil, List.length_cons, List.length_nil, fX12_compares_0, fX12_compares_1, fX12_compares_3, fX12_compares_4, fX12_compares_6, fX12_compares_8, fX12_compares_10, fX12_compares_12, fX12_compares_14, fX12_compares_15, fX12_compares_17, fX12_compares_19, fX12_compares_21, fX12_compares_24, fX12_compares_26, fX12_compares_28, fX12_compares_30, fX12_compares_33, fX12_compares_35, fX12_compares_37, fX12_compares_39, fX12_compares_43, fX12_compares_45, fX12_compares_47, fX12_compares_51, fX12_compares_53, fX12_compares_54, fX12_compares_57, fX12_compares_59, fX12_compares_60, fX12_compares_62, fX12_compares_64, fX12_compares_66, fX12_compares_67, fX12_compares_68, fX12_compares_70, fX12_compares_72, fX12_compares_74, fX12_compares_76, fX12_compares_77, fX12_compares_78, fX12_compares_80, fX12_compares_82, fX12_compares_83, fX12_compares_87, fX12_compares_89, fX12_compares_90, fX12_compares_94, fX12_compares_96, fX12_compares_98, fX12_compares_102, fX12_compares_103, fX12_compares_106, fX12_compares_108, fX12_compares_109, fX12_compares_113, fX12_compares_115, fX12_compares_116, fX12_compares_119, fX12_compares_121, fX12_compares_122, fX12_compares_124, fX12_compares_126, fX12_compares_128, fX12_compares_130, fX12_compares_132, fX12_compares_134, fX12_compares_136, fX12_compares_138, fX12_compares_140, fX12_compares_141, fX12_compares_143, jtm_193, ↓jo_0, ↓jo_1, ↓jo_11, ↓jo_12, ↓jo_2, ↓jo_21, ↓jo_22, ↓jo_29, ↓jo_31i, ↓jo_41, ↓jo_9]
    refine (c_floor hc hd).go ?_
    have f1 := Int.ediv_mul_le a (b := b) (by omega)
    have f2 := Int.lt_ediv_add_one_mul_self a hb.1
    have f3 := Int.ediv_mul_le c (b := d) (by omega)
    have f4 := Int.lt_ediv_add_one_mul_self c hd.1
    rw [Int.add_mul, Int.one_mul] at f2 f4
    have g1 := Int.natAbs_ediv_le_natAbs a b
    have g2 := Int.natAbs_ediv_le_natAbs c d
    simp -implicitDefEqProofs only [Nat.reduceAdd, Nat.reduceMul, Nat.reduceEqDiff, Nat.reduceBEq, Nat.reduceLT, Nat.reduceLeDiff, Int.reduceToNat, Int.reduceLE, Int.reduceLT, Int.reduceNeg, Int.reduceAdd, Int.reduceMul, Bool.or_false, Bool.or_true, Bool.true_or, Bool.false_or, jwq_s, jwp_sn, jwp_sc, jwp_0, jsum, jwx_s, ↓jol_c, ↓jo1_c, ↓jo2_c, ↓jo3_c, Bool.false_eq_true, beq_iff_eq, jst, jins_c, jins_n, jdrop_c, jdrop_n, jargs, jtg, jtag, jcnd, true_and, and_true, false_or, or_false, true_or, or_true, forall_const, ↓reduceIte, Option.toList, List.cons_append, List.nil_append, false_and, and_false, reduceCtorEq, false_imp_iff, forall_eq, true_imp_iff, joc_c, List.drop_succ_cons, List.drop_zero, List.take_succ_cons, List.take_zero, List.reverse_cons, List.reverse_nil, List.length_cons, List.length_nil, fX12_compares_0, fX12_compares_1, fX12_compares_3, fX12_compares_4, fX12_compares_6, fX12_compares_8, fX12_compares_10, fX12_compares_12, fX12_compares_14, fX12_compares_15, fX12_compares_17, fX12_compares_19, fX12_compares_21, fX12_compares_24, fX12_compares_26, fX12_compares_28, fX12_compares_30, fX12_compares_33, fX12_compares_35, fX12_compares_37, fX12_compares_39, fX12_compares_43, fX12_compares_45, fX12_compares_47, fX12_compares_51, fX12_compares_53, fX12_compares_54, fX12_compares_57, fX12_compares_59, fX12_compares_60, fX12_compares_62, fX12_compares_64, fX12_compares_66, fX12_compares_67, fX12_compares_68, fX12_compares_70, fX12_compares_72, fX12_compares_74, fX12_compares_76, fX12_compares_77, fX12_compares_78, fX12_compares_80, fX12_compares_82, fX12_compares_83, fX12_compares_87, fX12_compares_89, fX12_compares_90, fX12_compares_94, fX12_compares_96, fX12_compares_98, fX12_compares_102, fX12_compares_103, fX12_compares_106, fX12_compares_108, fX12_compares_109, fX12_compares_113, fX12_compares_115, fX12_compares_116, fX12_compares_119, fX12_compares_121, fX12_compares_122, fX12_compares_124, fX12_compares_126, fX12_compares_128, fX12_compares_130, fX12_compares_132, fX12_compares_134, fX12_compares_136, fX12_compares_138, fX12_compares_140, fX12_compares_141, fX12_compares_143, jtm_193, ↓jo_0, ↓jo_1, ↓jo_11, ↓jo_12, ↓jo_2, ↓jo_21, ↓jo_22, ↓jo_29, ↓jo_31i, ↓jo_41, ↓jo_9]
    have key : a / b = c / d → a * d - c * b = (a - a / b * b) * d - (c - c / d * d) * b := cmp_step
    have hlt : a / b < c / d → a * d - c * b < 0 := cmp_lt hb.1 hd.1
    have hgt : c / d < a / b → c * b - a * d < 0 := cmp_lt hd.1 hb.1
    generalize hx : a - a / b * b = x at key ⊢
    generalize hy : c - c / d * d = y at key ⊢
    have hP0 : a / b = c / d → x = y → x = 0 → P (some (0, 0)) M := by
      intro h h1 h2
      have e := key h
      have : (a * d - c * b).sign = 0 := by rw [e, ← h1, h2]; simp
      rw [this, Int.mul_zero] at hP
      exact hP
    have hPn : a * d - c * b < 0 → P (some (0, -s)) M := by
      intro h
      rw [sgn_neg h, Int.mul_neg, Int.mul_one] at hP
      exact hP
    have hPp : 0 < a * d - c * b → P (some (0, s)) M := by
      intro h
      rw [sgn_pos h, Int.mul_one] at hP
      exact hP
    have hx0 : 0 ≤ x ∧ x < b := ⟨by omega, by omega⟩
    have hy0 : 0 ≤ y ∧ y < d := ⟨by omega, by omega⟩
    have jx : jI64 x := ⟨by omega, by omega⟩
    have jy : jI64 y := ⟨by omega, by omega⟩
    refine ⟨⟨by omega, by omega⟩, ⟨by omega, by omega⟩, fun h => ⟨jx, jI64_0, fun h1 => ⟨jx, jy, fun h2 => ⟨jx, jI64_0, fun h3 => absurd h1 h3, fun _ => ?_⟩, fun h2 => hP0 h (by omega) h1⟩, fun h1 => ⟨jy, jI64_0, fun h2 => ?_, fun h2 => ⟨jx, jy, fun h3 => ⟨jx, jI64_0, fun _ => ?_, fun h4 => absurd (by omega) h1⟩, fun h3 => absurd (by omega) h1⟩⟩⟩, fun h => ⟨⟨by omega, by omega⟩, ⟨by omega, by omega⟩, fun h1 => hPp (by have := hgt (by omega); omega), fun h1 => hPn (hlt (by omega))⟩⟩
    · refine hPn ?_
      rw [key h, h1, Int.zero_mul, Int.zero_sub]
      have : 0 < y * b := Int.mul_pos (by omega) hb.1
      omega
    · refine (ih b x d y (-s) (by omega) ⟨by omega, by omega⟩ ⟨by omega, by omega⟩ ⟨by omega, by omega⟩ ⟨by omega, by omega⟩ (by omega) ?_).sub (by simp)
      have e : -s * (b * y - d * x).sign = s * (a * d - c * b).sign := by
        rw [key h, show x * d - y * b = -(b * y - d * x) by grind, Int.sign_neg]
        grind
      rw [e]
      exact hP
    · refine hPp ?_
      have hy1 : y = 0 := by omega
      rw [key h, hy1, Int.zero_mul, Int.sub_zero]
      exact Int.mul_pos (by omega) hd.1
set_option maxHeartbeats 4000000 in
set_option maxRecDepth 100000 in
theorem c_compares {G : jG} {M : jM} {a b c d : Int} (ha : -4611686018427387904 ≤ a ∧ a ≤ 4611686018427387904) (hb : 0 < b ∧ b ≤ 4611686018427387904) (hc : -4611686018427387904 ≤ c ∧ c ≤ 4611686018427387904) (hd : 0 < d ∧ d ≤ 4611686018427387904) : jC G mX12_compares 0 0 M [(1, a), (1, b), (1, c), (1, d)] (jP (some (0, (a * d - c * b).sign)) M) := by
  refine jCw kX12_compares jn_X12 (fun pc => pc == 17) 20 (Nat.le_of_ble_eq_true rfl) ?_
  simp -implicitDefEqProofs only [Nat.reduceAdd, Nat.reduceMul, Nat.reduceEqDiff, Nat.reduceBEq, Nat.reduceLT, Nat.reduceLeDiff, Int.reduceToNat, Int.reduceLE, Int.reduceLT, Int.reduceNeg, Int.reduceAdd, Int.reduceMul, Bool.or_false, Bool.or_true, Bool.true_or, Bool.false_or, jwq_s, jwp_sn, jwp_sc, jwp_0, jsum, jwx_s, ↓jol_c, ↓jo1_c, ↓jo2_c, ↓jo3_c, Bool.false_eq_true, beq_iff_eq, jst, jins_c, jins_n, jdrop_c, jdrop_n, jargs, jtg, jtag, jcnd, true_and, and_true, false_or, or_false, true_or, or_true, forall_const, ↓reduceIte, Option.toList, List.cons_append, List.nil_append, false_and, and_false, reduceCtorEq, false_imp_iff, forall_eq, true_imp_iff, joc_c, List.drop_succ_cons, List.drop_zero, List.take_succ_cons, List.take_zero, List.reverse_cons, List.reverse_nil, List.length_cons, List.length_nil, fX12_compares_0, fX12_compares_1, fX12_compares_3, fX12_compares_4, fX12_compares_6, fX12_compares_8, fX12_compares_10, fX12_compares_12, fX12_compares_14, fX12_compares_15, fX12_compares_17, fX12_compares_19, fX12_compares_21, fX12_compares_24, fX12_compares_26, fX12_compares_28, fX12_compares_30, fX12_compares_33, fX12_compares_35, fX12_compares_37, fX12_compares_39, fX12_compares_43, fX12_compares_45, fX12_compares_47, fX12_compares_51, fX12_compares_53, fX12_compares_54, fX12_compares_57, fX12_compares_59, fX12_compares_60, fX12_compares_62, fX12_compares_64, fX12_compares_66, fX12_compares_67, fX12_compares_68, fX12_compares_70, fX12_compares_72, fX12_compares_74, fX12_compares_76, fX12_compares_77, fX12_compares_78, fX12_compares_80, fX12_compares_82, fX12_compares_83, fX12_compares_87, fX12_compares_89, fX12_compares_90, fX12_compares_94, fX12_compares_96, fX12_compares_98, fX12_compares_102, fX12_compares_103, fX12_compares_106, fX12_compares_108, fX12_compares_109, fX12_compares_113, fX12_compares_115, fX12_compares_116, fX12_compares_119, fX12_compares_121, fX12_compares_122, fX12_compares_124, fX12_compares_126, fX12_compares_128, fX12_compares_130, fX12_compares_132, fX12_compares_134, fX12_compares_136, fX12_compares_138, fX12_compares_140, fX12_compares_141, fX12_compares_143, jtm_193, ↓jo_0, ↓jo_1, ↓jo_11, ↓jo_12, ↓jo_2, ↓jo_21, ↓jo_22, ↓jo_29, ↓jo_31i, ↓jo_41, ↓jo_9]
  refine l_compares b.toNat a b c d 1 (Nat.le_refl _) ha hb hc hd (Or.inl rfl) ?_
  rw [Int.one_mul]
  exact jP_i _ _
/-! isBeyond, common -/
set_option maxHeartbeats 4000000 in
set_option maxRecDepth 100000 in
theorem c_isBeyond {G : jG} {M : jM} {a b : Int} (ha : jI64 a) (hb : jI64 b) : jC G mX12_isBeyond 0 0 M [(1, a), (1, b)] (jP (some (0, if 3000000 < a ∨ a < -3000000 ∨ 3000 < b then 1 else 0)) M) := by
  refine jCw kX12_isBeyond jn_X12 (fun pc => false) 30 (Nat.le_of_ble_eq_true rfl) ?_
  simp -implicitDefEqProofs only [Nat.reduceAdd, Nat.reduceMul, Nat.reduceEqDiff, Nat.reduceBEq, Nat.reduceLT, Nat.reduceLeDiff, Int.reduceToNat, Int.reduceLE, Int.reduceLT, Int.reduceNeg, Int.reduceAdd, Int.reduceMul, Bool.or_false, Bool.or_true, Bool.true_or, Bool.false_or, jwq_s, jwp_sn, jwp_sc, jwp_0, jsum, jwx_s, ↓jol_c, ↓jo1_c, ↓jo2_c, ↓jo3_c, Bool.false_eq_true, beq_iff_eq, jst, jins_c, jins_n, jdrop_c, jdrop_n, jargs, jtg, jtag, jcnd, true_and, and_true, false_or, or_false, true_or, or_true, forall_const, ↓reduceIte, Option.toList, List.cons_append, List.nil_append, false_and, and_false, reduceCtorEq, false_imp_iff, forall_eq, true_imp_iff, joc_c, List.drop_succ_cons, List.drop_zero, List.take_succ_cons, List.take_zero, List.reverse_cons, List.reverse_nil, List.length_cons, List.length_nil, fX12_isBeyond_0, fX12_isBeyond_1, fX12_isBeyond_4, fX12_isBeyond_8, fX12_isBeyond_9, fX12_isBeyond_12, fX12_isBeyond_16, fX12_isBeyond_17, fX12_isBeyond_20, fX12_isBeyond_24, fX12_isBeyond_25, fX12_isBeyond_28, fX12_isBeyond_29, ↓jo_0, ↓jo_1, ↓jo_21, ↓jo_22, ↓jo_31z, ↓jo_41]
  repeat' (first | with_reducible (refine And.intro ?_ ?_) | with_reducible (intro _))
  all_goals first | assumption | exact ⟨by decide, by decide⟩ | (rw [if_pos (by omega)]; exact jP_i _ _) | (rw [if_neg (by omega)]; exact jP_i _ _)

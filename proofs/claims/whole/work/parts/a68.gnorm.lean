/-! Normals over any memory: set, clear, the constructor. -/
/-- cells of normals at w -/
def nC (n : Nat) (L : Nat → jK) (S : jS) (w : Nat) : Prop := w + 3 < n ∧ L w = (0, 4, 0, jno) ∧ L (w + 1) = (1, 0, 24, jno) ∧ L (w + 2) = (1, 0, 24, jno) ∧ L (w + 3) = (1, 0, 24, jno) ∧ S w 0 = ((w + 1 : Nat) : Int) ∧ S w 1 = ((w + 2 : Nat) : Int) ∧ S w 2 = ((w + 3 : Nat) : Int)
section
variable {G : jG} {n' n w : Nat} {L : Nat → jK} {S : jS} {P : Option jV → jM → Prop}
set_option maxRecDepth 100000 in
theorem g_nset {k : Nat} {x y v : Int} (hn : nC n L S w) (hk : k < 24) : jC G mX4_set 0 0 (n', n, L, S) [(2, (w : Int)), (0, (k : Int)), (0, x), (0, y), (0, v)] (jP none (n', n, L, nst S w k x y v)) := by
  have k24 : (k : Int) < ((24 : Nat) : Int) := by omega
  obtain ⟨n0, l0, l1, l2, l3, s0, s1, s2⟩ := hn
  have m0 : w < n := by omega
  have m1 : w + 1 < n := by omega
  have m2 : w + 2 < n := by omega
  have m3 : w + 3 < n := by omega
  refine jCw kX4_set jn_X4 (fun pc => false) 60 (Nat.le_of_ble_eq_true rfl) ?_
  simp -implicitDefEqProofs only [Nat.reduceAdd, Nat.reduceMul, Nat.reduceEqDiff, Nat.reduceBEq, Nat.reduceLT, Nat.reduceLeDiff, Int.reduceToNat, Int.reduceLE, Int.reduceLT, Int.reduceNeg, Int.reduceAdd, Int.reduceMul, Bool.or_false, Bool.or_true, Bool.true_or, Bool.false_or, jwq_s, jwp_sn, jwp_sc, jwp_0, jsum, jwx_s, ↓jol_c, ↓jo1_c, ↓jo2_c, ↓jo3_c, Bool.false_eq_true, beq_iff_eq, jst, jins_c, jins_n, jdrop_c, jdrop_n, jargs, jtg, jtag, jcnd, true_and, and_true, false_or, or_false, true_or, or_true, forall_const, ↓reduceIte, Option.toList, List.cons_append, List.nil_append, false_and, and_false, reduceCtorEq, false_imp_iff, forall_eq, true_imp_iff, joc_c, List.drop_succ_cons, List.drop_zero, List.take_succ_cons, List.take_zero, List.reverse_cons, List.reverse_nil, List.length_cons, List.length_nil, Int.reduceEq, not_true_eq_false, not_false_eq_true, Int.toNat_natCast, Int.natCast_nonneg, ne21, ne01, xwx_s, xwp_sn, xwp_sc, xwp_0, xoi_c, joc_c, zcs, jnw_e, jset_e, jobj_e, jarr_e, jno_e, jfd_e, zl1, zl2, zl3, zl4, Nat.add_assoc, if_true, if_false, jL32_0, jL32_1, jL32_2, jL32_3, jL32_4, jL32_5, jL32_6, jL32_7, jL32_8, jL32_9, jL32_10, jL32_11, jL32_12, jL32_13, jL32_14, jL32_15, jL32_16, jL32_17, jL32_18, jL32_19, jL32_20, jL32_21, jL32_22, jL32_23, jL32_24, jL32_25, jL32_26, jL32_27, jL32_28, jL32_29, jL32_30, jL32_31, jL32_32, jL32_33, jL32_34, jL32_35, jL32_36, jL32_37, jL32_38, jL32_39, jL32_57, jL32_60, jL32_97, jL32_122, jL32_255, jLm32_1, jLm32_2, jLm32_3, jLm32_1000, jL64_0, jL64_1, zne_10, zne_00, zne_01, zne_11, false_imp_iff, true_imp_iff, fX4_set_0, fX4_set_1, fX4_set_4, fX4_set_5, fX4_set_6, fX4_set_7, fX4_set_8, fX4_set_11, fX4_set_12, fX4_set_13, fX4_set_14, fX4_set_15, fX4_set_18, fX4_set_19, fX4_set_21, fX4_set_22, fX4_set_23, fX4_set_24, fX4_set_27, fX4_set_28, fX4_set_29, fX4_set_32, ↓jo_0, ↓jo_1, ↓jo_23, ↓jo_24, ↓jo_26, ↓jo_31v, ↓jo_32, ↓jo_4, ju_at, k24, l0, l1, l2, l3, s0, s1, s2, m0, m1, m2, m3]
  refine ⟨rfl, ?_⟩
  unfold nst
  simp [ju_at]
theorem nC_fr {S' : jS} (h : nC n L S w) (f : fr4 w S S') : nC n L S' w := by
  obtain ⟨n0, l0, l1, l2, l3, s0, s1, s2⟩ := h
  exact ⟨n0, l0, l1, l2, l3, by rw [f w 0 (by omega) (by omega) (by omega) (by omega)]; exact s0, by rw [f w 1 (by omega) (by omega) (by omega) (by omega)]; exact s1, by rw [f w 2 (by omega) (by omega) (by omega) (by omega)]; exact s2⟩
def naR (k : Nat) : Int := if k = 0 then 1 else if k = 1 then -1 else 0
def nbR (k : Nat) : Int := if k = 2 then 1 else if k = 3 then -1 else 0
/-- what clear leaves -/
def ncl (w : Nat) (S S' : jS) : Prop := (∀ r, (r < w ∨ w + 3 < r) → S' r = S r) ∧ (S' w = fun k => if k = 3 then 4 else S w k) ∧ (S' (w + 1) = fun k => if k < 4 then naR k else S (w + 1) k) ∧ (S' (w + 2) = fun k => if k < 4 then nbR k else S (w + 2) k) ∧ (S' (w + 3) = fun k => if k < 4 then (af0 k : Int) else S (w + 3) k)
set_option maxHeartbeats 1000000 in
set_option maxRecDepth 100000 in
theorem g_nclear (hn : nC n L S w) (out : ∀ S', ncl w S S' → P none (n', n, L, S')) : jC G mX4_clear 0 0 (n', n, L, S) [(2, (w : Int))] P := by
  have m0 : w < n := by have := hn.1; omega
  have l0 := hn.2.1
  refine jCw kX4_clear jn_X4 (fun pc => false) 60 (Nat.le_of_ble_eq_true rfl) ?_
  simp -implicitDefEqProofs only [Nat.reduceAdd, Nat.reduceMul, Nat.reduceEqDiff, Nat.reduceBEq, Nat.reduceLT, Nat.reduceLeDiff, Int.reduceToNat, Int.reduceLE, Int.reduceLT, Int.reduceNeg, Int.reduceAdd, Int.reduceMul, Bool.or_false, Bool.or_true, Bool.true_or, Bool.false_or, jwq_s, jwp_sn, jwp_sc, jwp_0, jsum, jwx_s, ↓jol_c, ↓jo1_c, ↓jo2_c, ↓jo3_c, Bool.false_eq_true, beq_iff_eq, jst, jins_c, jins_n, jdrop_c, jdrop_n, jargs, jtg, jtag, jcnd, true_and, and_true, false_or, or_false, true_or, or_true, forall_const, ↓reduceIte, Option.toList, List.cons_append, List.nil_append, false_and, and_false, reduceCtorEq, false_imp_iff, forall_eq, true_imp_iff, joc_c, List.drop_succ_cons, List.drop_zero, List.take_succ_cons, List.take_zero, List.reverse_cons, List.reverse_nil, List.length_cons, List.length_nil, Int.reduceEq, not_true_eq_false, not_false_eq_true, Int.toNat_natCast, Int.natCast_nonneg, ne21, ne01, xwx_s, xwp_sn, xwp_sc, xwp_0, xoi_c, joc_c, zcs, jnw_e, jset_e, jobj_e, jarr_e, jno_e, jfd_e, zl1, zl2, zl3, zl4, Nat.add_assoc, if_true, if_false, jL32_0, jL32_1, jL32_2, jL32_3, jL32_4, jL32_5, jL32_6, jL32_7, jL32_8, jL32_9, jL32_10, jL32_11, jL32_12, jL32_13, jL32_14, jL32_15, jL32_16, jL32_17, jL32_18, jL32_19, jL32_20, jL32_21, jL32_22, jL32_23, jL32_24, jL32_25, jL32_26, jL32_27, jL32_28, jL32_29, jL32_30, jL32_31, jL32_32, jL32_33, jL32_34, jL32_35, jL32_36, jL32_37, jL32_38, jL32_39, jL32_57, jL32_60, jL32_97, jL32_122, jL32_255, jLm32_1, jLm32_2, jLm32_3, jLm32_1000, jL64_0, jL64_1, zne_10, zne_00, zne_01, zne_11, false_imp_iff, true_imp_iff, fX4_clear_0, fX4_clear_1, fX4_clear_2, fX4_clear_5, fX4_clear_6, fX4_clear_7, fX4_clear_8, fX4_clear_9, fX4_clear_10, fX4_clear_13, fX4_clear_14, fX4_clear_15, fX4_clear_16, fX4_clear_17, fX4_clear_18, fX4_clear_21, fX4_clear_22, fX4_clear_23, fX4_clear_24, fX4_clear_25, fX4_clear_26, fX4_clear_29, fX4_clear_30, fX4_clear_31, fX4_clear_32, fX4_clear_33, fX4_clear_34, fX4_clear_37, jtm_4, ↓jo_0, ↓jo_1, ↓jo_24, ↓jo_28, ↓jo_31v, l0, m0]
  have z0 : fr4 w S (ju S w 3 0) := fun r j h1 h2 h3 h4 => by rw [ju_at, if_neg (by omega)]
  have z3 : ju S w 3 0 w 3 = 0 := by simp [ju_at]
  have za : ∀ i k, i ≠ 0 → ju S w 3 0 (w + i) k = S (w + i) k := fun i k hi => by rw [ju_at, if_neg (by omega)]
  generalize ju S w 3 0 = S0 at *
  have hn0 := nC_fr hn z0
  refine (g_nset (k := 0) hn0 (by omega)).go ?_
  simp -implicitDefEqProofs only [Nat.reduceAdd, Nat.reduceMul, Nat.reduceEqDiff, Nat.reduceBEq, Nat.reduceLT, Nat.reduceLeDiff, Int.reduceToNat, Int.reduceLE, Int.reduceLT, Int.reduceNeg, Int.reduceAdd, Int.reduceMul, Bool.or_false, Bool.or_true, Bool.true_or, Bool.false_or, jwq_s, jwp_sn, jwp_sc, jwp_0, jsum, jwx_s, ↓jol_c, ↓jo1_c, ↓jo2_c, ↓jo3_c, Bool.false_eq_true, beq_iff_eq, jst, jins_c, jins_n, jdrop_c, jdrop_n, jargs, jtg, jtag, jcnd, true_and, and_true, false_or, or_false, true_or, or_true, forall_const, ↓reduceIte, Option.toList, List.cons_append, List.nil_append, false_and, and_false, reduceCtorEq, false_imp_iff, forall_eq, true_imp_iff, joc_c, List.drop_succ_cons, List.drop_zero, List.take_succ_cons, List.take_zero, List.reverse_cons, List.reverse_nil, List.length_cons, List.length_nil, Int.reduceEq, not_true_eq_false, not_false_eq_true, Int.toNat_natCast, Int.natCast_nonneg, ne21, ne01, xwx_s, xwp_sn, xwp_sc, xwp_0, xoi_c, joc_c, zcs, jnw_e, jset_e, jobj_e, jarr_e, jno_e, jfd_e, zl1, zl2, zl3, zl4, Nat.add_assoc, if_true, if_false, jL32_0, jL32_1, jL32_2, jL32_3, jL32_4, jL32_5, jL32_6, jL32_7, jL32_8, jL32_9, jL32_10, jL32_11, jL32_12, jL32_13, jL32_14, jL32_15, jL32_16, jL32_17, jL32_18, jL32_19, jL32_20, jL32_21, jL32_22, jL32_23, jL32_24, jL32_25, jL32_26, jL32_27, jL32_28, jL32_29, jL32_30, jL32_31, jL32_32, jL32_33, jL32_34, jL32_35, jL32_36, jL32_37, jL32_38, jL32_39, jL32_57, jL32_60, jL32_97, jL32_122, jL32_255, jLm32_1, jLm32_2, jLm32_3, jLm32_1000, jL64_0, jL64_1, zne_10, zne_00, zne_01, zne_11, false_imp_iff, true_imp_iff, fX4_clear_0, fX4_clear_1, fX4_clear_2, fX4_clear_5, fX4_clear_6, fX4_clear_7, fX4_clear_8, fX4_clear_9, fX4_clear_10, fX4_clear_13, fX4_clear_14, fX4_clear_15, fX4_clear_16, fX4_clear_17, fX4_clear_18, fX4_clear_21, fX4_clear_22, fX4_clear_23, fX4_clear_24, fX4_clear_25, fX4_clear_26, fX4_clear_29, fX4_clear_30, fX4_clear_31, fX4_clear_32, fX4_clear_33, fX4_clear_34, fX4_clear_37, jtm_4, ↓jo_0, ↓jo_1, ↓jo_24, ↓jo_28, ↓jo_31v, l0, m0]
  obtain ⟨f1, n1, a1, b1, c1⟩ := nst_r (S := S0) (w := w) (k := 0) (x := 1) (y := 0) (v := 2)
  generalize nst S0 w 0 1 0 2 = S1 at *
  have hn1 := nC_fr hn0 f1
  refine (g_nset (k := 1) hn1 (by omega)).go ?_
  simp -implicitDefEqProofs only [Nat.reduceAdd, Nat.reduceMul, Nat.reduceEqDiff, Nat.reduceBEq, Nat.reduceLT, Nat.reduceLeDiff, Int.reduceToNat, Int.reduceLE, Int.reduceLT, Int.reduceNeg, Int.reduceAdd, Int.reduceMul, Bool.or_false, Bool.or_true, Bool.true_or, Bool.false_or, jwq_s, jwp_sn, jwp_sc, jwp_0, jsum, jwx_s, ↓jol_c, ↓jo1_c, ↓jo2_c, ↓jo3_c, Bool.false_eq_true, beq_iff_eq, jst, jins_c, jins_n, jdrop_c, jdrop_n, jargs, jtg, jtag, jcnd, true_and, and_true, false_or, or_false, true_or, or_true, forall_const, ↓reduceIte, Option.toList, List.cons_append, List.nil_append, false_and, and_false, reduceCtorEq, false_imp_iff, forall_eq, true_imp_iff, joc_c, List.drop_succ_cons, List.drop_zero, List.take_succ_cons, List.take_zero, List.reverse_cons, List.reverse_nil, List.length_cons, List.length_nil, Int.reduceEq, not_true_eq_false, not_false_eq_true, Int.toNat_natCast, Int.natCast_nonneg, ne21, ne01, xwx_s, xwp_sn, xwp_sc, xwp_0, xoi_c, joc_c, zcs, jnw_e, jset_e, jobj_e, jarr_e, jno_e, jfd_e, zl1, zl2, zl3, zl4, Nat.add_assoc, if_true, if_false, jL32_0, jL32_1, jL32_2, jL32_3, jL32_4, jL32_5, jL32_6, jL32_7, jL32_8, jL32_9, jL32_10, jL32_11, jL32_12, jL32_13, jL32_14, jL32_15, jL32_16, jL32_17, jL32_18, jL32_19, jL32_20, jL32_21, jL32_22, jL32_23, jL32_24, jL32_25, jL32_26, jL32_27, jL32_28, jL32_29, jL32_30, jL32_31, jL32_32, jL32_33, jL32_34, jL32_35, jL32_36, jL32_37, jL32_38, jL32_39, jL32_57, jL32_60, jL32_97, jL32_122, jL32_255, jLm32_1, jLm32_2, jLm32_3, jLm32_1000, jL64_0, jL64_1, zne_10, zne_00, zne_01, zne_11, false_imp_iff, true_imp_iff, fX4_clear_0, fX4_clear_1, fX4_clear_2, fX4_clear_5, fX4_clear_6, fX4_clear_7, fX4_clear_8, fX4_clear_9, fX4_clear_10, fX4_clear_13, fX4_clear_14, fX4_clear_15, fX4_clear_16, fX4_clear_17, fX4_clear_18, fX4_clear_21, fX4_clear_22, fX4_clear_23, fX4_clear_24, fX4_clear_25, fX4_clear_26, fX4_clear_29, fX4_clear_30, fX4_clear_31, fX4_clear_32, fX4_clear_33, fX4_clear_34, fX4_clear_37, jtm_4, ↓jo_0, ↓jo_1, ↓jo_24, ↓jo_28, ↓jo_31v, l0, m0]
  obtain ⟨f2, n2, a2, b2, c2⟩ := nst_r (S := S1) (w := w) (k := 1) (x := -1) (y := 0) (v := 3)
  generalize nst S1 w 1 (-1) 0 3 = S2 at *
  have hn2 := nC_fr hn1 f2
  refine (g_nset (k := 2) hn2 (by omega)).go ?_
  simp -implicitDefEqProofs only [Nat.reduceAdd, Nat.reduceMul, Nat.reduceEqDiff, Nat.reduceBEq, Nat.reduceLT, Nat.reduceLeDiff, Int.reduceToNat, Int.reduceLE, Int.reduceLT, Int.reduceNeg, Int.reduceAdd, Int.reduceMul, Bool.or_false, Bool.or_true, Bool.true_or, Bool.false_or, jwq_s, jwp_sn, jwp_sc, jwp_0, jsum, jwx_s, ↓jol_c, ↓jo1_c, ↓jo2_c, ↓jo3_c, Bool.false_eq_true, beq_iff_eq, jst, jins_c, jins_n, jdrop_c, jdrop_n, jargs, jtg, jtag, jcnd, true_and, and_true, false_or, or_false, true_or, or_true, forall_const, ↓reduceIte, Option.toList, List.cons_append, List.nil_append, false_and, and_false, reduceCtorEq, false_imp_iff, forall_eq, true_imp_iff, joc_c, List.drop_succ_cons, List.drop_zero, List.take_succ_cons, List.take_zero, List.reverse_cons, List.reverse_nil, List.length_cons, List.length_nil, Int.reduceEq, not_true_eq_false, not_false_eq_true, Int.toNat_natCast, Int.natCast_nonneg, ne21, ne01, xwx_s, xwp_sn, xwp_sc, xwp_0, xoi_c, joc_c, zcs, jnw_e, jset_e, jobj_e, jarr_e, jno_e, jfd_e, zl1, zl2, zl3, zl4, Nat.add_assoc, if_true, if_false, jL32_0, jL32_1, jL32_2, jL32_3, jL32_4, jL32_5, jL32_6, jL32_7, jL32_8, jL32_9, jL32_10, jL32_11, jL32_12, jL32_13, jL32_14, jL32_15, jL32_16, jL32_17, jL32_18, jL32_19, jL32_20, jL32_21, jL32_22, jL32_23, jL32_24, jL32_25, jL32_26, jL32_27, jL32_28, jL32_29, jL32_30, jL32_31, jL32_32, jL32_33, jL32_34, jL32_35, jL32_36, jL32_37, jL32_38, jL32_39, jL32_57, jL32_60, jL32_97, jL32_122, jL32_255, jLm32_1, jLm32_2, jLm32_3, jLm32_1000, jL64_0, jL64_1, zne_10, zne_00, zne_01, zne_11, false_imp_iff, true_imp_iff, fX4_clear_0, fX4_clear_1, fX4_clear_2, fX4_clear_5, fX4_clear_6, fX4_clear_7, fX4_clear_8, fX4_clear_9, fX4_clear_10, fX4_clear_13, fX4_clear_14, fX4_clear_15, fX4_clear_16, fX4_clear_17, fX4_clear_18, fX4_clear_21, fX4_clear_22, fX4_clear_23, fX4_clear_24, fX4_clear_25, fX4_clear_26, fX4_clear_29, fX4_clear_30, fX4_clear_31, fX4_clear_32, fX4_clear_33, fX4_clear_34, fX4_clear_37, jtm_4, ↓jo_0, ↓jo_1, ↓jo_24, ↓jo_28, ↓jo_31v, l0, m0]
  obtain ⟨f3, n3, a3, b3, c3⟩ := nst_r (S := S2) (w := w) (k := 2) (x := 0) (y := 1) (v := 1)
  generalize nst S2 w 2 0 1 1 = S3 at *
  have hn3 := nC_fr hn2 f3
  refine (g_nset (k := 3) hn3 (by omega)).go ?_
  simp -implicitDefEqProofs only [Nat.reduceAdd, Nat.reduceMul, Nat.reduceEqDiff, Nat.reduceBEq, Nat.reduceLT, Nat.reduceLeDiff, Int.reduceToNat, Int.reduceLE, Int.reduceLT, Int.reduceNeg, Int.reduceAdd, Int.reduceMul, Bool.or_false, Bool.or_true, Bool.true_or, Bool.false_or, jwq_s, jwp_sn, jwp_sc, jwp_0, jsum, jwx_s, ↓jol_c, ↓jo1_c, ↓jo2_c, ↓jo3_c, Bool.false_eq_true, beq_iff_eq, jst, jins_c, jins_n, jdrop_c, jdrop_n, jargs, jtg, jtag, jcnd, true_and, and_true, false_or, or_false, true_or, or_true, forall_const, ↓reduceIte, Option.toList, List.cons_append, List.nil_append, false_and, and_false, reduceCtorEq, false_imp_iff, forall_eq, true_imp_iff, joc_c, List.drop_succ_cons, List.drop_zero, List.take_succ_cons, List.take_zero, List.reverse_cons, List.reverse_nil, List.length_cons, List.length_nil, Int.reduceEq, not_true_eq_false, not_false_eq_true, Int.toNat_natCast, Int.natCast_nonneg, ne21, ne01, xwx_s, xwp_sn, xwp_sc, xwp_0, xoi_c, joc_c, zcs, jnw_e, jset_e, jobj_e, jarr_e, jno_e, jfd_e, zl1, zl2, zl3, zl4, Nat.add_assoc, if_true, if_false, jL32_0, jL32_1, jL32_2, jL32_3, jL32_4, jL32_5, jL32_6, jL32_7, jL32_8, jL32_9, jL32_10, jL32_11, jL32_12, jL32_13, jL32_14, jL32_15, jL32_16, jL32_17, jL32_18, jL32_19, jL32_20, jL32_21, jL32_22, jL32_23, jL32_24, jL32_25, jL32_26, jL32_27, jL32_28, jL32_29, jL32_30, jL32_31, jL32_32, jL32_33, jL32_34, jL32_35, jL32_36, jL32_37, jL32_38, jL32_39, jL32_57, jL32_60, jL32_97, jL32_122, jL32_255, jLm32_1, jLm32_2, jLm32_3, jLm32_1000, jL64_0, jL64_1, zne_10, zne_00, zne_01, zne_11, false_imp_iff, true_imp_iff, fX4_clear_0, fX4_clear_1, fX4_clear_2, fX4_clear_5, fX4_clear_6, fX4_clear_7, fX4_clear_8, fX4_clear_9, fX4_clear_10, fX4_clear_13, fX4_clear_14, fX4_clear_15, fX4_clear_16, fX4_clear_17, fX4_clear_18, fX4_clear_21, fX4_clear_22, fX4_clear_23, fX4_clear_24, fX4_clear_25, fX4_clear_26, fX4_clear_29, fX4_clear_30, fX4_clear_31, fX4_clear_32, fX4_clear_33, fX4_clear_34, fX4_clear_37, jtm_4, ↓jo_0, ↓jo_1, ↓jo_24, ↓jo_28, ↓jo_31v, l0, m0]
  obtain ⟨f4, n4, a4, b4, c4⟩ := nst_r (S := S3) (w := w) (k := 3) (x := 0) (y := -1) (v := 0)
  generalize nst S3 w 3 0 (-1) 0 = S4 at *
  have F : ∀ r j, (r ≠ w ∨ j ≠ 3) → r ≠ w + 1 → r ≠ w + 2 → r ≠ w + 3 → S4 r j = S r j := fun r j h1 h2 h3 h4 => by rw [f4 r j h1 h2 h3 h4, f3 r j h1 h2 h3 h4, f2 r j h1 h2 h3 h4, f1 r j h1 h2 h3 h4, z0 r j h1 h2 h3 h4]
  refine out S4 ⟨fun r hr => funext fun j => F r j (by omega) (by omega) (by omega) (by omega), funext fun k => ?_, funext fun k => ?_, funext fun k => ?_, funext fun k => ?_⟩
  · by_cases e : k = 3
    · subst e
      rw [if_pos rfl, n4, n3, n2, n1, z3]; rfl
    · rw [if_neg e]
      exact F w k (by omega) (by omega) (by omega) (by omega)
  · rw [a4, a3, a2, a1, za 1 k (by omega)]
    unfold naR
    repeat' split
    all_goals first | rfl | omega
  · rw [b4, b3, b2, b1, za 2 k (by omega)]
    unfold nbR
    repeat' split
    all_goals first | rfl | omega
  · rw [c4, c3, c2, c1, za 3 k (by omega)]
    unfold af0
    repeat' split
    all_goals first | rfl | omega
end
def dNrm (u : Nat) (j : Nat) : jK × (Nat → Int) := if j = 0 then ((0, 4, 0, jno), fun k => if k < 3 then ((u + 1 + k : Nat) : Int) else if k = 3 then 4 else 0) else ((1, 0, 24, jno), fun k => if k < 4 then (if j = 1 then naR k else if j = 2 then nbR k else (af0 k : Int)) else 0)
theorem nC_bk {u : Nat} {D : Nat → jK × (Nat → Int)} {L L' : Nat → jK} {S S' : jS} (h : bk u 4 D L S L' S') (d0 : ((D 0).1, (D 0).2 0, (D 0).2 1, (D 0).2 2) = ((0, 4, 0, jno), ((u + 1 : Nat) : Int), ((u + 2 : Nat) : Int), ((u + 3 : Nat) : Int))) (d1 : ((D 1).1, (D 2).1) = ((1, 0, 24, jno), (1, 0, 24, jno))) (d3 : (D 3).1 = (1, 0, 24, jno)) : nC (u + 4) L' S' u := by
  have y0 := h.2 0 (by omega)
  have y1 := h.2 1 (by omega)
  have y2 := h.2 2 (by omega)
  have y3 := h.2 3 (by omega)
  rw [Nat.add_zero] at y0
  injection d0 with e0 e1
  injection e1 with e1 e2
  injection e2 with e2 e3
  injection d1 with g1 g2
  exact ⟨by omega, y0.1.trans e0, y1.1.trans g1, y2.1.trans g2, y3.1.trans d3, by rw [y0.2]; exact e1, by rw [y0.2]; exact e2, by rw [y0.2]; exact e3⟩
theorem jdf_4 (k : Nat) : jdf 4 k = if k < 3 then -1 else 0 := by
  match k with
  | 0 => rfl
  | 1 => rfl
  | 2 => rfl
  | 3 => rfl
  | k + 4 => rw [if_neg (by omega)]; rfl
section
variable {G : jG} {u : Nat} {L : Nat → jK} {S : jS} {P : jM → Prop}
set_option maxHeartbeats 1000000 in
set_option maxRecDepth 100000 in
theorem i_normals (hL : L u = (0, 4, 0, jno)) (hS : S u = jdf 4) (out : ∀ L' S', bk u 4 (dNrm u) L S L' S' → P (u + 4, u + 4, L', S')) : iC G mX4_init 3 72 (u + 1, u + 1, L, S) [(2, (u : Int))] P := by
  refine iCw kX4_init jn_X4 rfl (fun pc => false) 40 (Nat.le_of_ble_eq_true rfl) ?_
  simp -implicitDefEqProofs only [Nat.reduceAdd, Nat.reduceMul, Nat.reduceEqDiff, Nat.reduceBEq, Nat.reduceLT, Nat.reduceLeDiff, Int.reduceToNat, Int.reduceLE, Int.reduceLT, Int.reduceNeg, Int.reduceAdd, Int.reduceMul, Bool.or_false, Bool.or_true, Bool.true_or, Bool.false_or, jwq_s, jwp_sn, jwp_sc, jwp_0, jsum, jwx_s, ↓jol_c, ↓jo1_c, ↓jo2_c, ↓jo3_c, Bool.false_eq_true, beq_iff_eq, jst, jins_c, jins_n, jdrop_c, jdrop_n, jargs, jtg, jtag, jcnd, true_and, and_true, false_or, or_false, true_or, or_true, forall_const, ↓reduceIte, Option.toList, List.cons_append, List.nil_append, false_and, and_false, reduceCtorEq, false_imp_iff, forall_eq, true_imp_iff, joc_c, List.drop_succ_cons, List.drop_zero, List.take_succ_cons, List.take_zero, List.reverse_cons, List.reverse_nil, List.length_cons, List.length_nil, Int.reduceEq, not_true_eq_false, not_false_eq_true, Int.toNat_natCast, Int.natCast_nonneg, ne21, ne01, xwx_s, xwp_sn, xwp_sc, xwp_0, xoi_c, joc_c, zcs, jnw_e, jset_e, jobj_e, jarr_e, jno_e, jfd_e, zl1, zl2, zl3, zl4, Nat.add_assoc, if_true, if_false, jL32_0, jL32_1, jL32_2, jL32_3, jL32_4, jL32_5, jL32_6, jL32_7, jL32_8, jL32_9, jL32_10, jL32_11, jL32_12, jL32_13, jL32_14, jL32_15, jL32_16, jL32_17, jL32_18, jL32_19, jL32_20, jL32_21, jL32_22, jL32_23, jL32_24, jL32_25, jL32_26, jL32_27, jL32_28, jL32_29, jL32_30, jL32_31, jL32_32, jL32_33, jL32_34, jL32_35, jL32_36, jL32_37, jL32_38, jL32_39, jL32_57, jL32_60, jL32_97, jL32_122, jL32_255, jLm32_1, jLm32_2, jLm32_3, jLm32_1000, jL64_0, jL64_1, zne_10, zne_00, zne_01, zne_11, false_imp_iff, true_imp_iff, fX4_init_0, fX4_init_1, fX4_init_4, fX4_init_5, fX4_init_7, fX4_init_9, fX4_init_12, fX4_init_13, fX4_init_15, fX4_init_17, fX4_init_20, fX4_init_21, fX4_init_23, fX4_init_25, fX4_init_28, fX4_init_29, fX4_init_32, jtm_3, ↓xo_0, ↓jo_0, ↓xo_1, ↓jo_1, ↓xo_31v, ↓xo_51, ↓xo_54, ↓xo_55, ↓xo_59, hL]
  have b1 := bk_set (e := u) (p := 0) (k := 0) (v := ((u + 1 : Nat) : Int)) (bk_new (e := u + 1) (kd := (1, 0, 24, jno)) (f := fun _ => 0) (bk_start hL hS) rfl) rfl
  have b2 := bk_set (e := u) (p := 0) (k := 1) (v := ((u + 2 : Nat) : Int)) (bk_new (e := u + 2) (kd := (1, 0, 24, jno)) (f := fun _ => 0) b1 rfl) rfl
  have b3 := bk_set (e := u) (p := 0) (k := 2) (v := ((u + 3 : Nat) : Int)) (bk_new (e := u + 3) (kd := (1, 0, 24, jno)) (f := fun _ => 0) b2 rfl) rfl
  refine g_nclear (n := u + 4) (nC_bk b3 rfl rfl rfl) fun S' hc => ?_
  simp -implicitDefEqProofs only [Nat.reduceAdd, Nat.reduceMul, Nat.reduceEqDiff, Nat.reduceBEq, Nat.reduceLT, Nat.reduceLeDiff, Int.reduceToNat, Int.reduceLE, Int.reduceLT, Int.reduceNeg, Int.reduceAdd, Int.reduceMul, Bool.or_false, Bool.or_true, Bool.true_or, Bool.false_or, jwq_s, jwp_sn, jwp_sc, jwp_0, jsum, jwx_s, ↓jol_c, ↓jo1_c, ↓jo2_c, ↓jo3_c, Bool.false_eq_true, beq_iff_eq, jst, jins_c, jins_n, jdrop_c, jdrop_n, jargs, jtg, jtag, jcnd, true_and, and_true, false_or, or_false, true_or, or_true, forall_const, ↓reduceIte, Option.toList, List.cons_append, List.nil_append, false_and, and_false, reduceCtorEq, false_imp_iff, forall_eq, true_imp_iff, joc_c, List.drop_succ_cons, List.drop_zero, List.take_succ_cons, List.take_zero, List.reverse_cons, List.reverse_nil, List.length_cons, List.length_nil, Int.reduceEq, not_true_eq_false, not_false_eq_true, Int.toNat_natCast, Int.natCast_nonneg, ne21, ne01, xwx_s, xwp_sn, xwp_sc, xwp_0, xoi_c, joc_c, zcs, jnw_e, jset_e, jobj_e, jarr_e, jno_e, jfd_e, zl1, zl2, zl3, zl4, Nat.add_assoc, if_true, if_false, jL32_0, jL32_1, jL32_2, jL32_3, jL32_4, jL32_5, jL32_6, jL32_7, jL32_8, jL32_9, jL32_10, jL32_11, jL32_12, jL32_13, jL32_14, jL32_15, jL32_16, jL32_17, jL32_18, jL32_19, jL32_20, jL32_21, jL32_22, jL32_23, jL32_24, jL32_25, jL32_26, jL32_27, jL32_28, jL32_29, jL32_30, jL32_31, jL32_32, jL32_33, jL32_34, jL32_35, jL32_36, jL32_37, jL32_38, jL32_39, jL32_57, jL32_60, jL32_97, jL32_122, jL32_255, jLm32_1, jLm32_2, jLm32_3, jLm32_1000, jL64_0, jL64_1, zne_10, zne_00, zne_01, zne_11, false_imp_iff, true_imp_iff, fX4_init_0, fX4_init_1, fX4_init_4, fX4_init_5, fX4_init_7, fX4_init_9, fX4_init_12, fX4_init_13, fX4_init_15, fX4_init_17, fX4_init_20, fX4_init_21, fX4_init_23, fX4_init_25, fX4_init_28, fX4_init_29, fX4_init_32, jtm_3, ↓xo_0, ↓jo_0, ↓xo_1, ↓jo_1, ↓xo_31v, ↓xo_51, ↓xo_54, ↓xo_55, ↓xo_59]
  refine out _ _ ⟨fun q hq => ⟨(b3.1 q hq).1, (hc.1 q (by omega)).trans (b3.1 q hq).2⟩, fun j hj => ?_⟩
  refine ⟨?_, ?_⟩
  · rw [(b3.2 j hj).1]
    rcases (show j = 0 ∨ j = 1 ∨ j = 2 ∨ j = 3 by omega) with e | e | e | e <;> subst e <;> rfl
  · obtain ⟨-, c0, c1, c2, c3⟩ := hc
    have y0 := (b3.2 0 (by omega)).2
    have y1 := (b3.2 1 (by omega)).2
    have y2 := (b3.2 2 (by omega)).2
    have y3 := (b3.2 3 (by omega)).2
    rw [Nat.add_zero] at y0
    rcases (show j = 0 ∨ j = 1 ∨ j = 2 ∨ j = 3 by omega) with e | e | e | e <;> subst e
    · refine c0.trans (funext fun k => ?_)
      have := jdf_4 k
      by_cases e : k = 3
      · subst e; rfl
      · refine (if_neg e).trans ((congrFun y0 k).trans ?_)
        simp [dNew, dSet, dNrm]
        rw [this]
        repeat' split
        all_goals omega
    · refine c1.trans (funext fun k => ?_)
      by_cases e : k < 4
      · refine (if_pos e).trans ?_
        simp [dNrm, e]
      · refine (if_neg e).trans ((congrFun y1 k).trans ?_)
        simp [dNew, dSet, dNrm, e]
    · refine c2.trans (funext fun k => ?_)
      by_cases e : k < 4
      · refine (if_pos e).trans ?_
        simp [dNrm, e]
      · refine (if_neg e).trans ((congrFun y2 k).trans ?_)
        simp [dNew, dSet, dNrm, e]
    · refine c3.trans (funext fun k => ?_)
      by_cases e : k < 4
      · refine (if_pos e).trans ?_
        simp [dNrm, e]
      · refine (if_neg e).trans ((congrFun y3 k).trans ?_)
        simp [dNew, dSet, dNrm, e]
end

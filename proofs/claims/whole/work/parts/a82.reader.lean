/-! Reader's constructor. -/
def tX7_init : List (List (Option jE)) := [[some (1, 1, 0, 0, 2, 0), some (54, 3, 3, 0, 0, 1239), none, none, some (1, 1, 0, 0, 2, 0), some (0, 2, 11, 0, 1, 0), none, some (51, 2, 0, 1, 0, 1081), none, some (55, 2, 11, 7, 0, 2049), none, none, some (0, 1, 0, 0, 0, 0), some (2, 1, 0, 1, 0, 0), some (0, 1, 0, 0, 0, 0), some (2, 1, 0, 2, 0, 0)], [some (1, 1, 0, 2, 0, 0), none, none, none, none, none, some (20, 3, 0, 3, 76, 0), none, none, some (1, 1, 0, 1, 0, 0), some (0, 2, 11, 0, 1, 0), none, some (20, 3, 0, 3, 76, 0), none, none, none], [none, none, none, none, none, some (2, 1, 0, 3, 0, 0), some (1, 1, 0, 3, 0, 0), some (0, 2, 32, 0, 1, 0), none, some (20, 3, 0, 1, 50, 0), none, none, some (3, 3, 1, 1, 0, 0), none, none, some (21, 3, 0, 0, 70, 0)], [none, none, some (1, 1, 0, 0, 2, 0), some (58, 2, 11, 7, 0, 2049), none, none, some (1, 1, 0, 1, 0, 0), some (1, 1, 0, 0, 2, 0), some (58, 2, 11, 7, 0, 2049), none, none, some (1, 1, 0, 1, 0, 0), some (25, 1, 0, 1, 0, 0), some (0, 2, 27, 0, 1, 0), none, some (6, 1, 0, 0, 0, 0)], [some (1, 1, 0, 3, 0, 0), some (4, 1, 0, 0, 0, 0), some (0, 2, 96, 0, 1, 0), none, some (5, 1, 0, 0, 0, 0), some (26, 1, 0, 1, 0, 0), some (3, 3, 1, 2, 0, 0), none, none, some (21, 3, 0, 0, 16, 0), none, none, some (31, 1, 0, 4, 0, 0)]]
def fX7_init : Nat → Option jE := jget tX7_init
theorem fX7_init_0 : fX7_init 0 = some (1, 1, 0, 0, 2, 0) := rfl
theorem fX7_init_1 : fX7_init 1 = some (54, 3, 3, 0, 0, 1239) := rfl
theorem fX7_init_4 : fX7_init 4 = some (1, 1, 0, 0, 2, 0) := rfl
theorem fX7_init_5 : fX7_init 5 = some (0, 2, 11, 0, 1, 0) := rfl
theorem fX7_init_7 : fX7_init 7 = some (51, 2, 0, 1, 0, 1081) := rfl
theorem fX7_init_9 : fX7_init 9 = some (55, 2, 11, 7, 0, 2049) := rfl
theorem fX7_init_12 : fX7_init 12 = some (0, 1, 0, 0, 0, 0) := rfl
theorem fX7_init_13 : fX7_init 13 = some (2, 1, 0, 1, 0, 0) := rfl
theorem fX7_init_14 : fX7_init 14 = some (0, 1, 0, 0, 0, 0) := rfl
theorem fX7_init_15 : fX7_init 15 = some (2, 1, 0, 2, 0, 0) := rfl
theorem fX7_init_16 : fX7_init 16 = some (1, 1, 0, 2, 0, 0) := rfl
theorem fX7_init_22 : fX7_init 22 = some (20, 3, 0, 3, 76, 0) := rfl
theorem fX7_init_25 : fX7_init 25 = some (1, 1, 0, 1, 0, 0) := rfl
theorem fX7_init_26 : fX7_init 26 = some (0, 2, 11, 0, 1, 0) := rfl
theorem fX7_init_28 : fX7_init 28 = some (20, 3, 0, 3, 76, 0) := rfl
theorem fX7_init_37 : fX7_init 37 = some (2, 1, 0, 3, 0, 0) := rfl
theorem fX7_init_38 : fX7_init 38 = some (1, 1, 0, 3, 0, 0) := rfl
theorem fX7_init_39 : fX7_init 39 = some (0, 2, 32, 0, 1, 0) := rfl
theorem fX7_init_41 : fX7_init 41 = some (20, 3, 0, 1, 50, 0) := rfl
theorem fX7_init_44 : fX7_init 44 = some (3, 3, 1, 1, 0, 0) := rfl
theorem fX7_init_47 : fX7_init 47 = some (21, 3, 0, 0, 70, 0) := rfl
theorem fX7_init_50 : fX7_init 50 = some (1, 1, 0, 0, 2, 0) := rfl
theorem fX7_init_51 : fX7_init 51 = some (58, 2, 11, 7, 0, 2049) := rfl
theorem fX7_init_54 : fX7_init 54 = some (1, 1, 0, 1, 0, 0) := rfl
theorem fX7_init_55 : fX7_init 55 = some (1, 1, 0, 0, 2, 0) := rfl
theorem fX7_init_56 : fX7_init 56 = some (58, 2, 11, 7, 0, 2049) := rfl
theorem fX7_init_59 : fX7_init 59 = some (1, 1, 0, 1, 0, 0) := rfl
theorem fX7_init_60 : fX7_init 60 = some (25, 1, 0, 1, 0, 0) := rfl
theorem fX7_init_61 : fX7_init 61 = some (0, 2, 27, 0, 1, 0) := rfl
theorem fX7_init_63 : fX7_init 63 = some (6, 1, 0, 0, 0, 0) := rfl
theorem fX7_init_64 : fX7_init 64 = some (1, 1, 0, 3, 0, 0) := rfl
theorem fX7_init_65 : fX7_init 65 = some (4, 1, 0, 0, 0, 0) := rfl
theorem fX7_init_66 : fX7_init 66 = some (0, 2, 96, 0, 1, 0) := rfl
theorem fX7_init_68 : fX7_init 68 = some (5, 1, 0, 0, 0, 0) := rfl
theorem fX7_init_69 : fX7_init 69 = some (26, 1, 0, 1, 0, 0) := rfl
theorem fX7_init_70 : fX7_init 70 = some (3, 3, 1, 2, 0, 0) := rfl
theorem fX7_init_73 : fX7_init 73 = some (21, 3, 0, 0, 16, 0) := rfl
theorem fX7_init_76 : fX7_init 76 = some (31, 1, 0, 4, 0, 0) := rfl
theorem kX7_init : xfok (iS mX7_init) false mX7_init fX7_init := xfok_of 7 (by decide) rfl (by decide +kernel)

theorem rd_of : sOf mX7_init 15 := Or.inl ⟨rfl, rfl⟩
section
variable {G : jG} {u : Nat} {L : Nat → jK} {S : jS} {P : jM → Prop}
theorem l_rdr (hL0 : L u = (0, 7, 0, jno)) (hL1 : L (u + 1) = (1, 0, 11, jno)) (out : ∀ S', (∀ q, q ≠ u + 1 → S' q = S q) → S' (u + 1) = LG → P (u + 2, u + 2, L, S')) (h0 : S u 0 = ((u + 1 : Nat) : Int)) :
    ∀ (d i : Nat), i + d = 48 → ∀ S1 : jS, (∀ q, q ≠ u + 1 → S1 q = S q) → S1 (u + 1) = (lgF i).2 →
    zJ G mX7_init 1 11 iP (zmQ G (fun r M' => r = none ∧ P M') 1 11) 1 11 16 [(0, 2, (u : Int)), (1, 0, ((lgF i).1 : Int)), (2, 0, (i : Int))] [] (u + 2, u + 2, L, S1) := by
  intro d
  induction d with
  | zero =>
    intro i hi S1 hq h1
    have e : i = 48 := by omega
    subst e
    refine iJw kX7_init (fun pc => pc == 17) 30 (Nat.le_refl _) (Nat.le_refl _) ?_
    simp -implicitDefEqProofs only [Nat.reduceAdd, Nat.reduceMul, Nat.reduceEqDiff, Nat.reduceBEq, Nat.reduceLT, Nat.reduceLeDiff, Int.reduceToNat, Int.reduceLE, Int.reduceLT, Int.reduceNeg, Int.reduceAdd, Int.reduceMul, Bool.or_false, Bool.or_true, Bool.true_or, Bool.false_or, jwq_s, jwp_sn, jwp_sc, jwp_0, jsum, jwx_s, ↓jol_c, ↓jo1_c, ↓jo2_c, ↓jo3_c, Bool.false_eq_true, beq_iff_eq, jst, jins_c, jins_n, jdrop_c, jdrop_n, jargs, jtg, jtag, jcnd, true_and, and_true, false_or, or_false, true_or, or_true, forall_const, ↓reduceIte, Option.toList, List.cons_append, List.nil_append, false_and, and_false, reduceCtorEq, false_imp_iff, forall_eq, true_imp_iff, joc_c, List.drop_succ_cons, List.drop_zero, List.take_succ_cons, List.take_zero, List.reverse_cons, List.reverse_nil, List.length_cons, List.length_nil, Int.reduceEq, not_true_eq_false, not_false_eq_true, Int.toNat_natCast, Int.natCast_nonneg, ne21, ne01, xwx_s, xwp_sn, xwp_sc, xwp_0, xoi_c, joc_c, zcs, jnw_e, jset_e, jobj_e, jarr_e, jno_e, jfd_e, zl1, zl2, zl3, zl4, Nat.add_assoc, if_true, if_false, jL32_0, jL32_1, jL32_2, jL32_3, jL32_4, jL32_5, jL32_6, jL32_7, jL32_8, jL32_9, jL32_10, jL32_11, jL32_12, jL32_13, jL32_14, jL32_15, jL32_16, jL32_17, jL32_18, jL32_19, jL32_20, jL32_21, jL32_22, jL32_23, jL32_24, jL32_25, jL32_26, jL32_27, jL32_28, jL32_29, jL32_30, jL32_31, jL32_32, jL32_33, jL32_34, jL32_35, jL32_36, jL32_37, jL32_38, jL32_39, jL32_57, jL32_60, jL32_97, jL32_122, jL32_255, jLm32_1, jLm32_2, jLm32_3, jLm32_1000, jL64_0, jL64_1, zne_10, zne_00, zne_01, zne_11, false_imp_iff, true_imp_iff, fX7_init_0, fX7_init_1, fX7_init_4, fX7_init_5, fX7_init_7, fX7_init_9, fX7_init_12, fX7_init_13, fX7_init_14, fX7_init_15, fX7_init_16, fX7_init_22, fX7_init_25, fX7_init_26, fX7_init_28, fX7_init_37, fX7_init_38, fX7_init_39, fX7_init_41, fX7_init_44, fX7_init_47, fX7_init_50, fX7_init_51, fX7_init_54, fX7_init_55, fX7_init_56, fX7_init_59, fX7_init_60, fX7_init_61, fX7_init_63, fX7_init_64, fX7_init_65, fX7_init_66, fX7_init_68, fX7_init_69, fX7_init_70, fX7_init_73, fX7_init_76, ↓xo_0, ↓jo_0, ↓xo_1, ↓jo_1, ↓xo_2, ↓jo_2, ↓xo_3, ↓jo_3, ↓xo_4, ↓jo_4, ↓xo_5, ↓jo_5, ↓xo_6, ↓jo_6, ↓xo_20, ↓jo_20, ↓xo_21, ↓jo_21, ↓xo_25, ↓jo_25, ↓xo_26, ↓jo_26, ↓xo_31v, ↓xo_51, ↓xo_54, ↓xo_55, ↓xo_58]
    refine zq_len (k := 15) (index := 17) rd_of (by decide +kernel) (by decide +kernel) sk_6 ⟨by decide, by decide⟩ (Nat.le_of_ble_eq_true rfl) (Nat.le_refl _) (Nat.le_refl _) ?_
    refine iJw kX7_init (fun pc => false) 30 (Nat.le_refl _) (Nat.le_refl _) ?_
    simp -implicitDefEqProofs only [Nat.reduceAdd, Nat.reduceMul, Nat.reduceEqDiff, Nat.reduceBEq, Nat.reduceLT, Nat.reduceLeDiff, Int.reduceToNat, Int.reduceLE, Int.reduceLT, Int.reduceNeg, Int.reduceAdd, Int.reduceMul, Bool.or_false, Bool.or_true, Bool.true_or, Bool.false_or, jwq_s, jwp_sn, jwp_sc, jwp_0, jsum, jwx_s, ↓jol_c, ↓jo1_c, ↓jo2_c, ↓jo3_c, Bool.false_eq_true, beq_iff_eq, jst, jins_c, jins_n, jdrop_c, jdrop_n, jargs, jtg, jtag, jcnd, true_and, and_true, false_or, or_false, true_or, or_true, forall_const, ↓reduceIte, Option.toList, List.cons_append, List.nil_append, false_and, and_false, reduceCtorEq, false_imp_iff, forall_eq, true_imp_iff, joc_c, List.drop_succ_cons, List.drop_zero, List.take_succ_cons, List.take_zero, List.reverse_cons, List.reverse_nil, List.length_cons, List.length_nil, Int.reduceEq, not_true_eq_false, not_false_eq_true, Int.toNat_natCast, Int.natCast_nonneg, ne21, ne01, xwx_s, xwp_sn, xwp_sc, xwp_0, xoi_c, joc_c, zcs, jnw_e, jset_e, jobj_e, jarr_e, jno_e, jfd_e, zl1, zl2, zl3, zl4, Nat.add_assoc, if_true, if_false, jL32_0, jL32_1, jL32_2, jL32_3, jL32_4, jL32_5, jL32_6, jL32_7, jL32_8, jL32_9, jL32_10, jL32_11, jL32_12, jL32_13, jL32_14, jL32_15, jL32_16, jL32_17, jL32_18, jL32_19, jL32_20, jL32_21, jL32_22, jL32_23, jL32_24, jL32_25, jL32_26, jL32_27, jL32_28, jL32_29, jL32_30, jL32_31, jL32_32, jL32_33, jL32_34, jL32_35, jL32_36, jL32_37, jL32_38, jL32_39, jL32_57, jL32_60, jL32_97, jL32_122, jL32_255, jLm32_1, jLm32_2, jLm32_3, jLm32_1000, jL64_0, jL64_1, zne_10, zne_00, zne_01, zne_11, false_imp_iff, true_imp_iff, fX7_init_0, fX7_init_1, fX7_init_4, fX7_init_5, fX7_init_7, fX7_init_9, fX7_init_12, fX7_init_13, fX7_init_14, fX7_init_15, fX7_init_16, fX7_init_22, fX7_init_25, fX7_init_26, fX7_init_28, fX7_init_37, fX7_init_38, fX7_init_39, fX7_init_41, fX7_init_44, fX7_init_47, fX7_init_50, fX7_init_51, fX7_init_54, fX7_init_55, fX7_init_56, fX7_init_59, fX7_init_60, fX7_init_61, fX7_init_63, fX7_init_64, fX7_init_65, fX7_init_66, fX7_init_68, fX7_init_69, fX7_init_70, fX7_init_73, fX7_init_76, ↓xo_0, ↓jo_0, ↓xo_1, ↓jo_1, ↓xo_2, ↓jo_2, ↓xo_3, ↓jo_3, ↓xo_4, ↓jo_4, ↓xo_5, ↓jo_5, ↓xo_6, ↓jo_6, ↓xo_20, ↓jo_20, ↓xo_21, ↓jo_21, ↓xo_25, ↓jo_25, ↓xo_26, ↓jo_26, ↓xo_31v, ↓xo_51, ↓xo_54, ↓xo_55, ↓xo_58]
    refine ⟨⟨by decide, by decide⟩, ⟨by decide, by decide⟩, fun _ => out S1 hq (by rw [h1]; exact lgF_e.2), fun h => absurd (by decide) h⟩
  | succ d ih =>
    intro i hi S1 hq h1
    have bF := lgF_b i (by omega)
    have bT := lgT_b i (by omega)
    refine iJw kX7_init (fun pc => pc == 17) 30 (Nat.le_refl _) (Nat.le_refl _) ?_
    simp -implicitDefEqProofs only [Nat.reduceAdd, Nat.reduceMul, Nat.reduceEqDiff, Nat.reduceBEq, Nat.reduceLT, Nat.reduceLeDiff, Int.reduceToNat, Int.reduceLE, Int.reduceLT, Int.reduceNeg, Int.reduceAdd, Int.reduceMul, Bool.or_false, Bool.or_true, Bool.true_or, Bool.false_or, jwq_s, jwp_sn, jwp_sc, jwp_0, jsum, jwx_s, ↓jol_c, ↓jo1_c, ↓jo2_c, ↓jo3_c, Bool.false_eq_true, beq_iff_eq, jst, jins_c, jins_n, jdrop_c, jdrop_n, jargs, jtg, jtag, jcnd, true_and, and_true, false_or, or_false, true_or, or_true, forall_const, ↓reduceIte, Option.toList, List.cons_append, List.nil_append, false_and, and_false, reduceCtorEq, false_imp_iff, forall_eq, true_imp_iff, joc_c, List.drop_succ_cons, List.drop_zero, List.take_succ_cons, List.take_zero, List.reverse_cons, List.reverse_nil, List.length_cons, List.length_nil, Int.reduceEq, not_true_eq_false, not_false_eq_true, Int.toNat_natCast, Int.natCast_nonneg, ne21, ne01, xwx_s, xwp_sn, xwp_sc, xwp_0, xoi_c, joc_c, zcs, jnw_e, jset_e, jobj_e, jarr_e, jno_e, jfd_e, zl1, zl2, zl3, zl4, Nat.add_assoc, if_true, if_false, jL32_0, jL32_1, jL32_2, jL32_3, jL32_4, jL32_5, jL32_6, jL32_7, jL32_8, jL32_9, jL32_10, jL32_11, jL32_12, jL32_13, jL32_14, jL32_15, jL32_16, jL32_17, jL32_18, jL32_19, jL32_20, jL32_21, jL32_22, jL32_23, jL32_24, jL32_25, jL32_26, jL32_27, jL32_28, jL32_29, jL32_30, jL32_31, jL32_32, jL32_33, jL32_34, jL32_35, jL32_36, jL32_37, jL32_38, jL32_39, jL32_57, jL32_60, jL32_97, jL32_122, jL32_255, jLm32_1, jLm32_2, jLm32_3, jLm32_1000, jL64_0, jL64_1, zne_10, zne_00, zne_01, zne_11, false_imp_iff, true_imp_iff, fX7_init_0, fX7_init_1, fX7_init_4, fX7_init_5, fX7_init_7, fX7_init_9, fX7_init_12, fX7_init_13, fX7_init_14, fX7_init_15, fX7_init_16, fX7_init_22, fX7_init_25, fX7_init_26, fX7_init_28, fX7_init_37, fX7_init_38, fX7_init_39, fX7_init_41, fX7_init_44, fX7_init_47, fX7_init_50, fX7_init_51, fX7_init_54, fX7_init_55, fX7_init_56, fX7_init_59, fX7_init_60, fX7_init_61, fX7_init_63, fX7_init_64, fX7_init_65, fX7_init_66, fX7_init_68, fX7_init_69, fX7_init_70, fX7_init_73, fX7_init_76, ↓xo_0, ↓jo_0, ↓xo_1, ↓jo_1, ↓xo_2, ↓jo_2, ↓xo_3, ↓jo_3, ↓xo_4, ↓jo_4, ↓xo_5, ↓jo_5, ↓xo_6, ↓jo_6, ↓xo_20, ↓jo_20, ↓xo_21, ↓jo_21, ↓xo_25, ↓jo_25, ↓xo_26, ↓jo_26, ↓xo_31v, ↓xo_51, ↓xo_54, ↓xo_55, ↓xo_58]
    refine zq_len (k := 15) (index := 17) rd_of (by decide +kernel) (by decide +kernel) sk_6 ⟨by decide, by decide⟩ (Nat.le_of_ble_eq_true rfl) (Nat.le_refl _) (Nat.le_refl _) ?_
    refine iJw kX7_init (fun pc => pc == 31) 30 (Nat.le_refl _) (Nat.le_refl _) ?_
    simp -implicitDefEqProofs only [Nat.reduceAdd, Nat.reduceMul, Nat.reduceEqDiff, Nat.reduceBEq, Nat.reduceLT, Nat.reduceLeDiff, Int.reduceToNat, Int.reduceLE, Int.reduceLT, Int.reduceNeg, Int.reduceAdd, Int.reduceMul, Bool.or_false, Bool.or_true, Bool.true_or, Bool.false_or, jwq_s, jwp_sn, jwp_sc, jwp_0, jsum, jwx_s, ↓jol_c, ↓jo1_c, ↓jo2_c, ↓jo3_c, Bool.false_eq_true, beq_iff_eq, jst, jins_c, jins_n, jdrop_c, jdrop_n, jargs, jtg, jtag, jcnd, true_and, and_true, false_or, or_false, true_or, or_true, forall_const, ↓reduceIte, Option.toList, List.cons_append, List.nil_append, false_and, and_false, reduceCtorEq, false_imp_iff, forall_eq, true_imp_iff, joc_c, List.drop_succ_cons, List.drop_zero, List.take_succ_cons, List.take_zero, List.reverse_cons, List.reverse_nil, List.length_cons, List.length_nil, Int.reduceEq, not_true_eq_false, not_false_eq_true, Int.toNat_natCast, Int.natCast_nonneg, ne21, ne01, xwx_s, xwp_sn, xwp_sc, xwp_0, xoi_c, joc_c, zcs, jnw_e, jset_e, jobj_e, jarr_e, jno_e, jfd_e, zl1, zl2, zl3, zl4, Nat.add_assoc, if_true, if_false, jL32_0, jL32_1, jL32_2, jL32_3, jL32_4, jL32_5, jL32_6, jL32_7, jL32_8, jL32_9, jL32_10, jL32_11, jL32_12, jL32_13, jL32_14, jL32_15, jL32_16, jL32_17, jL32_18, jL32_19, jL32_20, jL32_21, jL32_22, jL32_23, jL32_24, jL32_25, jL32_26, jL32_27, jL32_28, jL32_29, jL32_30, jL32_31, jL32_32, jL32_33, jL32_34, jL32_35, jL32_36, jL32_37, jL32_38, jL32_39, jL32_57, jL32_60, jL32_97, jL32_122, jL32_255, jLm32_1, jLm32_2, jLm32_3, jLm32_1000, jL64_0, jL64_1, zne_10, zne_00, zne_01, zne_11, false_imp_iff, true_imp_iff, fX7_init_0, fX7_init_1, fX7_init_4, fX7_init_5, fX7_init_7, fX7_init_9, fX7_init_12, fX7_init_13, fX7_init_14, fX7_init_15, fX7_init_16, fX7_init_22, fX7_init_25, fX7_init_26, fX7_init_28, fX7_init_37, fX7_init_38, fX7_init_39, fX7_init_41, fX7_init_44, fX7_init_47, fX7_init_50, fX7_init_51, fX7_init_54, fX7_init_55, fX7_init_56, fX7_init_59, fX7_init_60, fX7_init_61, fX7_init_63, fX7_init_64, fX7_init_65, fX7_init_66, fX7_init_68, fX7_init_69, fX7_init_70, fX7_init_73, fX7_init_76, ↓xo_0, ↓jo_0, ↓xo_1, ↓jo_1, ↓xo_2, ↓jo_2, ↓xo_3, ↓jo_3, ↓xo_4, ↓jo_4, ↓xo_5, ↓jo_5, ↓xo_6, ↓jo_6, ↓xo_20, ↓jo_20, ↓xo_21, ↓jo_21, ↓xo_25, ↓jo_25, ↓xo_26, ↓jo_26, ↓xo_31v, ↓xo_51, ↓xo_54, ↓xo_55, ↓xo_58]
    refine ⟨⟨by omega, by omega⟩, ⟨by decide, by decide⟩, fun h => absurd h (by omega), fun _ => ⟨⟨by omega, by omega⟩, fun h => absurd h (by omega), fun _ => ?_⟩⟩
    refine zq_chr1 (n := 2) (K := i) (k := 15) (index := 23) (by omega) rfl rd_of (by decide +kernel) (by decide +kernel) (by decide +kernel) sk_7 ⟨by decide, by decide⟩ (Nat.le_of_ble_eq_true rfl) (Nat.le_refl _) (Nat.le_refl _) ?_
    refine iJw kX7_init (fun pc => pc == 16) 40 (Nat.le_refl _) (Nat.le_refl _) ?_
    have s0 : S1 u 0 = ((u + 1 : Nat) : Int) := by rw [hq u (by omega), h0]
    simp -implicitDefEqProofs only [Nat.reduceAdd, Nat.reduceMul, Nat.reduceEqDiff, Nat.reduceBEq, Nat.reduceLT, Nat.reduceLeDiff, Int.reduceToNat, Int.reduceLE, Int.reduceLT, Int.reduceNeg, Int.reduceAdd, Int.reduceMul, Bool.or_false, Bool.or_true, Bool.true_or, Bool.false_or, jwq_s, jwp_sn, jwp_sc, jwp_0, jsum, jwx_s, ↓jol_c, ↓jo1_c, ↓jo2_c, ↓jo3_c, Bool.false_eq_true, beq_iff_eq, jst, jins_c, jins_n, jdrop_c, jdrop_n, jargs, jtg, jtag, jcnd, true_and, and_true, false_or, or_false, true_or, or_true, forall_const, ↓reduceIte, Option.toList, List.cons_append, List.nil_append, false_and, and_false, reduceCtorEq, false_imp_iff, forall_eq, true_imp_iff, joc_c, List.drop_succ_cons, List.drop_zero, List.take_succ_cons, List.take_zero, List.reverse_cons, List.reverse_nil, List.length_cons, List.length_nil, Int.reduceEq, not_true_eq_false, not_false_eq_true, Int.toNat_natCast, Int.natCast_nonneg, ne21, ne01, xwx_s, xwp_sn, xwp_sc, xwp_0, xoi_c, joc_c, zcs, jnw_e, jset_e, jobj_e, jarr_e, jno_e, jfd_e, zl1, zl2, zl3, zl4, Nat.add_assoc, if_true, if_false, jL32_0, jL32_1, jL32_2, jL32_3, jL32_4, jL32_5, jL32_6, jL32_7, jL32_8, jL32_9, jL32_10, jL32_11, jL32_12, jL32_13, jL32_14, jL32_15, jL32_16, jL32_17, jL32_18, jL32_19, jL32_20, jL32_21, jL32_22, jL32_23, jL32_24, jL32_25, jL32_26, jL32_27, jL32_28, jL32_29, jL32_30, jL32_31, jL32_32, jL32_33, jL32_34, jL32_35, jL32_36, jL32_37, jL32_38, jL32_39, jL32_57, jL32_60, jL32_97, jL32_122, jL32_255, jLm32_1, jLm32_2, jLm32_3, jLm32_1000, jL64_0, jL64_1, zne_10, zne_00, zne_01, zne_11, false_imp_iff, true_imp_iff, fX7_init_0, fX7_init_1, fX7_init_4, fX7_init_5, fX7_init_7, fX7_init_9, fX7_init_12, fX7_init_13, fX7_init_14, fX7_init_15, fX7_init_16, fX7_init_22, fX7_init_25, fX7_init_26, fX7_init_28, fX7_init_37, fX7_init_38, fX7_init_39, fX7_init_41, fX7_init_44, fX7_init_47, fX7_init_50, fX7_init_51, fX7_init_54, fX7_init_55, fX7_init_56, fX7_init_59, fX7_init_60, fX7_init_61, fX7_init_63, fX7_init_64, fX7_init_65, fX7_init_66, fX7_init_68, fX7_init_69, fX7_init_70, fX7_init_73, fX7_init_76, ↓xo_0, ↓jo_0, ↓xo_1, ↓jo_1, ↓xo_2, ↓jo_2, ↓xo_3, ↓jo_3, ↓xo_4, ↓jo_4, ↓xo_5, ↓jo_5, ↓xo_6, ↓jo_6, ↓xo_20, ↓jo_20, ↓xo_21, ↓jo_21, ↓xo_25, ↓jo_25, ↓xo_26, ↓jo_26, ↓xo_31v, ↓xo_51, ↓xo_54, ↓xo_55, ↓xo_58, hL0, hL1, s0]
    refine ⟨⟨by omega, by omega⟩, fun c => ?_, fun c => ?_⟩
    · have e1 : (lgF (i + 1)).1 = (lgF i).1 := by show (if lgT.getD i 0 = 32 then _ else _ : Nat × (Nat → Int)).1 = _; rw [if_neg c]
      have e2 : (lgF (i + 1)).2 = fun k => if k = (lgF i).1 then (lgF i).2 (lgF i).1 * 27 + lgT.getD i 0 - 96 else (lgF i).2 k := by show (if lgT.getD i 0 = 32 then _ else _ : Nat × (Nat → Int)).2 = _; rw [if_neg c]
      have := ih (i + 1) (by omega) (ju S1 (u + 1) (lgF i).1 ((lgF i).2 (lgF i).1 * 27 + lgT.getD i 0 - 96)) (fun q hn => by rw [← hq q hn]; funext j; rw [ju_at, if_neg (fun w => hn w.1)]) (by rw [e2]; funext j; rw [ju_at, h1]; by_cases w : j = (lgF i).1 <;> simp [w])
      rw [e1] at this
      have rd : jrd (u + 2, u + 2, L, S1) ((u + 1 : Nat) : Int) (lgF i).1 1 = (lgF i).2 (lgF i).1 := by
        show S1 (((u + 1 : Nat) : Int).toNat) (lgF i).1 = _
        rw [Int.toNat_natCast, h1]
      rw [rd]
      exact ⟨⟨by omega, by omega⟩, ⟨by omega, by omega⟩, this.sub (by intro q hq; simp at hq ⊢; rcases hq with h | h | h <;> simp [h])⟩
    · have c : lgT.getD i 0 = 32 := Decidable.byContradiction c
      have e1 : (lgF (i + 1)).1 = (lgF i).1 + 1 := by show (if lgT.getD i 0 = 32 then _ else _ : Nat × (Nat → Int)).1 = _; rw [if_pos c]
      have e2 : (lgF (i + 1)).2 = (lgF i).2 := by show (if lgT.getD i 0 = 32 then _ else _ : Nat × (Nat → Int)).2 = _; rw [if_pos c]
      have := ih (i + 1) (by omega) S1 hq (by rw [h1, e2])
      rw [e1] at this
      exact this.sub (by intro q hq; simp at hq ⊢; rcases hq with h | h | h <;> simp [h])
theorem ri_all (G : jG) : RI G := by
  intro u L S P hL hS out
  refine iCw kX7_init jn_X7 rfl (fun pc => pc == 16) 40 (Nat.le_of_ble_eq_true rfl) ?_
  simp -implicitDefEqProofs only [Nat.reduceAdd, Nat.reduceMul, Nat.reduceEqDiff, Nat.reduceBEq, Nat.reduceLT, Nat.reduceLeDiff, Int.reduceToNat, Int.reduceLE, Int.reduceLT, Int.reduceNeg, Int.reduceAdd, Int.reduceMul, Bool.or_false, Bool.or_true, Bool.true_or, Bool.false_or, jwq_s, jwp_sn, jwp_sc, jwp_0, jsum, jwx_s, ↓jol_c, ↓jo1_c, ↓jo2_c, ↓jo3_c, Bool.false_eq_true, beq_iff_eq, jst, jins_c, jins_n, jdrop_c, jdrop_n, jargs, jtg, jtag, jcnd, true_and, and_true, false_or, or_false, true_or, or_true, forall_const, ↓reduceIte, Option.toList, List.cons_append, List.nil_append, false_and, and_false, reduceCtorEq, false_imp_iff, forall_eq, true_imp_iff, joc_c, List.drop_succ_cons, List.drop_zero, List.take_succ_cons, List.take_zero, List.reverse_cons, List.reverse_nil, List.length_cons, List.length_nil, Int.reduceEq, not_true_eq_false, not_false_eq_true, Int.toNat_natCast, Int.natCast_nonneg, ne21, ne01, xwx_s, xwp_sn, xwp_sc, xwp_0, xoi_c, joc_c, zcs, jnw_e, jset_e, jobj_e, jarr_e, jno_e, jfd_e, zl1, zl2, zl3, zl4, Nat.add_assoc, if_true, if_false, jL32_0, jL32_1, jL32_2, jL32_3, jL32_4, jL32_5, jL32_6, jL32_7, jL32_8, jL32_9, jL32_10, jL32_11, jL32_12, jL32_13, jL32_14, jL32_15, jL32_16, jL32_17, jL32_18, jL32_19, jL32_20, jL32_21, jL32_22, jL32_23, jL32_24, jL32_25, jL32_26, jL32_27, jL32_28, jL32_29, jL32_30, jL32_31, jL32_32, jL32_33, jL32_34, jL32_35, jL32_36, jL32_37, jL32_38, jL32_39, jL32_57, jL32_60, jL32_97, jL32_122, jL32_255, jLm32_1, jLm32_2, jLm32_3, jLm32_1000, jL64_0, jL64_1, zne_10, zne_00, zne_01, zne_11, false_imp_iff, true_imp_iff, fX7_init_0, fX7_init_1, fX7_init_4, fX7_init_5, fX7_init_7, fX7_init_9, fX7_init_12, fX7_init_13, fX7_init_14, fX7_init_15, fX7_init_16, fX7_init_22, fX7_init_25, fX7_init_26, fX7_init_28, fX7_init_37, fX7_init_38, fX7_init_39, fX7_init_41, fX7_init_44, fX7_init_47, fX7_init_50, fX7_init_51, fX7_init_54, fX7_init_55, fX7_init_56, fX7_init_59, fX7_init_60, fX7_init_61, fX7_init_63, fX7_init_64, fX7_init_65, fX7_init_66, fX7_init_68, fX7_init_69, fX7_init_70, fX7_init_73, fX7_init_76, ↓xo_0, ↓jo_0, ↓xo_1, ↓jo_1, ↓xo_2, ↓jo_2, ↓xo_3, ↓jo_3, ↓xo_4, ↓jo_4, ↓xo_5, ↓jo_5, ↓xo_6, ↓jo_6, ↓xo_20, ↓jo_20, ↓xo_21, ↓jo_21, ↓xo_25, ↓jo_25, ↓xo_26, ↓jo_26, ↓xo_31v, ↓xo_51, ↓xo_54, ↓xo_55, ↓xo_58, hL]
  have b0 := bk_set (e := u) (p := 0) (k := 0) (v := ((u + 1 : Nat) : Int)) (bk_new (e := u + 1) (kd := (1, 0, 11, jno)) (f := fun _ => 0) (bk_start hL hS) rfl) rfl
  refine l_rdr (L := fun q => if q = u + 1 then (1, 0, 11, jno) else L q) (S := ju (fun q => if q = u + 1 then fun _ => 0 else S q) u 0 ((u + 1 : Nat) : Int)) ?_ ?_ (fun S' f1 f2 => ?_) ?_ 48 0 rfl _ (fun q _ => rfl) ?_
  · rw [if_neg (by omega)]; exact hL
  · rw [if_pos rfl]
  · refine out _ _ ⟨fun q hq => ?_, fun j hj => ?_⟩
    · refine ⟨(b0.1 q hq).1, ?_⟩
      rw [f1 q (by omega)]; exact (b0.1 q hq).2
    · rcases (show j = 0 ∨ j = 1 by omega) with e | e <;> subst e
      · refine ⟨(b0.2 0 (by omega)).1, ?_⟩
        rw [f1 _ (by omega)]
        refine (b0.2 0 (by omega)).2.trans (funext fun k => ?_)
        simp [dSet, dNew, dRdr]
      · exact ⟨(b0.2 1 (by omega)).1, f2⟩
  · rw [ju_at, if_pos ⟨rfl, rfl⟩]
  · funext k
    rw [ju_at, if_neg (by omega), if_pos rfl]
    rfl
end

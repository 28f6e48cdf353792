/-! The class Model: a mode more, an edge more. -/
section
variable {G : jG} {z u : Nat} {S : jS} {P : Option jV → jM → Prop}
set_option maxHeartbeats 2000000 in
set_option maxRecDepth 100000 in
theorem k_addMode {m : Nat} {nm a b : Int} (hu : mU u) (hc : S u 12 = (m : Int)) (m6 : m < 6)
    (out : ∀ S', (∀ r j, r ≠ u → r ≠ u + 5 → r ≠ u + 6 → r ≠ u + 7 → r ≠ u + 10 + 12 * m → r ≠ u + 16 + 12 * m → S' r j = S r j) → (∀ j, j ≠ 12 → S' u j = S u j) → S' u 12 = (m : Int) + 1 → (∀ j, S' (u + 5) j = if j = m then nm else S (u + 5) j) → (∀ j, S' (u + 6) j = if j = m then a else S (u + 6) j) → (∀ j, S' (u + 7) j = if j = m then b else S (u + 7) j) → S' (u + 10 + 12 * m) 5 = 0 → S' (u + 16 + 12 * m) 5 = 0 → P none (mm z S')) :
    jC G mX3_addMode 0 0 (mm z S) [(2, (u : Int)), (0, nm), (0, a), (0, b)] P := by
  have c6 : (m : Int) < 6 := by omega
  have bk := bU_k hu m6
  have bh := bU_h hu m6
  have d5 : ¬ (u = u + 5) := by omega
  have d6 : ¬ (u = u + 6) := by omega
  have d7 : ¬ (u = u + 7) := by omega
  have d8 : ¬ (u = u + 10 + 12 * m) := by omega
  have d9 : ¬ (u = u + 16 + 12 * m) := by omega
  refine jCw kX3_addMode jn_X3 (fun pc => false) 60 (Nat.le_of_ble_eq_true rfl) ?_
  simp -implicitDefEqProofs only [Nat.reduceAdd, Nat.reduceMul, Nat.reduceEqDiff, Nat.reduceBEq, Nat.reduceLT, Nat.reduceLeDiff, Int.reduceToNat, Int.reduceLE, Int.reduceLT, Int.reduceNeg, Int.reduceAdd, Int.reduceMul, Bool.or_false, Bool.or_true, Bool.true_or, Bool.false_or, jwq_s, jwp_sn, jwp_sc, jwp_0, jsum, jwx_s, ↓jol_c, ↓jo1_c, ↓jo2_c, ↓jo3_c, Bool.false_eq_true, beq_iff_eq, jst, jins_c, jins_n, jdrop_c, jdrop_n, jargs, jtg, jtag, jcnd, true_and, and_true, false_or, or_false, true_or, or_true, forall_const, ↓reduceIte, Option.toList, List.cons_append, List.nil_append, false_and, and_false, reduceCtorEq, false_imp_iff, forall_eq, true_imp_iff, joc_c, List.drop_succ_cons, List.drop_zero, List.take_succ_cons, List.take_zero, List.reverse_cons, List.reverse_nil, List.length_cons, List.length_nil, Int.reduceEq, not_true_eq_false, not_false_eq_true, mm_S, mm_L, mm_set, Int.toNat_natCast, Int.natCast_nonneg, ju_at, ne21, ne01, jrd_1, jrd_2, jrd_3, jobj_M, jfd_M0, jfd_M1, jfd_M2, jfd_M3, jfd_M4, jfd_M5, jfd_M6, jfd_M7, jfd_M8, jfd_M9, jfd_M10, jfd_M11, jfd_M12, jsn_M12, jfd_M13, jsn_M13, jfd_M14, jsn_M14, jfd_M15, jsn_M15, jarr_M5, jarr_M6, jarr_M7, jarr_M82, jarr_M83, jarr_M145, jarr_M146, jarr_M147, jarr_M8, jrd_M8, jarr_M9, jrd_M9, jarr_M84, jrd_M84, jobj_N, jfd_N0, jfd_N1, jfd_N2, jfd_N3, jsn_N3, jarr_N1, jarr_N2, jarr_N3, jobj_B, jfd_B0, jfd_B1, jfd_B2, jfd_B3, jfd_B4, jfd_B5, jsn_B5, jarr_B1, jarr_B2, jarr_B3, jarr_B4, jarr_B5, jobj_H, jfd_H0, jfd_H1, jfd_H2, jsn_H2, jfd_H3, jsn_H3, jfd_H4, jsn_H4, jfd_H5, jsn_H5, jfd_H6, jsn_H6, jfd_H7, jsn_H7, jfd_H8, jsn_H8, jfd_H9, jsn_H9, jfd_H10, jfd_H11, jarr_H429, jarr_H1, jrd_H1, jobj_P, jfd_P0, jfd_P1, jfd_P2, jsn_P2, jfd_P3, jsn_P3, jfd_P4, jsn_P4, jfd_P5, jsn_P5, jfd_P6, jsn_P6, jfd_P7, jsn_P7, jfd_P8, jsn_P8, jfd_P9, jsn_P9, jobj_G, jfd_G0, jfd_G1, jarr_G1, jarr_G2, jobj_A, jfd_A0, jsn_A0, jfd_A1, jsn_A1, jobj_O, jfd_O0, jfd_O1, jsn_O1, jfd_O2, jsn_O2, jfd_O3, jsn_O3, jfd_O4, jsn_O4, jfd_O5, jsn_O5, jfd_O6, jfd_O7, jfd_O10, jfd_O11, jarr_O1, jobj_E, jfd_E0, jfd_E1, jsn_E1, jfd_E2, jsn_E2, jfd_E3, jsn_E3, jfd_E4, jsn_E4, jfd_E5, jsn_E5, jfd_E6, jsn_E6, jfd_E7, jsn_E7, jfd_E8, jsn_E8, jfd_E9, jsn_E9, jfd_E10, jsn_E10, jfd_E11, jsn_E11, jfd_E12, jsn_E12, jfd_E13, jsn_E13, jfd_E14, jsn_E14, jarr_E1, jobj_C, jfd_C0, jfd_C1, jfd_C2, jfd_C3, jfd_C4, jfd_C5, jfd_C6, jsn_C6, jfd_C7, jsn_C7, jfd_C8, jsn_C8, jarr_C1, jarr_C2, jarr_C3, jarr_C4, jarr_C5, jarr_C6, jrd_C5, jsn_Ca5, jrd_C6, jsn_Ca6, jobj_Y, jfd_Y0, jfd_Y1, jfd_Y2, jsn_Y2, jfd_Y3, jfd_Y4, jfd_Y5, jarr_Y1, jobj_D, jfd_D0, jfd_D1, jfd_D2, jfd_D3, jsn_D3, jfd_D4, jsn_D4, jfd_D5, jsn_D5, jfd_D6, jfd_D7, jsn_D7, jfd_D8, jsn_D8, jfd_D9, jsn_D9, jfd_D10, jsn_D10, jfd_D11, jsn_D11, jfd_D12, jsn_D12, jfd_D13, jsn_D13, jfd_D14, jsn_D14, jfd_D15, jsn_D15, jfd_D16, jsn_D16, jarr_D1, jfd_O8c, jfd_O9c, hU_CK, hU_OT, jL32_0, jL32_1, jL32_2, jL32_3, jL32_4, jL32_5, jL32_6, jL32_7, jL32_8, jL32_9, jL32_10, jL32_11, jL32_12, jL32_13, jL32_14, jL32_15, jL32_16, jL32_17, jL32_18, jL32_19, jL32_20, jL32_21, jL32_22, jL32_23, jL32_24, jL32_25, jL32_26, jL32_27, jL32_28, jL32_29, jL32_30, jL32_31, jL32_32, jL32_33, jL32_34, jL32_35, jL32_36, jL32_37, jL32_38, jL32_39, jL32_57, jL32_60, jL32_97, jL32_122, jL32_255, jLm32_1, jLm32_2, jLm32_3, jLm32_1000, jL64_0, jL64_1, zne_10, zne_00, zne_01, zne_11, false_imp_iff, true_imp_iff, fX3_addMode_0, fX3_addMode_1, fX3_addMode_4, fX3_addMode_5, fX3_addMode_8, fX3_addMode_9, fX3_addMode_10, fX3_addMode_11, fX3_addMode_14, fX3_addMode_15, fX3_addMode_18, fX3_addMode_19, fX3_addMode_20, fX3_addMode_21, fX3_addMode_24, fX3_addMode_25, fX3_addMode_28, fX3_addMode_29, fX3_addMode_30, fX3_addMode_31, fX3_addMode_34, fX3_addMode_35, fX3_addMode_38, fX3_addMode_39, fX3_addMode_40, fX3_addMode_43, fX3_addMode_44, fX3_addMode_47, fX3_addMode_48, fX3_addMode_51, fX3_addMode_52, fX3_addMode_53, fX3_addMode_56, fX3_addMode_57, fX3_addMode_58, fX3_addMode_61, fX3_addMode_62, fX3_addMode_63, fX3_addMode_66, ↓jo_0, ↓jo_1, ↓jo_23, ↓jo_24, ↓jo_25, ↓jo_26, ↓jo_31v, ↓jo_32, ↓jo_4, hu, hc, c6, d5, d6, d7, d8, d9, bk, bh, false_and, if_false]
  refine out _ (fun r j q0 q5 q6 q7 q8 q9 => ?_) (fun j q => ?_) ?_ (fun j => ?_) (fun j => ?_) (fun j => ?_) ?_ ?_
  · simp only [ju_at]
    rw [if_neg (by omega), if_neg (by omega), if_neg (by omega), if_neg (by omega), if_neg (by omega), if_neg (by omega)]
  · simp only [ju_at]
    rw [if_neg (by omega), if_neg (by omega), if_neg (by omega), if_neg (by omega), if_neg (by omega), if_neg (by omega)]
  · simp [ju_at]
  · simp only [ju_at]
    rw [if_neg (by omega), if_neg (by omega), if_neg (by omega), if_neg (by omega), if_neg (by omega)]
    simp
  · simp only [ju_at]
    rw [if_neg (by omega), if_neg (by omega), if_neg (by omega), if_neg (by omega)]
    by_cases c : j = m
    · simp [c]
    · rw [if_neg (fun w => c w.2), if_neg (by omega), if_neg c]
  · simp only [ju_at]
    rw [if_neg (by omega), if_neg (by omega), if_neg (by omega)]
    by_cases c : j = m
    · simp [c]
    · rw [if_neg (fun w => c w.2), if_neg (by omega), if_neg (by omega), if_neg c]
  · simp only [ju_at]
    rw [if_neg (by omega), if_neg (by omega), if_pos (by simp)]
  · simp only [ju_at]
    rw [if_neg (by omega), if_pos (by simp)]
set_option maxHeartbeats 2000000 in
set_option maxRecDepth 100000 in
theorem k_addEdge {e : Nat} {a b : Int} (hu : mU u) (hc : S u 13 = (e : Int)) (e10 : e < 10)
    (out : ∀ S', (∀ r j, r ≠ u → r ≠ u + 82 → r ≠ u + 83 → r ≠ u + 85 + 6 * e → r ≠ u + 145 → r ≠ u + 146 → S' r j = S r j) → (∀ j, j ≠ 13 → S' u j = S u j) → S' u 13 = (e : Int) + 1 → (∀ j, S' (u + 82) j = if j = e then a else S (u + 82) j) → (∀ j, S' (u + 83) j = if j = e then b else S (u + 83) j) → S' (u + 85 + 6 * e) 5 = 0 → (∀ j, S' (u + 145) j = (if j = 2 * e ∨ j = 2 * e + 1 then 0 else S (u + 145) j) ∧ S' (u + 146) j = (if j = 2 * e ∨ j = 2 * e + 1 then 0 else S (u + 146) j)) → P none (mm z S')) :
    jC G mX3_addEdge 0 0 (mm z S) [(2, (u : Int)), (0, a), (0, b)] P := by
  have c6 : (e : Int) < 10 := by omega
  have bk := bU_g hu e10
  have d1 : ¬ (u = u + 82) := by omega
  have d2 : ¬ (u = u + 83) := by omega
  have d3 : ¬ (u = u + 85 + 6 * e) := by omega
  have d4 : ¬ (u = u + 145) := by omega
  have d5 : ¬ (u = u + 146) := by omega
  have i0 : (2 * (e : Int) + 0).toNat = 2 * e := by omega
  have i1 : (2 * (e : Int) + 1).toNat = 2 * e + 1 := by omega
  have i2 : 0 ≤ 2 * (e : Int) + 0 := by omega
  have i3 : 2 * (e : Int) + 0 < 20 := by omega
  have i4 : 0 ≤ 2 * (e : Int) + 1 := by omega
  have i5 : 2 * (e : Int) + 1 < 20 := by omega
  refine jCw kX3_addEdge jn_X3 (fun pc => false) 100 (Nat.le_of_ble_eq_true rfl) ?_
  simp -implicitDefEqProofs only [Nat.reduceAdd, Nat.reduceMul, Nat.reduceEqDiff, Nat.reduceBEq, Nat.reduceLT, Nat.reduceLeDiff, Int.reduceToNat, Int.reduceLE, Int.reduceLT, Int.reduceNeg, Int.reduceAdd, Int.reduceMul, Bool.or_false, Bool.or_true, Bool.true_or, Bool.false_or, jwq_s, jwp_sn, jwp_sc, jwp_0, jsum, jwx_s, ↓jol_c, ↓jo1_c, ↓jo2_c, ↓jo3_c, Bool.false_eq_true, beq_iff_eq, jst, jins_c, jins_n, jdrop_c, jdrop_n, jargs, jtg, jtag, jcnd, true_and, and_true, false_or, or_false, true_or, or_true, forall_const, ↓reduceIte, Option.toList, List.cons_append, List.nil_append, false_and, and_false, reduceCtorEq, false_imp_iff, forall_eq, true_imp_iff, joc_c, List.drop_succ_cons, List.drop_zero, List.take_succ_cons, List.take_zero, List.reverse_cons, List.reverse_nil, List.length_cons, List.length_nil, Int.reduceEq, not_true_eq_false, not_false_eq_true, mm_S, mm_L, mm_set, Int.toNat_natCast, Int.natCast_nonneg, ju_at, ne21, ne01, jrd_1, jrd_2, jrd_3, jobj_M, jfd_M0, jfd_M1, jfd_M2, jfd_M3, jfd_M4, jfd_M5, jfd_M6, jfd_M7, jfd_M8, jfd_M9, jfd_M10, jfd_M11, jfd_M12, jsn_M12, jfd_M13, jsn_M13, jfd_M14, jsn_M14, jfd_M15, jsn_M15, jarr_M5, jarr_M6, jarr_M7, jarr_M82, jarr_M83, jarr_M145, jarr_M146, jarr_M147, jarr_M8, jrd_M8, jarr_M9, jrd_M9, jarr_M84, jrd_M84, jobj_N, jfd_N0, jfd_N1, jfd_N2, jfd_N3, jsn_N3, jarr_N1, jarr_N2, jarr_N3, jobj_B, jfd_B0, jfd_B1, jfd_B2, jfd_B3, jfd_B4, jfd_B5, jsn_B5, jarr_B1, jarr_B2, jarr_B3, jarr_B4, jarr_B5, jobj_H, jfd_H0, jfd_H1, jfd_H2, jsn_H2, jfd_H3, jsn_H3, jfd_H4, jsn_H4, jfd_H5, jsn_H5, jfd_H6, jsn_H6, jfd_H7, jsn_H7, jfd_H8, jsn_H8, jfd_H9, jsn_H9, jfd_H10, jfd_H11, jarr_H429, jarr_H1, jrd_H1, jobj_P, jfd_P0, jfd_P1, jfd_P2, jsn_P2, jfd_P3, jsn_P3, jfd_P4, jsn_P4, jfd_P5, jsn_P5, jfd_P6, jsn_P6, jfd_P7, jsn_P7, jfd_P8, jsn_P8, jfd_P9, jsn_P9, jobj_G, jfd_G0, jfd_G1, jarr_G1, jarr_G2, jobj_A, jfd_A0, jsn_A0, jfd_A1, jsn_A1, jobj_O, jfd_O0, jfd_O1, jsn_O1, jfd_O2, jsn_O2, jfd_O3, jsn_O3, jfd_O4, jsn_O4, jfd_O5, jsn_O5, jfd_O6, jfd_O7, jfd_O10, jfd_O11, jarr_O1, jobj_E, jfd_E0, jfd_E1, jsn_E1, jfd_E2, jsn_E2, jfd_E3, jsn_E3, jfd_E4, jsn_E4, jfd_E5, jsn_E5, jfd_E6, jsn_E6, jfd_E7, jsn_E7, jfd_E8, jsn_E8, jfd_E9, jsn_E9, jfd_E10, jsn_E10, jfd_E11, jsn_E11, jfd_E12, jsn_E12, jfd_E13, jsn_E13, jfd_E14, jsn_E14, jarr_E1, jobj_C, jfd_C0, jfd_C1, jfd_C2, jfd_C3, jfd_C4, jfd_C5, jfd_C6, jsn_C6, jfd_C7, jsn_C7, jfd_C8, jsn_C8, jarr_C1, jarr_C2, jarr_C3, jarr_C4, jarr_C5, jarr_C6, jrd_C5, jsn_Ca5, jrd_C6, jsn_Ca6, jobj_Y, jfd_Y0, jfd_Y1, jfd_Y2, jsn_Y2, jfd_Y3, jfd_Y4, jfd_Y5, jarr_Y1, jobj_D, jfd_D0, jfd_D1, jfd_D2, jfd_D3, jsn_D3, jfd_D4, jsn_D4, jfd_D5, jsn_D5, jfd_D6, jfd_D7, jsn_D7, jfd_D8, jsn_D8, jfd_D9, jsn_D9, jfd_D10, jsn_D10, jfd_D11, jsn_D11, jfd_D12, jsn_D12, jfd_D13, jsn_D13, jfd_D14, jsn_D14, jfd_D15, jsn_D15, jfd_D16, jsn_D16, jarr_D1, jfd_O8c, jfd_O9c, hU_CK, hU_OT, jL32_0, jL32_1, jL32_2, jL32_3, jL32_4, jL32_5, jL32_6, jL32_7, jL32_8, jL32_9, jL32_10, jL32_11, jL32_12, jL32_13, jL32_14, jL32_15, jL32_16, jL32_17, jL32_18, jL32_19, jL32_20, jL32_21, jL32_22, jL32_23, jL32_24, jL32_25, jL32_26, jL32_27, jL32_28, jL32_29, jL32_30, jL32_31, jL32_32, jL32_33, jL32_34, jL32_35, jL32_36, jL32_37, jL32_38, jL32_39, jL32_57, jL32_60, jL32_97, jL32_122, jL32_255, jLm32_1, jLm32_2, jLm32_3, jLm32_1000, jL64_0, jL64_1, zne_10, zne_00, zne_01, zne_11, false_imp_iff, true_imp_iff, fX3_addEdge_0, fX3_addEdge_1, fX3_addEdge_4, fX3_addEdge_5, fX3_addEdge_8, fX3_addEdge_9, fX3_addEdge_10, fX3_addEdge_11, fX3_addEdge_14, fX3_addEdge_15, fX3_addEdge_18, fX3_addEdge_19, fX3_addEdge_20, fX3_addEdge_21, fX3_addEdge_24, fX3_addEdge_25, fX3_addEdge_28, fX3_addEdge_29, fX3_addEdge_30, fX3_addEdge_33, fX3_addEdge_34, fX3_addEdge_35, fX3_addEdge_36, fX3_addEdge_37, fX3_addEdge_40, fX3_addEdge_41, fX3_addEdge_44, fX3_addEdge_45, fX3_addEdge_46, fX3_addEdge_49, fX3_addEdge_50, fX3_addEdge_51, fX3_addEdge_52, fX3_addEdge_53, fX3_addEdge_54, fX3_addEdge_55, fX3_addEdge_58, fX3_addEdge_59, fX3_addEdge_60, fX3_addEdge_63, fX3_addEdge_64, fX3_addEdge_65, fX3_addEdge_66, fX3_addEdge_67, fX3_addEdge_68, fX3_addEdge_71, fX3_addEdge_74, fX3_addEdge_75, fX3_addEdge_76, fX3_addEdge_79, fX3_addEdge_80, fX3_addEdge_81, fX3_addEdge_84, ↓jo_0, ↓jo_1, ↓jo_2, ↓jo_20, ↓jo_21, ↓jo_23, ↓jo_24, ↓jo_25, ↓jo_26, ↓jo_3, ↓jo_31v, ↓jo_32, ↓jo_4, ↓jo_6, hu, hc, c6, d1, d2, d3, d4, d5, bk, i0, i1, i2, i3, i4, i5, false_and, if_false]
  refine out _ (fun r j q0 q5 q6 q7 q8 q9 => ?_) (fun j q => ?_) ?_ (fun j => ?_) (fun j => ?_) ?_ (fun j => ?_)
  · simp only [ju_at]
    rw [if_neg (by omega), if_neg (by omega), if_neg (by omega), if_neg (by omega), if_neg (by omega), if_neg (by omega), if_neg (by omega), if_neg (by omega)]
  · simp only [ju_at]
    rw [if_neg (by omega), if_neg (by omega), if_neg (by omega), if_neg (by omega), if_neg (by omega), if_neg (by omega), if_neg (by omega), if_neg (by omega)]
  · simp [ju_at]
  · simp only [ju_at]
    rw [if_neg (by omega), if_neg (by omega), if_neg (by omega), if_neg (by omega), if_neg (by omega), if_neg (by omega), if_neg (by omega)]
    simp
  · simp only [ju_at]
    rw [if_neg (by omega), if_neg (by omega), if_neg (by omega), if_neg (by omega), if_neg (by omega), if_neg (by omega)]
    by_cases c : j = e
    · simp [c]
    · rw [if_neg (fun w => c w.2), if_neg (by omega), if_neg c]
  · simp only [ju_at]
    rw [if_neg (by omega), if_neg (by omega), if_neg (by omega), if_neg (by omega), if_neg (by omega), if_pos (by simp)]
  · simp only [ju_at]
    by_cases c : j = 2 * e
    · subst c
      constructor
      · rw [if_neg (by omega), if_neg (by omega), if_neg (by omega), if_neg (by omega), if_pos (by simp), if_pos (by simp)]
      · rw [if_neg (by omega), if_neg (by omega), if_neg (by omega), if_pos (by simp), if_pos (by simp)]
    by_cases c' : j = 2 * e + 1
    · subst c'
      constructor
      · rw [if_neg (by omega), if_neg (by omega), if_pos (by simp), if_pos (by simp)]
      · rw [if_neg (by omega), if_pos (by simp), if_pos (by simp)]
    · constructor
      · rw [if_neg (by omega), if_neg (by omega), if_neg (by omega), if_neg (by omega), if_neg (by omega), if_neg (by omega), if_neg (by omega), if_neg (by omega), if_neg (by omega)]
      · rw [if_neg (by omega), if_neg (by omega), if_neg (by omega), if_neg (by omega), if_neg (by omega), if_neg (by omega), if_neg (by omega), if_neg (by omega), if_neg (by omega)]
end

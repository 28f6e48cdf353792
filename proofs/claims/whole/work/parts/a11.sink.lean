/-! The class: a corner sinks to its place; all corners. -/
theorem crR_eq {S S' : jS} {sx sy sx' sy' : Nat → Nat} {c c' : Nat → Int} {i j : Nat} (h : crR S sx sy c i) (ex : sx' j = sx i) (ey : sy' j = sy i) (hs : ∀ k, S' (307 + 2 * sx i) k = S (307 + 2 * sx i) k ∧ S' (308 + 2 * sy i) k = S (308 + 2 * sy i) k) (e : rowEq c' j c i) : crR S' sx' sy' c' j := by
  obtain ⟨a1, a2, a3, a4⟩ := h
  obtain ⟨e1, e2, e3, e4⟩ := e
  unfold crR
  rw [ex, ey, (hs 0).1, (hs 1).1, (hs 0).2, (hs 1).2, e1, e2, e3, e4]
  exact ⟨a1, a2, a3, a4⟩
theorem rowEq.sym {c c' : Nat → Int} {i j : Nat} (h : rowEq c i c' j) : rowEq c' j c i := ⟨h.1.symm, h.2.1.symm, h.2.2.1.symm, h.2.2.2.symm⟩
theorem rowEq.tr {c c' c'' : Nat → Int} {i j k : Nat} (h : rowEq c i c' j) (h' : rowEq c' j c'' k) : rowEq c i c'' k := ⟨h.1.trans h'.1, h.2.1.trans h'.2.1, h.2.2.1.trans h'.2.2.1, h.2.2.2.trans h'.2.2.2⟩
theorem crB_eq {c c' : Nat → Int} {i j : Nat} (h : rowEq c i c' j) (b : crB c' j) : crB c i := by
  obtain ⟨e1, e2, e3, e4⟩ := h
  unfold crB
  rw [e1, e2, e3, e4]
  exact b
theorem rIns_row (c : Nat → Int) (m k : Nat) (x d y e : Int) : rowEq (rIns c m k x d y e) k (fun j => if j = 0 then x else if j = 1 then d else if j = 2 then y else e) 0 := by
  obtain ⟨a1, a2, a3, a4⟩ := rIns_at (c := c) (m := m) (k := k) (x := x) (d := d) (y := y) (e := e)
  exact ⟨a1, a2, a3, a4⟩
theorem lex_tot {x1 d1 y1 e1 x2 d2 y2 e2 : Int} (h : ¬ lexL x1 d1 y1 e1 x2 d2 y2 e2) (h' : ¬ (x1 * d2 = x2 * d1 ∧ y1 * e2 = y2 * e1)) : lexL x2 d2 y2 e2 x1 d1 y1 e1 := by
  unfold lexL at *
  omega
section
variable {G : jG} {z : Nat} {S : jS} {W : Nat → Int} {T : Nat → Nat → Int} {af : Nat → Nat} {P : Option jV → jM → Prop}
set_option maxHeartbeats 2000000 in
set_option maxRecDepth 100000 in
theorem k_sinkCorner {sx sy : Nat → Nat} {c : Nat → Int} {m : Nat} {x d y e : Int} (hq : crQ S sx sy) (hm : m < 25) (r : ∀ i, i ≤ m → crR S sx sy (rIns c m m x d y e) i ∧ crB (rIns c m m x d y e) i) (ord : ∀ i j, i < j → j < m → rowLt c i c j)
    (new : ∀ i, i < m → ¬ (c (4 * i) * d = x * c (4 * i + 1) ∧ c (4 * i + 2) * e = y * c (4 * i + 3)))
    (out : ∀ S' sx' sy' k, (∀ r j, r ≠ 305 → r ≠ 306 → S' r j = S r j) → crQ S' sx' sy' → k ≤ m → (∀ i, i ≤ m → crR S' sx' sy' (rIns c m k x d y e) i) → (∀ i, i < k → lexL (c (4 * i)) (c (4 * i + 1)) (c (4 * i + 2)) (c (4 * i + 3)) x d y e) → (k < m → lexL x d y e (c (4 * k)) (c (4 * k + 1)) (c (4 * k + 2)) (c (4 * k + 3))) → P none (mm z S')) :
    jC G mX2_sinkCorner 0 0 (mm z S) [(2, ((300 : Nat) : Int)), (0, (m : Int))] P := by
  have bc : ∀ i, i < m → crB c i := fun i hi => crB_eq ((rIns_lo hi).sym) (r i (by omega)).2
  have bf : crB (fun j => if j = 0 then x else if j = 1 then d else if j = 2 then y else e) 0 := crB_eq ((rIns_row c m m x d y e).sym) (r m (Nat.le_refl _)).2
  have bk : ∀ k i, k ≤ m → i ≤ m → crB (rIns c m k x d y e) i := fun k i hk hi => by
    by_cases c1 : i < k
    · exact crB_eq (rIns_lo c1) (bc i (by omega))
    · by_cases c2 : i = k
      · subst c2; exact crB_eq (rIns_row c m i x d y e) bf
      · obtain ⟨j, rfl⟩ : ∃ j, i = j + 1 := ⟨i - 1, by omega⟩
        exact crB_eq (rIns_hi (by omega) (by omega)) (bc j (by omega))
  have main : ∀ i : Nat, i ≤ m → ∀ S' sx' sy', (∀ r j, r ≠ 305 → r ≠ 306 → S' r j = S r j) → crQ S' sx' sy' → (∀ k, k ≤ m → crR S' sx' sy' (rIns c m i x d y e) k) → (i < m → lexL x d y e (c (4 * i)) (c (4 * i + 1)) (c (4 * i + 2)) (c (4 * i + 3))) → jJ G mX2_sinkCorner 0 0 P 0 0 2 [(0, (2, ((300 : Nat) : Int))), (1, (0, (m : Int))), (2, (0, (i : Int)))] [] (mm z S') := by
    intro i
    induction i with
    | zero =>
      intro _ S' sx' sy' f q rr hi
      refine jJw kX2_sinkCorner (fun pc => false) 40 2 ?_
      simp -implicitDefEqProofs only [Nat.reduceAdd, Nat.reduceMul, Nat.reduceEqDiff, Nat.reduceBEq, Nat.reduceLT, Nat.reduceLeDiff, Int.reduceToNat, Int.reduceLE, Int.reduceLT, Int.reduceNeg, Int.reduceAdd, Int.reduceMul, Bool.or_false, Bool.or_true, Bool.true_or, Bool.false_or, jwq_s, jwp_sn, jwp_sc, jwp_0, jsum, jwx_s, ↓jol_c, ↓jo1_c, ↓jo2_c, ↓jo3_c, Bool.false_eq_true, beq_iff_eq, jst, jins_c, jins_n, jdrop_c, jdrop_n, jargs, jtg, jtag, jcnd, true_and, and_true, false_or, or_false, true_or, or_true, forall_const, ↓reduceIte, Option.toList, List.cons_append, List.nil_append, false_and, and_false, reduceCtorEq, false_imp_iff, forall_eq, true_imp_iff, joc_c, List.drop_succ_cons, List.drop_zero, List.take_succ_cons, List.take_zero, List.reverse_cons, List.reverse_nil, List.length_cons, List.length_nil, Int.reduceEq, not_true_eq_false, not_false_eq_true, mm_S, mm_L, mm_set, Int.toNat_natCast, Int.natCast_nonneg, ju_at, ne21, ne01, jrd_1, jrd_2, jrd_3, jobj_M, jfd_M0, jfd_M1, jfd_M2, jfd_M3, jfd_M4, jfd_M5, jfd_M6, jfd_M7, jfd_M8, jfd_M9, jfd_M10, jfd_M11, jfd_M12, jsn_M12, jfd_M13, jsn_M13, jfd_M14, jsn_M14, jfd_M15, jsn_M15, jarr_M5, jarr_M6, jarr_M7, jarr_M82, jarr_M83, jarr_M145, jarr_M146, jarr_M147, jarr_M8, jrd_M8, jarr_M9, jrd_M9, jarr_M84, jrd_M84, jobj_N, jfd_N0, jfd_N1, jfd_N2, jfd_N3, jsn_N3, jarr_N1, jarr_N2, jarr_N3, jobj_B, jfd_B0, jfd_B1, jfd_B2, jfd_B3, jfd_B4, jfd_B5, jsn_B5, jarr_B1, jarr_B2, jarr_B3, jarr_B4, jarr_B5, jobj_H, jfd_H0, jfd_H1, jfd_H2, jsn_H2, jfd_H3, jsn_H3, jfd_H4, jsn_H4, jfd_H5, jsn_H5, jfd_H6, jsn_H6, jfd_H7, jsn_H7, jfd_H8, jsn_H8, jfd_H9, jsn_H9, jfd_H10, jfd_H11, jarr_H429, jarr_H1, jrd_H1, jobj_P, jfd_P0, jfd_P1, jfd_P2, jsn_P2, jfd_P3, jsn_P3, jfd_P4, jsn_P4, jfd_P5, jsn_P5, jfd_P6, jsn_P6, jfd_P7, jsn_P7, jfd_P8, jsn_P8, jfd_P9, jsn_P9, jobj_G, jfd_G0, jfd_G1, jarr_G1, jarr_G2, jobj_A, jfd_A0, jsn_A0, jfd_A1, jsn_A1, jobj_O, jfd_O0, jfd_O1, jsn_O1, jfd_O2, jsn_O2, jfd_O3, jsn_O3, jfd_O4, jsn_O4, jfd_O5, jsn_O5, jfd_O6, jfd_O7, jfd_O10, jfd_O11, jarr_O1, jobj_E, jfd_E0, jfd_E1, jsn_E1, jfd_E2, jsn_E2, jfd_E3, jsn_E3, jfd_E4, jsn_E4, jfd_E5, jsn_E5, jfd_E6, jsn_E6, jfd_E7, jsn_E7, jfd_E8, jsn_E8, jfd_E9, jsn_E9, jfd_E10, jsn_E10, jfd_E11, jsn_E11, jfd_E12, jsn_E12, jfd_E13, jsn_E13, jfd_E14, jsn_E14, jarr_E1, jobj_C, jfd_C0, jfd_C1, jfd_C2, jfd_C3, jfd_C4, jfd_C5, jfd_C6, jsn_C6, jfd_C7, jsn_C7, jfd_C8, jsn_C8, jarr_C1, jarr_C2, jarr_C3, jarr_C4, jarr_C5, jarr_C6, jrd_C5, jsn_Ca5, jrd_C6, jsn_Ca6, jobj_Y, jfd_Y0, jfd_Y1, jfd_Y2, jsn_Y2, jfd_Y3, jfd_Y4, jfd_Y5, jarr_Y1, jobj_D, jfd_D0, jfd_D1, jfd_D2, jfd_D3, jsn_D3, jfd_D4, jsn_D4, jfd_D5, jsn_D5, jfd_D6, jfd_D7, jsn_D7, jfd_D8, jsn_D8, jfd_D9, jsn_D9, jfd_D10, jsn_D10, jfd_D11, jsn_D11, jfd_D12, jsn_D12, jfd_D13, jsn_D13, jfd_D14, jsn_D14, jfd_D15, jsn_D15, jfd_D16, jsn_D16, jarr_D1, jfd_O8c, jfd_O9c, hU_CK, hU_OT, jL32_0, jL32_1, jL32_2, jL32_3, jL32_4, jL32_5, jL32_6, jL32_7, jL32_8, jL32_9, jL32_10, jL32_11, jL32_12, jL32_13, jL32_14, jL32_15, jL32_16, jL32_17, jL32_18, jL32_19, jL32_20, jL32_21, jL32_22, jL32_23, jL32_24, jL32_25, jL32_26, jL32_27, jL32_28, jL32_29, jL32_30, jL32_31, jL32_32, jL32_33, jL32_34, jL32_35, jL32_36, jL32_37, jL32_38, jL32_39, jL32_57, jL32_60, jL32_97, jL32_122, jL32_255, jLm32_1, jLm32_2, jLm32_3, jLm32_1000, jL64_0, jL64_1, zne_10, zne_00, zne_01, zne_11, false_imp_iff, true_imp_iff, fX2_sinkCorner_0, fX2_sinkCorner_1, fX2_sinkCorner_2, fX2_sinkCorner_3, fX2_sinkCorner_6, fX2_sinkCorner_7, fX2_sinkCorner_8, fX2_sinkCorner_9, fX2_sinkCorner_10, fX2_sinkCorner_11, fX2_sinkCorner_14, fX2_sinkCorner_17, fX2_sinkCorner_18, fX2_sinkCorner_21, fX2_sinkCorner_22, fX2_sinkCorner_23, fX2_sinkCorner_24, fX2_sinkCorner_25, fX2_sinkCorner_28, fX2_sinkCorner_29, fX2_sinkCorner_30, fX2_sinkCorner_33, fX2_sinkCorner_34, fX2_sinkCorner_35, fX2_sinkCorner_36, fX2_sinkCorner_37, fX2_sinkCorner_38, fX2_sinkCorner_39, fX2_sinkCorner_42, fX2_sinkCorner_43, fX2_sinkCorner_44, fX2_sinkCorner_45, fX2_sinkCorner_46, fX2_sinkCorner_47, fX2_sinkCorner_48, fX2_sinkCorner_51, fX2_sinkCorner_52, fX2_sinkCorner_53, fX2_sinkCorner_55, fX2_sinkCorner_56, fX2_sinkCorner_59, fX2_sinkCorner_60, fX2_sinkCorner_61, fX2_sinkCorner_64, fX2_sinkCorner_65, fX2_sinkCorner_66, fX2_sinkCorner_67, fX2_sinkCorner_68, fX2_sinkCorner_69, fX2_sinkCorner_70, fX2_sinkCorner_73, fX2_sinkCorner_74, fX2_sinkCorner_75, fX2_sinkCorner_76, fX2_sinkCorner_78, fX2_sinkCorner_79, fX2_sinkCorner_82, fX2_sinkCorner_85, jtm_94, ↓jo_0, ↓jo_1, ↓jo_19, ↓jo_2, ↓jo_21, ↓jo_23, ↓jo_25, ↓jo_28, ↓jo_3, ↓jo_31v, ↓jo_43, ↓jo_5]
      exact ⟨jI32_nat (by omega), fun _ => out S' sx' sy' 0 f q (by omega) rr (fun i hi => by omega) hi, fun w => absurd (by decide) w⟩
    | succ i ih =>
      intro him S' sx' sy' f q rr hi
      have e1 : ((i + 1 : Nat) : Int) - 1 = (i : Int) := by omega
      have ei : ((i + 1 : Nat) : Int).toNat = i + 1 := Int.toNat_natCast _
      refine jJw kX2_sinkCorner (fun pc => pc == 2) 60 2 ?_
      simp -implicitDefEqProofs only [Nat.reduceAdd, Nat.reduceMul, Nat.reduceEqDiff, Nat.reduceBEq, Nat.reduceLT, Nat.reduceLeDiff, Int.reduceToNat, Int.reduceLE, Int.reduceLT, Int.reduceNeg, Int.reduceAdd, Int.reduceMul, Bool.or_false, Bool.or_true, Bool.true_or, Bool.false_or, jwq_s, jwp_sn, jwp_sc, jwp_0, jsum, jwx_s, ↓jol_c, ↓jo1_c, ↓jo2_c, ↓jo3_c, Bool.false_eq_true, beq_iff_eq, jst, jins_c, jins_n, jdrop_c, jdrop_n, jargs, jtg, jtag, jcnd, true_and, and_true, false_or, or_false, true_or, or_true, forall_const, ↓reduceIte, Option.toList, List.cons_append, List.nil_append, false_and, and_false, reduceCtorEq, false_imp_iff, forall_eq, true_imp_iff, joc_c, List.drop_succ_cons, List.drop_zero, List.take_succ_cons, List.take_zero, List.reverse_cons, List.reverse_nil, List.length_cons, List.length_nil, Int.reduceEq, not_true_eq_false, not_false_eq_true, mm_S, mm_L, mm_set, Int.toNat_natCast, Int.natCast_nonneg, ju_at, ne21, ne01, jrd_1, jrd_2, jrd_3, jobj_M, jfd_M0, jfd_M1, jfd_M2, jfd_M3, jfd_M4, jfd_M5, jfd_M6, jfd_M7, jfd_M8, jfd_M9, jfd_M10, jfd_M11, jfd_M12, jsn_M12, jfd_M13, jsn_M13, jfd_M14, jsn_M14, jfd_M15, jsn_M15, jarr_M5, jarr_M6, jarr_M7, jarr_M82, jarr_M83, jarr_M145, jarr_M146, jarr_M147, jarr_M8, jrd_M8, jarr_M9, jrd_M9, jarr_M84, jrd_M84, jobj_N, jfd_N0, jfd_N1, jfd_N2, jfd_N3, jsn_N3, jarr_N1, jarr_N2, jarr_N3, jobj_B, jfd_B0, jfd_B1, jfd_B2, jfd_B3, jfd_B4, jfd_B5, jsn_B5, jarr_B1, jarr_B2, jarr_B3, jarr_B4, jarr_B5, jobj_H, jfd_H0, jfd_H1, jfd_H2, jsn_H2, jfd_H3, jsn_H3, jfd_H4, jsn_H4, jfd_H5, jsn_H5, jfd_H6, jsn_H6, jfd_H7, jsn_H7, jfd_H8, jsn_H8, jfd_H9, jsn_H9, jfd_H10, jfd_H11, jarr_H429, jarr_H1, jrd_H1, jobj_P, jfd_P0, jfd_P1, jfd_P2, jsn_P2, jfd_P3, jsn_P3, jfd_P4, jsn_P4, jfd_P5, jsn_P5, jfd_P6, jsn_P6, jfd_P7, jsn_P7, jfd_P8, jsn_P8, jfd_P9, jsn_P9, jobj_G, jfd_G0, jfd_G1, jarr_G1, jarr_G2, jobj_A, jfd_A0, jsn_A0, jfd_A1, jsn_A1, jobj_O, jfd_O0, jfd_O1, jsn_O1, jfd_O2, jsn_O2, jfd_O3, jsn_O3, jfd_O4, jsn_O4, jfd_O5, jsn_O5, jfd_O6, jfd_O7, jfd_O10, jfd_O11, jarr_O1, jobj_E, jfd_E0, jfd_E1, jsn_E1, jfd_E2, jsn_E2, jfd_E3, jsn_E3, jfd_E4, jsn_E4, jfd_E5, jsn_E5, jfd_E6, jsn_E6, jfd_E7, jsn_E7, jfd_E8, jsn_E8, jfd_E9, jsn_E9, jfd_E10, jsn_E10, jfd_E11, jsn_E11, jfd_E12, jsn_E12, jfd_E13, jsn_E13, jfd_E14, jsn_E14, jarr_E1, jobj_C, jfd_C0, jfd_C1, jfd_C2, jfd_C3, jfd_C4, jfd_C5, jfd_C6, jsn_C6, jfd_C7, jsn_C7, jfd_C8, jsn_C8, jarr_C1, jarr_C2, jarr_C3, jarr_C4, jarr_C5, jarr_C6, jrd_C5, jsn_Ca5, jrd_C6, jsn_Ca6, jobj_Y, jfd_Y0, jfd_Y1, jfd_Y2, jsn_Y2, jfd_Y3, jfd_Y4, jfd_Y5, jarr_Y1, jobj_D, jfd_D0, jfd_D1, jfd_D2, jfd_D3, jsn_D3, jfd_D4, jsn_D4, jfd_D5, jsn_D5, jfd_D6, jfd_D7, jsn_D7, jfd_D8, jsn_D8, jfd_D9, jsn_D9, jfd_D10, jsn_D10, jfd_D11, jsn_D11, jfd_D12, jsn_D12, jfd_D13, jsn_D13, jfd_D14, jsn_D14, jfd_D15, jsn_D15, jfd_D16, jsn_D16, jarr_D1, jfd_O8c, jfd_O9c, hU_CK, hU_OT, jL32_0, jL32_1, jL32_2, jL32_3, jL32_4, jL32_5, jL32_6, jL32_7, jL32_8, jL32_9, jL32_10, jL32_11, jL32_12, jL32_13, jL32_14, jL32_15, jL32_16, jL32_17, jL32_18, jL32_19, jL32_20, jL32_21, jL32_22, jL32_23, jL32_24, jL32_25, jL32_26, jL32_27, jL32_28, jL32_29, jL32_30, jL32_31, jL32_32, jL32_33, jL32_34, jL32_35, jL32_36, jL32_37, jL32_38, jL32_39, jL32_57, jL32_60, jL32_97, jL32_122, jL32_255, jLm32_1, jLm32_2, jLm32_3, jLm32_1000, jL64_0, jL64_1, zne_10, zne_00, zne_01, zne_11, false_imp_iff, true_imp_iff, fX2_sinkCorner_0, fX2_sinkCorner_1, fX2_sinkCorner_2, fX2_sinkCorner_3, fX2_sinkCorner_6, fX2_sinkCorner_7, fX2_sinkCorner_8, fX2_sinkCorner_9, fX2_sinkCorner_10, fX2_sinkCorner_11, fX2_sinkCorner_14, fX2_sinkCorner_17, fX2_sinkCorner_18, fX2_sinkCorner_21, fX2_sinkCorner_22, fX2_sinkCorner_23, fX2_sinkCorner_24, fX2_sinkCorner_25, fX2_sinkCorner_28, fX2_sinkCorner_29, fX2_sinkCorner_30, fX2_sinkCorner_33, fX2_sinkCorner_34, fX2_sinkCorner_35, fX2_sinkCorner_36, fX2_sinkCorner_37, fX2_sinkCorner_38, fX2_sinkCorner_39, fX2_sinkCorner_42, fX2_sinkCorner_43, fX2_sinkCorner_44, fX2_sinkCorner_45, fX2_sinkCorner_46, fX2_sinkCorner_47, fX2_sinkCorner_48, fX2_sinkCorner_51, fX2_sinkCorner_52, fX2_sinkCorner_53, fX2_sinkCorner_55, fX2_sinkCorner_56, fX2_sinkCorner_59, fX2_sinkCorner_60, fX2_sinkCorner_61, fX2_sinkCorner_64, fX2_sinkCorner_65, fX2_sinkCorner_66, fX2_sinkCorner_67, fX2_sinkCorner_68, fX2_sinkCorner_69, fX2_sinkCorner_70, fX2_sinkCorner_73, fX2_sinkCorner_74, fX2_sinkCorner_75, fX2_sinkCorner_76, fX2_sinkCorner_78, fX2_sinkCorner_79, fX2_sinkCorner_82, fX2_sinkCorner_85, jtm_94, ↓jo_0, ↓jo_1, ↓jo_19, ↓jo_2, ↓jo_21, ↓jo_23, ↓jo_25, ↓jo_28, ↓jo_3, ↓jo_31v, ↓jo_43, ↓jo_5, e1]
      refine ⟨jI32_nat (by omega), fun w => by omega, fun _ => ?_⟩
      have fr := rIns_row c m (i + 1) x d y e
      have lo := rIns_lo (c := c) (m := m) (k := i + 1) (i := i) (x := x) (d := d) (y := y) (e := e) (by omega)
      refine k_order2 q (by omega) (by omega) (rr (i + 1) him) (rr i (by omega)) (bk _ _ him him) (bk _ _ him (by omega)) (fun v v32 v1 v2 => ?_)
      have v1' : v < 0 ↔ lexL x d y e (c (4 * i)) (c (4 * i + 1)) (c (4 * i + 2)) (c (4 * i + 3)) := by
        rw [v1]
        unfold rowLt
        rw [lo.1, lo.2.1, lo.2.2.1, lo.2.2.2, fr.1, fr.2.1, fr.2.2.1, fr.2.2.2]
        exact Iff.rfl
      obtain ⟨x1, y1, lx1, ly1⟩ := q.1 (i + 1) (by omega)
      obtain ⟨x0, y0, lx0, ly0⟩ := q.1 i (by omega)
      have ux1 := aU_x lx1
      have ux0 := aU_x lx0
      have uy1 := aU_y ly1
      have uy0 := aU_y ly0
      have ni : ¬ (i = i + 1) := by omega
      simp -implicitDefEqProofs only [Nat.reduceAdd, Nat.reduceMul, Nat.reduceEqDiff, Nat.reduceBEq, Nat.reduceLT, Nat.reduceLeDiff, Int.reduceToNat, Int.reduceLE, Int.reduceLT, Int.reduceNeg, Int.reduceAdd, Int.reduceMul, Bool.or_false, Bool.or_true, Bool.true_or, Bool.false_or, jwq_s, jwp_sn, jwp_sc, jwp_0, jsum, jwx_s, ↓jol_c, ↓jo1_c, ↓jo2_c, ↓jo3_c, Bool.false_eq_true, beq_iff_eq, jst, jins_c, jins_n, jdrop_c, jdrop_n, jargs, jtg, jtag, jcnd, true_and, and_true, false_or, or_false, true_or, or_true, forall_const, ↓reduceIte, Option.toList, List.cons_append, List.nil_append, false_and, and_false, reduceCtorEq, false_imp_iff, forall_eq, true_imp_iff, joc_c, List.drop_succ_cons, List.drop_zero, List.take_succ_cons, List.take_zero, List.reverse_cons, List.reverse_nil, List.length_cons, List.length_nil, Int.reduceEq, not_true_eq_false, not_false_eq_true, mm_S, mm_L, mm_set, Int.toNat_natCast, Int.natCast_nonneg, ju_at, ne21, ne01, jrd_1, jrd_2, jrd_3, jobj_M, jfd_M0, jfd_M1, jfd_M2, jfd_M3, jfd_M4, jfd_M5, jfd_M6, jfd_M7, jfd_M8, jfd_M9, jfd_M10, jfd_M11, jfd_M12, jsn_M12, jfd_M13, jsn_M13, jfd_M14, jsn_M14, jfd_M15, jsn_M15, jarr_M5, jarr_M6, jarr_M7, jarr_M82, jarr_M83, jarr_M145, jarr_M146, jarr_M147, jarr_M8, jrd_M8, jarr_M9, jrd_M9, jarr_M84, jrd_M84, jobj_N, jfd_N0, jfd_N1, jfd_N2, jfd_N3, jsn_N3, jarr_N1, jarr_N2, jarr_N3, jobj_B, jfd_B0, jfd_B1, jfd_B2, jfd_B3, jfd_B4, jfd_B5, jsn_B5, jarr_B1, jarr_B2, jarr_B3, jarr_B4, jarr_B5, jobj_H, jfd_H0, jfd_H1, jfd_H2, jsn_H2, jfd_H3, jsn_H3, jfd_H4, jsn_H4, jfd_H5, jsn_H5, jfd_H6, jsn_H6, jfd_H7, jsn_H7, jfd_H8, jsn_H8, jfd_H9, jsn_H9, jfd_H10, jfd_H11, jarr_H429, jarr_H1, jrd_H1, jobj_P, jfd_P0, jfd_P1, jfd_P2, jsn_P2, jfd_P3, jsn_P3, jfd_P4, jsn_P4, jfd_P5, jsn_P5, jfd_P6, jsn_P6, jfd_P7, jsn_P7, jfd_P8, jsn_P8, jfd_P9, jsn_P9, jobj_G, jfd_G0, jfd_G1, jarr_G1, jarr_G2, jobj_A, jfd_A0, jsn_A0, jfd_A1, jsn_A1, jobj_O, jfd_O0, jfd_O1, jsn_O1, jfd_O2, jsn_O2, jfd_O3, jsn_O3, jfd_O4, jsn_O4, jfd_O5, jsn_O5, jfd_O6, jfd_O7, jfd_O10, jfd_O11, jarr_O1, jobj_E, jfd_E0, jfd_E1, jsn_E1, jfd_E2, jsn_E2, jfd_E3, jsn_E3, jfd_E4, jsn_E4, jfd_E5, jsn_E5, jfd_E6, jsn_E6, jfd_E7, jsn_E7, jfd_E8, jsn_E8, jfd_E9, jsn_E9, jfd_E10, jsn_E10, jfd_E11, jsn_E11, jfd_E12, jsn_E12, jfd_E13, jsn_E13, jfd_E14, jsn_E14, jarr_E1, jobj_C, jfd_C0, jfd_C1, jfd_C2, jfd_C3, jfd_C4, jfd_C5, jfd_C6, jsn_C6, jfd_C7, jsn_C7, jfd_C8, jsn_C8, jarr_C1, jarr_C2, jarr_C3, jarr_C4, jarr_C5, jarr_C6, jrd_C5, jsn_Ca5, jrd_C6, jsn_Ca6, jobj_Y, jfd_Y0, jfd_Y1, jfd_Y2, jsn_Y2, jfd_Y3, jfd_Y4, jfd_Y5, jarr_Y1, jobj_D, jfd_D0, jfd_D1, jfd_D2, jfd_D3, jsn_D3, jfd_D4, jsn_D4, jfd_D5, jsn_D5, jfd_D6, jfd_D7, jsn_D7, jfd_D8, jsn_D8, jfd_D9, jsn_D9, jfd_D10, jsn_D10, jfd_D11, jsn_D11, jfd_D12, jsn_D12, jfd_D13, jsn_D13, jfd_D14, jsn_D14, jfd_D15, jsn_D15, jfd_D16, jsn_D16, jarr_D1, jfd_O8c, jfd_O9c, hU_CK, hU_OT, jL32_0, jL32_1, jL32_2, jL32_3, jL32_4, jL32_5, jL32_6, jL32_7, jL32_8, jL32_9, jL32_10, jL32_11, jL32_12, jL32_13, jL32_14, jL32_15, jL32_16, jL32_17, jL32_18, jL32_19, jL32_20, jL32_21, jL32_22, jL32_23, jL32_24, jL32_25, jL32_26, jL32_27, jL32_28, jL32_29, jL32_30, jL32_31, jL32_32, jL32_33, jL32_34, jL32_35, jL32_36, jL32_37, jL32_38, jL32_39, jL32_57, jL32_60, jL32_97, jL32_122, jL32_255, jLm32_1, jLm32_2, jLm32_3, jLm32_1000, jL64_0, jL64_1, zne_10, zne_00, zne_01, zne_11, false_imp_iff, true_imp_iff, fX2_sinkCorner_0, fX2_sinkCorner_1, fX2_sinkCorner_2, fX2_sinkCorner_3, fX2_sinkCorner_6, fX2_sinkCorner_7, fX2_sinkCorner_8, fX2_sinkCorner_9, fX2_sinkCorner_10, fX2_sinkCorner_11, fX2_sinkCorner_14, fX2_sinkCorner_17, fX2_sinkCorner_18, fX2_sinkCorner_21, fX2_sinkCorner_22, fX2_sinkCorner_23, fX2_sinkCorner_24, fX2_sinkCorner_25, fX2_sinkCorner_28, fX2_sinkCorner_29, fX2_sinkCorner_30, fX2_sinkCorner_33, fX2_sinkCorner_34, fX2_sinkCorner_35, fX2_sinkCorner_36, fX2_sinkCorner_37, fX2_sinkCorner_38, fX2_sinkCorner_39, fX2_sinkCorner_42, fX2_sinkCorner_43, fX2_sinkCorner_44, fX2_sinkCorner_45, fX2_sinkCorner_46, fX2_sinkCorner_47, fX2_sinkCorner_48, fX2_sinkCorner_51, fX2_sinkCorner_52, fX2_sinkCorner_53, fX2_sinkCorner_55, fX2_sinkCorner_56, fX2_sinkCorner_59, fX2_sinkCorner_60, fX2_sinkCorner_61, fX2_sinkCorner_64, fX2_sinkCorner_65, fX2_sinkCorner_66, fX2_sinkCorner_67, fX2_sinkCorner_68, fX2_sinkCorner_69, fX2_sinkCorner_70, fX2_sinkCorner_73, fX2_sinkCorner_74, fX2_sinkCorner_75, fX2_sinkCorner_76, fX2_sinkCorner_78, fX2_sinkCorner_79, fX2_sinkCorner_82, fX2_sinkCorner_85, jtm_94, ↓jo_0, ↓jo_1, ↓jo_19, ↓jo_2, ↓jo_21, ↓jo_23, ↓jo_25, ↓jo_28, ↓jo_3, ↓jo_31v, ↓jo_43, ↓jo_5, e1, x1, x0, y1, y0, ux1, ux0, uy1, uy0, ni]
      refine ⟨v32, fun w => ?_, fun w => ?_⟩
      · refine out S' sx' sy' (i + 1) f q him rr (fun j hj => ?_) hi
        have nw := new i (by omega)
        have top : lexL (c (4 * i)) (c (4 * i + 1)) (c (4 * i + 2)) (c (4 * i + 3)) x d y e := lex_tot (fun u => by have := v1'.mpr u; omega) (fun u => nw ⟨by rw [u.1], by rw [u.2]⟩)
        by_cases e : j = i
        · subst e; exact top
        · have b1 := bc j (by omega)
          have b2 := bc i (by omega)
          obtain ⟨-, c2, -, c4⟩ := b1
          obtain ⟨-, d2, -, d4⟩ := b2
          obtain ⟨-, f2, -, f4⟩ := bf
          exact lex_tr c2.1 d2.1 f2.1 c4.1 d4.1 f4.1 (ord j i (by omega) (by omega)) top
      · have wl := v1'.mp (by omega)
        refine ⟨by omega, by omega, by omega, by omega, by omega, by omega, by omega, by omega, ?_⟩
        refine (ih (by omega) _ (fun k => if k = i + 1 then sx' i else if k = i then sx' (i + 1) else sx' k) (fun k => if k = i + 1 then sy' i else if k = i then sy' (i + 1) else sy' k) (fun r j a b => ?_) ⟨fun k hk => ?_, fun j k hj hk jk => ?_⟩ (fun k hk => ?_) (fun _ => wl)).sub (by simp; omega)
        · rw [ju_at, if_neg (fun w => b w.1), ju_at, if_neg (fun w => b w.1), ju_at, if_neg (fun w => a w.1), ju_at, if_neg (fun w => a w.1)]
          exact f r j a b
        · obtain ⟨p1, p2, p3, p4⟩ := q.1 k hk
          simp only [ju_at]
          by_cases c1 : k = i + 1
          · subst c1
            simp
            exact ⟨lx0, ly0⟩
          · by_cases c2 : k = i
            · subst c2
              simp
              exact ⟨lx1, ly1⟩
            · simp [c1, c2]
              exact ⟨p1, p2, p3, p4⟩
        · have i1 := q.2 (i + 1) i (by omega) (by omega) (by omega)
          by_cases c1 : j = i + 1
          · subst c1
            by_cases c3 : k = i
            · subst c3
              simp
              exact ⟨fun w => i1.1 w.symm, fun w => i1.2 w.symm⟩
            · have := q.2 i k (by omega) hk (fun w => c3 w.symm)
              have nk : ¬ k = i + 1 := fun w => jk w.symm
              simp [c3, nk]
              exact this
          · by_cases c2 : j = i
            · subst c2
              by_cases c3 : k = j + 1
              · subst c3
                simp
                exact i1
              · have := q.2 (j + 1) k (by omega) hk (fun w => c3 w.symm)
                have nk : ¬ k = j := fun w => jk w.symm
                simp [c3, nk]
                exact this
            · by_cases c3 : k = i + 1
              · subst c3
                have := q.2 j i hj (by omega) c2
                simp [c1, c2]
                exact this
              · by_cases c4 : k = i
                · subst c4
                  have := q.2 j (k + 1) hj (by omega) c1
                  simp [c1, c2]
                  exact this
                · have := q.2 j k hj hk jk
                  simp [c1, c2, c3, c4]
                  exact this
        · have hs : ∀ s t : Nat, ∀ k, (∀ X, ju (ju (ju (ju S' 305 (i + 1) ((307 + 2 * sx' i : Nat) : Int)) 305 i ((307 + 2 * sx' (i + 1) : Nat) : Int)) 306 (i + 1) ((308 + 2 * sy' i : Nat) : Int)) 306 i ((308 + 2 * sy' (i + 1) : Nat) : Int) X k = (if X = 305 ∨ X = 306 then ju (ju (ju (ju S' 305 (i + 1) ((307 + 2 * sx' i : Nat) : Int)) 305 i ((307 + 2 * sx' (i + 1) : Nat) : Int)) 306 (i + 1) ((308 + 2 * sy' i : Nat) : Int)) 306 i ((308 + 2 * sy' (i + 1) : Nat) : Int) X k else S' X k)) := fun s t k X => by
            by_cases cX : X = 305 ∨ X = 306
            · rw [if_pos cX]
            · rw [if_neg cX, ju_at, if_neg (by omega), ju_at, if_neg (by omega), ju_at, if_neg (by omega), ju_at, if_neg (by omega)]
          have hs2 : ∀ s t k : Nat, ju (ju (ju (ju S' 305 (i + 1) ((307 + 2 * sx' i : Nat) : Int)) 305 i ((307 + 2 * sx' (i + 1) : Nat) : Int)) 306 (i + 1) ((308 + 2 * sy' i : Nat) : Int)) 306 i ((308 + 2 * sy' (i + 1) : Nat) : Int) (307 + 2 * s) k = S' (307 + 2 * s) k ∧ ju (ju (ju (ju S' 305 (i + 1) ((307 + 2 * sx' i : Nat) : Int)) 305 i ((307 + 2 * sx' (i + 1) : Nat) : Int)) 306 (i + 1) ((308 + 2 * sy' i : Nat) : Int)) 306 i ((308 + 2 * sy' (i + 1) : Nat) : Int) (308 + 2 * t) k = S' (308 + 2 * t) k := fun s t k => by
            rw [hs s t k, if_neg (by omega), hs s t k, if_neg (by omega)]
            exact ⟨rfl, rfl⟩
          by_cases c1 : k = i + 1
          · subst c1
            refine crR_eq (i := i) (rr i (by omega)) (by simp) (by simp) (fun k => hs2 _ _ k) ?_
            exact (rIns_hi (by omega) (by omega)).tr lo.sym
          · by_cases c2 : k = i
            · subst c2
              refine crR_eq (i := k + 1) (rr (k + 1) him) (by simp) (by simp) (fun k => hs2 _ _ k) ?_
              exact (rIns_row c m k x d y e).tr fr.sym
            · refine crR_eq (i := k) (rr k hk) (by simp [c1, c2]) (by simp [c1, c2]) (fun k => hs2 _ _ k) ?_
              by_cases c3 : k < i
              · exact (rIns_lo c3).tr (rIns_lo (by omega)).sym
              · obtain ⟨j, rfl⟩ : ∃ j, k = j + 1 := ⟨k - 1, by omega⟩
                exact (rIns_hi (by omega) (by omega)).tr (rIns_hi (by omega) (by omega)).sym
  refine jCw kX2_sinkCorner jn_X2 (fun pc => pc == 2) 40 (Nat.le_of_ble_eq_true rfl) ?_
  simp -implicitDefEqProofs only [Nat.reduceAdd, Nat.reduceMul, Nat.reduceEqDiff, Nat.reduceBEq, Nat.reduceLT, Nat.reduceLeDiff, Int.reduceToNat, Int.reduceLE, Int.reduceLT, Int.reduceNeg, Int.reduceAdd, Int.reduceMul, Bool.or_false, Bool.or_true, Bool.true_or, Bool.false_or, jwq_s, jwp_sn, jwp_sc, jwp_0, jsum, jwx_s, ↓jol_c, ↓jo1_c, ↓jo2_c, ↓jo3_c, Bool.false_eq_true, beq_iff_eq, jst, jins_c, jins_n, jdrop_c, jdrop_n, jargs, jtg, jtag, jcnd, true_and, and_true, false_or, or_false, true_or, or_true, forall_const, ↓reduceIte, Option.toList, List.cons_append, List.nil_append, false_and, and_false, reduceCtorEq, false_imp_iff, forall_eq, true_imp_iff, joc_c, List.drop_succ_cons, List.drop_zero, List.take_succ_cons, List.take_zero, List.reverse_cons, List.reverse_nil, List.length_cons, List.length_nil, Int.reduceEq, not_true_eq_false, not_false_eq_true, mm_S, mm_L, mm_set, Int.toNat_natCast, Int.natCast_nonneg, ju_at, ne21, ne01, jrd_1, jrd_2, jrd_3, jobj_M, jfd_M0, jfd_M1, jfd_M2, jfd_M3, jfd_M4, jfd_M5, jfd_M6, jfd_M7, jfd_M8, jfd_M9, jfd_M10, jfd_M11, jfd_M12, jsn_M12, jfd_M13, jsn_M13, jfd_M14, jsn_M14, jfd_M15, jsn_M15, jarr_M5, jarr_M6, jarr_M7, jarr_M82, jarr_M83, jarr_M145, jarr_M146, jarr_M147, jarr_M8, jrd_M8, jarr_M9, jrd_M9, jarr_M84, jrd_M84, jobj_N, jfd_N0, jfd_N1, jfd_N2, jfd_N3, jsn_N3, jarr_N1, jarr_N2, jarr_N3, jobj_B, jfd_B0, jfd_B1, jfd_B2, jfd_B3, jfd_B4, jfd_B5, jsn_B5, jarr_B1, jarr_B2, jarr_B3, jarr_B4, jarr_B5, jobj_H, jfd_H0, jfd_H1, jfd_H2, jsn_H2, jfd_H3, jsn_H3, jfd_H4, jsn_H4, jfd_H5, jsn_H5, jfd_H6, jsn_H6, jfd_H7, jsn_H7, jfd_H8, jsn_H8, jfd_H9, jsn_H9, jfd_H10, jfd_H11, jarr_H429, jarr_H1, jrd_H1, jobj_P, jfd_P0, jfd_P1, jfd_P2, jsn_P2, jfd_P3, jsn_P3, jfd_P4, jsn_P4, jfd_P5, jsn_P5, jfd_P6, jsn_P6, jfd_P7, jsn_P7, jfd_P8, jsn_P8, jfd_P9, jsn_P9, jobj_G, jfd_G0, jfd_G1, jarr_G1, jarr_G2, jobj_A, jfd_A0, jsn_A0, jfd_A1, jsn_A1, jobj_O, jfd_O0, jfd_O1, jsn_O1, jfd_O2, jsn_O2, jfd_O3, jsn_O3, jfd_O4, jsn_O4, jfd_O5, jsn_O5, jfd_O6, jfd_O7, jfd_O10, jfd_O11, jarr_O1, jobj_E, jfd_E0, jfd_E1, jsn_E1, jfd_E2, jsn_E2, jfd_E3, jsn_E3, jfd_E4, jsn_E4, jfd_E5, jsn_E5, jfd_E6, jsn_E6, jfd_E7, jsn_E7, jfd_E8, jsn_E8, jfd_E9, jsn_E9, jfd_E10, jsn_E10, jfd_E11, jsn_E11, jfd_E12, jsn_E12, jfd_E13, jsn_E13, jfd_E14, jsn_E14, jarr_E1, jobj_C, jfd_C0, jfd_C1, jfd_C2, jfd_C3, jfd_C4, jfd_C5, jfd_C6, jsn_C6, jfd_C7, jsn_C7, jfd_C8, jsn_C8, jarr_C1, jarr_C2, jarr_C3, jarr_C4, jarr_C5, jarr_C6, jrd_C5, jsn_Ca5, jrd_C6, jsn_Ca6, jobj_Y, jfd_Y0, jfd_Y1, jfd_Y2, jsn_Y2, jfd_Y3, jfd_Y4, jfd_Y5, jarr_Y1, jobj_D, jfd_D0, jfd_D1, jfd_D2, jfd_D3, jsn_D3, jfd_D4, jsn_D4, jfd_D5, jsn_D5, jfd_D6, jfd_D7, jsn_D7, jfd_D8, jsn_D8, jfd_D9, jsn_D9, jfd_D10, jsn_D10, jfd_D11, jsn_D11, jfd_D12, jsn_D12, jfd_D13, jsn_D13, jfd_D14, jsn_D14, jfd_D15, jsn_D15, jfd_D16, jsn_D16, jarr_D1, jfd_O8c, jfd_O9c, hU_CK, hU_OT, jL32_0, jL32_1, jL32_2, jL32_3, jL32_4, jL32_5, jL32_6, jL32_7, jL32_8, jL32_9, jL32_10, jL32_11, jL32_12, jL32_13, jL32_14, jL32_15, jL32_16, jL32_17, jL32_18, jL32_19, jL32_20, jL32_21, jL32_22, jL32_23, jL32_24, jL32_25, jL32_26, jL32_27, jL32_28, jL32_29, jL32_30, jL32_31, jL32_32, jL32_33, jL32_34, jL32_35, jL32_36, jL32_37, jL32_38, jL32_39, jL32_57, jL32_60, jL32_97, jL32_122, jL32_255, jLm32_1, jLm32_2, jLm32_3, jLm32_1000, jL64_0, jL64_1, zne_10, zne_00, zne_01, zne_11, false_imp_iff, true_imp_iff, fX2_sinkCorner_0, fX2_sinkCorner_1, fX2_sinkCorner_2, fX2_sinkCorner_3, fX2_sinkCorner_6, fX2_sinkCorner_7, fX2_sinkCorner_8, fX2_sinkCorner_9, fX2_sinkCorner_10, fX2_sinkCorner_11, fX2_sinkCorner_14, fX2_sinkCorner_17, fX2_sinkCorner_18, fX2_sinkCorner_21, fX2_sinkCorner_22, fX2_sinkCorner_23, fX2_sinkCorner_24, fX2_sinkCorner_25, fX2_sinkCorner_28, fX2_sinkCorner_29, fX2_sinkCorner_30, fX2_sinkCorner_33, fX2_sinkCorner_34, fX2_sinkCorner_35, fX2_sinkCorner_36, fX2_sinkCorner_37, fX2_sinkCorner_38, fX2_sinkCorner_39, fX2_sinkCorner_42, fX2_sinkCorner_43, fX2_sinkCorner_44, fX2_sinkCorner_45, fX2_sinkCorner_46, fX2_sinkCorner_47, fX2_sinkCorner_48, fX2_sinkCorner_51, fX2_sinkCorner_52, fX2_sinkCorner_53, fX2_sinkCorner_55, fX2_sinkCorner_56, fX2_sinkCorner_59, fX2_sinkCorner_60, fX2_sinkCorner_61, fX2_sinkCorner_64, fX2_sinkCorner_65, fX2_sinkCorner_66, fX2_sinkCorner_67, fX2_sinkCorner_68, fX2_sinkCorner_69, fX2_sinkCorner_70, fX2_sinkCorner_73, fX2_sinkCorner_74, fX2_sinkCorner_75, fX2_sinkCorner_76, fX2_sinkCorner_78, fX2_sinkCorner_79, fX2_sinkCorner_82, fX2_sinkCorner_85, jtm_94, ↓jo_0, ↓jo_1, ↓jo_19, ↓jo_2, ↓jo_21, ↓jo_23, ↓jo_25, ↓jo_28, ↓jo_3, ↓jo_31v, ↓jo_43, ↓jo_5]
  exact main m (Nat.le_refl _) S sx sy (fun _ _ _ _ => rfl) hq (fun k hk => (r k hk).1) (fun w => by omega)
end

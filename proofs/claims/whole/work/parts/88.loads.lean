/-! The class's cutter: turn, load, growAlong, join. -/
/-- limits of a set that is held -/
def smL (n : Nat) (u d : Nat → Int) : Prop := ∀ k, k < n → (-3000000 ≤ u k ∧ u k ≤ 3000000) ∧ (0 < d k ∧ d k ≤ 3000)
def rgR (r : Nat) (S : jS) (n : Nat) (u d : Nat → Int) : Prop := ∀ k, k < n → S (r + 1) k = u k ∧ S (r + 2) k = d k
def cuL (S : jS) (n : Nat) (u d : Nat → Int) : Prop := ∀ k, k < n → S 301 k = u k ∧ S 302 k = d k
theorem rgR.fr {r : Nat} {S S' : jS} {n : Nat} {u d : Nat → Int} (h : rgR r S n u d) (hr : rU r) (f : frU S S') : rgR r S' n u d := fun k hk => by
  have b := rU_b hr
  rw [f _ k (by omega), f _ k (by omega)]
  exact h k hk
theorem wfN_9 {W : Nat → Int} (h : wfN W) {k : Nat} (hk : k < wN W) : (-9 ≤ wA W k ∧ wA W k ≤ 9) ∧ (-9 ≤ wB W k ∧ wB W k ≤ 9) := ⟨(h.2.1 k hk).1.1, (h.2.1 k hk).1.2.1⟩
theorem tn_b {W : Nat → Int} (h : wfN W) {i j : Nat} (hi : i < wN W) (hj : j < wN W) : -162 ≤ tn (wA W) (wB W) i j ∧ tn (wA W) (wB W) i j ≤ 162 := by
  have a := wfN_9 h hi
  have b := wfN_9 h hj
  have m1 := mul_b (a := 9) (b := 9) a.1 b.2 (by omega) (by omega)
  have m2 := mul_b (a := 9) (b := 9) b.1 a.2 (by omega) (by omega)
  unfold tn
  omega
theorem k_turn {G : jG} {z w i j : Nat} {S : jS} {W : Nat → Int} {af : Nat → Nat} (hw : wfN W) (hu : nU w) (hn : nwR w S W af) (hi : i < wN W) (hj : j < wN W) : jC G mX4_turn 0 0 (mm z S) [(2, (w : Int)), (0, (i : Int)), (0, (j : Int))] (jP (some (1, tn (wA W) (wB W) i j)) (mm z S)) := by
  have n24 := (wfN_n hw).2.2
  have a := wfN_9 hw hi
  have b := wfN_9 hw hj
  obtain ⟨i1, i2, -⟩ := hn.2 i hi
  obtain ⟨j1, j2, -⟩ := hn.2 j hj
  refine jCw kX4_turn jn_X4 (fun pc => false) 40 (Nat.le_of_ble_eq_true rfl) ?_
  simp -implicitDefEqProofs only [Nat.reduceAdd, Nat.reduceMul, Nat.reduceEqDiff, Nat.reduceBEq, Nat.reduceLT, Nat.reduceLeDiff, Int.reduceToNat, Int.reduceLE, Int.reduceLT, Int.reduceNeg, Int.reduceAdd, Int.reduceMul, Bool.or_false, Bool.or_true, Bool.true_or, Bool.false_or, jwq_s, jwp_sn, jwp_sc, jwp_0, jsum, jwx_s, ↓jol_c, ↓jo1_c, ↓jo2_c, ↓jo3_c, Bool.false_eq_true, beq_iff_eq, jst, jins_c, jins_n, jdrop_c, jdrop_n, jargs, jtg, jtag, jcnd, true_and, and_true, false_or, or_false, true_or, or_true, forall_const, ↓reduceIte, Option.toList, List.cons_append, List.nil_append, false_and, and_false, reduceCtorEq, false_imp_iff, forall_eq, true_imp_iff, joc_c, List.drop_succ_cons, List.drop_zero, List.take_succ_cons, List.take_zero, List.reverse_cons, List.reverse_nil, List.length_cons, List.length_nil, Int.reduceEq, not_true_eq_false, not_false_eq_true, mm_S, mm_L, mm_set, Int.toNat_natCast, Int.natCast_nonneg, ju_at, ne21, ne01, jrd_1, jrd_2, jrd_3, jobj_M, jfd_M0, jfd_M1, jfd_M2, jfd_M3, jfd_M4, jfd_M5, jfd_M6, jfd_M7, jfd_M8, jfd_M9, jfd_M10, jfd_M11, jfd_M12, jsn_M12, jfd_M13, jsn_M13, jfd_M14, jsn_M14, jfd_M15, jsn_M15, jarr_M5, jarr_M6, jarr_M7, jarr_M82, jarr_M83, jarr_M145, jarr_M146, jarr_M147, jarr_M8, jrd_M8, jarr_M9, jrd_M9, jarr_M84, jrd_M84, jobj_N, jfd_N0, jfd_N1, jfd_N2, jfd_N3, jsn_N3, jarr_N1, jarr_N2, jarr_N3, jobj_B, jfd_B0, jfd_B1, jfd_B2, jfd_B3, jfd_B4, jfd_B5, jsn_B5, jarr_B1, jarr_B2, jarr_B3, jarr_B4, jarr_B5, jobj_H, jfd_H0, jfd_H1, jfd_H2, jsn_H2, jfd_H3, jsn_H3, jfd_H4, jsn_H4, jfd_H5, jsn_H5, jfd_H6, jsn_H6, jfd_H7, jsn_H7, jfd_H8, jsn_H8, jfd_H9, jsn_H9, jfd_H10, jfd_H11, jarr_H429, jarr_H1, jrd_H1, jobj_P, jfd_P0, jfd_P1, jfd_P2, jsn_P2, jfd_P3, jsn_P3, jfd_P4, jsn_P4, jfd_P5, jsn_P5, jfd_P6, jsn_P6, jfd_P7, jsn_P7, jfd_P8, jsn_P8, jfd_P9, jsn_P9, jobj_G, jfd_G0, jfd_G1, jarr_G1, jarr_G2, jobj_A, jfd_A0, jsn_A0, jfd_A1, jsn_A1, jobj_O, jfd_O0, jfd_O1, jsn_O1, jfd_O2, jsn_O2, jfd_O3, jsn_O3, jfd_O4, jsn_O4, jfd_O5, jsn_O5, jfd_O6, jfd_O7, jfd_O8, jfd_O9, jfd_O10, jfd_O11, jarr_O1, jobj_E, jfd_E0, jfd_E1, jsn_E1, jfd_E2, jsn_E2, jfd_E3, jsn_E3, jfd_E4, jsn_E4, jfd_E5, jsn_E5, jfd_E6, jsn_E6, jfd_E7, jsn_E7, jfd_E8, jsn_E8, jfd_E9, jsn_E9, jfd_E10, jsn_E10, jfd_E11, jsn_E11, jfd_E12, jsn_E12, jfd_E13, jsn_E13, jfd_E14, jsn_E14, jarr_E1, jobj_C, jfd_C0, jfd_C1, jfd_C2, jfd_C3, jfd_C4, jfd_C5, jfd_C6, jsn_C6, jfd_C7, jsn_C7, jfd_C8, jsn_C8, jarr_C1, jarr_C2, jarr_C3, jarr_C4, jarr_C5, jarr_C6, jrd_C5, jsn_Ca5, jrd_C6, jsn_Ca6, jobj_Y, jfd_Y0, jfd_Y1, jfd_Y2, jsn_Y2, jfd_Y3, jfd_Y4, jfd_Y5, jarr_Y1, jobj_D, jfd_D0, jfd_D1, jfd_D2, jfd_D3, jsn_D3, jfd_D4, jsn_D4, jfd_D5, jsn_D5, jfd_D6, jfd_D7, jsn_D7, jfd_D8, jsn_D8, jfd_D9, jsn_D9, jfd_D10, jsn_D10, jfd_D11, jsn_D11, jfd_D12, jsn_D12, jfd_D13, jsn_D13, jfd_D14, jsn_D14, jfd_D15, jsn_D15, jfd_D16, jsn_D16, jarr_D1, jL32_0, jL32_1, jL32_2, jL32_3, jL32_4, jL32_5, jL32_6, jL32_7, jL32_8, jL32_9, jL32_10, jL32_11, jL32_12, jL32_13, jL32_14, jL32_15, jL32_16, jL32_17, jL32_18, jL32_19, jL32_20, jL32_21, jL32_22, jL32_23, jL32_24, jL32_25, jL32_26, jL32_27, jL32_28, jL32_29, jL32_30, jL32_31, jL32_32, jL32_33, jL32_34, jL32_35, jL32_36, jL32_37, jL32_38, jL32_39, jL32_57, jL32_60, jL32_97, jL32_122, jL32_255, jLm32_1, jLm32_2, jLm32_3, jLm32_1000, jL64_0, jL64_1, zne_10, zne_00, zne_01, zne_11, false_imp_iff, true_imp_iff, fX4_turn_0, fX4_turn_1, fX4_turn_4, fX4_turn_5, fX4_turn_6, fX4_turn_7, fX4_turn_8, fX4_turn_11, fX4_turn_12, fX4_turn_13, fX4_turn_14, fX4_turn_15, fX4_turn_16, fX4_turn_19, fX4_turn_20, fX4_turn_21, fX4_turn_22, fX4_turn_23, fX4_turn_26, fX4_turn_27, fX4_turn_28, fX4_turn_29, fX4_turn_30, fX4_turn_31, ↓jo_1, ↓jo_11, ↓jo_12, ↓jo_16, ↓jo_23, ↓jo_25, ↓jo_31l, hu, i1, i2, j1, j2]
  exact ⟨by omega, ⟨by omega, by omega⟩, by omega, ⟨by omega, by omega⟩, by omega, ⟨by omega, by omega⟩, by omega, ⟨by omega, by omega⟩, rfl, rfl⟩
set_option maxHeartbeats 1000000 in
set_option maxRecDepth 100000 in
theorem k_load {G : jG} {z w r : Nat} {S : jS} {W : Nat → Int} {af : Nat → Nat} {u d : Nat → Int} {P : Option jV → jM → Prop} (hw : wfN W) (hu : nU w) (hn : nwR w S W af) (hr : rU r) (hg : rgR r S (wN W) u d) (hs : smL (wN W) u d)
    (out : ∀ S', frU S S' → S' 300 6 = (w : Int) → cuL S' (wN W) u d → P none (mm z S')) :
    jC G mX2_load 0 0 (mm z S) [(2, ((300 : Nat) : Int)), (2, (w : Int)), (2, (r : Int))] P := by
  have n24 := wfN_n hw
  have main : ∀ k, k ≤ wN W → ∀ S', frU S S' → S' 300 6 = (w : Int) → cuL S' k u d → jJ G mX2_load 0 0 P 0 0 7 [(0, (2, ((300 : Nat) : Int))), (1, (2, (w : Int))), (2, (2, (r : Int))), (3, (0, (k : Int)))] [] (mm z S') := by
    refine lp (wN W) ?_
    intro k hk nx S' f s6 hc
    have hn' := hn.fr hu f
    refine jJw kX2_load (fun pc => pc == 7) 60 7 ?_
    simp -implicitDefEqProofs only [Nat.reduceAdd, Nat.reduceMul, Nat.reduceEqDiff, Nat.reduceBEq, Nat.reduceLT, Nat.reduceLeDiff, Int.reduceToNat, Int.reduceLE, Int.reduceLT, Int.reduceNeg, Int.reduceAdd, Int.reduceMul, Bool.or_false, Bool.or_true, Bool.true_or, Bool.false_or, jwq_s, jwp_sn, jwp_sc, jwp_0, jsum, jwx_s, ↓jol_c, ↓jo1_c, ↓jo2_c, ↓jo3_c, Bool.false_eq_true, beq_iff_eq, jst, jins_c, jins_n, jdrop_c, jdrop_n, jargs, jtg, jtag, jcnd, true_and, and_true, false_or, or_false, true_or, or_true, forall_const, ↓reduceIte, Option.toList, List.cons_append, List.nil_append, false_and, and_false, reduceCtorEq, false_imp_iff, forall_eq, true_imp_iff, joc_c, List.drop_succ_cons, List.drop_zero, List.take_succ_cons, List.take_zero, List.reverse_cons, List.reverse_nil, List.length_cons, List.length_nil, Int.reduceEq, not_true_eq_false, not_false_eq_true, mm_S, mm_L, mm_set, Int.toNat_natCast, Int.natCast_nonneg, ju_at, ne21, ne01, jrd_1, jrd_2, jrd_3, jobj_M, jfd_M0, jfd_M1, jfd_M2, jfd_M3, jfd_M4, jfd_M5, jfd_M6, jfd_M7, jfd_M8, jfd_M9, jfd_M10, jfd_M11, jfd_M12, jsn_M12, jfd_M13, jsn_M13, jfd_M14, jsn_M14, jfd_M15, jsn_M15, jarr_M5, jarr_M6, jarr_M7, jarr_M82, jarr_M83, jarr_M145, jarr_M146, jarr_M147, jarr_M8, jrd_M8, jarr_M9, jrd_M9, jarr_M84, jrd_M84, jobj_N, jfd_N0, jfd_N1, jfd_N2, jfd_N3, jsn_N3, jarr_N1, jarr_N2, jarr_N3, jobj_B, jfd_B0, jfd_B1, jfd_B2, jfd_B3, jfd_B4, jfd_B5, jsn_B5, jarr_B1, jarr_B2, jarr_B3, jarr_B4, jarr_B5, jobj_H, jfd_H0, jfd_H1, jfd_H2, jsn_H2, jfd_H3, jsn_H3, jfd_H4, jsn_H4, jfd_H5, jsn_H5, jfd_H6, jsn_H6, jfd_H7, jsn_H7, jfd_H8, jsn_H8, jfd_H9, jsn_H9, jfd_H10, jfd_H11, jarr_H429, jarr_H1, jrd_H1, jobj_P, jfd_P0, jfd_P1, jfd_P2, jsn_P2, jfd_P3, jsn_P3, jfd_P4, jsn_P4, jfd_P5, jsn_P5, jfd_P6, jsn_P6, jfd_P7, jsn_P7, jfd_P8, jsn_P8, jfd_P9, jsn_P9, jobj_G, jfd_G0, jfd_G1, jarr_G1, jarr_G2, jobj_A, jfd_A0, jsn_A0, jfd_A1, jsn_A1, jobj_O, jfd_O0, jfd_O1, jsn_O1, jfd_O2, jsn_O2, jfd_O3, jsn_O3, jfd_O4, jsn_O4, jfd_O5, jsn_O5, jfd_O6, jfd_O7, jfd_O8, jfd_O9, jfd_O10, jfd_O11, jarr_O1, jobj_E, jfd_E0, jfd_E1, jsn_E1, jfd_E2, jsn_E2, jfd_E3, jsn_E3, jfd_E4, jsn_E4, jfd_E5, jsn_E5, jfd_E6, jsn_E6, jfd_E7, jsn_E7, jfd_E8, jsn_E8, jfd_E9, jsn_E9, jfd_E10, jsn_E10, jfd_E11, jsn_E11, jfd_E12, jsn_E12, jfd_E13, jsn_E13, jfd_E14, jsn_E14, jarr_E1, jobj_C, jfd_C0, jfd_C1, jfd_C2, jfd_C3, jfd_C4, jfd_C5, jfd_C6, jsn_C6, jfd_C7, jsn_C7, jfd_C8, jsn_C8, jarr_C1, jarr_C2, jarr_C3, jarr_C4, jarr_C5, jarr_C6, jrd_C5, jsn_Ca5, jrd_C6, jsn_Ca6, jobj_Y, jfd_Y0, jfd_Y1, jfd_Y2, jsn_Y2, jfd_Y3, jfd_Y4, jfd_Y5, jarr_Y1, jobj_D, jfd_D0, jfd_D1, jfd_D2, jfd_D3, jsn_D3, jfd_D4, jsn_D4, jfd_D5, jsn_D5, jfd_D6, jfd_D7, jsn_D7, jfd_D8, jsn_D8, jfd_D9, jsn_D9, jfd_D10, jsn_D10, jfd_D11, jsn_D11, jfd_D12, jsn_D12, jfd_D13, jsn_D13, jfd_D14, jsn_D14, jfd_D15, jsn_D15, jfd_D16, jsn_D16, jarr_D1, jL32_0, jL32_1, jL32_2, jL32_3, jL32_4, jL32_5, jL32_6, jL32_7, jL32_8, jL32_9, jL32_10, jL32_11, jL32_12, jL32_13, jL32_14, jL32_15, jL32_16, jL32_17, jL32_18, jL32_19, jL32_20, jL32_21, jL32_22, jL32_23, jL32_24, jL32_25, jL32_26, jL32_27, jL32_28, jL32_29, jL32_30, jL32_31, jL32_32, jL32_33, jL32_34, jL32_35, jL32_36, jL32_37, jL32_38, jL32_39, jL32_57, jL32_60, jL32_97, jL32_122, jL32_255, jLm32_1, jLm32_2, jLm32_3, jLm32_1000, jL64_0, jL64_1, zne_10, zne_00, zne_01, zne_11, false_imp_iff, true_imp_iff, fX2_load_0, fX2_load_1, fX2_load_2, fX2_load_5, fX2_load_6, fX2_load_7, fX2_load_8, fX2_load_9, fX2_load_12, fX2_load_15, fX2_load_18, fX2_load_19, fX2_load_22, fX2_load_23, fX2_load_24, fX2_load_27, fX2_load_28, fX2_load_29, fX2_load_30, fX2_load_31, fX2_load_32, fX2_load_35, fX2_load_36, fX2_load_37, fX2_load_40, fX2_load_41, fX2_load_42, fX2_load_43, fX2_load_44, fX2_load_47, fX2_load_50, ↓jo_0, ↓jo_1, ↓jo_16, ↓jo_2, ↓jo_20, ↓jo_21, ↓jo_23, ↓jo_24, ↓jo_25, ↓jo_26, ↓jo_3, ↓jo_31v, hu, hr, s6, hn'.1, n24.1]
    refine ⟨jI32_nat (by omega), jI32_nat (by omega), fun c => ?_, fun c => ?_⟩
    · have : k = wN W := by omega
      subst this
      exact out S' f s6 hc
    · have kn : k < wN W := by omega
      have g := (hg.fr hr f) k kn
      have b := hs k kn
      have rb := rU_b hr
      have e1 : ¬ (r = 299) := by omega
      rw [g.1, g.2]
      simp only [e1, false_and, if_false]
      refine ⟨by omega, ⟨by omega, by omega⟩, by omega, by omega, ⟨by omega, by omega⟩, by omega, ?_⟩
      refine nx kn _ ((f.trans (frU.set _ _ _ (by omega))).trans (frU.set _ _ _ (by omega))) (by simp [ju_at, s6]) (fun j hj => ?_)
      simp only [ju_at]
      by_cases e : j = k
      · subst e; simp
      · have := hc j (by omega)
        simp [e, this.1, this.2]
  refine jCw kX2_load jn_X2 (fun pc => pc == 7) 40 (Nat.le_of_ble_eq_true rfl) ?_
  simp -implicitDefEqProofs only [Nat.reduceAdd, Nat.reduceMul, Nat.reduceEqDiff, Nat.reduceBEq, Nat.reduceLT, Nat.reduceLeDiff, Int.reduceToNat, Int.reduceLE, Int.reduceLT, Int.reduceNeg, Int.reduceAdd, Int.reduceMul, Bool.or_false, Bool.or_true, Bool.true_or, Bool.false_or, jwq_s, jwp_sn, jwp_sc, jwp_0, jsum, jwx_s, ↓jol_c, ↓jo1_c, ↓jo2_c, ↓jo3_c, Bool.false_eq_true, beq_iff_eq, jst, jins_c, jins_n, jdrop_c, jdrop_n, jargs, jtg, jtag, jcnd, true_and, and_true, false_or, or_false, true_or, or_true, forall_const, ↓reduceIte, Option.toList, List.cons_append, List.nil_append, false_and, and_false, reduceCtorEq, false_imp_iff, forall_eq, true_imp_iff, joc_c, List.drop_succ_cons, List.drop_zero, List.take_succ_cons, List.take_zero, List.reverse_cons, List.reverse_nil, List.length_cons, List.length_nil, Int.reduceEq, not_true_eq_false, not_false_eq_true, mm_S, mm_L, mm_set, Int.toNat_natCast, Int.natCast_nonneg, ju_at, ne21, ne01, jrd_1, jrd_2, jrd_3, jobj_M, jfd_M0, jfd_M1, jfd_M2, jfd_M3, jfd_M4, jfd_M5, jfd_M6, jfd_M7, jfd_M8, jfd_M9, jfd_M10, jfd_M11, jfd_M12, jsn_M12, jfd_M13, jsn_M13, jfd_M14, jsn_M14, jfd_M15, jsn_M15, jarr_M5, jarr_M6, jarr_M7, jarr_M82, jarr_M83, jarr_M145, jarr_M146, jarr_M147, jarr_M8, jrd_M8, jarr_M9, jrd_M9, jarr_M84, jrd_M84, jobj_N, jfd_N0, jfd_N1, jfd_N2, jfd_N3, jsn_N3, jarr_N1, jarr_N2, jarr_N3, jobj_B, jfd_B0, jfd_B1, jfd_B2, jfd_B3, jfd_B4, jfd_B5, jsn_B5, jarr_B1, jarr_B2, jarr_B3, jarr_B4, jarr_B5, jobj_H, jfd_H0, jfd_H1, jfd_H2, jsn_H2, jfd_H3, jsn_H3, jfd_H4, jsn_H4, jfd_H5, jsn_H5, jfd_H6, jsn_H6, jfd_H7, jsn_H7, jfd_H8, jsn_H8, jfd_H9, jsn_H9, jfd_H10, jfd_H11, jarr_H429, jarr_H1, jrd_H1, jobj_P, jfd_P0, jfd_P1, jfd_P2, jsn_P2, jfd_P3, jsn_P3, jfd_P4, jsn_P4, jfd_P5, jsn_P5, jfd_P6, jsn_P6, jfd_P7, jsn_P7, jfd_P8, jsn_P8, jfd_P9, jsn_P9, jobj_G, jfd_G0, jfd_G1, jarr_G1, jarr_G2, jobj_A, jfd_A0, jsn_A0, jfd_A1, jsn_A1, jobj_O, jfd_O0, jfd_O1, jsn_O1, jfd_O2, jsn_O2, jfd_O3, jsn_O3, jfd_O4, jsn_O4, jfd_O5, jsn_O5, jfd_O6, jfd_O7, jfd_O8, jfd_O9, jfd_O10, jfd_O11, jarr_O1, jobj_E, jfd_E0, jfd_E1, jsn_E1, jfd_E2, jsn_E2, jfd_E3, jsn_E3, jfd_E4, jsn_E4, jfd_E5, jsn_E5, jfd_E6, jsn_E6, jfd_E7, jsn_E7, jfd_E8, jsn_E8, jfd_E9, jsn_E9, jfd_E10, jsn_E10, jfd_E11, jsn_E11, jfd_E12, jsn_E12, jfd_E13, jsn_E13, jfd_E14, jsn_E14, jarr_E1, jobj_C, jfd_C0, jfd_C1, jfd_C2, jfd_C3, jfd_C4, jfd_C5, jfd_C6, jsn_C6, jfd_C7, jsn_C7, jfd_C8, jsn_C8, jarr_C1, jarr_C2, jarr_C3, jarr_C4, jarr_C5, jarr_C6, jrd_C5, jsn_Ca5, jrd_C6, jsn_Ca6, jobj_Y, jfd_Y0, jfd_Y1, jfd_Y2, jsn_Y2, jfd_Y3, jfd_Y4, jfd_Y5, jarr_Y1, jobj_D, jfd_D0, jfd_D1, jfd_D2, jfd_D3, jsn_D3, jfd_D4, jsn_D4, jfd_D5, jsn_D5, jfd_D6, jfd_D7, jsn_D7, jfd_D8, jsn_D8, jfd_D9, jsn_D9, jfd_D10, jsn_D10, jfd_D11, jsn_D11, jfd_D12, jsn_D12, jfd_D13, jsn_D13, jfd_D14, jsn_D14, jfd_D15, jsn_D15, jfd_D16, jsn_D16, jarr_D1, jL32_0, jL32_1, jL32_2, jL32_3, jL32_4, jL32_5, jL32_6, jL32_7, jL32_8, jL32_9, jL32_10, jL32_11, jL32_12, jL32_13, jL32_14, jL32_15, jL32_16, jL32_17, jL32_18, jL32_19, jL32_20, jL32_21, jL32_22, jL32_23, jL32_24, jL32_25, jL32_26, jL32_27, jL32_28, jL32_29, jL32_30, jL32_31, jL32_32, jL32_33, jL32_34, jL32_35, jL32_36, jL32_37, jL32_38, jL32_39, jL32_57, jL32_60, jL32_97, jL32_122, jL32_255, jLm32_1, jLm32_2, jLm32_3, jLm32_1000, jL64_0, jL64_1, zne_10, zne_00, zne_01, zne_11, false_imp_iff, true_imp_iff, fX2_load_0, fX2_load_1, fX2_load_2, fX2_load_5, fX2_load_6, fX2_load_7, fX2_load_8, fX2_load_9, fX2_load_12, fX2_load_15, fX2_load_18, fX2_load_19, fX2_load_22, fX2_load_23, fX2_load_24, fX2_load_27, fX2_load_28, fX2_load_29, fX2_load_30, fX2_load_31, fX2_load_32, fX2_load_35, fX2_load_36, fX2_load_37, fX2_load_40, fX2_load_41, fX2_load_42, fX2_load_43, fX2_load_44, fX2_load_47, fX2_load_50, ↓jo_0, ↓jo_1, ↓jo_16, ↓jo_2, ↓jo_20, ↓jo_21, ↓jo_23, ↓jo_24, ↓jo_25, ↓jo_26, ↓jo_3, ↓jo_31v]
  exact main 0 (by omega) _ (frU.set _ _ _ (by omega)) (by simp [ju_at]) (fun j hj => by omega)
theorem cuL.I {S : jS} {W : Nat → Int} {w : Nat} {u d : Nat → Int} (h : cuL S (wN W) u d) (s6 : S 300 6 = (w : Int)) (hs : smL (wN W) u d) : cuI W w S (limF W (fun _ => True) u d) := by
  refine ⟨s6, fun k hk => ?_, fun X Y B hB => ?_⟩
  · have := h k hk
    have := hs k hk
    rw [(h k hk).1, (h k hk).2]
    omega
  · unfold limF cuF
    constructor
    · intro q k hk _
      rw [(h k hk).1, (h k hk).2]
      exact q k hk trivial
    · intro q k hk _
      have := q k hk
      rw [(h k hk).1, (h k hk).2] at this
      exact this (by have := hs k hk; omega)
set_option maxHeartbeats 1000000 in
set_option maxRecDepth 100000 in
theorem k_growAlong {G : jG} {z w m : Nat} {S : jS} {W : Nat → Int} {af : Nat → Nat} {u d : Nat → Int} {P : Option jV → jM → Prop} (hw : wfN W) (hu : nU w) (hn : nwR w S W af) (s6 : S 300 6 = (w : Int)) (hc : cuL S (wN W) u d) (hs : smL (wN W) u d) (h1 : -9 ≤ W (59 + 25 * m) ∧ W (59 + 25 * m) ≤ 9) (h2 : -9 ≤ W (60 + 25 * m) ∧ W (60 + 25 * m) ≤ 9)
    (out : ∀ S', frU S S' → cuI W w S' (limF W (fun k => slp W m k ≤ 0) u d) → P none (mm z S')) :
    jC G mX2_growAlong 0 0 (mm z S) [(2, ((300 : Nat) : Int)), (1, W (59 + 25 * m)), (1, W (60 + 25 * m))] P := by
  have n24 := wfN_n hw
  have main : ∀ k : Nat, k ≤ wN W → ∀ S', frU S S' → S' 300 6 = (w : Int) → (∀ j, j < wN W → (if j < k ∧ 0 < slp W m j then S' 301 j = 0 ∧ S' 302 j = 0 else S' 301 j = u j ∧ S' 302 j = d j)) → jJ G mX2_growAlong 0 0 P 0 0 3 [(0, (2, ((300 : Nat) : Int))), (1, (1, W (59 + 25 * m))), (3, (1, W (60 + 25 * m))), (5, (0, (k : Int)))] [] (mm z S') := by
    refine lp (wN W) ?_
    intro k hk nx S' f s6 hj
    have hn' := hn.fr hu f
    refine jJw kX2_growAlong (fun pc => pc == 3) 60 3 ?_
    simp -implicitDefEqProofs only [Nat.reduceAdd, Nat.reduceMul, Nat.reduceEqDiff, Nat.reduceBEq, Nat.reduceLT, Nat.reduceLeDiff, Int.reduceToNat, Int.reduceLE, Int.reduceLT, Int.reduceNeg, Int.reduceAdd, Int.reduceMul, Bool.or_false, Bool.or_true, Bool.true_or, Bool.false_or, jwq_s, jwp_sn, jwp_sc, jwp_0, jsum, jwx_s, ↓jol_c, ↓jo1_c, ↓jo2_c, ↓jo3_c, Bool.false_eq_true, beq_iff_eq, jst, jins_c, jins_n, jdrop_c, jdrop_n, jargs, jtg, jtag, jcnd, true_and, and_true, false_or, or_false, true_or, or_true, forall_const, ↓reduceIte, Option.toList, List.cons_append, List.nil_append, false_and, and_false, reduceCtorEq, false_imp_iff, forall_eq, true_imp_iff, joc_c, List.drop_succ_cons, List.drop_zero, List.take_succ_cons, List.take_zero, List.reverse_cons, List.reverse_nil, List.length_cons, List.length_nil, Int.reduceEq, not_true_eq_false, not_false_eq_true, mm_S, mm_L, mm_set, Int.toNat_natCast, Int.natCast_nonneg, ju_at, ne21, ne01, jrd_1, jrd_2, jrd_3, jobj_M, jfd_M0, jfd_M1, jfd_M2, jfd_M3, jfd_M4, jfd_M5, jfd_M6, jfd_M7, jfd_M8, jfd_M9, jfd_M10, jfd_M11, jfd_M12, jsn_M12, jfd_M13, jsn_M13, jfd_M14, jsn_M14, jfd_M15, jsn_M15, jarr_M5, jarr_M6, jarr_M7, jarr_M82, jarr_M83, jarr_M145, jarr_M146, jarr_M147, jarr_M8, jrd_M8, jarr_M9, jrd_M9, jarr_M84, jrd_M84, jobj_N, jfd_N0, jfd_N1, jfd_N2, jfd_N3, jsn_N3, jarr_N1, jarr_N2, jarr_N3, jobj_B, jfd_B0, jfd_B1, jfd_B2, jfd_B3, jfd_B4, jfd_B5, jsn_B5, jarr_B1, jarr_B2, jarr_B3, jarr_B4, jarr_B5, jobj_H, jfd_H0, jfd_H1, jfd_H2, jsn_H2, jfd_H3, jsn_H3, jfd_H4, jsn_H4, jfd_H5, jsn_H5, jfd_H6, jsn_H6, jfd_H7, jsn_H7, jfd_H8, jsn_H8, jfd_H9, jsn_H9, jfd_H10, jfd_H11, jarr_H429, jarr_H1, jrd_H1, jobj_P, jfd_P0, jfd_P1, jfd_P2, jsn_P2, jfd_P3, jsn_P3, jfd_P4, jsn_P4, jfd_P5, jsn_P5, jfd_P6, jsn_P6, jfd_P7, jsn_P7, jfd_P8, jsn_P8, jfd_P9, jsn_P9, jobj_G, jfd_G0, jfd_G1, jarr_G1, jarr_G2, jobj_A, jfd_A0, jsn_A0, jfd_A1, jsn_A1, jobj_O, jfd_O0, jfd_O1, jsn_O1, jfd_O2, jsn_O2, jfd_O3, jsn_O3, jfd_O4, jsn_O4, jfd_O5, jsn_O5, jfd_O6, jfd_O7, jfd_O8, jfd_O9, jfd_O10, jfd_O11, jarr_O1, jobj_E, jfd_E0, jfd_E1, jsn_E1, jfd_E2, jsn_E2, jfd_E3, jsn_E3, jfd_E4, jsn_E4, jfd_E5, jsn_E5, jfd_E6, jsn_E6, jfd_E7, jsn_E7, jfd_E8, jsn_E8, jfd_E9, jsn_E9, jfd_E10, jsn_E10, jfd_E11, jsn_E11, jfd_E12, jsn_E12, jfd_E13, jsn_E13, jfd_E14, jsn_E14, jarr_E1, jobj_C, jfd_C0, jfd_C1, jfd_C2, jfd_C3, jfd_C4, jfd_C5, jfd_C6, jsn_C6, jfd_C7, jsn_C7, jfd_C8, jsn_C8, jarr_C1, jarr_C2, jarr_C3, jarr_C4, jarr_C5, jarr_C6, jrd_C5, jsn_Ca5, jrd_C6, jsn_Ca6, jobj_Y, jfd_Y0, jfd_Y1, jfd_Y2, jsn_Y2, jfd_Y3, jfd_Y4, jfd_Y5, jarr_Y1, jobj_D, jfd_D0, jfd_D1, jfd_D2, jfd_D3, jsn_D3, jfd_D4, jsn_D4, jfd_D5, jsn_D5, jfd_D6, jfd_D7, jsn_D7, jfd_D8, jsn_D8, jfd_D9, jsn_D9, jfd_D10, jsn_D10, jfd_D11, jsn_D11, jfd_D12, jsn_D12, jfd_D13, jsn_D13, jfd_D14, jsn_D14, jfd_D15, jsn_D15, jfd_D16, jsn_D16, jarr_D1, jL32_0, jL32_1, jL32_2, jL32_3, jL32_4, jL32_5, jL32_6, jL32_7, jL32_8, jL32_9, jL32_10, jL32_11, jL32_12, jL32_13, jL32_14, jL32_15, jL32_16, jL32_17, jL32_18, jL32_19, jL32_20, jL32_21, jL32_22, jL32_23, jL32_24, jL32_25, jL32_26, jL32_27, jL32_28, jL32_29, jL32_30, jL32_31, jL32_32, jL32_33, jL32_34, jL32_35, jL32_36, jL32_37, jL32_38, jL32_39, jL32_57, jL32_60, jL32_97, jL32_122, jL32_255, jLm32_1, jLm32_2, jLm32_3, jLm32_1000, jL64_0, jL64_1, zne_10, zne_00, zne_01, zne_11, false_imp_iff, true_imp_iff, fX2_growAlong_0, fX2_growAlong_1, fX2_growAlong_3, fX2_growAlong_5, fX2_growAlong_6, fX2_growAlong_9, fX2_growAlong_12, fX2_growAlong_15, fX2_growAlong_16, fX2_growAlong_19, fX2_growAlong_22, fX2_growAlong_24, fX2_growAlong_25, fX2_growAlong_26, fX2_growAlong_27, fX2_growAlong_28, fX2_growAlong_29, fX2_growAlong_32, fX2_growAlong_35, fX2_growAlong_37, fX2_growAlong_38, fX2_growAlong_39, fX2_growAlong_40, fX2_growAlong_41, fX2_growAlong_42, fX2_growAlong_43, fX2_growAlong_47, fX2_growAlong_48, fX2_growAlong_51, fX2_growAlong_53, fX2_growAlong_54, fX2_growAlong_55, fX2_growAlong_56, fX2_growAlong_59, fX2_growAlong_61, fX2_growAlong_62, fX2_growAlong_63, fX2_growAlong_66, fX2_growAlong_69, ↓jo_0, ↓jo_1, ↓jo_10, ↓jo_12, ↓jo_16, ↓jo_2, ↓jo_20, ↓jo_21, ↓jo_22, ↓jo_23, ↓jo_25, ↓jo_26, ↓jo_3, ↓jo_31v, ↓jo_41, hu, s6, hn'.1, n24.1]
    refine ⟨jI32_nat (by omega), jI32_nat (by omega), fun c => ?_, fun c => ?_⟩
    · have : k = wN W := by omega
      subst this
      refine out S' f ⟨s6, fun j jn => ?_, fun X Y B hB => ?_⟩
      · have a := hj j jn
        have b := hs j jn
        split at a <;> rw [a.1, a.2] <;> omega
      · unfold limF cuF
        constructor
        · intro q j jn dn
          have a := hj j jn
          split at a
          · exact absurd a.2 dn
          next e =>
            rw [a.1, a.2]
            exact q j jn (by omega)
        · intro q j jn hs'
          have a := hj j jn
          rw [if_neg (by omega)] at a
          have := q j jn
          rw [a.1, a.2] at this
          exact this (by have := hs j jn; omega)
    · have kn : k < wN W := by omega
      obtain ⟨n1, n2, -⟩ := hn'.2 k kn
      have b9 := wfN_9 hw kn
      have m1 := mul_b (a := 9) (b := 9) b9.1 h1 (by omega) (by omega)
      have m2 := mul_b (a := 9) (b := 9) b9.2 h2 (by omega) (by omega)
      have es : slp W m k = wA W k * W (59 + 25 * m) + wB W k * W (60 + 25 * m) := rfl
      rw [n1, n2, ← es]
      refine ⟨by omega, ⟨by omega, by omega⟩, by omega, ⟨by omega, by omega⟩, ⟨by omega, by omega⟩, fun c => ?_, fun c => ⟨by omega, by omega, ?_⟩⟩
      · refine nx kn S' f s6 (fun j jn => ?_)
        have a := hj j jn
        by_cases e : j = k
        · subst e
          rw [if_neg (by omega)] at a ⊢
          exact a
        · by_cases e2 : j < k ∧ 0 < slp W m j
          · rw [if_pos e2] at a
            rw [if_pos (by omega)]
            exact a
          · rw [if_neg e2] at a
            rw [if_neg (by omega)]
            exact a
      · refine nx kn _ ((f.trans (frU.set _ _ _ (by omega))).trans (frU.set _ _ _ (by omega))) (by simp [ju_at, s6]) (fun j jn => ?_)
        have a := hj j jn
        simp only [ju_at]
        by_cases e : j = k
        · subst e
          rw [if_pos (by omega)]
          simp
        · by_cases e2 : j < k ∧ 0 < slp W m j
          · rw [if_pos e2] at a
            rw [if_pos (by omega)]
            simp [e, a.1, a.2]
          · rw [if_neg e2] at a
            rw [if_neg (by omega)]
            simp [e, a.1, a.2]
  refine jCw kX2_growAlong jn_X2 (fun pc => pc == 3) 40 (Nat.le_of_ble_eq_true rfl) ?_
  simp -implicitDefEqProofs only [Nat.reduceAdd, Nat.reduceMul, Nat.reduceEqDiff, Nat.reduceBEq, Nat.reduceLT, Nat.reduceLeDiff, Int.reduceToNat, Int.reduceLE, Int.reduceLT, Int.reduceNeg, Int.reduceAdd, Int.reduceMul, Bool.or_false, Bool.or_true, Bool.true_or, Bool.false_or, jwq_s, jwp_sn, jwp_sc, jwp_0, jsum, jwx_s, ↓jol_c, ↓jo1_c, ↓jo2_c, ↓jo3_c, Bool.false_eq_true, beq_iff_eq, jst, jins_c, jins_n, jdrop_c, jdrop_n, jargs, jtg, jtag, jcnd, true_and, and_true, false_or, or_false, true_or, or_true, forall_const, ↓reduceIte, Option.toList, List.cons_append, List.nil_append, false_and, and_false, reduceCtorEq, false_imp_iff, forall_eq, true_imp_iff, joc_c, List.drop_succ_cons, List.drop_zero, List.take_succ_cons, List.take_zero, List.reverse_cons, List.reverse_nil, List.length_cons, List.length_nil, Int.reduceEq, not_true_eq_false, not_false_eq_true, mm_S, mm_L, mm_set, Int.toNat_natCast, Int.natCast_nonneg, ju_at, ne21, ne01, jrd_1, jrd_2, jrd_3, jobj_M, jfd_M0, jfd_M1, jfd_M2, jfd_M3, jfd_M4, jfd_M5, jfd_M6, jfd_M7, jfd_M8, jfd_M9, jfd_M10, jfd_M11, jfd_M12, jsn_M12, jfd_M13, jsn_M13, jfd_M14, jsn_M14, jfd_M15, jsn_M15, jarr_M5, jarr_M6, jarr_M7, jarr_M82, jarr_M83, jarr_M145, jarr_M146, jarr_M147, jarr_M8, jrd_M8, jarr_M9, jrd_M9, jarr_M84, jrd_M84, jobj_N, jfd_N0, jfd_N1, jfd_N2, jfd_N3, jsn_N3, jarr_N1, jarr_N2, jarr_N3, jobj_B, jfd_B0, jfd_B1, jfd_B2, jfd_B3, jfd_B4, jfd_B5, jsn_B5, jarr_B1, jarr_B2, jarr_B3, jarr_B4, jarr_B5, jobj_H, jfd_H0, jfd_H1, jfd_H2, jsn_H2, jfd_H3, jsn_H3, jfd_H4, jsn_H4, jfd_H5, jsn_H5, jfd_H6, jsn_H6, jfd_H7, jsn_H7, jfd_H8, jsn_H8, jfd_H9, jsn_H9, jfd_H10, jfd_H11, jarr_H429, jarr_H1, jrd_H1, jobj_P, jfd_P0, jfd_P1, jfd_P2, jsn_P2, jfd_P3, jsn_P3, jfd_P4, jsn_P4, jfd_P5, jsn_P5, jfd_P6, jsn_P6, jfd_P7, jsn_P7, jfd_P8, jsn_P8, jfd_P9, jsn_P9, jobj_G, jfd_G0, jfd_G1, jarr_G1, jarr_G2, jobj_A, jfd_A0, jsn_A0, jfd_A1, jsn_A1, jobj_O, jfd_O0, jfd_O1, jsn_O1, jfd_O2, jsn_O2, jfd_O3, jsn_O3, jfd_O4, jsn_O4, jfd_O5, jsn_O5, jfd_O6, jfd_O7, jfd_O8, jfd_O9, jfd_O10, jfd_O11, jarr_O1, jobj_E, jfd_E0, jfd_E1, jsn_E1, jfd_E2, jsn_E2, jfd_E3, jsn_E3, jfd_E4, jsn_E4, jfd_E5, jsn_E5, jfd_E6, jsn_E6, jfd_E7, jsn_E7, jfd_E8, jsn_E8, jfd_E9, jsn_E9, jfd_E10, jsn_E10, jfd_E11, jsn_E11, jfd_E12, jsn_E12, jfd_E13, jsn_E13, jfd_E14, jsn_E14, jarr_E1, jobj_C, jfd_C0, jfd_C1, jfd_C2, jfd_C3, jfd_C4, jfd_C5, jfd_C6, jsn_C6, jfd_C7, jsn_C7, jfd_C8, jsn_C8, jarr_C1, jarr_C2, jarr_C3, jarr_C4, jarr_C5, jarr_C6, jrd_C5, jsn_Ca5, jrd_C6, jsn_Ca6, jobj_Y, jfd_Y0, jfd_Y1, jfd_Y2, jsn_Y2, jfd_Y3, jfd_Y4, jfd_Y5, jarr_Y1, jobj_D, jfd_D0, jfd_D1, jfd_D2, jfd_D3, jsn_D3, jfd_D4, jsn_D4, jfd_D5, jsn_D5, jfd_D6, jfd_D7, jsn_D7, jfd_D8, jsn_D8, jfd_D9, jsn_D9, jfd_D10, jsn_D10, jfd_D11, jsn_D11, jfd_D12, jsn_D12, jfd_D13, jsn_D13, jfd_D14, jsn_D14, jfd_D15, jsn_D15, jfd_D16, jsn_D16, jarr_D1, jL32_0, jL32_1, jL32_2, jL32_3, jL32_4, jL32_5, jL32_6, jL32_7, jL32_8, jL32_9, jL32_10, jL32_11, jL32_12, jL32_13, jL32_14, jL32_15, jL32_16, jL32_17, jL32_18, jL32_19, jL32_20, jL32_21, jL32_22, jL32_23, jL32_24, jL32_25, jL32_26, jL32_27, jL32_28, jL32_29, jL32_30, jL32_31, jL32_32, jL32_33, jL32_34, jL32_35, jL32_36, jL32_37, jL32_38, jL32_39, jL32_57, jL32_60, jL32_97, jL32_122, jL32_255, jLm32_1, jLm32_2, jLm32_3, jLm32_1000, jL64_0, jL64_1, zne_10, zne_00, zne_01, zne_11, false_imp_iff, true_imp_iff, fX2_growAlong_0, fX2_growAlong_1, fX2_growAlong_3, fX2_growAlong_5, fX2_growAlong_6, fX2_growAlong_9, fX2_growAlong_12, fX2_growAlong_15, fX2_growAlong_16, fX2_growAlong_19, fX2_growAlong_22, fX2_growAlong_24, fX2_growAlong_25, fX2_growAlong_26, fX2_growAlong_27, fX2_growAlong_28, fX2_growAlong_29, fX2_growAlong_32, fX2_growAlong_35, fX2_growAlong_37, fX2_growAlong_38, fX2_growAlong_39, fX2_growAlong_40, fX2_growAlong_41, fX2_growAlong_42, fX2_growAlong_43, fX2_growAlong_47, fX2_growAlong_48, fX2_growAlong_51, fX2_growAlong_53, fX2_growAlong_54, fX2_growAlong_55, fX2_growAlong_56, fX2_growAlong_59, fX2_growAlong_61, fX2_growAlong_62, fX2_growAlong_63, fX2_growAlong_66, fX2_growAlong_69, ↓jo_0, ↓jo_1, ↓jo_10, ↓jo_12, ↓jo_16, ↓jo_2, ↓jo_20, ↓jo_21, ↓jo_22, ↓jo_23, ↓jo_25, ↓jo_26, ↓jo_3, ↓jo_31v, ↓jo_41]
  exact main 0 (by omega) S (frU.refl S) s6 (fun j jn => by rw [if_neg (by omega)]; exact hc j jn)
set_option maxHeartbeats 1000000 in
set_option maxRecDepth 100000 in
theorem k_join {G : jG} {z w r : Nat} {S : jS} {W : Nat → Int} {af : Nat → Nat} {u d u' d' : Nat → Int} {P : Option jV → jM → Prop} (hw : wfN W) (hu : nU w) (hn : nwR w S W af) (s6 : S 300 6 = (w : Int)) (hc : cuL S (wN W) u d) (hs : smL (wN W) u d) (hr : rU r) (hg : rgR r S (wN W) u' d') (hs' : smL (wN W) u' d')
    (out : ∀ S', frU S S' → S' 300 6 = (w : Int) → cuL S' (wN W) (fun k => if 0 < u' k * d k - u k * d' k then u' k else u k) (fun k => if 0 < u' k * d k - u k * d' k then d' k else d k) → P none (mm z S')) :
    jC G mX2_join 0 0 (mm z S) [(2, ((300 : Nat) : Int)), (2, (r : Int))] P := by
  have n24 := wfN_n hw
  have main : ∀ k : Nat, k ≤ wN W → ∀ S', frU S S' → S' 300 6 = (w : Int) → (∀ j, j < wN W → S' 301 j = (if j < k ∧ 0 < u' j * d j - u j * d' j then u' j else u j) ∧ S' 302 j = (if j < k ∧ 0 < u' j * d j - u j * d' j then d' j else d j)) → jJ G mX2_join 0 0 P 0 0 2 [(0, (2, ((300 : Nat) : Int))), (1, (2, (r : Int))), (2, (0, (k : Int)))] [] (mm z S') := by
    refine lp (wN W) ?_
    intro k hk nx S' f s6 hj
    have hn' := hn.fr hu f
    refine jJw kX2_join (fun pc => pc == 2) 60 2 ?_
    simp -implicitDefEqProofs only [Nat.reduceAdd, Nat.reduceMul, Nat.reduceEqDiff, Nat.reduceBEq, Nat.reduceLT, Nat.reduceLeDiff, Int.reduceToNat, Int.reduceLE, Int.reduceLT, Int.reduceNeg, Int.reduceAdd, Int.reduceMul, Bool.or_false, Bool.or_true, Bool.true_or, Bool.false_or, jwq_s, jwp_sn, jwp_sc, jwp_0, jsum, jwx_s, ↓jol_c, ↓jo1_c, ↓jo2_c, ↓jo3_c, Bool.false_eq_true, beq_iff_eq, jst, jins_c, jins_n, jdrop_c, jdrop_n, jargs, jtg, jtag, jcnd, true_and, and_true, false_or, or_false, true_or, or_true, forall_const, ↓reduceIte, Option.toList, List.cons_append, List.nil_append, false_and, and_false, reduceCtorEq, false_imp_iff, forall_eq, true_imp_iff, joc_c, List.drop_succ_cons, List.drop_zero, List.take_succ_cons, List.take_zero, List.reverse_cons, List.reverse_nil, List.length_cons, List.length_nil, Int.reduceEq, not_true_eq_false, not_false_eq_true, mm_S, mm_L, mm_set, Int.toNat_natCast, Int.natCast_nonneg, ju_at, ne21, ne01, jrd_1, jrd_2, jrd_3, jobj_M, jfd_M0, jfd_M1, jfd_M2, jfd_M3, jfd_M4, jfd_M5, jfd_M6, jfd_M7, jfd_M8, jfd_M9, jfd_M10, jfd_M11, jfd_M12, jsn_M12, jfd_M13, jsn_M13, jfd_M14, jsn_M14, jfd_M15, jsn_M15, jarr_M5, jarr_M6, jarr_M7, jarr_M82, jarr_M83, jarr_M145, jarr_M146, jarr_M147, jarr_M8, jrd_M8, jarr_M9, jrd_M9, jarr_M84, jrd_M84, jobj_N, jfd_N0, jfd_N1, jfd_N2, jfd_N3, jsn_N3, jarr_N1, jarr_N2, jarr_N3, jobj_B, jfd_B0, jfd_B1, jfd_B2, jfd_B3, jfd_B4, jfd_B5, jsn_B5, jarr_B1, jarr_B2, jarr_B3, jarr_B4, jarr_B5, jobj_H, jfd_H0, jfd_H1, jfd_H2, jsn_H2, jfd_H3, jsn_H3, jfd_H4, jsn_H4, jfd_H5, jsn_H5, jfd_H6, jsn_H6, jfd_H7, jsn_H7, jfd_H8, jsn_H8, jfd_H9, jsn_H9, jfd_H10, jfd_H11, jarr_H429, jarr_H1, jrd_H1, jobj_P, jfd_P0, jfd_P1, jfd_P2, jsn_P2, jfd_P3, jsn_P3, jfd_P4, jsn_P4, jfd_P5, jsn_P5, jfd_P6, jsn_P6, jfd_P7, jsn_P7, jfd_P8, jsn_P8, jfd_P9, jsn_P9, jobj_G, jfd_G0, jfd_G1, jarr_G1, jarr_G2, jobj_A, jfd_A0, jsn_A0, jfd_A1, jsn_A1, jobj_O, jfd_O0, jfd_O1, jsn_O1, jfd_O2, jsn_O2, jfd_O3, jsn_O3, jfd_O4, jsn_O4, jfd_O5, jsn_O5, jfd_O6, jfd_O7, jfd_O8, jfd_O9, jfd_O10, jfd_O11, jarr_O1, jobj_E, jfd_E0, jfd_E1, jsn_E1, jfd_E2, jsn_E2, jfd_E3, jsn_E3, jfd_E4, jsn_E4, jfd_E5, jsn_E5, jfd_E6, jsn_E6, jfd_E7, jsn_E7, jfd_E8, jsn_E8, jfd_E9, jsn_E9, jfd_E10, jsn_E10, jfd_E11, jsn_E11, jfd_E12, jsn_E12, jfd_E13, jsn_E13, jfd_E14, jsn_E14, jarr_E1, jobj_C, jfd_C0, jfd_C1, jfd_C2, jfd_C3, jfd_C4, jfd_C5, jfd_C6, jsn_C6, jfd_C7, jsn_C7, jfd_C8, jsn_C8, jarr_C1, jarr_C2, jarr_C3, jarr_C4, jarr_C5, jarr_C6, jrd_C5, jsn_Ca5, jrd_C6, jsn_Ca6, jobj_Y, jfd_Y0, jfd_Y1, jfd_Y2, jsn_Y2, jfd_Y3, jfd_Y4, jfd_Y5, jarr_Y1, jobj_D, jfd_D0, jfd_D1, jfd_D2, jfd_D3, jsn_D3, jfd_D4, jsn_D4, jfd_D5, jsn_D5, jfd_D6, jfd_D7, jsn_D7, jfd_D8, jsn_D8, jfd_D9, jsn_D9, jfd_D10, jsn_D10, jfd_D11, jsn_D11, jfd_D12, jsn_D12, jfd_D13, jsn_D13, jfd_D14, jsn_D14, jfd_D15, jsn_D15, jfd_D16, jsn_D16, jarr_D1, jL32_0, jL32_1, jL32_2, jL32_3, jL32_4, jL32_5, jL32_6, jL32_7, jL32_8, jL32_9, jL32_10, jL32_11, jL32_12, jL32_13, jL32_14, jL32_15, jL32_16, jL32_17, jL32_18, jL32_19, jL32_20, jL32_21, jL32_22, jL32_23, jL32_24, jL32_25, jL32_26, jL32_27, jL32_28, jL32_29, jL32_30, jL32_31, jL32_32, jL32_33, jL32_34, jL32_35, jL32_36, jL32_37, jL32_38, jL32_39, jL32_57, jL32_60, jL32_97, jL32_122, jL32_255, jLm32_1, jLm32_2, jLm32_3, jLm32_1000, jL64_0, jL64_1, zne_10, zne_00, zne_01, zne_11, false_imp_iff, true_imp_iff, fX2_join_0, fX2_join_1, fX2_join_2, fX2_join_3, fX2_join_4, fX2_join_7, fX2_join_10, fX2_join_13, fX2_join_14, fX2_join_17, fX2_join_18, fX2_join_19, fX2_join_20, fX2_join_21, fX2_join_24, fX2_join_25, fX2_join_26, fX2_join_27, fX2_join_28, fX2_join_31, fX2_join_32, fX2_join_33, fX2_join_34, fX2_join_37, fX2_join_38, fX2_join_39, fX2_join_40, fX2_join_41, fX2_join_45, fX2_join_46, fX2_join_49, fX2_join_50, fX2_join_51, fX2_join_54, fX2_join_55, fX2_join_56, fX2_join_57, fX2_join_58, fX2_join_59, fX2_join_62, fX2_join_63, fX2_join_64, fX2_join_67, fX2_join_68, fX2_join_69, fX2_join_70, fX2_join_71, fX2_join_74, fX2_join_77, ↓jo_0, ↓jo_1, ↓jo_12, ↓jo_16, ↓jo_2, ↓jo_20, ↓jo_21, ↓jo_22, ↓jo_23, ↓jo_25, ↓jo_26, ↓jo_3, ↓jo_31v, hu, hr, s6, hn'.1, n24.1]
    refine ⟨jI32_nat (by omega), jI32_nat (by omega), fun c => ?_, fun c => ?_⟩
    · have : k = wN W := by omega
      subst this
      refine out S' f s6 (fun j jn => ?_)
      have a := hj j jn
      simp only [jn, true_and] at a
      exact a
    · have kn : k < wN W := by omega
      have g := (hg.fr hr f) k kn
      have a := hj k kn
      rw [if_neg (by omega), if_neg (by omega)] at a
      have b := hs k kn
      have b' := hs' k kn
      have rb := rU_b hr
      have e1 : ¬ (r = 299) := by omega
      have m1 := mul_b (x := u' k) (y := d k) (a := 3000000) (b := 3000) b'.1 (by omega) (by omega) (by omega)
      have m2 := mul_b (x := u k) (y := d' k) (a := 3000000) (b := 3000) b.1 (by omega) (by omega) (by omega)
      rw [g.1, g.2, a.1, a.2]
      simp only [e1, false_and, if_false]
      have keep : ∀ j, j < wN W → j ≠ k → S' 301 j = (if j < k + 1 ∧ 0 < u' j * d j - u j * d' j then u' j else u j) ∧ S' 302 j = (if j < k + 1 ∧ 0 < u' j * d j - u j * d' j then d' j else d j) := fun j jn jk => by
        have a := hj j jn
        by_cases e : j < k
        · simp only [e, true_and] at a
          simp only [show j < k + 1 by omega, true_and]
          exact a
        · simp only [e, false_and, if_false] at a
          simp only [show ¬ j < k + 1 by omega, false_and, if_false]
          exact a
      refine ⟨by omega, ⟨by omega, by omega⟩, by omega, by omega, by omega, ⟨by omega, by omega⟩, ⟨by omega, by omega⟩, ⟨by omega, by omega⟩, fun c => ?_, fun c => ⟨by omega, ⟨by omega, by omega⟩, by omega, by omega, ⟨by omega, by omega⟩, by omega, ?_⟩⟩
      · refine nx kn S' f s6 (fun j jn => ?_)
        by_cases e : j = k
        · subst e
          rw [if_neg (by omega), if_neg (by omega)]
          exact a
        · exact keep j jn e
      · refine nx kn _ ((f.trans (frU.set _ _ _ (by omega))).trans (frU.set _ _ _ (by omega))) (by simp [ju_at, s6]) (fun j jn => ?_)
        simp only [ju_at]
        by_cases e : j = k
        · subst e
          rw [if_pos (show j < j + 1 ∧ _ by omega), if_pos (show j < j + 1 ∧ _ by omega)]
          simp
        · have q := keep j jn e
          simp only [e, and_false, if_false]
          exact q
  refine jCw kX2_join jn_X2 (fun pc => pc == 2) 40 (Nat.le_of_ble_eq_true rfl) ?_
  simp -implicitDefEqProofs only [Nat.reduceAdd, Nat.reduceMul, Nat.reduceEqDiff, Nat.reduceBEq, Nat.reduceLT, Nat.reduceLeDiff, Int.reduceToNat, Int.reduceLE, Int.reduceLT, Int.reduceNeg, Int.reduceAdd, Int.reduceMul, Bool.or_false, Bool.or_true, Bool.true_or, Bool.false_or, jwq_s, jwp_sn, jwp_sc, jwp_0, jsum, jwx_s, ↓jol_c, ↓jo1_c, ↓jo2_c, ↓jo3_c, Bool.false_eq_true, beq_iff_eq, jst, jins_c, jins_n, jdrop_c, jdrop_n, jargs, jtg, jtag, jcnd, true_and, and_true, false_or, or_false, true_or, or_true, forall_const, ↓reduceIte, Option.toList, List.cons_append, List.nil_append, false_and, and_false, reduceCtorEq, false_imp_iff, forall_eq, true_imp_iff, joc_c, List.drop_succ_cons, List.drop_zero, List.take_succ_cons, List.take_zero, List.reverse_cons, List.reverse_nil, List.length_cons, List.length_nil, Int.reduceEq, not_true_eq_false, not_false_eq_true, mm_S, mm_L, mm_set, Int.toNat_natCast, Int.natCast_nonneg, ju_at, ne21, ne01, jrd_1, jrd_2, jrd_3, jobj_M, jfd_M0, jfd_M1, jfd_M2, jfd_M3, jfd_M4, jfd_M5, jfd_M6, jfd_M7, jfd_M8, jfd_M9, jfd_M10, jfd_M11, jfd_M12, jsn_M12, jfd_M13, jsn_M13, jfd_M14, jsn_M14, jfd_M15, jsn_M15, jarr_M5, jarr_M6, jarr_M7, jarr_M82, jarr_M83, jarr_M145, jarr_M146, jarr_M147, jarr_M8, jrd_M8, jarr_M9, jrd_M9, jarr_M84, jrd_M84, jobj_N, jfd_N0, jfd_N1, jfd_N2, jfd_N3, jsn_N3, jarr_N1, jarr_N2, jarr_N3, jobj_B, jfd_B0, jfd_B1, jfd_B2, jfd_B3, jfd_B4, jfd_B5, jsn_B5, jarr_B1, jarr_B2, jarr_B3, jarr_B4, jarr_B5, jobj_H, jfd_H0, jfd_H1, jfd_H2, jsn_H2, jfd_H3, jsn_H3, jfd_H4, jsn_H4, jfd_H5, jsn_H5, jfd_H6, jsn_H6, jfd_H7, jsn_H7, jfd_H8, jsn_H8, jfd_H9, jsn_H9, jfd_H10, jfd_H11, jarr_H429, jarr_H1, jrd_H1, jobj_P, jfd_P0, jfd_P1, jfd_P2, jsn_P2, jfd_P3, jsn_P3, jfd_P4, jsn_P4, jfd_P5, jsn_P5, jfd_P6, jsn_P6, jfd_P7, jsn_P7, jfd_P8, jsn_P8, jfd_P9, jsn_P9, jobj_G, jfd_G0, jfd_G1, jarr_G1, jarr_G2, jobj_A, jfd_A0, jsn_A0, jfd_A1, jsn_A1, jobj_O, jfd_O0, jfd_O1, jsn_O1, jfd_O2, jsn_O2, jfd_O3, jsn_O3, jfd_O4, jsn_O4, jfd_O5, jsn_O5, jfd_O6, jfd_O7, jfd_O8, jfd_O9, jfd_O10, jfd_O11, jarr_O1, jobj_E, jfd_E0, jfd_E1, jsn_E1, jfd_E2, jsn_E2, jfd_E3, jsn_E3, jfd_E4, jsn_E4, jfd_E5, jsn_E5, jfd_E6, jsn_E6, jfd_E7, jsn_E7, jfd_E8, jsn_E8, jfd_E9, jsn_E9, jfd_E10, jsn_E10, jfd_E11, jsn_E11, jfd_E12, jsn_E12, jfd_E13, jsn_E13, jfd_E14, jsn_E14, jarr_E1, jobj_C, jfd_C0, jfd_C1, jfd_C2, jfd_C3, jfd_C4, jfd_C5, jfd_C6, jsn_C6, jfd_C7, jsn_C7, jfd_C8, jsn_C8, jarr_C1, jarr_C2, jarr_C3, jarr_C4, jarr_C5, jarr_C6, jrd_C5, jsn_Ca5, jrd_C6, jsn_Ca6, jobj_Y, jfd_Y0, jfd_Y1, jfd_Y2, jsn_Y2, jfd_Y3, jfd_Y4, jfd_Y5, jarr_Y1, jobj_D, jfd_D0, jfd_D1, jfd_D2, jfd_D3, jsn_D3, jfd_D4, jsn_D4, jfd_D5, jsn_D5, jfd_D6, jfd_D7, jsn_D7, jfd_D8, jsn_D8, jfd_D9, jsn_D9, jfd_D10, jsn_D10, jfd_D11, jsn_D11, jfd_D12, jsn_D12, jfd_D13, jsn_D13, jfd_D14, jsn_D14, jfd_D15, jsn_D15, jfd_D16, jsn_D16, jarr_D1, jL32_0, jL32_1, jL32_2, jL32_3, jL32_4, jL32_5, jL32_6, jL32_7, jL32_8, jL32_9, jL32_10, jL32_11, jL32_12, jL32_13, jL32_14, jL32_15, jL32_16, jL32_17, jL32_18, jL32_19, jL32_20, jL32_21, jL32_22, jL32_23, jL32_24, jL32_25, jL32_26, jL32_27, jL32_28, jL32_29, jL32_30, jL32_31, jL32_32, jL32_33, jL32_34, jL32_35, jL32_36, jL32_37, jL32_38, jL32_39, jL32_57, jL32_60, jL32_97, jL32_122, jL32_255, jLm32_1, jLm32_2, jLm32_3, jLm32_1000, jL64_0, jL64_1, zne_10, zne_00, zne_01, zne_11, false_imp_iff, true_imp_iff, fX2_join_0, fX2_join_1, fX2_join_2, fX2_join_3, fX2_join_4, fX2_join_7, fX2_join_10, fX2_join_13, fX2_join_14, fX2_join_17, fX2_join_18, fX2_join_19, fX2_join_20, fX2_join_21, fX2_join_24, fX2_join_25, fX2_join_26, fX2_join_27, fX2_join_28, fX2_join_31, fX2_join_32, fX2_join_33, fX2_join_34, fX2_join_37, fX2_join_38, fX2_join_39, fX2_join_40, fX2_join_41, fX2_join_45, fX2_join_46, fX2_join_49, fX2_join_50, fX2_join_51, fX2_join_54, fX2_join_55, fX2_join_56, fX2_join_57, fX2_join_58, fX2_join_59, fX2_join_62, fX2_join_63, fX2_join_64, fX2_join_67, fX2_join_68, fX2_join_69, fX2_join_70, fX2_join_71, fX2_join_74, fX2_join_77, ↓jo_0, ↓jo_1, ↓jo_12, ↓jo_16, ↓jo_2, ↓jo_20, ↓jo_21, ↓jo_22, ↓jo_23, ↓jo_25, ↓jo_26, ↓jo_3, ↓jo_31v]
  exact main 0 (by omega) S (frU.refl S) s6 (fun j jn => by rw [if_neg (by omega), if_neg (by omega)]; exact hc j jn)

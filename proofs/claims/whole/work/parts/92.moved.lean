/-! The class's loadBox and loadMoved. -/
def bxv (W : Nat → Int) (k : Nat) : Int := wA W k * (if 0 < wA W k then W 7 else W 6) + wB W k * (if 0 < wB W k then W 9 else W 8)
theorem side_le {a x s t : Int} (B : Int) (h1 : x ≤ s * B) (h2 : -x ≤ -t * B) : a * x ≤ a * (if 0 < a then s else t) * B := by
  by_cases c : 0 < a
  · rw [if_pos c]
    have := Int.mul_le_mul_of_nonneg_left h1 (Int.le_of_lt c)
    have e : a * (s * B) = a * s * B := by grind
    omega
  · rw [if_neg c]
    have := Int.mul_le_mul_of_nonneg_left h2 (show 0 ≤ -a by omega)
    have e1 : -a * -x = a * x := by grind
    have e2 : -a * (-t * B) = a * t * B := by grind
    omega
theorem start_cu {W : Nat → Int} {S : jS} (hw : wfN W) (hl : cuL S (wN W) (bxv W) (fun _ => 1)) (X Y B : Int) : startF W X Y B ↔ cuF W S X Y B := by
  obtain ⟨x1, x2, x3, x4, x5, x6, x7, x8⟩ := hw.2.2
  have n24 := wfN_n hw
  unfold startF cuF
  constructor
  · rintro ⟨h1, h2, h3, h4⟩ k hk _
    rw [(hl k hk).1, (hl k hk).2]
    unfold bxv
    have a1 := side_le (a := wA W k) (x := X) (s := W 7) (t := W 6) B h1 h2
    have a2 := side_le (a := wB W k) (x := Y) (s := W 9) (t := W 8) B h3 h4
    show (wA W k * X + wB W k * Y) * 1 ≤ (wA W k * (if 0 < wA W k then W 7 else W 6) + wB W k * (if 0 < wB W k then W 9 else W 8)) * B
    rw [Int.mul_one, Int.add_mul]
    omega
  · intro h
    have q0 := h 0 (by omega)
    have q1 := h 1 (by omega)
    have q2 := h 2 (by omega)
    have q3 := h 3 (by omega)
    rw [(hl 0 (by omega)).1, (hl 0 (by omega)).2] at q0
    rw [(hl 1 (by omega)).1, (hl 1 (by omega)).2] at q1
    rw [(hl 2 (by omega)).1, (hl 2 (by omega)).2] at q2
    rw [(hl 3 (by omega)).1, (hl 3 (by omega)).2] at q3
    unfold bxv at q0 q1 q2 q3
    rw [x1, x2] at q0
    rw [x3, x4] at q1
    rw [x5, x6] at q2
    rw [x7, x8] at q3
    simp at q0 q1 q2 q3
    have e1 : -W 6 * B = -(W 6 * B) := by grind
    have e2 : -W 8 * B = -(W 8 * B) := by grind
    omega
set_option maxHeartbeats 2000000 in
set_option maxRecDepth 100000 in
theorem k_loadBox {G : jG} {z w c : Nat} {S : jS} {W : Nat → Int} {af : Nat → Nat} {P : Option jV → jM → Prop} (hw : wfN W) (hu : nU w) (hn : nwR w S W af) (hc : hU c) (hs : wfS W) (h0 : ∀ i, i < 4 → S (c + 429) i = W (6 + i))
    (out : ∀ S', frU S S' → cuI W w S' (startF W) → l4 S' → P none (mm z S')) :
    jC G mX2_loadBox 0 0 (mm z S) [(2, ((300 : Nat) : Int)), (2, (w : Int)), (2, ((c + 429 : Nat) : Int))] P := by
  have n24 := wfN_n hw
  have cb : 361 ≤ c := by rcases hc with h | h <;> omega
  obtain ⟨s1, s2, s3, s4, s5, s6'⟩ := hs
  have b6 := h0 0 (by omega)
  have b7 := h0 1 (by omega)
  have b8 := h0 2 (by omega)
  have b9 := h0 3 (by omega)
  have main : ∀ k : Nat, k ≤ wN W → ∀ S', frU S S' → S' 300 6 = (w : Int) → cuL S' k (bxv W) (fun _ => 1) → jJ G mX2_loadBox 0 0 P 0 0 7 [(0, (2, ((300 : Nat) : Int))), (1, (2, (w : Int))), (2, (2, ((c + 429 : Nat) : Int))), (3, (0, (k : Int)))] [] (mm z S') := by
    refine lp (wN W) ?_
    intro k hk nx S' f s6 hl
    have hn' := hn.fr hu f
    have e6 : S' (c + 429) 0 = W 6 := by rw [f _ _ (by omega)]; exact b6
    have e7 : S' (c + 429) 1 = W 7 := by rw [f _ _ (by omega)]; exact b7
    have e8 : S' (c + 429) 2 = W 8 := by rw [f _ _ (by omega)]; exact b8
    have e9 : S' (c + 429) 3 = W 9 := by rw [f _ _ (by omega)]; exact b9
    refine jJw kX2_loadBox (fun pc => pc == 7 || pc == 62) 60 7 ?_
    simp -implicitDefEqProofs only [Nat.reduceAdd, Nat.reduceMul, Nat.reduceEqDiff, Nat.reduceBEq, Nat.reduceLT, Nat.reduceLeDiff, Int.reduceToNat, Int.reduceLE, Int.reduceLT, Int.reduceNeg, Int.reduceAdd, Int.reduceMul, Bool.or_false, Bool.or_true, Bool.true_or, Bool.false_or, jwq_s, jwp_sn, jwp_sc, jwp_0, jsum, jwx_s, ↓jol_c, ↓jo1_c, ↓jo2_c, ↓jo3_c, Bool.false_eq_true, beq_iff_eq, jst, jins_c, jins_n, jdrop_c, jdrop_n, jargs, jtg, jtag, jcnd, true_and, and_true, false_or, or_false, true_or, or_true, forall_const, ↓reduceIte, Option.toList, List.cons_append, List.nil_append, false_and, and_false, reduceCtorEq, false_imp_iff, forall_eq, true_imp_iff, joc_c, List.drop_succ_cons, List.drop_zero, List.take_succ_cons, List.take_zero, List.reverse_cons, List.reverse_nil, List.length_cons, List.length_nil, Int.reduceEq, not_true_eq_false, not_false_eq_true, mm_S, mm_L, mm_set, Int.toNat_natCast, Int.natCast_nonneg, ju_at, ne21, ne01, jrd_1, jrd_2, jrd_3, jobj_M, jfd_M0, jfd_M1, jfd_M2, jfd_M3, jfd_M4, jfd_M5, jfd_M6, jfd_M7, jfd_M8, jfd_M9, jfd_M10, jfd_M11, jfd_M12, jsn_M12, jfd_M13, jsn_M13, jfd_M14, jsn_M14, jfd_M15, jsn_M15, jarr_M5, jarr_M6, jarr_M7, jarr_M82, jarr_M83, jarr_M145, jarr_M146, jarr_M147, jarr_M8, jrd_M8, jarr_M9, jrd_M9, jarr_M84, jrd_M84, jobj_N, jfd_N0, jfd_N1, jfd_N2, jfd_N3, jsn_N3, jarr_N1, jarr_N2, jarr_N3, jobj_B, jfd_B0, jfd_B1, jfd_B2, jfd_B3, jfd_B4, jfd_B5, jsn_B5, jarr_B1, jarr_B2, jarr_B3, jarr_B4, jarr_B5, jobj_H, jfd_H0, jfd_H1, jfd_H2, jsn_H2, jfd_H3, jsn_H3, jfd_H4, jsn_H4, jfd_H5, jsn_H5, jfd_H6, jsn_H6, jfd_H7, jsn_H7, jfd_H8, jsn_H8, jfd_H9, jsn_H9, jfd_H10, jfd_H11, jarr_H429, jarr_H1, jrd_H1, jobj_P, jfd_P0, jfd_P1, jfd_P2, jsn_P2, jfd_P3, jsn_P3, jfd_P4, jsn_P4, jfd_P5, jsn_P5, jfd_P6, jsn_P6, jfd_P7, jsn_P7, jfd_P8, jsn_P8, jfd_P9, jsn_P9, jobj_G, jfd_G0, jfd_G1, jarr_G1, jarr_G2, jobj_A, jfd_A0, jsn_A0, jfd_A1, jsn_A1, jobj_O, jfd_O0, jfd_O1, jsn_O1, jfd_O2, jsn_O2, jfd_O3, jsn_O3, jfd_O4, jsn_O4, jfd_O5, jsn_O5, jfd_O6, jfd_O7, jfd_O8, jfd_O9, jfd_O10, jfd_O11, jarr_O1, jobj_E, jfd_E0, jfd_E1, jsn_E1, jfd_E2, jsn_E2, jfd_E3, jsn_E3, jfd_E4, jsn_E4, jfd_E5, jsn_E5, jfd_E6, jsn_E6, jfd_E7, jsn_E7, jfd_E8, jsn_E8, jfd_E9, jsn_E9, jfd_E10, jsn_E10, jfd_E11, jsn_E11, jfd_E12, jsn_E12, jfd_E13, jsn_E13, jfd_E14, jsn_E14, jarr_E1, jobj_C, jfd_C0, jfd_C1, jfd_C2, jfd_C3, jfd_C4, jfd_C5, jfd_C6, jsn_C6, jfd_C7, jsn_C7, jfd_C8, jsn_C8, jarr_C1, jarr_C2, jarr_C3, jarr_C4, jarr_C5, jarr_C6, jrd_C5, jsn_Ca5, jrd_C6, jsn_Ca6, jobj_Y, jfd_Y0, jfd_Y1, jfd_Y2, jsn_Y2, jfd_Y3, jfd_Y4, jfd_Y5, jarr_Y1, jobj_D, jfd_D0, jfd_D1, jfd_D2, jfd_D3, jsn_D3, jfd_D4, jsn_D4, jfd_D5, jsn_D5, jfd_D6, jfd_D7, jsn_D7, jfd_D8, jsn_D8, jfd_D9, jsn_D9, jfd_D10, jsn_D10, jfd_D11, jsn_D11, jfd_D12, jsn_D12, jfd_D13, jsn_D13, jfd_D14, jsn_D14, jfd_D15, jsn_D15, jfd_D16, jsn_D16, jarr_D1, jL32_0, jL32_1, jL32_2, jL32_3, jL32_4, jL32_5, jL32_6, jL32_7, jL32_8, jL32_9, jL32_10, jL32_11, jL32_12, jL32_13, jL32_14, jL32_15, jL32_16, jL32_17, jL32_18, jL32_19, jL32_20, jL32_21, jL32_22, jL32_23, jL32_24, jL32_25, jL32_26, jL32_27, jL32_28, jL32_29, jL32_30, jL32_31, jL32_32, jL32_33, jL32_34, jL32_35, jL32_36, jL32_37, jL32_38, jL32_39, jL32_57, jL32_60, jL32_97, jL32_122, jL32_255, jLm32_1, jLm32_2, jLm32_3, jLm32_1000, jL64_0, jL64_1, zne_10, zne_00, zne_01, zne_11, false_imp_iff, true_imp_iff, fX2_loadBox_0, fX2_loadBox_1, fX2_loadBox_2, fX2_loadBox_5, fX2_loadBox_6, fX2_loadBox_7, fX2_loadBox_8, fX2_loadBox_9, fX2_loadBox_12, fX2_loadBox_15, fX2_loadBox_18, fX2_loadBox_19, fX2_loadBox_22, fX2_loadBox_25, fX2_loadBox_26, fX2_loadBox_27, fX2_loadBox_28, fX2_loadBox_30, fX2_loadBox_31, fX2_loadBox_34, fX2_loadBox_37, fX2_loadBox_38, fX2_loadBox_39, fX2_loadBox_40, fX2_loadBox_42, fX2_loadBox_43, fX2_loadBox_46, fX2_loadBox_47, fX2_loadBox_49, fX2_loadBox_50, fX2_loadBox_52, fX2_loadBox_53, fX2_loadBox_57, fX2_loadBox_58, fX2_loadBox_61, fX2_loadBox_62, fX2_loadBox_63, fX2_loadBox_64, fX2_loadBox_65, fX2_loadBox_67, fX2_loadBox_68, fX2_loadBox_70, fX2_loadBox_71, fX2_loadBox_75, fX2_loadBox_76, fX2_loadBox_79, fX2_loadBox_80, fX2_loadBox_81, fX2_loadBox_82, fX2_loadBox_83, fX2_loadBox_84, fX2_loadBox_85, fX2_loadBox_86, fX2_loadBox_89, fX2_loadBox_90, fX2_loadBox_91, fX2_loadBox_92, fX2_loadBox_95, fX2_loadBox_98, ↓jo_0, ↓jo_1, ↓jo_10, ↓jo_12, ↓jo_16, ↓jo_2, ↓jo_20, ↓jo_21, ↓jo_22, ↓jo_23, ↓jo_24, ↓jo_25, ↓jo_26, ↓jo_3, ↓jo_31v, ↓jo_41, hu, s6, hn'.1, n24.1]
    refine ⟨jI32_nat (by omega), jI32_nat (by omega), fun q => ?_, fun q => ?_⟩
    · have : k = wN W := by omega
      subst this
      refine out S' f ⟨s6, fun j hj => ?_, fun X Y B hB => start_cu hw hl X Y B⟩ (fun j hj => by rw [(hl j (by omega)).2]; show (1 : Int) ≠ 0; omega)
      have l := hl j hj
      have b9' := wfN_9 hw hj
      rw [l.1, l.2]
      have m1 := mul_b (x := wA W j) (y := if 0 < wA W j then W 7 else W 6) (a := 9) (b := 999) b9'.1 (by split <;> omega) (by omega) (by omega)
      have m2 := mul_b (x := wB W j) (y := if 0 < wB W j then W 9 else W 8) (a := 9) (b := 999) b9'.2 (by split <;> omega) (by omega) (by omega)
      unfold bxv
      dsimp only
      omega
    · have kn : k < wN W := by omega
      have k24 : (k : Int) < 24 := by omega
      obtain ⟨n1, n2, -⟩ := hn'.2 k kn
      have b9' := wfN_9 hw kn
      rw [n1, n2]
      have a64 : jI64 (wA W k) := ⟨by omega, by omega⟩
      have b64 : jI64 (wB W k) := ⟨by omega, by omega⟩
      have at62 : ∀ i : Int, i = (if 0 < wA W k then 1 else 0) → jJ G mX2_loadBox 0 0 P 0 0 62 [(0, (2, ((300 : Nat) : Int))), (1, (2, (w : Int))), (2, (2, ((c + 429 : Nat) : Int))), (3, (0, (k : Int))), (4, (1, wA W k)), (6, (1, wB W k))] [(0, i), (2, ((c + 429 : Nat) : Int)), (1, wA W k), (0, (k : Int)), (2, ((301 : Nat) : Int))] (mm z S') := by
        intro i hi
        have ib : 0 ≤ i ∧ i < 4 := by rw [hi]; split <;> omega
        have ev : S' (c + 429) i.toNat = (if 0 < wA W k then W 7 else W 6) := by
          rw [hi]
          split
          · exact e7
          · exact e6
        have at80 : ∀ j : Int, j = (if 0 < wB W k then 3 else 2) → jJ G mX2_loadBox 0 0 P 0 0 80 [(0, (2, ((300 : Nat) : Int))), (1, (2, (w : Int))), (2, (2, ((c + 429 : Nat) : Int))), (3, (0, (k : Int))), (4, (1, wA W k)), (6, (1, wB W k))] [(0, j), (2, ((c + 429 : Nat) : Int)), (1, wB W k), (1, wA W k * (if 0 < wA W k then W 7 else W 6)), (0, (k : Int)), (2, ((301 : Nat) : Int))] (mm z S') := by
          intro j hj
          have jb : 0 ≤ j ∧ j < 4 := by rw [hj]; split <;> omega
          have ev : S' (c + 429) j.toNat = (if 0 < wB W k then W 9 else W 8) := by
            rw [hj]
            split
            · exact e9
            · exact e8
          have v32 : jI32 (if 0 < wB W k then W 9 else W 8) := by split <;> exact ⟨by omega, by omega⟩
          refine jJw kX2_loadBox (fun pc => pc == 7) 60 80 ?_
          simp -implicitDefEqProofs only [Nat.reduceAdd, Nat.reduceMul, Nat.reduceEqDiff, Nat.reduceBEq, Nat.reduceLT, Nat.reduceLeDiff, Int.reduceToNat, Int.reduceLE, Int.reduceLT, Int.reduceNeg, Int.reduceAdd, Int.reduceMul, Bool.or_false, Bool.or_true, Bool.true_or, Bool.false_or, jwq_s, jwp_sn, jwp_sc, jwp_0, jsum, jwx_s, ↓jol_c, ↓jo1_c, ↓jo2_c, ↓jo3_c, Bool.false_eq_true, beq_iff_eq, jst, jins_c, jins_n, jdrop_c, jdrop_n, jargs, jtg, jtag, jcnd, true_and, and_true, false_or, or_false, true_or, or_true, forall_const, ↓reduceIte, Option.toList, List.cons_append, List.nil_append, false_and, and_false, reduceCtorEq, false_imp_iff, forall_eq, true_imp_iff, joc_c, List.drop_succ_cons, List.drop_zero, List.take_succ_cons, List.take_zero, List.reverse_cons, List.reverse_nil, List.length_cons, List.length_nil, Int.reduceEq, not_true_eq_false, not_false_eq_true, mm_S, mm_L, mm_set, Int.toNat_natCast, Int.natCast_nonneg, ju_at, ne21, ne01, jrd_1, jrd_2, jrd_3, jobj_M, jfd_M0, jfd_M1, jfd_M2, jfd_M3, jfd_M4, jfd_M5, jfd_M6, jfd_M7, jfd_M8, jfd_M9, jfd_M10, jfd_M11, jfd_M12, jsn_M12, jfd_M13, jsn_M13, jfd_M14, jsn_M14, jfd_M15, jsn_M15, jarr_M5, jarr_M6, jarr_M7, jarr_M82, jarr_M83, jarr_M145, jarr_M146, jarr_M147, jarr_M8, jrd_M8, jarr_M9, jrd_M9, jarr_M84, jrd_M84, jobj_N, jfd_N0, jfd_N1, jfd_N2, jfd_N3, jsn_N3, jarr_N1, jarr_N2, jarr_N3, jobj_B, jfd_B0, jfd_B1, jfd_B2, jfd_B3, jfd_B4, jfd_B5, jsn_B5, jarr_B1, jarr_B2, jarr_B3, jarr_B4, jarr_B5, jobj_H, jfd_H0, jfd_H1, jfd_H2, jsn_H2, jfd_H3, jsn_H3, jfd_H4, jsn_H4, jfd_H5, jsn_H5, jfd_H6, jsn_H6, jfd_H7, jsn_H7, jfd_H8, jsn_H8, jfd_H9, jsn_H9, jfd_H10, jfd_H11, jarr_H429, jarr_H1, jrd_H1, jobj_P, jfd_P0, jfd_P1, jfd_P2, jsn_P2, jfd_P3, jsn_P3, jfd_P4, jsn_P4, jfd_P5, jsn_P5, jfd_P6, jsn_P6, jfd_P7, jsn_P7, jfd_P8, jsn_P8, jfd_P9, jsn_P9, jobj_G, jfd_G0, jfd_G1, jarr_G1, jarr_G2, jobj_A, jfd_A0, jsn_A0, jfd_A1, jsn_A1, jobj_O, jfd_O0, jfd_O1, jsn_O1, jfd_O2, jsn_O2, jfd_O3, jsn_O3, jfd_O4, jsn_O4, jfd_O5, jsn_O5, jfd_O6, jfd_O7, jfd_O8, jfd_O9, jfd_O10, jfd_O11, jarr_O1, jobj_E, jfd_E0, jfd_E1, jsn_E1, jfd_E2, jsn_E2, jfd_E3, jsn_E3, jfd_E4, jsn_E4, jfd_E5, jsn_E5, jfd_E6, jsn_E6, jfd_E7, jsn_E7, jfd_E8, jsn_E8, jfd_E9, jsn_E9, jfd_E10, jsn_E10, jfd_E11, jsn_E11, jfd_E12, jsn_E12, jfd_E13, jsn_E13, jfd_E14, jsn_E14, jarr_E1, jobj_C, jfd_C0, jfd_C1, jfd_C2, jfd_C3, jfd_C4, jfd_C5, jfd_C6, jsn_C6, jfd_C7, jsn_C7, jfd_C8, jsn_C8, jarr_C1, jarr_C2, jarr_C3, jarr_C4, jarr_C5, jarr_C6, jrd_C5, jsn_Ca5, jrd_C6, jsn_Ca6, jobj_Y, jfd_Y0, jfd_Y1, jfd_Y2, jsn_Y2, jfd_Y3, jfd_Y4, jfd_Y5, jarr_Y1, jobj_D, jfd_D0, jfd_D1, jfd_D2, jfd_D3, jsn_D3, jfd_D4, jsn_D4, jfd_D5, jsn_D5, jfd_D6, jfd_D7, jsn_D7, jfd_D8, jsn_D8, jfd_D9, jsn_D9, jfd_D10, jsn_D10, jfd_D11, jsn_D11, jfd_D12, jsn_D12, jfd_D13, jsn_D13, jfd_D14, jsn_D14, jfd_D15, jsn_D15, jfd_D16, jsn_D16, jarr_D1, jL32_0, jL32_1, jL32_2, jL32_3, jL32_4, jL32_5, jL32_6, jL32_7, jL32_8, jL32_9, jL32_10, jL32_11, jL32_12, jL32_13, jL32_14, jL32_15, jL32_16, jL32_17, jL32_18, jL32_19, jL32_20, jL32_21, jL32_22, jL32_23, jL32_24, jL32_25, jL32_26, jL32_27, jL32_28, jL32_29, jL32_30, jL32_31, jL32_32, jL32_33, jL32_34, jL32_35, jL32_36, jL32_37, jL32_38, jL32_39, jL32_57, jL32_60, jL32_97, jL32_122, jL32_255, jLm32_1, jLm32_2, jLm32_3, jLm32_1000, jL64_0, jL64_1, zne_10, zne_00, zne_01, zne_11, false_imp_iff, true_imp_iff, fX2_loadBox_0, fX2_loadBox_1, fX2_loadBox_2, fX2_loadBox_5, fX2_loadBox_6, fX2_loadBox_7, fX2_loadBox_8, fX2_loadBox_9, fX2_loadBox_12, fX2_loadBox_15, fX2_loadBox_18, fX2_loadBox_19, fX2_loadBox_22, fX2_loadBox_25, fX2_loadBox_26, fX2_loadBox_27, fX2_loadBox_28, fX2_loadBox_30, fX2_loadBox_31, fX2_loadBox_34, fX2_loadBox_37, fX2_loadBox_38, fX2_loadBox_39, fX2_loadBox_40, fX2_loadBox_42, fX2_loadBox_43, fX2_loadBox_46, fX2_loadBox_47, fX2_loadBox_49, fX2_loadBox_50, fX2_loadBox_52, fX2_loadBox_53, fX2_loadBox_57, fX2_loadBox_58, fX2_loadBox_61, fX2_loadBox_62, fX2_loadBox_63, fX2_loadBox_64, fX2_loadBox_65, fX2_loadBox_67, fX2_loadBox_68, fX2_loadBox_70, fX2_loadBox_71, fX2_loadBox_75, fX2_loadBox_76, fX2_loadBox_79, fX2_loadBox_80, fX2_loadBox_81, fX2_loadBox_82, fX2_loadBox_83, fX2_loadBox_84, fX2_loadBox_85, fX2_loadBox_86, fX2_loadBox_89, fX2_loadBox_90, fX2_loadBox_91, fX2_loadBox_92, fX2_loadBox_95, fX2_loadBox_98, ↓jo_0, ↓jo_1, ↓jo_10, ↓jo_12, ↓jo_16, ↓jo_2, ↓jo_20, ↓jo_21, ↓jo_22, ↓jo_23, ↓jo_24, ↓jo_25, ↓jo_26, ↓jo_3, ↓jo_31v, ↓jo_41, hc, ev]
          refine ⟨jb, v32, k24, k24, ?_⟩
          refine (nx kn _ ((f.trans (frU.set _ _ _ (by omega))).trans (frU.set _ _ _ (by omega))) (by simp [ju_at, s6]) (fun j hj => ?_)).sub (by simp)
          simp only [ju_at]
          by_cases e : j = k
          · subst e
            simp
            rfl
          · have := hl j (by omega)
            simp [e, this.1, this.2]
        have v32 : jI32 (if 0 < wA W k then W 7 else W 6) := by split <;> exact ⟨by omega, by omega⟩
        refine jJw kX2_loadBox (fun pc => pc == 80) 60 62 ?_
        simp -implicitDefEqProofs only [Nat.reduceAdd, Nat.reduceMul, Nat.reduceEqDiff, Nat.reduceBEq, Nat.reduceLT, Nat.reduceLeDiff, Int.reduceToNat, Int.reduceLE, Int.reduceLT, Int.reduceNeg, Int.reduceAdd, Int.reduceMul, Bool.or_false, Bool.or_true, Bool.true_or, Bool.false_or, jwq_s, jwp_sn, jwp_sc, jwp_0, jsum, jwx_s, ↓jol_c, ↓jo1_c, ↓jo2_c, ↓jo3_c, Bool.false_eq_true, beq_iff_eq, jst, jins_c, jins_n, jdrop_c, jdrop_n, jargs, jtg, jtag, jcnd, true_and, and_true, false_or, or_false, true_or, or_true, forall_const, ↓reduceIte, Option.toList, List.cons_append, List.nil_append, false_and, and_false, reduceCtorEq, false_imp_iff, forall_eq, true_imp_iff, joc_c, List.drop_succ_cons, List.drop_zero, List.take_succ_cons, List.take_zero, List.reverse_cons, List.reverse_nil, List.length_cons, List.length_nil, Int.reduceEq, not_true_eq_false, not_false_eq_true, mm_S, mm_L, mm_set, Int.toNat_natCast, Int.natCast_nonneg, ju_at, ne21, ne01, jrd_1, jrd_2, jrd_3, jobj_M, jfd_M0, jfd_M1, jfd_M2, jfd_M3, jfd_M4, jfd_M5, jfd_M6, jfd_M7, jfd_M8, jfd_M9, jfd_M10, jfd_M11, jfd_M12, jsn_M12, jfd_M13, jsn_M13, jfd_M14, jsn_M14, jfd_M15, jsn_M15, jarr_M5, jarr_M6, jarr_M7, jarr_M82, jarr_M83, jarr_M145, jarr_M146, jarr_M147, jarr_M8, jrd_M8, jarr_M9, jrd_M9, jarr_M84, jrd_M84, jobj_N, jfd_N0, jfd_N1, jfd_N2, jfd_N3, jsn_N3, jarr_N1, jarr_N2, jarr_N3, jobj_B, jfd_B0, jfd_B1, jfd_B2, jfd_B3, jfd_B4, jfd_B5, jsn_B5, jarr_B1, jarr_B2, jarr_B3, jarr_B4, jarr_B5, jobj_H, jfd_H0, jfd_H1, jfd_H2, jsn_H2, jfd_H3, jsn_H3, jfd_H4, jsn_H4, jfd_H5, jsn_H5, jfd_H6, jsn_H6, jfd_H7, jsn_H7, jfd_H8, jsn_H8, jfd_H9, jsn_H9, jfd_H10, jfd_H11, jarr_H429, jarr_H1, jrd_H1, jobj_P, jfd_P0, jfd_P1, jfd_P2, jsn_P2, jfd_P3, jsn_P3, jfd_P4, jsn_P4, jfd_P5, jsn_P5, jfd_P6, jsn_P6, jfd_P7, jsn_P7, jfd_P8, jsn_P8, jfd_P9, jsn_P9, jobj_G, jfd_G0, jfd_G1, jarr_G1, jarr_G2, jobj_A, jfd_A0, jsn_A0, jfd_A1, jsn_A1, jobj_O, jfd_O0, jfd_O1, jsn_O1, jfd_O2, jsn_O2, jfd_O3, jsn_O3, jfd_O4, jsn_O4, jfd_O5, jsn_O5, jfd_O6, jfd_O7, jfd_O8, jfd_O9, jfd_O10, jfd_O11, jarr_O1, jobj_E, jfd_E0, jfd_E1, jsn_E1, jfd_E2, jsn_E2, jfd_E3, jsn_E3, jfd_E4, jsn_E4, jfd_E5, jsn_E5, jfd_E6, jsn_E6, jfd_E7, jsn_E7, jfd_E8, jsn_E8, jfd_E9, jsn_E9, jfd_E10, jsn_E10, jfd_E11, jsn_E11, jfd_E12, jsn_E12, jfd_E13, jsn_E13, jfd_E14, jsn_E14, jarr_E1, jobj_C, jfd_C0, jfd_C1, jfd_C2, jfd_C3, jfd_C4, jfd_C5, jfd_C6, jsn_C6, jfd_C7, jsn_C7, jfd_C8, jsn_C8, jarr_C1, jarr_C2, jarr_C3, jarr_C4, jarr_C5, jarr_C6, jrd_C5, jsn_Ca5, jrd_C6, jsn_Ca6, jobj_Y, jfd_Y0, jfd_Y1, jfd_Y2, jsn_Y2, jfd_Y3, jfd_Y4, jfd_Y5, jarr_Y1, jobj_D, jfd_D0, jfd_D1, jfd_D2, jfd_D3, jsn_D3, jfd_D4, jsn_D4, jfd_D5, jsn_D5, jfd_D6, jfd_D7, jsn_D7, jfd_D8, jsn_D8, jfd_D9, jsn_D9, jfd_D10, jsn_D10, jfd_D11, jsn_D11, jfd_D12, jsn_D12, jfd_D13, jsn_D13, jfd_D14, jsn_D14, jfd_D15, jsn_D15, jfd_D16, jsn_D16, jarr_D1, jL32_0, jL32_1, jL32_2, jL32_3, jL32_4, jL32_5, jL32_6, jL32_7, jL32_8, jL32_9, jL32_10, jL32_11, jL32_12, jL32_13, jL32_14, jL32_15, jL32_16, jL32_17, jL32_18, jL32_19, jL32_20, jL32_21, jL32_22, jL32_23, jL32_24, jL32_25, jL32_26, jL32_27, jL32_28, jL32_29, jL32_30, jL32_31, jL32_32, jL32_33, jL32_34, jL32_35, jL32_36, jL32_37, jL32_38, jL32_39, jL32_57, jL32_60, jL32_97, jL32_122, jL32_255, jLm32_1, jLm32_2, jLm32_3, jLm32_1000, jL64_0, jL64_1, zne_10, zne_00, zne_01, zne_11, false_imp_iff, true_imp_iff, fX2_loadBox_0, fX2_loadBox_1, fX2_loadBox_2, fX2_loadBox_5, fX2_loadBox_6, fX2_loadBox_7, fX2_loadBox_8, fX2_loadBox_9, fX2_loadBox_12, fX2_loadBox_15, fX2_loadBox_18, fX2_loadBox_19, fX2_loadBox_22, fX2_loadBox_25, fX2_loadBox_26, fX2_loadBox_27, fX2_loadBox_28, fX2_loadBox_30, fX2_loadBox_31, fX2_loadBox_34, fX2_loadBox_37, fX2_loadBox_38, fX2_loadBox_39, fX2_loadBox_40, fX2_loadBox_42, fX2_loadBox_43, fX2_loadBox_46, fX2_loadBox_47, fX2_loadBox_49, fX2_loadBox_50, fX2_loadBox_52, fX2_loadBox_53, fX2_loadBox_57, fX2_loadBox_58, fX2_loadBox_61, fX2_loadBox_62, fX2_loadBox_63, fX2_loadBox_64, fX2_loadBox_65, fX2_loadBox_67, fX2_loadBox_68, fX2_loadBox_70, fX2_loadBox_71, fX2_loadBox_75, fX2_loadBox_76, fX2_loadBox_79, fX2_loadBox_80, fX2_loadBox_81, fX2_loadBox_82, fX2_loadBox_83, fX2_loadBox_84, fX2_loadBox_85, fX2_loadBox_86, fX2_loadBox_89, fX2_loadBox_90, fX2_loadBox_91, fX2_loadBox_92, fX2_loadBox_95, fX2_loadBox_98, ↓jo_0, ↓jo_1, ↓jo_10, ↓jo_12, ↓jo_16, ↓jo_2, ↓jo_20, ↓jo_21, ↓jo_22, ↓jo_23, ↓jo_24, ↓jo_25, ↓jo_26, ↓jo_3, ↓jo_31v, ↓jo_41, hc, ev]
        refine ⟨ib, v32, b64, fun q => at80 _ (by rw [if_neg (by omega)]), fun q => at80 _ (by rw [if_pos (by omega)])⟩
      refine ⟨k24, ⟨by omega, by omega⟩, k24, ⟨by omega, by omega⟩, a64, fun q => at62 _ (by rw [if_neg (by omega)]), fun q => at62 _ (by rw [if_pos (by omega)])⟩
  refine jCw kX2_loadBox jn_X2 (fun pc => pc == 7) 40 (Nat.le_of_ble_eq_true rfl) ?_
  simp -implicitDefEqProofs only [Nat.reduceAdd, Nat.reduceMul, Nat.reduceEqDiff, Nat.reduceBEq, Nat.reduceLT, Nat.reduceLeDiff, Int.reduceToNat, Int.reduceLE, Int.reduceLT, Int.reduceNeg, Int.reduceAdd, Int.reduceMul, Bool.or_false, Bool.or_true, Bool.true_or, Bool.false_or, jwq_s, jwp_sn, jwp_sc, jwp_0, jsum, jwx_s, ↓jol_c, ↓jo1_c, ↓jo2_c, ↓jo3_c, Bool.false_eq_true, beq_iff_eq, jst, jins_c, jins_n, jdrop_c, jdrop_n, jargs, jtg, jtag, jcnd, true_and, and_true, false_or, or_false, true_or, or_true, forall_const, ↓reduceIte, Option.toList, List.cons_append, List.nil_append, false_and, and_false, reduceCtorEq, false_imp_iff, forall_eq, true_imp_iff, joc_c, List.drop_succ_cons, List.drop_zero, List.take_succ_cons, List.take_zero, List.reverse_cons, List.reverse_nil, List.length_cons, List.length_nil, Int.reduceEq, not_true_eq_false, not_false_eq_true, mm_S, mm_L, mm_set, Int.toNat_natCast, Int.natCast_nonneg, ju_at, ne21, ne01, jrd_1, jrd_2, jrd_3, jobj_M, jfd_M0, jfd_M1, jfd_M2, jfd_M3, jfd_M4, jfd_M5, jfd_M6, jfd_M7, jfd_M8, jfd_M9, jfd_M10, jfd_M11, jfd_M12, jsn_M12, jfd_M13, jsn_M13, jfd_M14, jsn_M14, jfd_M15, jsn_M15, jarr_M5, jarr_M6, jarr_M7, jarr_M82, jarr_M83, jarr_M145, jarr_M146, jarr_M147, jarr_M8, jrd_M8, jarr_M9, jrd_M9, jarr_M84, jrd_M84, jobj_N, jfd_N0, jfd_N1, jfd_N2, jfd_N3, jsn_N3, jarr_N1, jarr_N2, jarr_N3, jobj_B, jfd_B0, jfd_B1, jfd_B2, jfd_B3, jfd_B4, jfd_B5, jsn_B5, jarr_B1, jarr_B2, jarr_B3, jarr_B4, jarr_B5, jobj_H, jfd_H0, jfd_H1, jfd_H2, jsn_H2, jfd_H3, jsn_H3, jfd_H4, jsn_H4, jfd_H5, jsn_H5, jfd_H6, jsn_H6, jfd_H7, jsn_H7, jfd_H8, jsn_H8, jfd_H9, jsn_H9, jfd_H10, jfd_H11, jarr_H429, jarr_H1, jrd_H1, jobj_P, jfd_P0, jfd_P1, jfd_P2, jsn_P2, jfd_P3, jsn_P3, jfd_P4, jsn_P4, jfd_P5, jsn_P5, jfd_P6, jsn_P6, jfd_P7, jsn_P7, jfd_P8, jsn_P8, jfd_P9, jsn_P9, jobj_G, jfd_G0, jfd_G1, jarr_G1, jarr_G2, jobj_A, jfd_A0, jsn_A0, jfd_A1, jsn_A1, jobj_O, jfd_O0, jfd_O1, jsn_O1, jfd_O2, jsn_O2, jfd_O3, jsn_O3, jfd_O4, jsn_O4, jfd_O5, jsn_O5, jfd_O6, jfd_O7, jfd_O8, jfd_O9, jfd_O10, jfd_O11, jarr_O1, jobj_E, jfd_E0, jfd_E1, jsn_E1, jfd_E2, jsn_E2, jfd_E3, jsn_E3, jfd_E4, jsn_E4, jfd_E5, jsn_E5, jfd_E6, jsn_E6, jfd_E7, jsn_E7, jfd_E8, jsn_E8, jfd_E9, jsn_E9, jfd_E10, jsn_E10, jfd_E11, jsn_E11, jfd_E12, jsn_E12, jfd_E13, jsn_E13, jfd_E14, jsn_E14, jarr_E1, jobj_C, jfd_C0, jfd_C1, jfd_C2, jfd_C3, jfd_C4, jfd_C5, jfd_C6, jsn_C6, jfd_C7, jsn_C7, jfd_C8, jsn_C8, jarr_C1, jarr_C2, jarr_C3, jarr_C4, jarr_C5, jarr_C6, jrd_C5, jsn_Ca5, jrd_C6, jsn_Ca6, jobj_Y, jfd_Y0, jfd_Y1, jfd_Y2, jsn_Y2, jfd_Y3, jfd_Y4, jfd_Y5, jarr_Y1, jobj_D, jfd_D0, jfd_D1, jfd_D2, jfd_D3, jsn_D3, jfd_D4, jsn_D4, jfd_D5, jsn_D5, jfd_D6, jfd_D7, jsn_D7, jfd_D8, jsn_D8, jfd_D9, jsn_D9, jfd_D10, jsn_D10, jfd_D11, jsn_D11, jfd_D12, jsn_D12, jfd_D13, jsn_D13, jfd_D14, jsn_D14, jfd_D15, jsn_D15, jfd_D16, jsn_D16, jarr_D1, jL32_0, jL32_1, jL32_2, jL32_3, jL32_4, jL32_5, jL32_6, jL32_7, jL32_8, jL32_9, jL32_10, jL32_11, jL32_12, jL32_13, jL32_14, jL32_15, jL32_16, jL32_17, jL32_18, jL32_19, jL32_20, jL32_21, jL32_22, jL32_23, jL32_24, jL32_25, jL32_26, jL32_27, jL32_28, jL32_29, jL32_30, jL32_31, jL32_32, jL32_33, jL32_34, jL32_35, jL32_36, jL32_37, jL32_38, jL32_39, jL32_57, jL32_60, jL32_97, jL32_122, jL32_255, jLm32_1, jLm32_2, jLm32_3, jLm32_1000, jL64_0, jL64_1, zne_10, zne_00, zne_01, zne_11, false_imp_iff, true_imp_iff, fX2_loadBox_0, fX2_loadBox_1, fX2_loadBox_2, fX2_loadBox_5, fX2_loadBox_6, fX2_loadBox_7, fX2_loadBox_8, fX2_loadBox_9, fX2_loadBox_12, fX2_loadBox_15, fX2_loadBox_18, fX2_loadBox_19, fX2_loadBox_22, fX2_loadBox_25, fX2_loadBox_26, fX2_loadBox_27, fX2_loadBox_28, fX2_loadBox_30, fX2_loadBox_31, fX2_loadBox_34, fX2_loadBox_37, fX2_loadBox_38, fX2_loadBox_39, fX2_loadBox_40, fX2_loadBox_42, fX2_loadBox_43, fX2_loadBox_46, fX2_loadBox_47, fX2_loadBox_49, fX2_loadBox_50, fX2_loadBox_52, fX2_loadBox_53, fX2_loadBox_57, fX2_loadBox_58, fX2_loadBox_61, fX2_loadBox_62, fX2_loadBox_63, fX2_loadBox_64, fX2_loadBox_65, fX2_loadBox_67, fX2_loadBox_68, fX2_loadBox_70, fX2_loadBox_71, fX2_loadBox_75, fX2_loadBox_76, fX2_loadBox_79, fX2_loadBox_80, fX2_loadBox_81, fX2_loadBox_82, fX2_loadBox_83, fX2_loadBox_84, fX2_loadBox_85, fX2_loadBox_86, fX2_loadBox_89, fX2_loadBox_90, fX2_loadBox_91, fX2_loadBox_92, fX2_loadBox_95, fX2_loadBox_98, ↓jo_0, ↓jo_1, ↓jo_10, ↓jo_12, ↓jo_16, ↓jo_2, ↓jo_20, ↓jo_21, ↓jo_22, ↓jo_23, ↓jo_24, ↓jo_25, ↓jo_26, ↓jo_3, ↓jo_31v, ↓jo_41]
  exact main 0 (by omega) _ (frU.set _ _ _ (by omega)) (by simp [ju_at]) (fun j hj => by omega)
/-! what an edge makes of a set -/
def mvS (W : Nat → Int) (e k : Nat) : Nat := if W (212 + 19 * e) = 1 then (if 0 < wB W k then 2 else 3) else if W (214 + 19 * e) = 1 then (if 0 < wA W k then 0 else 1) else k
def mvT (W : Nat → Int) (e k : Nat) : Int := if W (212 + 19 * e) = 1 ∧ W (214 + 19 * e) = 1 then 0 else if W (212 + 19 * e) = 1 then (if 0 ≤ wB W k then wB W k else -wB W k) else if W (214 + 19 * e) = 1 then (if 0 ≤ wA W k then wA W k else -wA W k) else 1
def mvH (W : Nat → Int) (e k : Nat) : Int := wA W k * W (213 + 19 * e) + wB W k * W (215 + 19 * e)
def mvU (W : Nat → Int) (e : Nat) (u d : Nat → Int) (k : Nat) : Int := mvT W e k * u (mvS W e k) + mvH W e k * d (mvS W e k)
def mvD (W : Nat → Int) (e : Nat) (d : Nat → Int) (k : Nat) : Int := d (mvS W e k)
theorem mvS_b {W : Nat → Int} (hw : wfN W) {e k : Nat} (hk : k < wN W) : mvS W e k < wN W := by
  have := wfN_n hw
  unfold mvS
  split
  · split <;> omega
  · split
    · split <;> omega
    · exact hk
theorem mvT_b {W : Nat → Int} (hw : wfN W) {e k : Nat} (hk : k < wN W) : 0 ≤ mvT W e k ∧ mvT W e k ≤ 9 := by
  have := wfN_9 hw hk
  unfold mvT
  split
  · omega
  · split
    · split <;> omega
    · split
      · split <;> omega
      · omega
/-- a normal with no x is up or down -/
theorem no_x {W : Nat → Int} (hw : wfN W) {k : Nat} (hk : k < wN W) (h : wA W k = 0) : k = 2 ∨ k = 3 := by
  have n := wfN_n hw
  obtain ⟨x1, x2, x3, x4, x5, x6, x7, x8⟩ := hw.2.2
  obtain ⟨k1, k2, k3⟩ := hw.2.1 k hk
  rw [h, Int.zero_gcd] at k2
  have b1 : wB W k = 1 ∨ wB W k = -1 := by omega
  rcases b1 with e | e
  · refine Decidable.byContradiction fun w => k3 2 (by omega) (by omega) ⟨by rw [x5, h], by rw [x6, e]⟩
  · refine Decidable.byContradiction fun w => k3 3 (by omega) (by omega) ⟨by rw [x7, h], by rw [x8, e]⟩
theorem no_y {W : Nat → Int} (hw : wfN W) {k : Nat} (hk : k < wN W) (h : wB W k = 0) : k = 0 ∨ k = 1 := by
  have n := wfN_n hw
  obtain ⟨x1, x2, x3, x4, x5, x6, x7, x8⟩ := hw.2.2
  obtain ⟨k1, k2, k3⟩ := hw.2.1 k hk
  rw [h, Int.gcd_zero] at k2
  have b1 : wA W k = 1 ∨ wA W k = -1 := by omega
  rcases b1 with e | e
  · refine Decidable.byContradiction fun w => k3 0 (by omega) (by omega) ⟨by rw [x1, e], by rw [x2, h]⟩
  · refine Decidable.byContradiction fun w => k3 1 (by omega) (by omega) ⟨by rw [x3, e], by rw [x4, h]⟩
/-- a limit that is scaled: t at least 0 times v, where v by d is no more than u -/
theorem sc_le {t v s d u B : Int} (ht : 0 ≤ t) (h : v * d ≤ u * B) : (s * B + t * v) * d ≤ (t * u + s * d) * B := by
  have := Int.mul_le_mul_of_nonneg_left h ht
  have e1 : (s * B + t * v) * d = s * B * d + t * (v * d) := by grind
  have e2 : (t * u + s * d) * B = t * (u * B) + s * B * d := by grind
  omega

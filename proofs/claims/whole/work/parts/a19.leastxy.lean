/-! The least point with a given size; leastX, leastY. -/
theorem lst_x {W : Nat → Int} {w k0 : Nat} {S : jS} {F F1 : Int → Int → Int → Prop} {N E g0 g1 : Int} (h : cuI W w S F1) (hF : ∀ X Y B, 0 < B → (F X Y B ↔ F1 X Y B ∧ Y * g1 = g0 * B)) (ne : neF F) (hg : 0 < g1) (cg : Int.gcd g0 g1 = 1) (hk : k0 < wN W) (na : wA W k0 < 0) (nd : S 302 k0 ≠ 0) (eN : N = wB W k0 * g0 * S 302 k0 - S 301 k0 * g1) (eE : E = -wA W k0 * S 302 k0) (hE : 0 < E)
    (mx : ∀ k, k < wN W → wA W k < 0 → S 302 k ≠ 0 → (wB W k * g0 * S 302 k - S 301 k * g1) * E ≤ N * (-wA W k * S 302 k)) : lst F (N / ig N (E * g1)) (E * g1 / ig N (E * g1)) g0 g1 := by
  obtain ⟨-, hb, hc⟩ := h
  have hB : 0 < E * g1 := Int.mul_pos hE hg
  have low : ∀ X Y B, 0 < B → F X Y B → N * B ≤ X * (E * g1) := by
    intro X Y B b f
    obtain ⟨f1, f2⟩ := (hF X Y B b).mp f
    have q := Int.mul_le_mul_of_nonneg_right ((hc X Y B b).mp f1 k0 hk nd) (Int.le_of_lt hg)
    have e1 : (wA W k0 * X + wB W k0 * Y) * S 302 k0 * g1 = wA W k0 * X * S 302 k0 * g1 + wB W k0 * S 302 k0 * (Y * g1) := by grind
    rw [f2] at e1
    rw [eN, eE]
    have e2 : (wB W k0 * g0 * S 302 k0 - S 301 k0 * g1) * B = wB W k0 * S 302 k0 * (g0 * B) - S 301 k0 * B * g1 := by grind
    have e3 : X * (-wA W k0 * S 302 k0 * g1) = -(wA W k0 * X * S 302 k0 * g1) := by grind
    omega
  have f1 : F1 N (g0 * E) (E * g1) := by
    refine (hc _ _ _ hB).mpr (fun k hk' d0 => ?_)
    have dk : 0 ≤ S 302 k := (hb k hk').1.1
    by_cases c : wA W k < 0
    · have q := mx k hk' c d0
      have e1 : (wB W k * g0 * S 302 k - S 301 k * g1) * E = wB W k * g0 * S 302 k * E - S 301 k * (E * g1) := by grind
      have e2 : N * (-wA W k * S 302 k) = -(wA W k * N * S 302 k) := by grind
      have e3 : (wA W k * N + wB W k * (g0 * E)) * S 302 k = wA W k * N * S 302 k + wB W k * g0 * S 302 k * E := by grind
      omega
    · obtain ⟨X, Y, B, b, f⟩ := ne
      obtain ⟨g, g2⟩ := (hF X Y B b).mp f
      have l := low X Y B b f
      have q1 := Int.mul_le_mul_of_nonneg_left l (Int.mul_nonneg (show 0 ≤ wA W k by omega) dk)
      have q2 := Int.mul_le_mul_of_nonneg_left ((hc X Y B b).mp g k hk' d0) (Int.le_of_lt hB)
      refine Int.le_of_mul_le_mul_right (a := B) ?_ b
      have e1 : (wA W k * N + wB W k * (g0 * E)) * S 302 k * B = wA W k * S 302 k * (N * B) + wB W k * S 302 k * E * (g0 * B) := by grind
      have e2 : S 301 k * (E * g1) * B = E * g1 * (S 301 k * B) := by grind
      have e3 : E * g1 * ((wA W k * X + wB W k * Y) * S 302 k) = wA W k * S 302 k * (X * (E * g1)) + wB W k * S 302 k * E * (Y * g1) := by grind
      rw [g2] at e3
      omega
  obtain ⟨p1, c1, x1⟩ := ig_rat (n := N) hB
  refine ⟨p1, hg, c1, cg, ⟨N, g0 * E, E * g1, hB, (hF _ _ _ hB).mpr ⟨f1, by grind⟩, x1, by grind⟩, fun X Y B b f q => ?_⟩
  have l := low X Y B b f
  have f2 := ((hF X Y B b).mp f).2
  have lr : N / ig N (E * g1) * B ≤ X * (E * g1 / ig N (E * g1)) := by
    refine Int.le_of_mul_le_mul_right (a := E * g1) ?_ hB
    have m := Int.mul_le_mul_of_nonneg_right l (Int.le_of_lt p1)
    have e1 : N / ig N (E * g1) * B * (E * g1) = N / ig N (E * g1) * (E * g1) * B := by grind
    rw [e1, x1]
    have e2 : N * (E * g1 / ig N (E * g1)) * B = N * B * (E * g1 / ig N (E * g1)) := by grind
    have e3 : X * (E * g1 / ig N (E * g1)) * (E * g1) = X * (E * g1) * (E * g1 / ig N (E * g1)) := by grind
    rw [e2, e3]; exact m
  unfold lexL at q
  omega
theorem lst_y {W : Nat → Int} {w k0 : Nat} {S : jS} {F F1 : Int → Int → Int → Prop} {N E g0 g1 : Int} (h : cuI W w S F1) (hF : ∀ X Y B, 0 < B → (F X Y B ↔ F1 X Y B ∧ X * g1 = g0 * B)) (ne : neF F) (hg : 0 < g1) (cg : Int.gcd g0 g1 = 1) (hk : k0 < wN W) (na : wB W k0 < 0) (nd : S 302 k0 ≠ 0) (eN : N = wA W k0 * g0 * S 302 k0 - S 301 k0 * g1) (eE : E = -wB W k0 * S 302 k0) (hE : 0 < E)
    (mx : ∀ k, k < wN W → wB W k < 0 → S 302 k ≠ 0 → (wA W k * g0 * S 302 k - S 301 k * g1) * E ≤ N * (-wB W k * S 302 k)) : lst F g0 g1 (N / ig N (E * g1)) (E * g1 / ig N (E * g1)) := by
  obtain ⟨-, hb, hc⟩ := h
  have hB : 0 < E * g1 := Int.mul_pos hE hg
  have low : ∀ X Y B, 0 < B → F X Y B → N * B ≤ Y * (E * g1) := by
    intro X Y B b f
    obtain ⟨f1, f2⟩ := (hF X Y B b).mp f
    have q := Int.mul_le_mul_of_nonneg_right ((hc X Y B b).mp f1 k0 hk nd) (Int.le_of_lt hg)
    have e1 : (wA W k0 * X + wB W k0 * Y) * S 302 k0 * g1 = wB W k0 * Y * S 302 k0 * g1 + wA W k0 * S 302 k0 * (X * g1) := by grind
    rw [f2] at e1
    rw [eN, eE]
    have e2 : (wA W k0 * g0 * S 302 k0 - S 301 k0 * g1) * B = wA W k0 * S 302 k0 * (g0 * B) - S 301 k0 * B * g1 := by grind
    have e3 : Y * (-wB W k0 * S 302 k0 * g1) = -(wB W k0 * Y * S 302 k0 * g1) := by grind
    omega
  have f1 : F1 (g0 * E) N (E * g1) := by
    refine (hc _ _ _ hB).mpr (fun k hk' d0 => ?_)
    have dk : 0 ≤ S 302 k := (hb k hk').1.1
    by_cases c : wB W k < 0
    · have q := mx k hk' c d0
      have e1 : (wA W k * g0 * S 302 k - S 301 k * g1) * E = wA W k * g0 * S 302 k * E - S 301 k * (E * g1) := by grind
      have e2 : N * (-wB W k * S 302 k) = -(wB W k * N * S 302 k) := by grind
      have e3 : (wA W k * (g0 * E) + wB W k * N) * S 302 k = wB W k * N * S 302 k + wA W k * g0 * S 302 k * E := by grind
      omega
    · obtain ⟨X, Y, B, b, f⟩ := ne
      obtain ⟨g, g2⟩ := (hF X Y B b).mp f
      have l := low X Y B b f
      have q1 := Int.mul_le_mul_of_nonneg_left l (Int.mul_nonneg (show 0 ≤ wB W k by omega) dk)
      have q2 := Int.mul_le_mul_of_nonneg_left ((hc X Y B b).mp g k hk' d0) (Int.le_of_lt hB)
      refine Int.le_of_mul_le_mul_right (a := B) ?_ b
      have e1 : (wA W k * (g0 * E) + wB W k * N) * S 302 k * B = wB W k * S 302 k * (N * B) + wA W k * S 302 k * E * (g0 * B) := by grind
      have e2 : S 301 k * (E * g1) * B = E * g1 * (S 301 k * B) := by grind
      have e3 : E * g1 * ((wA W k * X + wB W k * Y) * S 302 k) = wB W k * S 302 k * (Y * (E * g1)) + wA W k * S 302 k * E * (X * g1) := by grind
      rw [g2] at e3
      omega
  obtain ⟨p1, c1, x1⟩ := ig_rat (n := N) hB
  refine ⟨hg, p1, cg, c1, ⟨g0 * E, N, E * g1, hB, (hF _ _ _ hB).mpr ⟨f1, by grind⟩, by grind, x1⟩, fun X Y B b f q => ?_⟩
  have l := low X Y B b f
  have f2 := ((hF X Y B b).mp f).2
  have lr : N / ig N (E * g1) * B ≤ Y * (E * g1 / ig N (E * g1)) := by
    refine Int.le_of_mul_le_mul_right (a := E * g1) ?_ hB
    have m := Int.mul_le_mul_of_nonneg_right l (Int.le_of_lt p1)
    have e1 : N / ig N (E * g1) * B * (E * g1) = N / ig N (E * g1) * (E * g1) * B := by grind
    rw [e1, x1]
    have e2 : N * (E * g1 / ig N (E * g1)) * B = N * B * (E * g1 / ig N (E * g1)) := by grind
    have e3 : Y * (E * g1 / ig N (E * g1)) * (E * g1) = Y * (E * g1) * (E * g1 / ig N (E * g1)) := by grind
    rw [e2, e3]; exact m
  unfold lexL at q
  omega
section
variable {G : jG} {z : Nat} {S : jS} {W : Nat → Int} {T : Nat → Nat → Int} {af : Nat → Nat} {P : Option jV → jM → Prop}
set_option maxHeartbeats 1000000 in
set_option maxRecDepth 100000 in
theorem k_leastX {w qx qy : Nat} {F F1 : Int → Int → Int → Prop} {g0 g1 : Int} (hw : wfN W) (hu : nU w) (hn : nwR w S W af) (h : cuI W w S F1) (h4 : l4 S) (ax : aU qx) (ay : aU qy) (e0 : S qy 0 = g0) (e1 : S qy 1 = g1) (h0 : -6000000 ≤ g0 ∧ g0 ≤ 6000000) (h1 : 0 < g1 ∧ g1 ≤ 3000) (cg : Int.gcd g0 g1 = 1) (hF : ∀ X Y B, 0 < B → (F X Y B ↔ F1 X Y B ∧ Y * g1 = g0 * B)) (ne : neF F)
    (out : ∀ N E, (-500000000000 ≤ N ∧ N ≤ 500000000000) → 0 < E ∧ E ≤ 81000000 → lst F (N / ig N E) (E / ig N E) g0 g1 → P none (mm z (lt2 S qx N E))) :
    jC G mX2_leastX 0 0 (mm z S) [(2, ((300 : Nat) : Int)), (2, (qx : Int)), (2, (qy : Int))] P := by
  have n24 := wfN_n hw
  obtain ⟨b1, b2, b3, b4, b5, b6, b7, b8⟩ := hw.2.2
  have s6 := h.1
  refine jCw kX2_leastX jn_X2 (fun pc => false) 40 (Nat.le_of_ble_eq_true rfl) ?_
  simp -implicitDefEqProofs only [Nat.reduceAdd, Nat.reduceMul, Nat.reduceEqDiff, Nat.reduceBEq, Nat.reduceLT, Nat.reduceLeDiff, Int.reduceToNat, Int.reduceLE, Int.reduceLT, Int.reduceNeg, Int.reduceAdd, Int.reduceMul, Bool.or_false, Bool.or_true, Bool.true_or, Bool.false_or, jwq_s, jwp_sn, jwp_sc, jwp_0, jsum, jwx_s, ↓jol_c, ↓jo1_c, ↓jo2_c, ↓jo3_c, Bool.false_eq_true, beq_iff_eq, jst, jins_c, jins_n, jdrop_c, jdrop_n, jargs, jtg, jtag, jcnd, true_and, and_true, false_or, or_false, true_or, or_true, forall_const, ↓reduceIte, Option.toList, List.cons_append, List.nil_append, false_and, and_false, reduceCtorEq, false_imp_iff, forall_eq, true_imp_iff, joc_c, List.drop_succ_cons, List.drop_zero, List.take_succ_cons, List.take_zero, List.reverse_cons, List.reverse_nil, List.length_cons, List.length_nil, Int.reduceEq, not_true_eq_false, not_false_eq_true, mm_S, mm_L, mm_set, Int.toNat_natCast, Int.natCast_nonneg, ju_at, ne21, ne01, jrd_1, jrd_2, jrd_3, jobj_M, jfd_M0, jfd_M1, jfd_M2, jfd_M3, jfd_M4, jfd_M5, jfd_M6, jfd_M7, jfd_M8, jfd_M9, jfd_M10, jfd_M11, jfd_M12, jsn_M12, jfd_M13, jsn_M13, jfd_M14, jsn_M14, jfd_M15, jsn_M15, jarr_M5, jarr_M6, jarr_M7, jarr_M82, jarr_M83, jarr_M145, jarr_M146, jarr_M147, jarr_M8, jrd_M8, jarr_M9, jrd_M9, jarr_M84, jrd_M84, jobj_N, jfd_N0, jfd_N1, jfd_N2, jfd_N3, jsn_N3, jarr_N1, jarr_N2, jarr_N3, jobj_B, jfd_B0, jfd_B1, jfd_B2, jfd_B3, jfd_B4, jfd_B5, jsn_B5, jarr_B1, jarr_B2, jarr_B3, jarr_B4, jarr_B5, jobj_H, jfd_H0, jfd_H1, jfd_H2, jsn_H2, jfd_H3, jsn_H3, jfd_H4, jsn_H4, jfd_H5, jsn_H5, jfd_H6, jsn_H6, jfd_H7, jsn_H7, jfd_H8, jsn_H8, jfd_H9, jsn_H9, jfd_H10, jfd_H11, jarr_H429, jarr_H1, jrd_H1, jobj_P, jfd_P0, jfd_P1, jfd_P2, jsn_P2, jfd_P3, jsn_P3, jfd_P4, jsn_P4, jfd_P5, jsn_P5, jfd_P6, jsn_P6, jfd_P7, jsn_P7, jfd_P8, jsn_P8, jfd_P9, jsn_P9, jobj_G, jfd_G0, jfd_G1, jarr_G1, jarr_G2, jobj_A, jfd_A0, jsn_A0, jfd_A1, jsn_A1, jobj_O, jfd_O0, jfd_O1, jsn_O1, jfd_O2, jsn_O2, jfd_O3, jsn_O3, jfd_O4, jsn_O4, jfd_O5, jsn_O5, jfd_O6, jfd_O7, jfd_O10, jfd_O11, jarr_O1, jobj_E, jfd_E0, jfd_E1, jsn_E1, jfd_E2, jsn_E2, jfd_E3, jsn_E3, jfd_E4, jsn_E4, jfd_E5, jsn_E5, jfd_E6, jsn_E6, jfd_E7, jsn_E7, jfd_E8, jsn_E8, jfd_E9, jsn_E9, jfd_E10, jsn_E10, jfd_E11, jsn_E11, jfd_E12, jsn_E12, jfd_E13, jsn_E13, jfd_E14, jsn_E14, jarr_E1, jobj_C, jfd_C0, jfd_C1, jfd_C2, jfd_C3, jfd_C4, jfd_C5, jfd_C6, jsn_C6, jfd_C7, jsn_C7, jfd_C8, jsn_C8, jarr_C1, jarr_C2, jarr_C3, jarr_C4, jarr_C5, jarr_C6, jrd_C5, jsn_Ca5, jrd_C6, jsn_Ca6, jobj_Y, jfd_Y0, jfd_Y1, jfd_Y2, jsn_Y2, jfd_Y3, jfd_Y4, jfd_Y5, jarr_Y1, jobj_D, jfd_D0, jfd_D1, jfd_D2, jfd_D3, jsn_D3, jfd_D4, jsn_D4, jfd_D5, jsn_D5, jfd_D6, jfd_D7, jsn_D7, jfd_D8, jsn_D8, jfd_D9, jsn_D9, jfd_D10, jsn_D10, jfd_D11, jsn_D11, jfd_D12, jsn_D12, jfd_D13, jsn_D13, jfd_D14, jsn_D14, jfd_D15, jsn_D15, jfd_D16, jsn_D16, jarr_D1, jfd_O8c, jfd_O9c, hU_CK, hU_OT, jL32_0, jL32_1, jL32_2, jL32_3, jL32_4, jL32_5, jL32_6, jL32_7, jL32_8, jL32_9, jL32_10, jL32_11, jL32_12, jL32_13, jL32_14, jL32_15, jL32_16, jL32_17, jL32_18, jL32_19, jL32_20, jL32_21, jL32_22, jL32_23, jL32_24, jL32_25, jL32_26, jL32_27, jL32_28, jL32_29, jL32_30, jL32_31, jL32_32, jL32_33, jL32_34, jL32_35, jL32_36, jL32_37, jL32_38, jL32_39, jL32_57, jL32_60, jL32_97, jL32_122, jL32_255, jLm32_1, jLm32_2, jLm32_3, jLm32_1000, jL64_0, jL64_1, zne_10, zne_00, zne_01, zne_11, false_imp_iff, true_imp_iff, fX2_leastX_0, fX2_leastX_1, fX2_leastX_2, fX2_leastX_5, fX2_leastX_8, fX2_leastX_9, fX2_leastX_10, fX2_leastX_13, fX2_leastX_16, fX2_leastX_17, fX2_leastX_20, jtm_126, ↓jo_1, ↓jo_23, ↓jo_28, ↓jo_31v, hu, s6]
  refine k_leastX1 hw hu hn s6 h.2.1 ax ay e0 e1 h0 h1 ⟨1, by omega, by omega, h4 _ (by omega)⟩ (fun N E k hk na nd eN eE pE bE bN mx => ?_)
  simp -implicitDefEqProofs only [Nat.reduceAdd, Nat.reduceMul, Nat.reduceEqDiff, Nat.reduceBEq, Nat.reduceLT, Nat.reduceLeDiff, Int.reduceToNat, Int.reduceLE, Int.reduceLT, Int.reduceNeg, Int.reduceAdd, Int.reduceMul, Bool.or_false, Bool.or_true, Bool.true_or, Bool.false_or, jwq_s, jwp_sn, jwp_sc, jwp_0, jsum, jwx_s, ↓jol_c, ↓jo1_c, ↓jo2_c, ↓jo3_c, Bool.false_eq_true, beq_iff_eq, jst, jins_c, jins_n, jdrop_c, jdrop_n, jargs, jtg, jtag, jcnd, true_and, and_true, false_or, or_false, true_or, or_true, forall_const, ↓reduceIte, Option.toList, List.cons_append, List.nil_append, false_and, and_false, reduceCtorEq, false_imp_iff, forall_eq, true_imp_iff, joc_c, List.drop_succ_cons, List.drop_zero, List.take_succ_cons, List.take_zero, List.reverse_cons, List.reverse_nil, List.length_cons, List.length_nil, Int.reduceEq, not_true_eq_false, not_false_eq_true, mm_S, mm_L, mm_set, Int.toNat_natCast, Int.natCast_nonneg, ju_at, ne21, ne01, jrd_1, jrd_2, jrd_3, jobj_M, jfd_M0, jfd_M1, jfd_M2, jfd_M3, jfd_M4, jfd_M5, jfd_M6, jfd_M7, jfd_M8, jfd_M9, jfd_M10, jfd_M11, jfd_M12, jsn_M12, jfd_M13, jsn_M13, jfd_M14, jsn_M14, jfd_M15, jsn_M15, jarr_M5, jarr_M6, jarr_M7, jarr_M82, jarr_M83, jarr_M145, jarr_M146, jarr_M147, jarr_M8, jrd_M8, jarr_M9, jrd_M9, jarr_M84, jrd_M84, jobj_N, jfd_N0, jfd_N1, jfd_N2, jfd_N3, jsn_N3, jarr_N1, jarr_N2, jarr_N3, jobj_B, jfd_B0, jfd_B1, jfd_B2, jfd_B3, jfd_B4, jfd_B5, jsn_B5, jarr_B1, jarr_B2, jarr_B3, jarr_B4, jarr_B5, jobj_H, jfd_H0, jfd_H1, jfd_H2, jsn_H2, jfd_H3, jsn_H3, jfd_H4, jsn_H4, jfd_H5, jsn_H5, jfd_H6, jsn_H6, jfd_H7, jsn_H7, jfd_H8, jsn_H8, jfd_H9, jsn_H9, jfd_H10, jfd_H11, jarr_H429, jarr_H1, jrd_H1, jobj_P, jfd_P0, jfd_P1, jfd_P2, jsn_P2, jfd_P3, jsn_P3, jfd_P4, jsn_P4, jfd_P5, jsn_P5, jfd_P6, jsn_P6, jfd_P7, jsn_P7, jfd_P8, jsn_P8, jfd_P9, jsn_P9, jobj_G, jfd_G0, jfd_G1, jarr_G1, jarr_G2, jobj_A, jfd_A0, jsn_A0, jfd_A1, jsn_A1, jobj_O, jfd_O0, jfd_O1, jsn_O1, jfd_O2, jsn_O2, jfd_O3, jsn_O3, jfd_O4, jsn_O4, jfd_O5, jsn_O5, jfd_O6, jfd_O7, jfd_O10, jfd_O11, jarr_O1, jobj_E, jfd_E0, jfd_E1, jsn_E1, jfd_E2, jsn_E2, jfd_E3, jsn_E3, jfd_E4, jsn_E4, jfd_E5, jsn_E5, jfd_E6, jsn_E6, jfd_E7, jsn_E7, jfd_E8, jsn_E8, jfd_E9, jsn_E9, jfd_E10, jsn_E10, jfd_E11, jsn_E11, jfd_E12, jsn_E12, jfd_E13, jsn_E13, jfd_E14, jsn_E14, jarr_E1, jobj_C, jfd_C0, jfd_C1, jfd_C2, jfd_C3, jfd_C4, jfd_C5, jfd_C6, jsn_C6, jfd_C7, jsn_C7, jfd_C8, jsn_C8, jarr_C1, jarr_C2, jarr_C3, jarr_C4, jarr_C5, jarr_C6, jrd_C5, jsn_Ca5, jrd_C6, jsn_Ca6, jobj_Y, jfd_Y0, jfd_Y1, jfd_Y2, jsn_Y2, jfd_Y3, jfd_Y4, jfd_Y5, jarr_Y1, jobj_D, jfd_D0, jfd_D1, jfd_D2, jfd_D3, jsn_D3, jfd_D4, jsn_D4, jfd_D5, jsn_D5, jfd_D6, jfd_D7, jsn_D7, jfd_D8, jsn_D8, jfd_D9, jsn_D9, jfd_D10, jsn_D10, jfd_D11, jsn_D11, jfd_D12, jsn_D12, jfd_D13, jsn_D13, jfd_D14, jsn_D14, jfd_D15, jsn_D15, jfd_D16, jsn_D16, jarr_D1, jfd_O8c, jfd_O9c, hU_CK, hU_OT, jL32_0, jL32_1, jL32_2, jL32_3, jL32_4, jL32_5, jL32_6, jL32_7, jL32_8, jL32_9, jL32_10, jL32_11, jL32_12, jL32_13, jL32_14, jL32_15, jL32_16, jL32_17, jL32_18, jL32_19, jL32_20, jL32_21, jL32_22, jL32_23, jL32_24, jL32_25, jL32_26, jL32_27, jL32_28, jL32_29, jL32_30, jL32_31, jL32_32, jL32_33, jL32_34, jL32_35, jL32_36, jL32_37, jL32_38, jL32_39, jL32_57, jL32_60, jL32_97, jL32_122, jL32_255, jLm32_1, jLm32_2, jLm32_3, jLm32_1000, jL64_0, jL64_1, zne_10, zne_00, zne_01, zne_11, false_imp_iff, true_imp_iff, fX2_leastX_0, fX2_leastX_1, fX2_leastX_2, fX2_leastX_5, fX2_leastX_8, fX2_leastX_9, fX2_leastX_10, fX2_leastX_13, fX2_leastX_16, fX2_leastX_17, fX2_leastX_20, jtm_126, ↓jo_1, ↓jo_23, ↓jo_28, ↓jo_31v]
  have m := mul_b (x := E) (y := g1) (a := 27000) (b := 3000) (by omega) (by omega) (by omega) (by omega)
  exact out N (E * g1) bN ⟨Int.mul_pos pE h1.1, by omega⟩ (lst_x h hF ne h1.1 cg hk na nd eN eE pE mx)
set_option maxHeartbeats 1000000 in
set_option maxRecDepth 100000 in
theorem k_leastY {w qx qy : Nat} {F F1 : Int → Int → Int → Prop} {g0 g1 : Int} (hw : wfN W) (hu : nU w) (hn : nwR w S W af) (h : cuI W w S F1) (h4 : l4 S) (ax : aU qx) (ay : aU qy) (e0 : S qx 0 = g0) (e1 : S qx 1 = g1) (h0 : -6000000 ≤ g0 ∧ g0 ≤ 6000000) (h1 : 0 < g1 ∧ g1 ≤ 3000) (cg : Int.gcd g0 g1 = 1) (hF : ∀ X Y B, 0 < B → (F X Y B ↔ F1 X Y B ∧ X * g1 = g0 * B)) (ne : neF F)
    (out : ∀ N E, (-500000000000 ≤ N ∧ N ≤ 500000000000) → 0 < E ∧ E ≤ 81000000 → lst F g0 g1 (N / ig N E) (E / ig N E) → P none (mm z (lt2 S qy N E))) :
    jC G mX2_leastY 0 0 (mm z S) [(2, ((300 : Nat) : Int)), (2, (qx : Int)), (2, (qy : Int))] P := by
  have n24 := wfN_n hw
  obtain ⟨b1, b2, b3, b4, b5, b6, b7, b8⟩ := hw.2.2
  have s6 := h.1
  refine jCw kX2_leastY jn_X2 (fun pc => false) 40 (Nat.le_of_ble_eq_true rfl) ?_
  simp -implicitDefEqProofs only [Nat.reduceAdd, Nat.reduceMul, Nat.reduceEqDiff, Nat.reduceBEq, Nat.reduceLT, Nat.reduceLeDiff, Int.reduceToNat, Int.reduceLE, Int.reduceLT, Int.reduceNeg, Int.reduceAdd, Int.reduceMul, Bool.or_false, Bool.or_true, Bool.true_or, Bool.false_or, jwq_s, jwp_sn, jwp_sc, jwp_0, jsum, jwx_s, ↓jol_c, ↓jo1_c, ↓jo2_c, ↓jo3_c, Bool.false_eq_true, beq_iff_eq, jst, jins_c, jins_n, jdrop_c, jdrop_n, jargs, jtg, jtag, jcnd, true_and, and_true, false_or, or_false, true_or, or_true, forall_const, ↓reduceIte, Option.toList, List.cons_append, List.nil_append, false_and, and_false, reduceCtorEq, false_imp_iff, forall_eq, true_imp_iff, joc_c, List.drop_succ_cons, List.drop_zero, List.take_succ_cons, List.take_zero, List.reverse_cons, List.reverse_nil, List.length_cons, List.length_nil, Int.reduceEq, not_true_eq_false, not_false_eq_true, mm_S, mm_L, mm_set, Int.toNat_natCast, Int.natCast_nonneg, ju_at, ne21, ne01, jrd_1, jrd_2, jrd_3, jobj_M, jfd_M0, jfd_M1, jfd_M2, jfd_M3, jfd_M4, jfd_M5, jfd_M6, jfd_M7, jfd_M8, jfd_M9, jfd_M10, jfd_M11, jfd_M12, jsn_M12, jfd_M13, jsn_M13, jfd_M14, jsn_M14, jfd_M15, jsn_M15, jarr_M5, jarr_M6, jarr_M7, jarr_M82, jarr_M83, jarr_M145, jarr_M146, jarr_M147, jarr_M8, jrd_M8, jarr_M9, jrd_M9, jarr_M84, jrd_M84, jobj_N, jfd_N0, jfd_N1, jfd_N2, jfd_N3, jsn_N3, jarr_N1, jarr_N2, jarr_N3, jobj_B, jfd_B0, jfd_B1, jfd_B2, jfd_B3, jfd_B4, jfd_B5, jsn_B5, jarr_B1, jarr_B2, jarr_B3, jarr_B4, jarr_B5, jobj_H, jfd_H0, jfd_H1, jfd_H2, jsn_H2, jfd_H3, jsn_H3, jfd_H4, jsn_H4, jfd_H5, jsn_H5, jfd_H6, jsn_H6, jfd_H7, jsn_H7, jfd_H8, jsn_H8, jfd_H9, jsn_H9, jfd_H10, jfd_H11, jarr_H429, jarr_H1, jrd_H1, jobj_P, jfd_P0, jfd_P1, jfd_P2, jsn_P2, jfd_P3, jsn_P3, jfd_P4, jsn_P4, jfd_P5, jsn_P5, jfd_P6, jsn_P6, jfd_P7, jsn_P7, jfd_P8, jsn_P8, jfd_P9, jsn_P9, jobj_G, jfd_G0, jfd_G1, jarr_G1, jarr_G2, jobj_A, jfd_A0, jsn_A0, jfd_A1, jsn_A1, jobj_O, jfd_O0, jfd_O1, jsn_O1, jfd_O2, jsn_O2, jfd_O3, jsn_O3, jfd_O4, jsn_O4, jfd_O5, jsn_O5, jfd_O6, jfd_O7, jfd_O10, jfd_O11, jarr_O1, jobj_E, jfd_E0, jfd_E1, jsn_E1, jfd_E2, jsn_E2, jfd_E3, jsn_E3, jfd_E4, jsn_E4, jfd_E5, jsn_E5, jfd_E6, jsn_E6, jfd_E7, jsn_E7, jfd_E8, jsn_E8, jfd_E9, jsn_E9, jfd_E10, jsn_E10, jfd_E11, jsn_E11, jfd_E12, jsn_E12, jfd_E13, jsn_E13, jfd_E14, jsn_E14, jarr_E1, jobj_C, jfd_C0, jfd_C1, jfd_C2, jfd_C3, jfd_C4, jfd_C5, jfd_C6, jsn_C6, jfd_C7, jsn_C7, jfd_C8, jsn_C8, jarr_C1, jarr_C2, jarr_C3, jarr_C4, jarr_C5, jarr_C6, jrd_C5, jsn_Ca5, jrd_C6, jsn_Ca6, jobj_Y, jfd_Y0, jfd_Y1, jfd_Y2, jsn_Y2, jfd_Y3, jfd_Y4, jfd_Y5, jarr_Y1, jobj_D, jfd_D0, jfd_D1, jfd_D2, jfd_D3, jsn_D3, jfd_D4, jsn_D4, jfd_D5, jsn_D5, jfd_D6, jfd_D7, jsn_D7, jfd_D8, jsn_D8, jfd_D9, jsn_D9, jfd_D10, jsn_D10, jfd_D11, jsn_D11, jfd_D12, jsn_D12, jfd_D13, jsn_D13, jfd_D14, jsn_D14, jfd_D15, jsn_D15, jfd_D16, jsn_D16, jarr_D1, jfd_O8c, jfd_O9c, hU_CK, hU_OT, jL32_0, jL32_1, jL32_2, jL32_3, jL32_4, jL32_5, jL32_6, jL32_7, jL32_8, jL32_9, jL32_10, jL32_11, jL32_12, jL32_13, jL32_14, jL32_15, jL32_16, jL32_17, jL32_18, jL32_19, jL32_20, jL32_21, jL32_22, jL32_23, jL32_24, jL32_25, jL32_26, jL32_27, jL32_28, jL32_29, jL32_30, jL32_31, jL32_32, jL32_33, jL32_34, jL32_35, jL32_36, jL32_37, jL32_38, jL32_39, jL32_57, jL32_60, jL32_97, jL32_122, jL32_255, jLm32_1, jLm32_2, jLm32_3, jLm32_1000, jL64_0, jL64_1, zne_10, zne_00, zne_01, zne_11, false_imp_iff, true_imp_iff, fX2_leastY_0, fX2_leastY_1, fX2_leastY_2, fX2_leastY_5, fX2_leastY_8, fX2_leastY_9, fX2_leastY_10, fX2_leastY_13, fX2_leastY_16, fX2_leastY_17, fX2_leastY_20, jtm_126, ↓jo_1, ↓jo_23, ↓jo_28, ↓jo_31v, hu, s6]
  refine k_leastY1 hw hu hn s6 h.2.1 ay ax e0 e1 h0 h1 ⟨3, by omega, by omega, h4 _ (by omega)⟩ (fun N E k hk na nd eN eE pE bE bN mx => ?_)
  simp -implicitDefEqProofs only [Nat.reduceAdd, Nat.reduceMul, Nat.reduceEqDiff, Nat.reduceBEq, Nat.reduceLT, Nat.reduceLeDiff, Int.reduceToNat, Int.reduceLE, Int.reduceLT, Int.reduceNeg, Int.reduceAdd, Int.reduceMul, Bool.or_false, Bool.or_true, Bool.true_or, Bool.false_or, jwq_s, jwp_sn, jwp_sc, jwp_0, jsum, jwx_s, ↓jol_c, ↓jo1_c, ↓jo2_c, ↓jo3_c, Bool.false_eq_true, beq_iff_eq, jst, jins_c, jins_n, jdrop_c, jdrop_n, jargs, jtg, jtag, jcnd, true_and, and_true, false_or, or_false, true_or, or_true, forall_const, ↓reduceIte, Option.toList, List.cons_append, List.nil_append, false_and, and_false, reduceCtorEq, false_imp_iff, forall_eq, true_imp_iff, joc_c, List.drop_succ_cons, List.drop_zero, List.take_succ_cons, List.take_zero, List.reverse_cons, List.reverse_nil, List.length_cons, List.length_nil, Int.reduceEq, not_true_eq_false, not_false_eq_true, mm_S, mm_L, mm_set, Int.toNat_natCast, Int.natCast_nonneg, ju_at, ne21, ne01, jrd_1, jrd_2, jrd_3, jobj_M, jfd_M0, jfd_M1, jfd_M2, jfd_M3, jfd_M4, jfd_M5, jfd_M6, jfd_M7, jfd_M8, jfd_M9, jfd_M10, jfd_M11, jfd_M12, jsn_M12, jfd_M13, jsn_M13, jfd_M14, jsn_M14, jfd_M15, jsn_M15, jarr_M5, jarr_M6, jarr_M7, jarr_M82, jarr_M83, jarr_M145, jarr_M146, jarr_M147, jarr_M8, jrd_M8, jarr_M9, jrd_M9, jarr_M84, jrd_M84, jobj_N, jfd_N0, jfd_N1, jfd_N2, jfd_N3, jsn_N3, jarr_N1, jarr_N2, jarr_N3, jobj_B, jfd_B0, jfd_B1, jfd_B2, jfd_B3, jfd_B4, jfd_B5, jsn_B5, jarr_B1, jarr_B2, jarr_B3, jarr_B4, jarr_B5, jobj_H, jfd_H0, jfd_H1, jfd_H2, jsn_H2, jfd_H3, jsn_H3, jfd_H4, jsn_H4, jfd_H5, jsn_H5, jfd_H6, jsn_H6, jfd_H7, jsn_H7, jfd_H8, jsn_H8, jfd_H9, jsn_H9, jfd_H10, jfd_H11, jarr_H429, jarr_H1, jrd_H1, jobj_P, jfd_P0, jfd_P1, jfd_P2, jsn_P2, jfd_P3, jsn_P3, jfd_P4, jsn_P4, jfd_P5, jsn_P5, jfd_P6, jsn_P6, jfd_P7, jsn_P7, jfd_P8, jsn_P8, jfd_P9, jsn_P9, jobj_G, jfd_G0, jfd_G1, jarr_G1, jarr_G2, jobj_A, jfd_A0, jsn_A0, jfd_A1, jsn_A1, jobj_O, jfd_O0, jfd_O1, jsn_O1, jfd_O2, jsn_O2, jfd_O3, jsn_O3, jfd_O4, jsn_O4, jfd_O5, jsn_O5, jfd_O6, jfd_O7, jfd_O10, jfd_O11, jarr_O1, jobj_E, jfd_E0, jfd_E1, jsn_E1, jfd_E2, jsn_E2, jfd_E3, jsn_E3, jfd_E4, jsn_E4, jfd_E5, jsn_E5, jfd_E6, jsn_E6, jfd_E7, jsn_E7, jfd_E8, jsn_E8, jfd_E9, jsn_E9, jfd_E10, jsn_E10, jfd_E11, jsn_E11, jfd_E12, jsn_E12, jfd_E13, jsn_E13, jfd_E14, jsn_E14, jarr_E1, jobj_C, jfd_C0, jfd_C1, jfd_C2, jfd_C3, jfd_C4, jfd_C5, jfd_C6, jsn_C6, jfd_C7, jsn_C7, jfd_C8, jsn_C8, jarr_C1, jarr_C2, jarr_C3, jarr_C4, jarr_C5, jarr_C6, jrd_C5, jsn_Ca5, jrd_C6, jsn_Ca6, jobj_Y, jfd_Y0, jfd_Y1, jfd_Y2, jsn_Y2, jfd_Y3, jfd_Y4, jfd_Y5, jarr_Y1, jobj_D, jfd_D0, jfd_D1, jfd_D2, jfd_D3, jsn_D3, jfd_D4, jsn_D4, jfd_D5, jsn_D5, jfd_D6, jfd_D7, jsn_D7, jfd_D8, jsn_D8, jfd_D9, jsn_D9, jfd_D10, jsn_D10, jfd_D11, jsn_D11, jfd_D12, jsn_D12, jfd_D13, jsn_D13, jfd_D14, jsn_D14, jfd_D15, jsn_D15, jfd_D16, jsn_D16, jarr_D1, jfd_O8c, jfd_O9c, hU_CK, hU_OT, jL32_0, jL32_1, jL32_2, jL32_3, jL32_4, jL32_5, jL32_6, jL32_7, jL32_8, jL32_9, jL32_10, jL32_11, jL32_12, jL32_13, jL32_14, jL32_15, jL32_16, jL32_17, jL32_18, jL32_19, jL32_20, jL32_21, jL32_22, jL32_23, jL32_24, jL32_25, jL32_26, jL32_27, jL32_28, jL32_29, jL32_30, jL32_31, jL32_32, jL32_33, jL32_34, jL32_35, jL32_36, jL32_37, jL32_38, jL32_39, jL32_57, jL32_60, jL32_97, jL32_122, jL32_255, jLm32_1, jLm32_2, jLm32_3, jLm32_1000, jL64_0, jL64_1, zne_10, zne_00, zne_01, zne_11, false_imp_iff, true_imp_iff, fX2_leastY_0, fX2_leastY_1, fX2_leastY_2, fX2_leastY_5, fX2_leastY_8, fX2_leastY_9, fX2_leastY_10, fX2_leastY_13, fX2_leastY_16, fX2_leastY_17, fX2_leastY_20, jtm_126, ↓jo_1, ↓jo_23, ↓jo_28, ↓jo_31v]
  have m := mul_b (x := E) (y := g1) (a := 27000) (b := 3000) (by omega) (by omega) (by omega) (by omega)
  exact out N (E * g1) bN ⟨Int.mul_pos pE h1.1, by omega⟩ (lst_y h hF ne h1.1 cg hk na nd eN eE pE mx)
end

/-! The class Normals: the ring of normals grows. -/
section
variable {W W' : Nat → Int} {af : Nat → Nat}
theorem qt_turn (hw : wfN W) {k : Nat} (hk : k < wN W) : ∃ j, j < 4 ∧ j ≠ k ∧ 0 < tn (wA W) (wB W) k j := by
  obtain ⟨b1, b2, b3, b4, b5, b6, b7, b8⟩ := hw.2.2
  have nz := (hw.2.1 k hk).1.2.2
  have t : ∀ j, 0 < tn (wA W) (wB W) k j → j ≠ k := fun j h e => by rw [e, tn_self] at h; omega
  have e0 : tn (wA W) (wB W) k 0 = - wB W k := by unfold tn; rw [b1, b2]; omega
  have e1 : tn (wA W) (wB W) k 1 = wB W k := by unfold tn; rw [b3, b4]; omega
  have e2 : tn (wA W) (wB W) k 2 = wA W k := by unfold tn; rw [b5, b6]; omega
  have e3 : tn (wA W) (wB W) k 3 = - wA W k := by unfold tn; rw [b7, b8]; omega
  by_cases c1 : 0 < wA W k
  · exact ⟨2, by omega, t 2 (by omega), by omega⟩
  by_cases c2 : wA W k < 0
  · exact ⟨3, by omega, t 3 (by omega), by omega⟩
  by_cases c3 : 0 < wB W k
  · exact ⟨1, by omega, t 1 (by omega), by omega⟩
  · exact ⟨0, by omega, t 0 (by omega), by omega⟩
/-- from a normal to the next it turns to the left -/
theorem af_turn (hw : wfN W) (ha : afR W af) {k : Nat} (hk : k < wN W) : 0 < tn (wA W) (wB W) k (af k) := by
  have hd := wfN_dirs hw
  have n4 := (wfN_n hw).2.1
  obtain ⟨j, j4, jk, h⟩ := qt_turn hw hk
  obtain ⟨a1, a2, a3⟩ := ha k hk
  have a3 := a3 j (by omega) jk
  have t1 := cy_t hd hk (show j < wN W by omega)
  have t2 := cy_t hd hk a1
  have nz := (hd k hk).2 (af k) a1 a2
  omega
/-- a normal more: W' has W's and one behind them -/
def mor (W W' : Nat → Int) : Prop := wfN W ∧ wfN W' ∧ wN W' = wN W + 1 ∧ ∀ k, k < wN W → wA W' k = wA W k ∧ wB W' k = wB W k
theorem mor_cy (h : mor W W') {i j : Nat} (hi : i < wN W) (hj : j < wN W) : cy (wA W') (wB W') i j = cy (wA W) (wB W) i j ∧ tn (wA W') (wB W') i j = tn (wA W) (wB W) i j := by
  unfold cy tn
  rw [(h.2.2.2 i hi).1, (h.2.2.2 i hi).2, (h.2.2.2 j hj).1, (h.2.2.2 j hj).2]
  exact ⟨rfl, rfl⟩
theorem ins_go (h : mor W W') (ha : afR W af) {b : Nat} (hb : b < wN W) (c : ¬ (0 < tn (wA W') (wB W') b (wN W) ∧ 0 < tn (wA W') (wB W') (wN W) (af b))) : cy (wA W') (wB W') (af b) (wN W) < cy (wA W') (wB W') b (wN W) := by
  have hd := wfN_dirs h.2.1
  have en := h.2.2.1
  obtain ⟨a1, a2, a3⟩ := ha b hb
  have at' := af_turn h.1 ha hb
  rw [← (mor_cy h hb a1).2] at at'
  have c1 := cy_k (a := wA W') (b := wB W') b (af b)
  have c2 := cy_k (a := wA W') (b := wB W') b (wN W)
  have c3 := cy_k (a := wA W') (b := wB W') (af b) (wN W)
  have c4 := cy_k (a := wA W') (b := wB W') (wN W) (af b)
  have t1 := cy_t hd (show b < wN W' by omega) (show af b < wN W' by omega)
  have t2 := cy_t hd (show wN W < wN W' by omega) (show af b < wN W' by omega)
  have t3 := cy_t hd (show b < wN W' by omega) (show wN W < wN W' by omega)
  have z1 := (hd b (by omega)).2 (wN W) (by omega) (by omega)
  have z2 := (hd (wN W) (by omega)).2 (af b) (by omega) (by omega)
  generalize cy (wA W') (wB W') b (af b) = x1 at *
  generalize cy (wA W') (wB W') b (wN W) = x2 at *
  generalize cy (wA W') (wB W') (af b) (wN W) = x3 at *
  generalize cy (wA W') (wB W') (wN W) (af b) = x4 at *
  by_cases q : 0 < tn (wA W') (wB W') b (wN W)
  · by_cases q' : 0 < tn (wA W') (wB W') (wN W) (af b)
    · exact absurd ⟨q, q'⟩ c
    · omega
  · omega
def insA (n b : Nat) (af : Nat → Nat) : Nat → Nat := fun k => if k = n then af b else if k = b then n else af k
theorem ins_ok (h : mor W W') (ha : afR W af) {b : Nat} (hb : b < wN W) (c1 : 0 < tn (wA W') (wB W') b (wN W)) (c2 : 0 < tn (wA W') (wB W') (wN W) (af b)) : afR W' (insA (wN W) b af) := by
  have hd := wfN_dirs h.2.1
  have en := h.2.2.1
  have bd := fun k (hk : k < wN W') => ky_bd (hd k hk).1
  obtain ⟨a1, a2, a3⟩ := ha b hb
  have t1 := cy_t hd (show b < wN W' by omega) (show wN W < wN W' by omega)
  have t2 := cy_t hd (show wN W < wN W' by omega) (show af b < wN W' by omega)
  have e1 := cy_k (a := wA W') (b := wB W') b (wN W)
  have e2 := cy_k (a := wA W') (b := wB W') (wN W) (af b)
  have e3 := cy_k (a := wA W') (b := wB W') b (af b)
  have y1 := bd b (by omega)
  have y2 := bd (wN W) (by omega)
  have y3 := bd (af b) (by omega)
  intro k hk
  unfold insA
  by_cases kn : k = wN W
  · subst kn
    rw [if_pos rfl]
    refine ⟨by omega, by omega, fun j hj jk => ?_⟩
    have jn : j < wN W := by omega
    have e4 := cy_k (a := wA W') (b := wB W') (wN W) j
    have y4 := bd j (by omega)
    by_cases jb : j = b
    · subst jb
      omega
    · have q := a3 j jn jb
      rw [← (mor_cy h hb a1).1, ← (mor_cy h hb jn).1] at q
      have e5 := cy_k (a := wA W') (b := wB W') b j
      omega
  · rw [if_neg kn]
    have kn' : k < wN W := by omega
    by_cases kb : k = b
    · subst kb
      rw [if_pos rfl]
      refine ⟨by omega, by omega, fun j hj jk => ?_⟩
      by_cases jn : j = wN W
      · subst jn; exact Int.le_refl _
      · have q := a3 j (by omega) jk
        rw [← (mor_cy h hb a1).1, ← (mor_cy h hb (show j < wN W by omega)).1] at q
        omega
    · rw [if_neg kb]
      obtain ⟨k1, k2, k3⟩ := ha k kn'
      refine ⟨by omega, k2, fun j hj jk => ?_⟩
      by_cases jn : j = wN W
      · subst jn
        have q1 := k3 b hb (fun w => kb w.symm)
        have q2 := a3 k kn' kb
        rw [← (mor_cy h kn' k1).1, ← (mor_cy h kn' hb).1] at q1
        rw [← (mor_cy h hb a1).1, ← (mor_cy h hb kn').1] at q2
        have e4 := cy_k (a := wA W') (b := wB W') k (af k)
        have e5 := cy_k (a := wA W') (b := wB W') k (wN W)
        have e6 := cy_k (a := wA W') (b := wB W') k b
        have e7 := cy_k (a := wA W') (b := wB W') b k
        have y4 := bd k (by omega)
        have z := (hd k (by omega)).2 b (by omega) (fun w => kb w.symm)
        omega
      · rw [(mor_cy h kn' k1).1, (mor_cy h kn' (show j < wN W by omega)).1]
        exact k3 j (by omega) jk
end
/-- what changes with the normals at w -/
def fr4 (w : Nat) (S S' : jS) : Prop := ∀ r j, (r ≠ w ∨ j ≠ 3) → r ≠ w + 1 → r ≠ w + 2 → r ≠ w + 3 → S' r j = S r j
def nst (S : jS) (w k : Nat) (x y v : Int) : jS := ju (ju (ju (ju S (w + 1) k x) (w + 2) k y) (w + 3) k v) w 3 (S w 3 + 1)
theorem nst_r {S : jS} {w k : Nat} {x y v : Int} : fr4 w S (nst S w k x y v) ∧ (nst S w k x y v w 3 = S w 3 + 1) ∧ (∀ j, nst S w k x y v (w + 1) j = if j = k then x else S (w + 1) j) ∧ (∀ j, nst S w k x y v (w + 2) j = if j = k then y else S (w + 2) j) ∧ (∀ j, nst S w k x y v (w + 3) j = if j = k then v else S (w + 3) j) := by
  unfold nst
  refine ⟨fun r j h1 h2 h3 h4 => ?_, ?_, fun j => ?_, fun j => ?_, fun j => ?_⟩
  · simp only [ju_at]
    rw [if_neg (by omega), if_neg (by omega), if_neg (by omega), if_neg (by omega)]
  · simp [ju_at]
  · simp [ju_at]
  · simp [ju_at]
  · simp [ju_at]
section
variable {G : jG} {z w : Nat} {S : jS} {F : Nat → Int} {af : Nat → Nat} {P : Option jV → jM → Prop}
theorem k_nset {k : Nat} {x y v : Int} (hu : nU w) (hk : k < 24) : jC G mX4_set 0 0 (mm z S) [(2, (w : Int)), (0, (k : Int)), (0, x), (0, y), (0, v)] (jP none (mm z (nst S w k x y v))) := by
  have k24 : (k : Int) < 24 := by omega
  refine jCw kX4_set jn_X4 (fun pc => false) 60 (Nat.le_of_ble_eq_true rfl) ?_
  simp -implicitDefEqProofs only [Nat.reduceAdd, Nat.reduceMul, Nat.reduceEqDiff, Nat.reduceBEq, Nat.reduceLT, Nat.reduceLeDiff, Int.reduceToNat, Int.reduceLE, Int.reduceLT, Int.reduceNeg, Int.reduceAdd, Int.reduceMul, Bool.or_false, Bool.or_true, Bool.true_or, Bool.false_or, jwq_s, jwp_sn, jwp_sc, jwp_0, jsum, jwx_s, ↓jol_c, ↓jo1_c, ↓jo2_c, ↓jo3_c, Bool.false_eq_true, beq_iff_eq, jst, jins_c, jins_n, jdrop_c, jdrop_n, jargs, jtg, jtag, jcnd, true_and, and_true, false_or, or_false, true_or, or_true, forall_const, ↓reduceIte, Option.toList, List.cons_append, List.nil_append, false_and, and_false, reduceCtorEq, false_imp_iff, forall_eq, true_imp_iff, joc_c, List.drop_succ_cons, List.drop_zero, List.take_succ_cons, List.take_zero, List.reverse_cons, List.reverse_nil, List.length_cons, List.length_nil, Int.reduceEq, not_true_eq_false, not_false_eq_true, mm_S, mm_L, mm_set, Int.toNat_natCast, Int.natCast_nonneg, ju_at, ne21, ne01, jrd_1, jrd_2, jrd_3, jobj_M, jfd_M0, jfd_M1, jfd_M2, jfd_M3, jfd_M4, jfd_M5, jfd_M6, jfd_M7, jfd_M8, jfd_M9, jfd_M10, jfd_M11, jfd_M12, jsn_M12, jfd_M13, jsn_M13, jfd_M14, jsn_M14, jfd_M15, jsn_M15, jarr_M5, jarr_M6, jarr_M7, jarr_M82, jarr_M83, jarr_M145, jarr_M146, jarr_M147, jarr_M8, jrd_M8, jarr_M9, jrd_M9, jarr_M84, jrd_M84, jobj_N, jfd_N0, jfd_N1, jfd_N2, jfd_N3, jsn_N3, jarr_N1, jarr_N2, jarr_N3, jobj_B, jfd_B0, jfd_B1, jfd_B2, jfd_B3, jfd_B4, jfd_B5, jsn_B5, jarr_B1, jarr_B2, jarr_B3, jarr_B4, jarr_B5, jobj_H, jfd_H0, jfd_H1, jfd_H2, jsn_H2, jfd_H3, jsn_H3, jfd_H4, jsn_H4, jfd_H5, jsn_H5, jfd_H6, jsn_H6, jfd_H7, jsn_H7, jfd_H8, jsn_H8, jfd_H9, jsn_H9, jfd_H10, jfd_H11, jarr_H429, jarr_H1, jrd_H1, jobj_P, jfd_P0, jfd_P1, jfd_P2, jsn_P2, jfd_P3, jsn_P3, jfd_P4, jsn_P4, jfd_P5, jsn_P5, jfd_P6, jsn_P6, jfd_P7, jsn_P7, jfd_P8, jsn_P8, jfd_P9, jsn_P9, jobj_G, jfd_G0, jfd_G1, jarr_G1, jarr_G2, jobj_A, jfd_A0, jsn_A0, jfd_A1, jsn_A1, jobj_O, jfd_O0, jfd_O1, jsn_O1, jfd_O2, jsn_O2, jfd_O3, jsn_O3, jfd_O4, jsn_O4, jfd_O5, jsn_O5, jfd_O6, jfd_O7, jfd_O10, jfd_O11, jarr_O1, jobj_E, jfd_E0, jfd_E1, jsn_E1, jfd_E2, jsn_E2, jfd_E3, jsn_E3, jfd_E4, jsn_E4, jfd_E5, jsn_E5, jfd_E6, jsn_E6, jfd_E7, jsn_E7, jfd_E8, jsn_E8, jfd_E9, jsn_E9, jfd_E10, jsn_E10, jfd_E11, jsn_E11, jfd_E12, jsn_E12, jfd_E13, jsn_E13, jfd_E14, jsn_E14, jarr_E1, jobj_C, jfd_C0, jfd_C1, jfd_C2, jfd_C3, jfd_C4, jfd_C5, jfd_C6, jsn_C6, jfd_C7, jsn_C7, jfd_C8, jsn_C8, jarr_C1, jarr_C2, jarr_C3, jarr_C4, jarr_C5, jarr_C6, jrd_C5, jsn_Ca5, jrd_C6, jsn_Ca6, jobj_Y, jfd_Y0, jfd_Y1, jfd_Y2, jsn_Y2, jfd_Y3, jfd_Y4, jfd_Y5, jarr_Y1, jobj_D, jfd_D0, jfd_D1, jfd_D2, jfd_D3, jsn_D3, jfd_D4, jsn_D4, jfd_D5, jsn_D5, jfd_D6, jfd_D7, jsn_D7, jfd_D8, jsn_D8, jfd_D9, jsn_D9, jfd_D10, jsn_D10, jfd_D11, jsn_D11, jfd_D12, jsn_D12, jfd_D13, jsn_D13, jfd_D14, jsn_D14, jfd_D15, jsn_D15, jfd_D16, jsn_D16, jarr_D1, jfd_O8c, jfd_O9c, hU_CK, hU_OT, jL32_0, jL32_1, jL32_2, jL32_3, jL32_4, jL32_5, jL32_6, jL32_7, jL32_8, jL32_9, jL32_10, jL32_11, jL32_12, jL32_13, jL32_14, jL32_15, jL32_16, jL32_17, jL32_18, jL32_19, jL32_20, jL32_21, jL32_22, jL32_23, jL32_24, jL32_25, jL32_26, jL32_27, jL32_28, jL32_29, jL32_30, jL32_31, jL32_32, jL32_33, jL32_34, jL32_35, jL32_36, jL32_37, jL32_38, jL32_39, jL32_57, jL32_60, jL32_97, jL32_122, jL32_255, jLm32_1, jLm32_2, jLm32_3, jLm32_1000, jL64_0, jL64_1, zne_10, zne_00, zne_01, zne_11, false_imp_iff, true_imp_iff, fX4_set_0, fX4_set_1, fX4_set_4, fX4_set_5, fX4_set_6, fX4_set_7, fX4_set_8, fX4_set_11, fX4_set_12, fX4_set_13, fX4_set_14, fX4_set_15, fX4_set_18, fX4_set_19, fX4_set_21, fX4_set_22, fX4_set_23, fX4_set_24, fX4_set_27, fX4_set_28, fX4_set_29, fX4_set_32, ↓jo_0, ↓jo_1, ↓jo_23, ↓jo_24, ↓jo_26, ↓jo_31v, ↓jo_32, ↓jo_4, hu, k24]
  refine ⟨rfl, ?_⟩
  unfold nst
  simp [ju_at]
end

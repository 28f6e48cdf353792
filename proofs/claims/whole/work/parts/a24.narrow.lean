/-! The class Ride: times that are left. -/
/-- the times u by d that are left, in the cells of a ride -/
def rnI (S : jS) (C : Int → Int → Prop) : Prop := (S 1232 16 = 0 ∨ S 1232 16 = 1) ∧ (0 < S 1232 13 ∧ S 1232 13 ≤ 2000) ∧ (0 ≤ S 1232 12 ∧ S 1232 12 ≤ 4000000000000) ∧ (0 ≤ S 1232 15 ∧ S 1232 15 ≤ 2000) ∧ (S 1232 15 ≠ 0 → -4000000000000 ≤ S 1232 14 ∧ S 1232 14 ≤ 4000000000000) ∧ ∀ u d, 0 < d → (C u d ↔ S 1232 16 = 1 ∧ S 1232 12 * d ≤ u * S 1232 7 * S 1232 13 ∧ (S 1232 15 = 0 ∨ u * S 1232 7 * S 1232 15 ≤ S 1232 14 * d))
/-- what a bound asks of a time -/
def rnB (a b c px py rx ry s u d : Int) : Prop := (a * px + b * py) * (u * s) ≤ (c * s - a * rx - b * ry) * d
/-- rows that the narrowing leaves -/
def frZ (S S' : jS) : Prop := ∀ r j, (r ≠ 1232 ∨ j < 12 ∨ 16 < j) → S' r j = S r j
theorem frZ.refl (S : jS) : frZ S S := fun _ _ _ => rfl
theorem frZ.trans {S S' S'' : jS} (h : frZ S S') (h' : frZ S' S'') : frZ S S'' := fun r j a => by rw [h' r j a, h r j a]
theorem frZ.set (S : jS) {k : Nat} (v : Int) (h : 12 ≤ k ∧ k ≤ 16) : frZ S (ju S 1232 k v) := fun r j a => by rw [ju_at, if_neg (by omega)]
/-- the lesser of two fractions above -/
theorem to_new {t d A B r p : Int} (hd : 0 < d) (hB : 0 ≤ B) (hp : 0 < p) (h : B = 0 ∨ r * B < A * p) (n : p * t ≤ r * d) : B = 0 ∨ t * B ≤ A * d := by
  rcases h with h | h
  · exact Or.inl h
  · refine Or.inr (Int.le_of_mul_le_mul_right (a := p) ?_ hp)
    have q1 := Int.mul_le_mul_of_nonneg_right n hB
    have q2 := Int.mul_le_mul_of_nonneg_right (Int.le_of_lt h) (Int.le_of_lt hd)
    have e1 : t * B * p = p * t * B := by grind
    have e2 : r * d * B = r * B * d := by grind
    have e3 : A * d * p = A * p * d := by grind
    omega
theorem to_old {t d A B r p : Int} (hd : 0 < d) (hB : 0 < B) (hp : 0 < p) (h : A * p ≤ r * B) (n : t * B ≤ A * d) : p * t ≤ r * d := by
  refine Int.le_of_mul_le_mul_right (a := B) ?_ hB
  have q1 := Int.mul_le_mul_of_nonneg_right n (Int.le_of_lt hp)
  have q2 := Int.mul_le_mul_of_nonneg_right h (Int.le_of_lt hd)
  have e1 : p * t * B = t * B * p := by grind
  have e2 : A * p * d = A * d * p := by grind
  have e3 : r * d * B = r * B * d := by grind
  omega
section
variable {G : jG} {z u : Nat} {S : jS} {W : Nat → Int} {T : Nat → Nat → Int} {af : Nat → Nat} {P : Option jV → jM → Prop}
set_option maxHeartbeats 2000000 in
set_option maxRecDepth 100000 in
theorem k_narrowBy {a b c px py rx ry s : Int} {C : Int → Int → Prop} (h : rnI S C) (e7 : S 1232 7 = s) (e8 : S 1232 8 = rx) (e9 : S 1232 9 = ry) (e10 : S 1232 10 = px) (e11 : S 1232 11 = py) (ha : -81 ≤ a ∧ a ≤ 81) (hb : -81 ≤ b ∧ b ≤ 81) (hc : -99999 ≤ c ∧ c ≤ 99999) (hpx : -9 ≤ px ∧ px ≤ 9) (hpy : -9 ≤ py ∧ py ≤ 9) (hs : 0 < s ∧ s ≤ 9000000) (hrx : -18000000000 ≤ rx ∧ rx ≤ 18000000000) (hry : -18000000000 ≤ ry ∧ ry ≤ 18000000000)
    (out : ∀ S', frZ S S' → rnI S' (fun u d => C u d ∧ rnB a b c px py rx ry s u d) → P none (mm z S')) :
    jC G mX9_narrowBy 0 0 (mm z S) [(2, ((1232 : Nat) : Int)), (1, a), (1, b), (1, c)] P := by
  obtain ⟨h16, h13, h12, h15, h14, hC⟩ := h
  rw [e7] at hC
  have m1 := mul_b (x := a) (y := px) (a := 81) (b := 9) (by omega) (by omega) (by omega) (by omega)
  have m2 := mul_b (x := b) (y := py) (a := 81) (b := 9) (by omega) (by omega) (by omega) (by omega)
  have m3 := mul_b (x := c) (y := s) (a := 99999) (b := 9000000) (by omega) (by omega) (by omega) (by omega)
  have m4 := mul_b (x := a) (y := rx) (a := 81) (b := 18000000000) (by omega) (by omega) (by omega) (by omega)
  have m5 := mul_b (x := b) (y := ry) (a := 81) (b := 18000000000) (by omega) (by omega) (by omega) (by omega)
  refine jCw kX9_narrowBy jn_X9 (fun pc => false) 120 (Nat.le_of_ble_eq_true rfl) ?_
  simp -implicitDefEqProofs only [Nat.reduceAdd, Nat.reduceMul, Nat.reduceEqDiff, Nat.reduceBEq, Nat.reduceLT, Nat.reduceLeDiff, Int.reduceToNat, Int.reduceLE, Int.reduceLT, Int.reduceNeg, Int.reduceAdd, Int.reduceMul, Bool.or_false, Bool.or_true, Bool.true_or, Bool.false_or, jwq_s, jwp_sn, jwp_sc, jwp_0, jsum, jwx_s, ↓jol_c, ↓jo1_c, ↓jo2_c, ↓jo3_c, Bool.false_eq_true, beq_iff_eq, jst, jins_c, jins_n, jdrop_c, jdrop_n, jargs, jtg, jtag, jcnd, true_and, and_true, false_or, or_false, true_or, or_true, forall_const, ↓reduceIte, Option.toList, List.cons_append, List.nil_append, false_and, and_false, reduceCtorEq, false_imp_iff, forall_eq, true_imp_iff, joc_c, List.drop_succ_cons, List.drop_zero, List.take_succ_cons, List.take_zero, List.reverse_cons, List.reverse_nil, List.length_cons, List.length_nil, Int.reduceEq, not_true_eq_false, not_false_eq_true, mm_S, mm_L, mm_set, Int.toNat_natCast, Int.natCast_nonneg, ju_at, ne21, ne01, jrd_1, jrd_2, jrd_3, jobj_M, jfd_M0, jfd_M1, jfd_M2, jfd_M3, jfd_M4, jfd_M5, jfd_M6, jfd_M7, jfd_M8, jfd_M9, jfd_M10, jfd_M11, jfd_M12, jsn_M12, jfd_M13, jsn_M13, jfd_M14, jsn_M14, jfd_M15, jsn_M15, jarr_M5, jarr_M6, jarr_M7, jarr_M82, jarr_M83, jarr_M145, jarr_M146, jarr_M147, jarr_M8, jrd_M8, jarr_M9, jrd_M9, jarr_M84, jrd_M84, jobj_N, jfd_N0, jfd_N1, jfd_N2, jfd_N3, jsn_N3, jarr_N1, jarr_N2, jarr_N3, jobj_B, jfd_B0, jfd_B1, jfd_B2, jfd_B3, jfd_B4, jfd_B5, jsn_B5, jarr_B1, jarr_B2, jarr_B3, jarr_B4, jarr_B5, jobj_H, jfd_H0, jfd_H1, jfd_H2, jsn_H2, jfd_H3, jsn_H3, jfd_H4, jsn_H4, jfd_H5, jsn_H5, jfd_H6, jsn_H6, jfd_H7, jsn_H7, jfd_H8, jsn_H8, jfd_H9, jsn_H9, jfd_H10, jfd_H11, jarr_H429, jarr_H1, jrd_H1, jobj_P, jfd_P0, jfd_P1, jfd_P2, jsn_P2, jfd_P3, jsn_P3, jfd_P4, jsn_P4, jfd_P5, jsn_P5, jfd_P6, jsn_P6, jfd_P7, jsn_P7, jfd_P8, jsn_P8, jfd_P9, jsn_P9, jobj_G, jfd_G0, jfd_G1, jarr_G1, jarr_G2, jobj_A, jfd_A0, jsn_A0, jfd_A1, jsn_A1, jobj_O, jfd_O0, jfd_O1, jsn_O1, jfd_O2, jsn_O2, jfd_O3, jsn_O3, jfd_O4, jsn_O4, jfd_O5, jsn_O5, jfd_O6, jfd_O7, jfd_O10, jfd_O11, jarr_O1, jobj_E, jfd_E0, jfd_E1, jsn_E1, jfd_E2, jsn_E2, jfd_E3, jsn_E3, jfd_E4, jsn_E4, jfd_E5, jsn_E5, jfd_E6, jsn_E6, jfd_E7, jsn_E7, jfd_E8, jsn_E8, jfd_E9, jsn_E9, jfd_E10, jsn_E10, jfd_E11, jsn_E11, jfd_E12, jsn_E12, jfd_E13, jsn_E13, jfd_E14, jsn_E14, jarr_E1, jobj_C, jfd_C0, jfd_C1, jfd_C2, jfd_C3, jfd_C4, jfd_C5, jfd_C6, jsn_C6, jfd_C7, jsn_C7, jfd_C8, jsn_C8, jarr_C1, jarr_C2, jarr_C3, jarr_C4, jarr_C5, jarr_C6, jrd_C5, jsn_Ca5, jrd_C6, jsn_Ca6, jobj_Y, jfd_Y0, jfd_Y1, jfd_Y2, jsn_Y2, jfd_Y3, jfd_Y4, jfd_Y5, jarr_Y1, jobj_D, jfd_D0, jfd_D1, jfd_D2, jfd_D3, jsn_D3, jfd_D4, jsn_D4, jfd_D5, jsn_D5, jfd_D6, jfd_D7, jsn_D7, jfd_D8, jsn_D8, jfd_D9, jsn_D9, jfd_D10, jsn_D10, jfd_D11, jsn_D11, jfd_D12, jsn_D12, jfd_D13, jsn_D13, jfd_D14, jsn_D14, jfd_D15, jsn_D15, jfd_D16, jsn_D16, jarr_D1, jfd_O8c, jfd_O9c, hU_CK, hU_OT, jL32_0, jL32_1, jL32_2, jL32_3, jL32_4, jL32_5, jL32_6, jL32_7, jL32_8, jL32_9, jL32_10, jL32_11, jL32_12, jL32_13, jL32_14, jL32_15, jL32_16, jL32_17, jL32_18, jL32_19, jL32_20, jL32_21, jL32_22, jL32_23, jL32_24, jL32_25, jL32_26, jL32_27, jL32_28, jL32_29, jL32_30, jL32_31, jL32_32, jL32_33, jL32_34, jL32_35, jL32_36, jL32_37, jL32_38, jL32_39, jL32_57, jL32_60, jL32_97, jL32_122, jL32_255, jLm32_1, jLm32_2, jLm32_3, jLm32_1000, jL64_0, jL64_1, zne_10, zne_00, zne_01, zne_11, false_imp_iff, true_imp_iff, fX9_narrowBy_0, fX9_narrowBy_1, fX9_narrowBy_2, fX9_narrowBy_5, fX9_narrowBy_6, fX9_narrowBy_7, fX9_narrowBy_8, fX9_narrowBy_11, fX9_narrowBy_12, fX9_narrowBy_13, fX9_narrowBy_15, fX9_narrowBy_17, fX9_narrowBy_18, fX9_narrowBy_21, fX9_narrowBy_22, fX9_narrowBy_23, fX9_narrowBy_24, fX9_narrowBy_27, fX9_narrowBy_28, fX9_narrowBy_29, fX9_narrowBy_30, fX9_narrowBy_31, fX9_narrowBy_34, fX9_narrowBy_35, fX9_narrowBy_36, fX9_narrowBy_38, fX9_narrowBy_40, fX9_narrowBy_41, fX9_narrowBy_45, fX9_narrowBy_46, fX9_narrowBy_47, fX9_narrowBy_50, fX9_narrowBy_53, fX9_narrowBy_55, fX9_narrowBy_56, fX9_narrowBy_60, fX9_narrowBy_61, fX9_narrowBy_64, fX9_narrowBy_65, fX9_narrowBy_68, fX9_narrowBy_71, fX9_narrowBy_73, fX9_narrowBy_74, fX9_narrowBy_78, fX9_narrowBy_79, fX9_narrowBy_82, fX9_narrowBy_83, fX9_narrowBy_87, fX9_narrowBy_89, fX9_narrowBy_90, fX9_narrowBy_93, fX9_narrowBy_94, fX9_narrowBy_95, fX9_narrowBy_98, fX9_narrowBy_100, fX9_narrowBy_101, fX9_narrowBy_105, fX9_narrowBy_106, fX9_narrowBy_108, fX9_narrowBy_111, fX9_narrowBy_112, fX9_narrowBy_114, fX9_narrowBy_117, fX9_narrowBy_120, fX9_narrowBy_122, fX9_narrowBy_123, fX9_narrowBy_124, fX9_narrowBy_127, fX9_narrowBy_128, fX9_narrowBy_129, fX9_narrowBy_132, fX9_narrowBy_134, fX9_narrowBy_135, fX9_narrowBy_136, fX9_narrowBy_140, fX9_narrowBy_141, fX9_narrowBy_143, fX9_narrowBy_144, fX9_narrowBy_147, fX9_narrowBy_148, fX9_narrowBy_150, fX9_narrowBy_151, fX9_narrowBy_154, ↓jo_0, ↓jo_1, ↓jo_10, ↓jo_11, ↓jo_12, ↓jo_15, ↓jo_19, ↓jo_2, ↓jo_21, ↓jo_22, ↓jo_23, ↓jo_24, ↓jo_31v, ↓jo_41, e7, e8, e9, e10, e11]
  have eB : ∀ u d, rnB a b c px py rx ry s u d ↔ (a * px + b * py) * (u * s) ≤ (c * s - a * rx - b * ry) * d := fun u d => Iff.rfl
  generalize hp : a * px + b * py = p at *
  generalize hr : c * s - a * rx - b * ry = r at *
  generalize rnB a b c px py rx ry s = Q at *
  have pb : -1458 ≤ p ∧ p ≤ 1458 := by omega
  have rb : -4000000000000 ≤ r ∧ r ≤ 4000000000000 := by omega
  clear m1 m2 m3 m4 m5 hp hr
  have mk : ∀ S' v12 v13 v14 v15 v16, frZ S S' → S' 1232 12 = v12 → S' 1232 13 = v13 → S' 1232 14 = v14 → S' 1232 15 = v15 → S' 1232 16 = v16 → (v16 = 0 ∨ v16 = 1) → (0 < v13 ∧ v13 ≤ 2000) → (0 ≤ v12 ∧ v12 ≤ 4000000000000) → (0 ≤ v15 ∧ v15 ≤ 2000) → (v15 ≠ 0 → -4000000000000 ≤ v14 ∧ v14 ≤ 4000000000000) → (∀ u d, 0 < d → (C u d ∧ Q u d ↔ v16 = 1 ∧ v12 * d ≤ u * s * v13 ∧ (v15 = 0 ∨ u * s * v15 ≤ v14 * d))) → P none (mm z S') := by
    intro S' v12 v13 v14 v15 v16 f i12 i13 i14 i15 i16 j16 j13 j12 j15 j14 q
    refine out S' f ?_
    unfold rnI
    rw [i12, i13, i14, i15, i16, f 1232 7 (by omega), e7]
    exact ⟨j16, j13, j12, j15, j14, q⟩
  obtain ⟨A, hA⟩ : ∃ A, S 1232 12 = A := ⟨_, rfl⟩
  obtain ⟨B, hB⟩ : ∃ A, S 1232 13 = A := ⟨_, rfl⟩
  obtain ⟨D, hD⟩ : ∃ A, S 1232 14 = A := ⟨_, rfl⟩
  obtain ⟨E, hE⟩ : ∃ A, S 1232 15 = A := ⟨_, rfl⟩
  obtain ⟨F, hF⟩ : ∃ A, S 1232 16 = A := ⟨_, rfl⟩
  rw [hF] at h16
  rw [hB] at h13
  rw [hA] at h12
  rw [hE, hD] at h14
  rw [hE] at h15
  rw [hA, hB, hD, hE, hF] at hC
  rw [hA, hB, hD, hE, hF]
  have n1 := mul_b (x := -r) (y := B) (a := 4000000000000) (b := 2000) (by omega) (by omega) (by omega) (by omega)
  have n2 := mul_b (x := A) (y := -p) (a := 4000000000000) (b := 2000) (by omega) (by omega) (by omega) (by omega)
  have n3 := mul_b (x := r) (y := E) (a := 4000000000000) (b := 2000) (by omega) (by omega) (by omega) (by omega)
  have put : ∀ k v, 12 ≤ k ∧ k ≤ 16 → frZ S (ju S 1232 k v) := fun k v h => frZ.set S v h
  refine ⟨⟨by omega, by omega⟩, fun c => ⟨⟨by omega, by omega⟩, fun c1 => ⟨⟨by omega, by omega⟩, ⟨by omega, by omega⟩, fun c2 => ?_, fun c2 => ?_⟩, fun c1 => ⟨⟨by omega, by omega⟩, fun c2 => ?_, fun c2 => ?_⟩⟩, fun c => ⟨⟨by omega, by omega⟩, fun c1 => ?_, fun c1 => ⟨⟨by omega, by omega⟩, fun c2 => ?_, fun c2 => ?_⟩⟩⟩
  · -- the earliest stays
    refine mk S A B D E F (frZ.refl S) hA hB hD hE hF h16 h13 h12 h15 h14 (fun u d hd => ?_)
    rw [hC u d hd, eB]
    refine ⟨fun q => q.1, fun q => ⟨q, ?_⟩⟩
    have g := to_old (t := -(u * s)) (d := d) (A := -A) (B := B) (r := r) (p := -p) hd h13.1 (by omega) (by rw [Int.neg_mul] at c2 ⊢; omega) (by rw [Int.neg_mul, Int.neg_mul]; omega)
    rw [Int.neg_mul_neg] at g
    exact g
  · have pn : 0 ≤ A * -p := Int.mul_nonneg h12.1 (by omega)
    have rp : 0 < -r := Int.pos_of_mul_pos_left (show 0 < -r * B by omega) h13.1
    refine mk _ (-r) (-p) D E F ((put 12 _ (by omega)).trans (frZ.set _ _ (by omega))) (by simp [ju_at]) (by simp [ju_at]) (by simp [ju_at, hD]) (by simp [ju_at, hE]) (by simp [ju_at, hF]) h16 ⟨by omega, by omega⟩ ⟨by omega, by omega⟩ h15 h14 (fun u d hd => ?_)
    rw [hC u d hd, eB]
    have k1 : p * (u * s) ≤ r * d ↔ -r * d ≤ u * s * -p := by
      have e1 : u * s * -p = -(p * (u * s)) := by grind
      rw [e1, Int.neg_mul]; omega
    rw [k1]
    refine ⟨fun q => ⟨q.1.1, q.2, q.1.2.2⟩, fun q => ⟨⟨q.1, ?_, q.2.2⟩, q.2.1⟩⟩
    have g := to_new (t := -(u * s)) (d := d) (A := -A) (B := B) (r := r) (p := -p) hd (by omega) (by omega) (Or.inr (by rw [Int.neg_mul] at c2 ⊢; omega)) (by rw [Int.neg_mul_neg]; exact k1.mpr q.2.1)
    rcases g with g | g
    · omega
    · rw [Int.neg_mul, Int.neg_mul] at g; omega
  · refine mk _ A B r p F ((put 14 _ (by omega)).trans (frZ.set _ _ (by omega))) (by simp [ju_at, hA]) (by simp [ju_at, hB]) (by simp [ju_at]) (by simp [ju_at]) (by simp [ju_at, hF]) h16 h13 h12 ⟨by omega, by omega⟩ (fun _ => rb) (fun u d hd => ?_)
    rw [hC u d hd, eB, Int.mul_comm p]
    exact ⟨fun q => ⟨q.1.1, q.1.2.1, Or.inr q.2⟩, fun q => ⟨⟨q.1, q.2.1, Or.inl c2⟩, q.2.2.resolve_left c⟩⟩
  · have b14 := h14 c2
    have n4 := mul_b (x := D) (y := p) (a := 4000000000000) (b := 2000) (by omega) (by omega) (by omega) (by omega)
    refine ⟨⟨by omega, by omega⟩, ⟨by omega, by omega⟩, fun c3 => ?_, fun c3 => ?_⟩
    · refine mk S A B D E F (frZ.refl S) hA hB hD hE hF h16 h13 h12 h15 h14 (fun u d hd => ?_)
      rw [hC u d hd, eB]
      refine ⟨fun q => q.1, fun q => ⟨q, ?_⟩⟩
      exact to_old hd (show 0 < E by omega) (by omega) c3 (q.2.2.resolve_left c2)
    · refine mk _ A B r p F ((put 14 _ (by omega)).trans (frZ.set _ _ (by omega))) (by simp [ju_at, hA]) (by simp [ju_at, hB]) (by simp [ju_at]) (by simp [ju_at]) (by simp [ju_at, hF]) h16 h13 h12 ⟨by omega, by omega⟩ (fun _ => rb) (fun u d hd => ?_)
      rw [hC u d hd, eB]
      refine ⟨fun q => ⟨q.1.1, q.1.2.1, Or.inr (by rw [Int.mul_comm]; exact q.2)⟩, fun q => ?_⟩
      have g := q.2.2.resolve_left (by omega)
      rw [Int.mul_comm] at g
      exact ⟨⟨q.1, q.2.1, to_new hd (by omega) (by omega) (Or.inr (by omega)) g⟩, g⟩
  · have p0 : p = 0 := by omega
    refine mk _ A B D E 0 (put 16 _ (by omega)) (by simp [ju_at, hA]) (by simp [ju_at, hB]) (by simp [ju_at, hD]) (by simp [ju_at, hE]) (by simp [ju_at]) (Or.inl rfl) h13 h12 h15 h14 (fun u d hd => ?_)
    rw [hC u d hd]
    exact ⟨fun q => by omega, fun q => by omega⟩
  · have p0 : p = 0 := by omega
    refine mk _ A B D E 0 (put 16 _ (by omega)) (by simp [ju_at, hA]) (by simp [ju_at, hB]) (by simp [ju_at, hD]) (by simp [ju_at, hE]) (by simp [ju_at]) (Or.inl rfl) h13 h12 h15 h14 (fun u d hd => ?_)
    rw [hC u d hd, eB, p0, Int.zero_mul]
    have := Int.mul_neg_of_neg_of_pos c2 hd
    exact ⟨fun q => by omega, fun q => by omega⟩
  · have p0 : p = 0 := by omega
    refine mk _ A B D E 1 (put 16 _ (by omega)) (by simp [ju_at, hA]) (by simp [ju_at, hB]) (by simp [ju_at, hD]) (by simp [ju_at, hE]) (by simp [ju_at]) (Or.inr rfl) h13 h12 h15 h14 (fun u d hd => ?_)
    rw [hC u d hd, eB, p0, Int.zero_mul]
    have := Int.mul_nonneg (show 0 ≤ r by omega) (Int.le_of_lt hd)
    exact ⟨fun q => ⟨rfl, q.1.2⟩, fun q => ⟨⟨by omega, q.2⟩, this⟩⟩
end

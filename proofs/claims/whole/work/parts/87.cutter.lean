/-! The class's cutter: what it holds, load, cutAt, cut, cutToBox. -/
/-- normals as the class holds them -/
def nwR (w : Nat) (S : jS) (W : Nat → Int) (af : Nat → Nat) : Prop := S w 3 = W 2 ∧ ∀ k, k < wN W → S (w + 1) k = wA W k ∧ S (w + 2) k = wB W k ∧ S (w + 3) k = (af k : Int)
/-- the next normal by angle -/
def afR (W : Nat → Int) (af : Nat → Nat) : Prop := ∀ k, k < wN W → af k < wN W ∧ af k ≠ k ∧ ∀ j, j < wN W → j ≠ k → cy (wA W) (wB W) k (af k) ≤ cy (wA W) (wB W) k j
/-- bounds as the class holds them -/
def bdR (v : Nat) (S : jS) (W : Nat → Int) (f m : Nat) : Prop := S v 5 = (m : Int) ∧ ∀ i, i < m → S (v + 4) i = W (f + 3 * i) ∧ (-999 ≤ S (v + 3) i ∧ S (v + 3) i ≤ 999) ∧ (0 < S (v + 5) i ∧ S (v + 5) i ≤ 9) ∧ S (v + 3) i * W (f + 3 * i + 2) = W (f + 3 * i + 1) * S (v + 5) i ∧ S (v + 1) i = S (v + 5) i * wA W (W (f + 3 * i)).toNat ∧ S (v + 2) i = S (v + 5) i * wB W (W (f + 3 * i)).toNat
/-- what the cutter may change -/
def frU (S S' : jS) : Prop := ∀ r j, (r < 300 ∨ 304 < r) → S' r j = S r j
theorem frU.refl (S : jS) : frU S S := fun _ _ _ => rfl
theorem frU.trans {S S' S'' : jS} (h : frU S S') (h' : frU S' S'') : frU S S'' := fun r j q => by rw [h' r j q, h r j q]
theorem frU.set (S : jS) {r : Nat} (k : Nat) (v : Int) (h : 300 ≤ r ∧ r ≤ 304) : frU S (ju S r k v) := fun p j q => by rw [ju_at, if_neg (by omega)]
theorem nU_b {w : Nat} (h : nU w) : w + 3 < 300 := by
  obtain ⟨u, hu, rfl⟩ := h
  rcases hu with h | h <;> omega
theorem bU_b {v : Nat} (h : bU v) : v + 5 < 300 := by
  obtain ⟨u, hu, ⟨i, hi, rfl⟩ | ⟨i, hi, rfl⟩⟩ := h <;> rcases hu with h | h <;> omega
theorem pU_b {q : Nat} (h : pU q) : 361 ≤ q ∧ q + 6 < 1227 := by
  obtain ⟨c, p, hc, hp, rfl⟩ := h
  rcases hc with h | h <;> omega
theorem rU_b {r : Nat} (h : rU r) : 361 ≤ r ∧ r + 2 < 1227 := by
  rcases h with ⟨q, hq, h⟩ | ⟨c, hc, h⟩
  · have := pU_b hq; omega
  · rcases hc with h' | h' <;> omega
theorem nwR.fr {w : Nat} {S S' : jS} {W : Nat → Int} {af : Nat → Nat} (h : nwR w S W af) (hw : nU w) (f : frU S S') : nwR w S' W af := by
  have b := nU_b hw
  refine ⟨by rw [f w 3 (by omega)]; exact h.1, fun k hk => ?_⟩
  rw [f _ k (by omega), f _ k (by omega), f _ k (by omega)]
  exact h.2 k hk
theorem bdR.fr {v : Nat} {S S' : jS} {W : Nat → Int} {f m : Nat} (h : bdR v S W f m) (hv : bU v) (q : frU S S') : bdR v S' W f m := by
  have b := bU_b hv
  refine ⟨by rw [q v 5 (by omega)]; exact h.1, fun i hi => ?_⟩
  rw [q _ i (by omega), q _ i (by omega), q _ i (by omega), q _ i (by omega), q _ i (by omega)]
  exact h.2 i hi
/-- the limits on the bench are small -/
def cuB (S : jS) (n : Nat) : Prop := ∀ k, k < n → (0 ≤ S 302 k ∧ S 302 k ≤ 3000) ∧ (-100000000 ≤ S 301 k ∧ S 301 k ≤ 100000000)
/-- points that hold the limits on the bench -/
def cuF (W : Nat → Int) (S : jS) (X Y B : Int) : Prop := ∀ k, k < wN W → S 302 k ≠ 0 → (wA W k * X + wB W k * Y) * S 302 k ≤ S 301 k * B
/-- the bench holds a set of points -/
def cuI (W : Nat → Int) (w : Nat) (S : jS) (F : Int → Int → Int → Prop) : Prop := S 300 6 = (w : Int) ∧ cuB S (wN W) ∧ ∀ X Y B, 0 < B → (F X Y B ↔ cuF W S X Y B)
theorem cuI.cg {W : Nat → Int} {w : Nat} {S : jS} {F F' : Int → Int → Int → Prop} (h : cuI W w S F) (e : ∀ X Y B, 0 < B → (F' X Y B ↔ F X Y B)) : cuI W w S F' := ⟨h.1, h.2.1, fun X Y B hB => (e X Y B hB).trans (h.2.2 X Y B hB)⟩
def l4 (S : jS) : Prop := ∀ k, k < 4 → S 302 k ≠ 0
/-- one limit is cut -/
def kcut (S : jS) (k : Nat) (c g : Int) : jS := if S 302 k = 0 ∨ c * S 302 k < S 301 k * g then ju (ju S 301 k c) 302 k g else S
theorem kcut_fr (S : jS) (k : Nat) (c g : Int) : ∀ r j, r ≠ 301 → r ≠ 302 → kcut S k c g r j = S r j := fun r j a b => by
  unfold kcut
  split
  · rw [ju_at, if_neg (fun w => b w.1), ju_at, if_neg (fun w => a w.1)]
  · rfl
theorem kcut_at (S : jS) (k : Nat) (c g : Int) (j : Nat) : (kcut S k c g 301 j = if j = k ∧ (S 302 k = 0 ∨ c * S 302 k < S 301 k * g) then c else S 301 j) ∧ (kcut S k c g 302 j = if j = k ∧ (S 302 k = 0 ∨ c * S 302 k < S 301 k * g) then g else S 302 j) := by
  unfold kcut
  by_cases h : S 302 k = 0 ∨ c * S 302 k < S 301 k * g
  · simp only [h, if_true, ju_at, and_true]
    simp
  · simp only [h, if_false, and_false]
    simp
theorem kcut_I {W : Nat → Int} {w : Nat} {S : jS} {F : Int → Int → Int → Prop} {k : Nat} {c g : Int} (h : cuI W w S F) (hk : k < wN W) (hc : -1000 ≤ c ∧ c ≤ 1000) (hg : 0 < g ∧ g ≤ 9) : cuI W w (kcut S k c g) (fun X Y B => F X Y B ∧ (wA W k * X + wB W k * Y) * g ≤ c * B) := by
  obtain ⟨h0, h1, h2⟩ := h
  refine ⟨by rw [kcut_fr _ _ _ _ _ _ (by omega) (by omega)]; exact h0, fun j hj => ?_, fun X Y B hB => ?_⟩
  · have b := h1 j hj
    rw [(kcut_at S k c g j).1, (kcut_at S k c g j).2]
    split
    · omega
    · exact b
  · dsimp only
    rw [h2 X Y B hB]
    have bk := h1 k hk
    unfold cuF
    constructor
    · rintro ⟨q1, q2⟩ j hj
      rw [(kcut_at S k c g j).1, (kcut_at S k c g j).2]
      by_cases d : j = k ∧ (S 302 k = 0 ∨ c * S 302 k < S 301 k * g)
      · rw [if_pos d, if_pos d, d.1]
        exact fun _ => q2
      · rw [if_neg d, if_neg d]
        exact q1 j hj
    · intro q
      have main : (wA W k * X + wB W k * Y) * g ≤ c * B ∧ (S 302 k ≠ 0 → (wA W k * X + wB W k * Y) * S 302 k ≤ S 301 k * B) := by
        have qk := q k hk
        rw [(kcut_at S k c g k).1, (kcut_at S k c g k).2] at qk
        generalize wA W k * X + wB W k * Y = v at qk ⊢
        by_cases d : S 302 k = 0 ∨ c * S 302 k < S 301 k * g
        · rw [if_pos ⟨rfl, d⟩, if_pos ⟨rfl, d⟩] at qk
          have qk := qk (by omega)
          refine ⟨qk, fun e => ?_⟩
          have d' := d.resolve_left e
          refine Int.le_of_mul_le_mul_right (a := g) ?_ hg.1
          have a1 := Int.mul_le_mul_of_nonneg_right qk bk.1.1
          have a2 := Int.mul_le_mul_of_nonneg_right (Int.le_of_lt d') (Int.le_of_lt hB)
          have e1 : v * S 302 k * g = v * g * S 302 k := by grind
          have e2 : S 301 k * B * g = S 301 k * g * B := by grind
          have e3 : c * B * S 302 k = c * S 302 k * B := by grind
          omega
        · rw [if_neg (fun w => d w.2), if_neg (fun w => d w.2)] at qk
          have dn : S 302 k ≠ 0 := fun w => d (Or.inl w)
          have dl : S 301 k * g ≤ c * S 302 k := by
            refine Decidable.byContradiction fun w => d (Or.inr (by omega))
          have qk := qk dn
          refine ⟨?_, fun _ => qk⟩
          refine Int.le_of_mul_le_mul_right (a := S 302 k) ?_ (by omega)
          have a1 := Int.mul_le_mul_of_nonneg_right qk (Int.le_of_lt hg.1)
          have a2 := Int.mul_le_mul_of_nonneg_right dl (Int.le_of_lt hB)
          have e1 : v * S 302 k * g = v * g * S 302 k := by grind
          have e2 : S 301 k * B * g = S 301 k * g * B := by grind
          have e3 : c * B * S 302 k = c * S 302 k * B := by grind
          omega
      refine ⟨fun j hj => ?_, main.1⟩
      by_cases e : j = k
      · subst e; exact main.2
      · have qj := q j hj
        rw [(kcut_at S k c g j).1, (kcut_at S k c g j).2, if_neg (fun w => e w.1), if_neg (fun w => e w.1)] at qj
        exact qj
theorem kcut_4 {S : jS} {k : Nat} {c g : Int} (hg : 0 < g) : (∀ j, S 302 j ≠ 0 → kcut S k c g 302 j ≠ 0) ∧ kcut S k c g 302 k ≠ 0 := by
  refine ⟨fun j hj => ?_, ?_⟩
  · rw [(kcut_at S k c g j).2]
    split
    · omega
    · exact hj
  · rw [(kcut_at S k c g k).2]
    by_cases h : S 302 k = 0
    · rw [if_pos ⟨rfl, Or.inl h⟩]; omega
    · split
      · omega
      · exact h
theorem kcut_fu {S : jS} {k : Nat} {c g : Int} : frU S (kcut S k c g) := fun r j q => kcut_fr S k c g r j (by omega) (by omega)
theorem mul_b {x y a b : Int} (hx : -a ≤ x ∧ x ≤ a) (hy : -b ≤ y ∧ y ≤ b) (ha : 0 ≤ a) (hb : 0 ≤ b) : -(a * b) ≤ x * y ∧ x * y ≤ a * b := by
  have h1 : (x * y).natAbs = x.natAbs * y.natAbs := Int.natAbs_mul x y
  have h2 : x.natAbs * y.natAbs ≤ a.natAbs * b.natAbs := Nat.mul_le_mul (by omega) (by omega)
  have h3 : ((a.natAbs * b.natAbs : Nat) : Int) = a * b := by rw [Int.natCast_mul]; congr 1 <;> omega
  omega
theorem k_cutAt {G : jG} {z k n : Nat} {S : jS} {c g : Int} (hk : k < n) (h24 : n ≤ 24) (h : cuB S n) (hc : -1000 ≤ c ∧ c ≤ 1000) (hg : 0 < g ∧ g ≤ 9) : jC G mX2_cutAt 0 0 (mm z S) [(2, ((300 : Nat) : Int)), (0, (k : Int)), (1, c), (1, g)] (jP none (mm z (kcut S k c g))) := by
  have b := h k hk
  have i1 : (k : Int) < 24 := by omega
  have m1 := mul_b (x := c) (y := S 302 k) (a := 1000) (b := 3000) hc (by omega) (by omega) (by omega)
  have m2 := mul_b (x := S 301 k) (y := g) (a := 100000000) (b := 9) b.2 (by omega) (by omega) (by omega)
  refine jCw kX2_cutAt jn_X2 (fun pc => pc == 32) 40 (Nat.le_of_ble_eq_true rfl) ?_
  have at32 : (S 302 k = 0 ∨ c * S 302 k < S 301 k * g) → jJ G mX2_cutAt 0 0 (jP none (mm z (kcut S k c g))) 0 0 32 [(0, (2, ((300 : Nat) : Int))), (1, (0, (k : Int))), (2, (1, c)), (4, (1, g))] [] (mm z S) := by
    intro q
    refine jJw kX2_cutAt (fun pc => false) 40 32 ?_
    simp -implicitDefEqProofs only [Nat.reduceAdd, Nat.reduceMul, Nat.reduceEqDiff, Nat.reduceBEq, Nat.reduceLT, Nat.reduceLeDiff, Int.reduceToNat, Int.reduceLE, Int.reduceLT, Int.reduceNeg, Int.reduceAdd, Int.reduceMul, Bool.or_false, Bool.or_true, Bool.true_or, Bool.false_or, jwq_s, jwp_sn, jwp_sc, jwp_0, jsum, jwx_s, ↓jol_c, ↓jo1_c, ↓jo2_c, ↓jo3_c, Bool.false_eq_true, beq_iff_eq, jst, jins_c, jins_n, jdrop_c, jdrop_n, jargs, jtg, jtag, jcnd, true_and, and_true, false_or, or_false, true_or, or_true, forall_const, ↓reduceIte, Option.toList, List.cons_append, List.nil_append, false_and, and_false, reduceCtorEq, false_imp_iff, forall_eq, true_imp_iff, joc_c, List.drop_succ_cons, List.drop_zero, List.take_succ_cons, List.take_zero, List.reverse_cons, List.reverse_nil, List.length_cons, List.length_nil, Int.reduceEq, not_true_eq_false, not_false_eq_true, mm_S, mm_L, mm_set, Int.toNat_natCast, Int.natCast_nonneg, ju_at, ne21, ne01, jrd_1, jrd_2, jrd_3, jobj_M, jfd_M0, jfd_M1, jfd_M2, jfd_M3, jfd_M4, jfd_M5, jfd_M6, jfd_M7, jfd_M8, jfd_M9, jfd_M10, jfd_M11, jfd_M12, jsn_M12, jfd_M13, jsn_M13, jfd_M14, jsn_M14, jfd_M15, jsn_M15, jarr_M5, jarr_M6, jarr_M7, jarr_M82, jarr_M83, jarr_M145, jarr_M146, jarr_M147, jarr_M8, jrd_M8, jarr_M9, jrd_M9, jarr_M84, jrd_M84, jobj_N, jfd_N0, jfd_N1, jfd_N2, jfd_N3, jsn_N3, jarr_N1, jarr_N2, jarr_N3, jobj_B, jfd_B0, jfd_B1, jfd_B2, jfd_B3, jfd_B4, jfd_B5, jsn_B5, jarr_B1, jarr_B2, jarr_B3, jarr_B4, jarr_B5, jobj_H, jfd_H0, jfd_H1, jfd_H2, jsn_H2, jfd_H3, jsn_H3, jfd_H4, jsn_H4, jfd_H5, jsn_H5, jfd_H6, jsn_H6, jfd_H7, jsn_H7, jfd_H8, jsn_H8, jfd_H9, jsn_H9, jfd_H10, jfd_H11, jarr_H429, jarr_H1, jrd_H1, jobj_P, jfd_P0, jfd_P1, jfd_P2, jsn_P2, jfd_P3, jsn_P3, jfd_P4, jsn_P4, jfd_P5, jsn_P5, jfd_P6, jsn_P6, jfd_P7, jsn_P7, jfd_P8, jsn_P8, jfd_P9, jsn_P9, jobj_G, jfd_G0, jfd_G1, jarr_G1, jarr_G2, jobj_A, jfd_A0, jsn_A0, jfd_A1, jsn_A1, jobj_O, jfd_O0, jfd_O1, jsn_O1, jfd_O2, jsn_O2, jfd_O3, jsn_O3, jfd_O4, jsn_O4, jfd_O5, jsn_O5, jfd_O6, jfd_O7, jfd_O8, jfd_O9, jfd_O10, jfd_O11, jarr_O1, jobj_E, jfd_E0, jfd_E1, jsn_E1, jfd_E2, jsn_E2, jfd_E3, jsn_E3, jfd_E4, jsn_E4, jfd_E5, jsn_E5, jfd_E6, jsn_E6, jfd_E7, jsn_E7, jfd_E8, jsn_E8, jfd_E9, jsn_E9, jfd_E10, jsn_E10, jfd_E11, jsn_E11, jfd_E12, jsn_E12, jfd_E13, jsn_E13, jfd_E14, jsn_E14, jarr_E1, jobj_C, jfd_C0, jfd_C1, jfd_C2, jfd_C3, jfd_C4, jfd_C5, jfd_C6, jsn_C6, jfd_C7, jsn_C7, jfd_C8, jsn_C8, jarr_C1, jarr_C2, jarr_C3, jarr_C4, jarr_C5, jarr_C6, jrd_C5, jsn_Ca5, jrd_C6, jsn_Ca6, jobj_Y, jfd_Y0, jfd_Y1, jfd_Y2, jsn_Y2, jfd_Y3, jfd_Y4, jfd_Y5, jarr_Y1, jobj_D, jfd_D0, jfd_D1, jfd_D2, jfd_D3, jsn_D3, jfd_D4, jsn_D4, jfd_D5, jsn_D5, jfd_D6, jfd_D7, jsn_D7, jfd_D8, jsn_D8, jfd_D9, jsn_D9, jfd_D10, jsn_D10, jfd_D11, jsn_D11, jfd_D12, jsn_D12, jfd_D13, jsn_D13, jfd_D14, jsn_D14, jfd_D15, jsn_D15, jfd_D16, jsn_D16, jarr_D1, jL32_0, jL32_1, jL32_2, jL32_3, jL32_4, jL32_5, jL32_6, jL32_7, jL32_8, jL32_9, jL32_10, jL32_11, jL32_12, jL32_13, jL32_14, jL32_15, jL32_16, jL32_17, jL32_18, jL32_19, jL32_20, jL32_21, jL32_22, jL32_23, jL32_24, jL32_25, jL32_26, jL32_27, jL32_28, jL32_29, jL32_30, jL32_31, jL32_32, jL32_33, jL32_34, jL32_35, jL32_36, jL32_37, jL32_38, jL32_39, jL32_57, jL32_60, jL32_97, jL32_122, jL32_255, jLm32_1, jLm32_2, jLm32_3, jLm32_1000, jL64_0, jL64_1, zne_10, zne_00, zne_01, zne_11, false_imp_iff, true_imp_iff, fX2_cutAt_0, fX2_cutAt_1, fX2_cutAt_4, fX2_cutAt_5, fX2_cutAt_6, fX2_cutAt_7, fX2_cutAt_11, fX2_cutAt_12, fX2_cutAt_13, fX2_cutAt_16, fX2_cutAt_17, fX2_cutAt_18, fX2_cutAt_19, fX2_cutAt_20, fX2_cutAt_23, fX2_cutAt_24, fX2_cutAt_25, fX2_cutAt_27, fX2_cutAt_28, fX2_cutAt_32, fX2_cutAt_33, fX2_cutAt_36, fX2_cutAt_37, fX2_cutAt_38, fX2_cutAt_39, fX2_cutAt_40, fX2_cutAt_43, fX2_cutAt_44, fX2_cutAt_46, fX2_cutAt_47, ↓jo_1, ↓jo_12, ↓jo_22, ↓jo_23, ↓jo_25, ↓jo_26, ↓jo_31v, ↓jo_41]
    refine ⟨i1, i1, ?_⟩
    unfold kcut
    rw [if_pos q]
    exact jP_i _ _
  simp -implicitDefEqProofs only [Nat.reduceAdd, Nat.reduceMul, Nat.reduceEqDiff, Nat.reduceBEq, Nat.reduceLT, Nat.reduceLeDiff, Int.reduceToNat, Int.reduceLE, Int.reduceLT, Int.reduceNeg, Int.reduceAdd, Int.reduceMul, Bool.or_false, Bool.or_true, Bool.true_or, Bool.false_or, jwq_s, jwp_sn, jwp_sc, jwp_0, jsum, jwx_s, ↓jol_c, ↓jo1_c, ↓jo2_c, ↓jo3_c, Bool.false_eq_true, beq_iff_eq, jst, jins_c, jins_n, jdrop_c, jdrop_n, jargs, jtg, jtag, jcnd, true_and, and_true, false_or, or_false, true_or, or_true, forall_const, ↓reduceIte, Option.toList, List.cons_append, List.nil_append, false_and, and_false, reduceCtorEq, false_imp_iff, forall_eq, true_imp_iff, joc_c, List.drop_succ_cons, List.drop_zero, List.take_succ_cons, List.take_zero, List.reverse_cons, List.reverse_nil, List.length_cons, List.length_nil, Int.reduceEq, not_true_eq_false, not_false_eq_true, mm_S, mm_L, mm_set, Int.toNat_natCast, Int.natCast_nonneg, ju_at, ne21, ne01, jrd_1, jrd_2, jrd_3, jobj_M, jfd_M0, jfd_M1, jfd_M2, jfd_M3, jfd_M4, jfd_M5, jfd_M6, jfd_M7, jfd_M8, jfd_M9, jfd_M10, jfd_M11, jfd_M12, jsn_M12, jfd_M13, jsn_M13, jfd_M14, jsn_M14, jfd_M15, jsn_M15, jarr_M5, jarr_M6, jarr_M7, jarr_M82, jarr_M83, jarr_M145, jarr_M146, jarr_M147, jarr_M8, jrd_M8, jarr_M9, jrd_M9, jarr_M84, jrd_M84, jobj_N, jfd_N0, jfd_N1, jfd_N2, jfd_N3, jsn_N3, jarr_N1, jarr_N2, jarr_N3, jobj_B, jfd_B0, jfd_B1, jfd_B2, jfd_B3, jfd_B4, jfd_B5, jsn_B5, jarr_B1, jarr_B2, jarr_B3, jarr_B4, jarr_B5, jobj_H, jfd_H0, jfd_H1, jfd_H2, jsn_H2, jfd_H3, jsn_H3, jfd_H4, jsn_H4, jfd_H5, jsn_H5, jfd_H6, jsn_H6, jfd_H7, jsn_H7, jfd_H8, jsn_H8, jfd_H9, jsn_H9, jfd_H10, jfd_H11, jarr_H429, jarr_H1, jrd_H1, jobj_P, jfd_P0, jfd_P1, jfd_P2, jsn_P2, jfd_P3, jsn_P3, jfd_P4, jsn_P4, jfd_P5, jsn_P5, jfd_P6, jsn_P6, jfd_P7, jsn_P7, jfd_P8, jsn_P8, jfd_P9, jsn_P9, jobj_G, jfd_G0, jfd_G1, jarr_G1, jarr_G2, jobj_A, jfd_A0, jsn_A0, jfd_A1, jsn_A1, jobj_O, jfd_O0, jfd_O1, jsn_O1, jfd_O2, jsn_O2, jfd_O3, jsn_O3, jfd_O4, jsn_O4, jfd_O5, jsn_O5, jfd_O6, jfd_O7, jfd_O8, jfd_O9, jfd_O10, jfd_O11, jarr_O1, jobj_E, jfd_E0, jfd_E1, jsn_E1, jfd_E2, jsn_E2, jfd_E3, jsn_E3, jfd_E4, jsn_E4, jfd_E5, jsn_E5, jfd_E6, jsn_E6, jfd_E7, jsn_E7, jfd_E8, jsn_E8, jfd_E9, jsn_E9, jfd_E10, jsn_E10, jfd_E11, jsn_E11, jfd_E12, jsn_E12, jfd_E13, jsn_E13, jfd_E14, jsn_E14, jarr_E1, jobj_C, jfd_C0, jfd_C1, jfd_C2, jfd_C3, jfd_C4, jfd_C5, jfd_C6, jsn_C6, jfd_C7, jsn_C7, jfd_C8, jsn_C8, jarr_C1, jarr_C2, jarr_C3, jarr_C4, jarr_C5, jarr_C6, jrd_C5, jsn_Ca5, jrd_C6, jsn_Ca6, jobj_Y, jfd_Y0, jfd_Y1, jfd_Y2, jsn_Y2, jfd_Y3, jfd_Y4, jfd_Y5, jarr_Y1, jobj_D, jfd_D0, jfd_D1, jfd_D2, jfd_D3, jsn_D3, jfd_D4, jsn_D4, jfd_D5, jsn_D5, jfd_D6, jfd_D7, jsn_D7, jfd_D8, jsn_D8, jfd_D9, jsn_D9, jfd_D10, jsn_D10, jfd_D11, jsn_D11, jfd_D12, jsn_D12, jfd_D13, jsn_D13, jfd_D14, jsn_D14, jfd_D15, jsn_D15, jfd_D16, jsn_D16, jarr_D1, jL32_0, jL32_1, jL32_2, jL32_3, jL32_4, jL32_5, jL32_6, jL32_7, jL32_8, jL32_9, jL32_10, jL32_11, jL32_12, jL32_13, jL32_14, jL32_15, jL32_16, jL32_17, jL32_18, jL32_19, jL32_20, jL32_21, jL32_22, jL32_23, jL32_24, jL32_25, jL32_26, jL32_27, jL32_28, jL32_29, jL32_30, jL32_31, jL32_32, jL32_33, jL32_34, jL32_35, jL32_36, jL32_37, jL32_38, jL32_39, jL32_57, jL32_60, jL32_97, jL32_122, jL32_255, jLm32_1, jLm32_2, jLm32_3, jLm32_1000, jL64_0, jL64_1, zne_10, zne_00, zne_01, zne_11, false_imp_iff, true_imp_iff, fX2_cutAt_0, fX2_cutAt_1, fX2_cutAt_4, fX2_cutAt_5, fX2_cutAt_6, fX2_cutAt_7, fX2_cutAt_11, fX2_cutAt_12, fX2_cutAt_13, fX2_cutAt_16, fX2_cutAt_17, fX2_cutAt_18, fX2_cutAt_19, fX2_cutAt_20, fX2_cutAt_23, fX2_cutAt_24, fX2_cutAt_25, fX2_cutAt_27, fX2_cutAt_28, fX2_cutAt_32, fX2_cutAt_33, fX2_cutAt_36, fX2_cutAt_37, fX2_cutAt_38, fX2_cutAt_39, fX2_cutAt_40, fX2_cutAt_43, fX2_cutAt_44, fX2_cutAt_46, fX2_cutAt_47, ↓jo_1, ↓jo_12, ↓jo_22, ↓jo_23, ↓jo_25, ↓jo_26, ↓jo_31v, ↓jo_41]
  refine ⟨i1, ⟨by omega, by omega⟩, fun q => at32 (Or.inl q), fun q => ⟨i1, i1, ⟨by omega, by omega⟩, ⟨by omega, by omega⟩, fun q2 => ?_, fun q2 => at32 (Or.inr (by omega))⟩⟩
  unfold kcut
  rw [if_neg (by omega)]
  exact jP_i _ _
set_option maxHeartbeats 1000000 in
theorem k_cut {G : jG} {z w v f m : Nat} {S : jS} {W : Nat → Int} {F : Int → Int → Int → Prop} {P : Option jV → jM → Prop} (hw : wfN W) (hv : bU v) (hb : bdR v S W f m) (hm : m ≤ 4) (hf : bokW W (wN W) f m) (h : cuI W w S F)
    (out : ∀ S', frU S S' → (∀ r j, r ≠ 301 → r ≠ 302 → S' r j = S r j) → cuI W w S' (fun X Y B => F X Y B ∧ bndF W f m X Y B) → (∀ j, S 302 j ≠ 0 → S' 302 j ≠ 0) → P none (mm z S')) :
    jC G mX2_cut 0 0 (mm z S) [(2, ((300 : Nat) : Int)), (2, (v : Int))] P := by
  have n24 := (wfN_n hw).2.2
  have vb := bU_b hv
  have main : ∀ i, i ≤ m → ∀ S', frU S S' → (∀ r j, r ≠ 301 → r ≠ 302 → S' r j = S r j) → cuI W w S' (fun X Y B => F X Y B ∧ bndF W f i X Y B) → (∀ j, S 302 j ≠ 0 → S' 302 j ≠ 0) → jJ G mX2_cut 0 0 P 0 0 2 [(0, (2, ((300 : Nat) : Int))), (1, (2, (v : Int))), (2, (0, (i : Int)))] [] (mm z S') := by
    refine lp m ?_
    intro i hi nx S' fr f2 hI h4
    have hb' := hb.fr hv fr
    refine jJw kX2_cut (fun pc => pc == 2) 40 2 ?_
    simp -implicitDefEqProofs only [Nat.reduceAdd, Nat.reduceMul, Nat.reduceEqDiff, Nat.reduceBEq, Nat.reduceLT, Nat.reduceLeDiff, Int.reduceToNat, Int.reduceLE, Int.reduceLT, Int.reduceNeg, Int.reduceAdd, Int.reduceMul, Bool.or_false, Bool.or_true, Bool.true_or, Bool.false_or, jwq_s, jwp_sn, jwp_sc, jwp_0, jsum, jwx_s, ↓jol_c, ↓jo1_c, ↓jo2_c, ↓jo3_c, Bool.false_eq_true, beq_iff_eq, jst, jins_c, jins_n, jdrop_c, jdrop_n, jargs, jtg, jtag, jcnd, true_and, and_true, false_or, or_false, true_or, or_true, forall_const, ↓reduceIte, Option.toList, List.cons_append, List.nil_append, false_and, and_false, reduceCtorEq, false_imp_iff, forall_eq, true_imp_iff, joc_c, List.drop_succ_cons, List.drop_zero, List.take_succ_cons, List.take_zero, List.reverse_cons, List.reverse_nil, List.length_cons, List.length_nil, Int.reduceEq, not_true_eq_false, not_false_eq_true, mm_S, mm_L, mm_set, Int.toNat_natCast, Int.natCast_nonneg, ju_at, ne21, ne01, jrd_1, jrd_2, jrd_3, jobj_M, jfd_M0, jfd_M1, jfd_M2, jfd_M3, jfd_M4, jfd_M5, jfd_M6, jfd_M7, jfd_M8, jfd_M9, jfd_M10, jfd_M11, jfd_M12, jsn_M12, jfd_M13, jsn_M13, jfd_M14, jsn_M14, jfd_M15, jsn_M15, jarr_M5, jarr_M6, jarr_M7, jarr_M82, jarr_M83, jarr_M145, jarr_M146, jarr_M147, jarr_M8, jrd_M8, jarr_M9, jrd_M9, jarr_M84, jrd_M84, jobj_N, jfd_N0, jfd_N1, jfd_N2, jfd_N3, jsn_N3, jarr_N1, jarr_N2, jarr_N3, jobj_B, jfd_B0, jfd_B1, jfd_B2, jfd_B3, jfd_B4, jfd_B5, jsn_B5, jarr_B1, jarr_B2, jarr_B3, jarr_B4, jarr_B5, jobj_H, jfd_H0, jfd_H1, jfd_H2, jsn_H2, jfd_H3, jsn_H3, jfd_H4, jsn_H4, jfd_H5, jsn_H5, jfd_H6, jsn_H6, jfd_H7, jsn_H7, jfd_H8, jsn_H8, jfd_H9, jsn_H9, jfd_H10, jfd_H11, jarr_H429, jarr_H1, jrd_H1, jobj_P, jfd_P0, jfd_P1, jfd_P2, jsn_P2, jfd_P3, jsn_P3, jfd_P4, jsn_P4, jfd_P5, jsn_P5, jfd_P6, jsn_P6, jfd_P7, jsn_P7, jfd_P8, jsn_P8, jfd_P9, jsn_P9, jobj_G, jfd_G0, jfd_G1, jarr_G1, jarr_G2, jobj_A, jfd_A0, jsn_A0, jfd_A1, jsn_A1, jobj_O, jfd_O0, jfd_O1, jsn_O1, jfd_O2, jsn_O2, jfd_O3, jsn_O3, jfd_O4, jsn_O4, jfd_O5, jsn_O5, jfd_O6, jfd_O7, jfd_O8, jfd_O9, jfd_O10, jfd_O11, jarr_O1, jobj_E, jfd_E0, jfd_E1, jsn_E1, jfd_E2, jsn_E2, jfd_E3, jsn_E3, jfd_E4, jsn_E4, jfd_E5, jsn_E5, jfd_E6, jsn_E6, jfd_E7, jsn_E7, jfd_E8, jsn_E8, jfd_E9, jsn_E9, jfd_E10, jsn_E10, jfd_E11, jsn_E11, jfd_E12, jsn_E12, jfd_E13, jsn_E13, jfd_E14, jsn_E14, jarr_E1, jobj_C, jfd_C0, jfd_C1, jfd_C2, jfd_C3, jfd_C4, jfd_C5, jfd_C6, jsn_C6, jfd_C7, jsn_C7, jfd_C8, jsn_C8, jarr_C1, jarr_C2, jarr_C3, jarr_C4, jarr_C5, jarr_C6, jrd_C5, jsn_Ca5, jrd_C6, jsn_Ca6, jobj_Y, jfd_Y0, jfd_Y1, jfd_Y2, jsn_Y2, jfd_Y3, jfd_Y4, jfd_Y5, jarr_Y1, jobj_D, jfd_D0, jfd_D1, jfd_D2, jfd_D3, jsn_D3, jfd_D4, jsn_D4, jfd_D5, jsn_D5, jfd_D6, jfd_D7, jsn_D7, jfd_D8, jsn_D8, jfd_D9, jsn_D9, jfd_D10, jsn_D10, jfd_D11, jsn_D11, jfd_D12, jsn_D12, jfd_D13, jsn_D13, jfd_D14, jsn_D14, jfd_D15, jsn_D15, jfd_D16, jsn_D16, jarr_D1, jL32_0, jL32_1, jL32_2, jL32_3, jL32_4, jL32_5, jL32_6, jL32_7, jL32_8, jL32_9, jL32_10, jL32_11, jL32_12, jL32_13, jL32_14, jL32_15, jL32_16, jL32_17, jL32_18, jL32_19, jL32_20, jL32_21, jL32_22, jL32_23, jL32_24, jL32_25, jL32_26, jL32_27, jL32_28, jL32_29, jL32_30, jL32_31, jL32_32, jL32_33, jL32_34, jL32_35, jL32_36, jL32_37, jL32_38, jL32_39, jL32_57, jL32_60, jL32_97, jL32_122, jL32_255, jLm32_1, jLm32_2, jLm32_3, jLm32_1000, jL64_0, jL64_1, zne_10, zne_00, zne_01, zne_11, false_imp_iff, true_imp_iff, fX2_cut_0, fX2_cut_1, fX2_cut_2, fX2_cut_3, fX2_cut_4, fX2_cut_7, fX2_cut_10, fX2_cut_11, fX2_cut_12, fX2_cut_15, fX2_cut_16, fX2_cut_17, fX2_cut_18, fX2_cut_21, fX2_cut_22, fX2_cut_23, fX2_cut_24, fX2_cut_25, fX2_cut_28, fX2_cut_29, fX2_cut_30, fX2_cut_31, fX2_cut_34, fX2_cut_37, fX2_cut_40, jtm_49, ↓jo_0, ↓jo_1, ↓jo_16, ↓jo_2, ↓jo_20, ↓jo_21, ↓jo_23, ↓jo_25, ↓jo_28, ↓jo_3, ↓jo_31v, hv, hb'.1]
    refine ⟨jI32_nat (by omega), jI32_nat (by omega), fun c => ?_, fun c => ?_⟩
    · have : i = m := by omega
      subst this
      exact out S' fr f2 hI h4
    · have im : i < m := by omega
      obtain ⟨b1, b2, b3, b4, -, -⟩ := hb'.2 i im
      obtain ⟨k1, k2, k3⟩ := hf i im
      obtain ⟨k, ek⟩ : ∃ k : Nat, W (f + 3 * i) = (k : Int) := ⟨(W (f + 3 * i)).toNat, by omega⟩
      have i4 : (i : Int) < 4 := by omega
      refine ⟨i4, i4, ⟨by omega, by omega⟩, i4, ⟨by omega, by omega⟩, ?_⟩
      rw [b1, ek]
      refine (k_cutAt (n := wN W) (by omega) n24 hI.2.1 ⟨by omega, by omega⟩ b3).go ?_
      simp -implicitDefEqProofs only [Nat.reduceAdd, Nat.reduceMul, Nat.reduceEqDiff, Nat.reduceBEq, Nat.reduceLT, Nat.reduceLeDiff, Int.reduceToNat, Int.reduceLE, Int.reduceLT, Int.reduceNeg, Int.reduceAdd, Int.reduceMul, Bool.or_false, Bool.or_true, Bool.true_or, Bool.false_or, jwq_s, jwp_sn, jwp_sc, jwp_0, jsum, jwx_s, ↓jol_c, ↓jo1_c, ↓jo2_c, ↓jo3_c, Bool.false_eq_true, beq_iff_eq, jst, jins_c, jins_n, jdrop_c, jdrop_n, jargs, jtg, jtag, jcnd, true_and, and_true, false_or, or_false, true_or, or_true, forall_const, ↓reduceIte, Option.toList, List.cons_append, List.nil_append, false_and, and_false, reduceCtorEq, false_imp_iff, forall_eq, true_imp_iff, joc_c, List.drop_succ_cons, List.drop_zero, List.take_succ_cons, List.take_zero, List.reverse_cons, List.reverse_nil, List.length_cons, List.length_nil, Int.reduceEq, not_true_eq_false, not_false_eq_true, mm_S, mm_L, mm_set, Int.toNat_natCast, Int.natCast_nonneg, ju_at, ne21, ne01, jrd_1, jrd_2, jrd_3, jobj_M, jfd_M0, jfd_M1, jfd_M2, jfd_M3, jfd_M4, jfd_M5, jfd_M6, jfd_M7, jfd_M8, jfd_M9, jfd_M10, jfd_M11, jfd_M12, jsn_M12, jfd_M13, jsn_M13, jfd_M14, jsn_M14, jfd_M15, jsn_M15, jarr_M5, jarr_M6, jarr_M7, jarr_M82, jarr_M83, jarr_M145, jarr_M146, jarr_M147, jarr_M8, jrd_M8, jarr_M9, jrd_M9, jarr_M84, jrd_M84, jobj_N, jfd_N0, jfd_N1, jfd_N2, jfd_N3, jsn_N3, jarr_N1, jarr_N2, jarr_N3, jobj_B, jfd_B0, jfd_B1, jfd_B2, jfd_B3, jfd_B4, jfd_B5, jsn_B5, jarr_B1, jarr_B2, jarr_B3, jarr_B4, jarr_B5, jobj_H, jfd_H0, jfd_H1, jfd_H2, jsn_H2, jfd_H3, jsn_H3, jfd_H4, jsn_H4, jfd_H5, jsn_H5, jfd_H6, jsn_H6, jfd_H7, jsn_H7, jfd_H8, jsn_H8, jfd_H9, jsn_H9, jfd_H10, jfd_H11, jarr_H429, jarr_H1, jrd_H1, jobj_P, jfd_P0, jfd_P1, jfd_P2, jsn_P2, jfd_P3, jsn_P3, jfd_P4, jsn_P4, jfd_P5, jsn_P5, jfd_P6, jsn_P6, jfd_P7, jsn_P7, jfd_P8, jsn_P8, jfd_P9, jsn_P9, jobj_G, jfd_G0, jfd_G1, jarr_G1, jarr_G2, jobj_A, jfd_A0, jsn_A0, jfd_A1, jsn_A1, jobj_O, jfd_O0, jfd_O1, jsn_O1, jfd_O2, jsn_O2, jfd_O3, jsn_O3, jfd_O4, jsn_O4, jfd_O5, jsn_O5, jfd_O6, jfd_O7, jfd_O8, jfd_O9, jfd_O10, jfd_O11, jarr_O1, jobj_E, jfd_E0, jfd_E1, jsn_E1, jfd_E2, jsn_E2, jfd_E3, jsn_E3, jfd_E4, jsn_E4, jfd_E5, jsn_E5, jfd_E6, jsn_E6, jfd_E7, jsn_E7, jfd_E8, jsn_E8, jfd_E9, jsn_E9, jfd_E10, jsn_E10, jfd_E11, jsn_E11, jfd_E12, jsn_E12, jfd_E13, jsn_E13, jfd_E14, jsn_E14, jarr_E1, jobj_C, jfd_C0, jfd_C1, jfd_C2, jfd_C3, jfd_C4, jfd_C5, jfd_C6, jsn_C6, jfd_C7, jsn_C7, jfd_C8, jsn_C8, jarr_C1, jarr_C2, jarr_C3, jarr_C4, jarr_C5, jarr_C6, jrd_C5, jsn_Ca5, jrd_C6, jsn_Ca6, jobj_Y, jfd_Y0, jfd_Y1, jfd_Y2, jsn_Y2, jfd_Y3, jfd_Y4, jfd_Y5, jarr_Y1, jobj_D, jfd_D0, jfd_D1, jfd_D2, jfd_D3, jsn_D3, jfd_D4, jsn_D4, jfd_D5, jsn_D5, jfd_D6, jfd_D7, jsn_D7, jfd_D8, jsn_D8, jfd_D9, jsn_D9, jfd_D10, jsn_D10, jfd_D11, jsn_D11, jfd_D12, jsn_D12, jfd_D13, jsn_D13, jfd_D14, jsn_D14, jfd_D15, jsn_D15, jfd_D16, jsn_D16, jarr_D1, jL32_0, jL32_1, jL32_2, jL32_3, jL32_4, jL32_5, jL32_6, jL32_7, jL32_8, jL32_9, jL32_10, jL32_11, jL32_12, jL32_13, jL32_14, jL32_15, jL32_16, jL32_17, jL32_18, jL32_19, jL32_20, jL32_21, jL32_22, jL32_23, jL32_24, jL32_25, jL32_26, jL32_27, jL32_28, jL32_29, jL32_30, jL32_31, jL32_32, jL32_33, jL32_34, jL32_35, jL32_36, jL32_37, jL32_38, jL32_39, jL32_57, jL32_60, jL32_97, jL32_122, jL32_255, jLm32_1, jLm32_2, jLm32_3, jLm32_1000, jL64_0, jL64_1, zne_10, zne_00, zne_01, zne_11, false_imp_iff, true_imp_iff, fX2_cut_0, fX2_cut_1, fX2_cut_2, fX2_cut_3, fX2_cut_4, fX2_cut_7, fX2_cut_10, fX2_cut_11, fX2_cut_12, fX2_cut_15, fX2_cut_16, fX2_cut_17, fX2_cut_18, fX2_cut_21, fX2_cut_22, fX2_cut_23, fX2_cut_24, fX2_cut_25, fX2_cut_28, fX2_cut_29, fX2_cut_30, fX2_cut_31, fX2_cut_34, fX2_cut_37, fX2_cut_40, jtm_49, ↓jo_0, ↓jo_1, ↓jo_16, ↓jo_2, ↓jo_20, ↓jo_21, ↓jo_23, ↓jo_25, ↓jo_28, ↓jo_3, ↓jo_31v]
      refine nx im _ (fr.trans kcut_fu) (fun r j r1 r2 => by rw [kcut_fr _ _ _ _ _ _ r1 r2, f2 r j r1 r2]) ?_ (fun j hj => (kcut_4 b3.1).1 j (h4 j hj))
      refine (kcut_I hI (by omega) ⟨by omega, by omega⟩ b3).cg (fun X Y B hB => ?_)
      have key : (wA W k * X + wB W k * Y) * S' (v + 5) i ≤ S' (v + 3) i * B ↔ (wA W (W (f + 3 * i)).toNat * X + wB W (W (f + 3 * i)).toNat * Y) * W (f + 3 * i + 2) ≤ W (f + 3 * i + 1) * B := by
        rw [ek, Int.toNat_natCast]
        generalize wA W k * X + wB W k * Y = t
        generalize S' (v + 5) i = g at b3 b4 ⊢
        generalize S' (v + 3) i = c at b4 ⊢
        generalize W (f + 3 * i + 2) = d at k3 b4 ⊢
        generalize W (f + 3 * i + 1) = u at b4 ⊢
        constructor
        · intro q
          refine Int.le_of_mul_le_mul_right (a := g) ?_ b3.1
          have a1 := Int.mul_le_mul_of_nonneg_right q (Int.le_of_lt k3.1)
          have e1 : t * d * g = t * g * d := by grind
          have e2 : u * B * g = c * B * d := by grind
          omega
        · intro q
          refine Int.le_of_mul_le_mul_right (a := d) ?_ k3.1
          have a1 := Int.mul_le_mul_of_nonneg_right q (Int.le_of_lt b3.1)
          have e1 : t * d * g = t * g * d := by grind
          have e2 : u * B * g = c * B * d := by grind
          omega
      rw [key]
      unfold bndF
      constructor
      · rintro ⟨q1, q2⟩
        exact ⟨⟨q1, fun j hj => q2 j (by omega)⟩, q2 i (by omega)⟩
      · rintro ⟨⟨q1, q2⟩, q3⟩
        refine ⟨q1, fun j hj => ?_⟩
        by_cases e : j = i
        · subst e; exact q3
        · exact q2 j (by omega)
  refine jCw kX2_cut jn_X2 (fun pc => pc == 2) 40 (Nat.le_of_ble_eq_true rfl) ?_
  simp -implicitDefEqProofs only [Nat.reduceAdd, Nat.reduceMul, Nat.reduceEqDiff, Nat.reduceBEq, Nat.reduceLT, Nat.reduceLeDiff, Int.reduceToNat, Int.reduceLE, Int.reduceLT, Int.reduceNeg, Int.reduceAdd, Int.reduceMul, Bool.or_false, Bool.or_true, Bool.true_or, Bool.false_or, jwq_s, jwp_sn, jwp_sc, jwp_0, jsum, jwx_s, ↓jol_c, ↓jo1_c, ↓jo2_c, ↓jo3_c, Bool.false_eq_true, beq_iff_eq, jst, jins_c, jins_n, jdrop_c, jdrop_n, jargs, jtg, jtag, jcnd, true_and, and_true, false_or, or_false, true_or, or_true, forall_const, ↓reduceIte, Option.toList, List.cons_append, List.nil_append, false_and, and_false, reduceCtorEq, false_imp_iff, forall_eq, true_imp_iff, joc_c, List.drop_succ_cons, List.drop_zero, List.take_succ_cons, List.take_zero, List.reverse_cons, List.reverse_nil, List.length_cons, List.length_nil, Int.reduceEq, not_true_eq_false, not_false_eq_true, mm_S, mm_L, mm_set, Int.toNat_natCast, Int.natCast_nonneg, ju_at, ne21, ne01, jrd_1, jrd_2, jrd_3, jobj_M, jfd_M0, jfd_M1, jfd_M2, jfd_M3, jfd_M4, jfd_M5, jfd_M6, jfd_M7, jfd_M8, jfd_M9, jfd_M10, jfd_M11, jfd_M12, jsn_M12, jfd_M13, jsn_M13, jfd_M14, jsn_M14, jfd_M15, jsn_M15, jarr_M5, jarr_M6, jarr_M7, jarr_M82, jarr_M83, jarr_M145, jarr_M146, jarr_M147, jarr_M8, jrd_M8, jarr_M9, jrd_M9, jarr_M84, jrd_M84, jobj_N, jfd_N0, jfd_N1, jfd_N2, jfd_N3, jsn_N3, jarr_N1, jarr_N2, jarr_N3, jobj_B, jfd_B0, jfd_B1, jfd_B2, jfd_B3, jfd_B4, jfd_B5, jsn_B5, jarr_B1, jarr_B2, jarr_B3, jarr_B4, jarr_B5, jobj_H, jfd_H0, jfd_H1, jfd_H2, jsn_H2, jfd_H3, jsn_H3, jfd_H4, jsn_H4, jfd_H5, jsn_H5, jfd_H6, jsn_H6, jfd_H7, jsn_H7, jfd_H8, jsn_H8, jfd_H9, jsn_H9, jfd_H10, jfd_H11, jarr_H429, jarr_H1, jrd_H1, jobj_P, jfd_P0, jfd_P1, jfd_P2, jsn_P2, jfd_P3, jsn_P3, jfd_P4, jsn_P4, jfd_P5, jsn_P5, jfd_P6, jsn_P6, jfd_P7, jsn_P7, jfd_P8, jsn_P8, jfd_P9, jsn_P9, jobj_G, jfd_G0, jfd_G1, jarr_G1, jarr_G2, jobj_A, jfd_A0, jsn_A0, jfd_A1, jsn_A1, jobj_O, jfd_O0, jfd_O1, jsn_O1, jfd_O2, jsn_O2, jfd_O3, jsn_O3, jfd_O4, jsn_O4, jfd_O5, jsn_O5, jfd_O6, jfd_O7, jfd_O8, jfd_O9, jfd_O10, jfd_O11, jarr_O1, jobj_E, jfd_E0, jfd_E1, jsn_E1, jfd_E2, jsn_E2, jfd_E3, jsn_E3, jfd_E4, jsn_E4, jfd_E5, jsn_E5, jfd_E6, jsn_E6, jfd_E7, jsn_E7, jfd_E8, jsn_E8, jfd_E9, jsn_E9, jfd_E10, jsn_E10, jfd_E11, jsn_E11, jfd_E12, jsn_E12, jfd_E13, jsn_E13, jfd_E14, jsn_E14, jarr_E1, jobj_C, jfd_C0, jfd_C1, jfd_C2, jfd_C3, jfd_C4, jfd_C5, jfd_C6, jsn_C6, jfd_C7, jsn_C7, jfd_C8, jsn_C8, jarr_C1, jarr_C2, jarr_C3, jarr_C4, jarr_C5, jarr_C6, jrd_C5, jsn_Ca5, jrd_C6, jsn_Ca6, jobj_Y, jfd_Y0, jfd_Y1, jfd_Y2, jsn_Y2, jfd_Y3, jfd_Y4, jfd_Y5, jarr_Y1, jobj_D, jfd_D0, jfd_D1, jfd_D2, jfd_D3, jsn_D3, jfd_D4, jsn_D4, jfd_D5, jsn_D5, jfd_D6, jfd_D7, jsn_D7, jfd_D8, jsn_D8, jfd_D9, jsn_D9, jfd_D10, jsn_D10, jfd_D11, jsn_D11, jfd_D12, jsn_D12, jfd_D13, jsn_D13, jfd_D14, jsn_D14, jfd_D15, jsn_D15, jfd_D16, jsn_D16, jarr_D1, jL32_0, jL32_1, jL32_2, jL32_3, jL32_4, jL32_5, jL32_6, jL32_7, jL32_8, jL32_9, jL32_10, jL32_11, jL32_12, jL32_13, jL32_14, jL32_15, jL32_16, jL32_17, jL32_18, jL32_19, jL32_20, jL32_21, jL32_22, jL32_23, jL32_24, jL32_25, jL32_26, jL32_27, jL32_28, jL32_29, jL32_30, jL32_31, jL32_32, jL32_33, jL32_34, jL32_35, jL32_36, jL32_37, jL32_38, jL32_39, jL32_57, jL32_60, jL32_97, jL32_122, jL32_255, jLm32_1, jLm32_2, jLm32_3, jLm32_1000, jL64_0, jL64_1, zne_10, zne_00, zne_01, zne_11, false_imp_iff, true_imp_iff, fX2_cut_0, fX2_cut_1, fX2_cut_2, fX2_cut_3, fX2_cut_4, fX2_cut_7, fX2_cut_10, fX2_cut_11, fX2_cut_12, fX2_cut_15, fX2_cut_16, fX2_cut_17, fX2_cut_18, fX2_cut_21, fX2_cut_22, fX2_cut_23, fX2_cut_24, fX2_cut_25, fX2_cut_28, fX2_cut_29, fX2_cut_30, fX2_cut_31, fX2_cut_34, fX2_cut_37, fX2_cut_40, jtm_49, ↓jo_0, ↓jo_1, ↓jo_16, ↓jo_2, ↓jo_20, ↓jo_21, ↓jo_23, ↓jo_25, ↓jo_28, ↓jo_3, ↓jo_31v]
  exact main 0 (by omega) S (frU.refl S) (fun _ _ _ _ => rfl) (h.cg (fun X Y B hB => ⟨fun q => q.1, fun q => ⟨q, fun i hi => by omega⟩⟩)) (fun _ h => h)
set_option maxHeartbeats 1000000 in
theorem k_cutToBox {G : jG} {z w : Nat} {S : jS} {W : Nat → Int} {F : Int → Int → Int → Prop} {P : Option jV → jM → Prop} (hw : wfN W) (h : cuI W w S F)
    (out : ∀ S', frU S S' → (∀ r j, r ≠ 301 → r ≠ 302 → S' r j = S r j) → cuI W w S' (fun X Y B => F X Y B ∧ boxF X Y B) → l4 S' → P none (mm z S')) :
    jC G mX2_cutToBox 0 0 (mm z S) [(2, ((300 : Nat) : Int))] P := by
  have n24 := wfN_n hw
  obtain ⟨x1, x2, x3, x4, x5, x6, x7, x8⟩ := hw.2.2
  have main : ∀ k, k ≤ 4 → ∀ S', frU S S' → (∀ r j, r ≠ 301 → r ≠ 302 → S' r j = S r j) → cuI W w S' (fun X Y B => F X Y B ∧ ∀ j, j < k → (wA W j * X + wB W j * Y) * 1 ≤ 1000 * B) → (∀ j, j < k → S' 302 j ≠ 0) → jJ G mX2_cutToBox 0 0 P 0 0 2 [(0, (2, ((300 : Nat) : Int))), (1, (0, (k : Int)))] [] (mm z S') := by
    refine lp 4 ?_
    intro k hk nx S' fr f2 hI h4
    refine jJw kX2_cutToBox (fun pc => pc == 2) 40 2 ?_
    simp -implicitDefEqProofs only [Nat.reduceAdd, Nat.reduceMul, Nat.reduceEqDiff, Nat.reduceBEq, Nat.reduceLT, Nat.reduceLeDiff, Int.reduceToNat, Int.reduceLE, Int.reduceLT, Int.reduceNeg, Int.reduceAdd, Int.reduceMul, Bool.or_false, Bool.or_true, Bool.true_or, Bool.false_or, jwq_s, jwp_sn, jwp_sc, jwp_0, jsum, jwx_s, ↓jol_c, ↓jo1_c, ↓jo2_c, ↓jo3_c, Bool.false_eq_true, beq_iff_eq, jst, jins_c, jins_n, jdrop_c, jdrop_n, jargs, jtg, jtag, jcnd, true_and, and_true, false_or, or_false, true_or, or_true, forall_const, ↓reduceIte, Option.toList, List.cons_append, List.nil_append, false_and, and_false, reduceCtorEq, false_imp_iff, forall_eq, true_imp_iff, joc_c, List.drop_succ_cons, List.drop_zero, List.take_succ_cons, List.take_zero, List.reverse_cons, List.reverse_nil, List.length_cons, List.length_nil, Int.reduceEq, not_true_eq_false, not_false_eq_true, mm_S, mm_L, mm_set, Int.toNat_natCast, Int.natCast_nonneg, ju_at, ne21, ne01, jrd_1, jrd_2, jrd_3, jobj_M, jfd_M0, jfd_M1, jfd_M2, jfd_M3, jfd_M4, jfd_M5, jfd_M6, jfd_M7, jfd_M8, jfd_M9, jfd_M10, jfd_M11, jfd_M12, jsn_M12, jfd_M13, jsn_M13, jfd_M14, jsn_M14, jfd_M15, jsn_M15, jarr_M5, jarr_M6, jarr_M7, jarr_M82, jarr_M83, jarr_M145, jarr_M146, jarr_M147, jarr_M8, jrd_M8, jarr_M9, jrd_M9, jarr_M84, jrd_M84, jobj_N, jfd_N0, jfd_N1, jfd_N2, jfd_N3, jsn_N3, jarr_N1, jarr_N2, jarr_N3, jobj_B, jfd_B0, jfd_B1, jfd_B2, jfd_B3, jfd_B4, jfd_B5, jsn_B5, jarr_B1, jarr_B2, jarr_B3, jarr_B4, jarr_B5, jobj_H, jfd_H0, jfd_H1, jfd_H2, jsn_H2, jfd_H3, jsn_H3, jfd_H4, jsn_H4, jfd_H5, jsn_H5, jfd_H6, jsn_H6, jfd_H7, jsn_H7, jfd_H8, jsn_H8, jfd_H9, jsn_H9, jfd_H10, jfd_H11, jarr_H429, jarr_H1, jrd_H1, jobj_P, jfd_P0, jfd_P1, jfd_P2, jsn_P2, jfd_P3, jsn_P3, jfd_P4, jsn_P4, jfd_P5, jsn_P5, jfd_P6, jsn_P6, jfd_P7, jsn_P7, jfd_P8, jsn_P8, jfd_P9, jsn_P9, jobj_G, jfd_G0, jfd_G1, jarr_G1, jarr_G2, jobj_A, jfd_A0, jsn_A0, jfd_A1, jsn_A1, jobj_O, jfd_O0, jfd_O1, jsn_O1, jfd_O2, jsn_O2, jfd_O3, jsn_O3, jfd_O4, jsn_O4, jfd_O5, jsn_O5, jfd_O6, jfd_O7, jfd_O8, jfd_O9, jfd_O10, jfd_O11, jarr_O1, jobj_E, jfd_E0, jfd_E1, jsn_E1, jfd_E2, jsn_E2, jfd_E3, jsn_E3, jfd_E4, jsn_E4, jfd_E5, jsn_E5, jfd_E6, jsn_E6, jfd_E7, jsn_E7, jfd_E8, jsn_E8, jfd_E9, jsn_E9, jfd_E10, jsn_E10, jfd_E11, jsn_E11, jfd_E12, jsn_E12, jfd_E13, jsn_E13, jfd_E14, jsn_E14, jarr_E1, jobj_C, jfd_C0, jfd_C1, jfd_C2, jfd_C3, jfd_C4, jfd_C5, jfd_C6, jsn_C6, jfd_C7, jsn_C7, jfd_C8, jsn_C8, jarr_C1, jarr_C2, jarr_C3, jarr_C4, jarr_C5, jarr_C6, jrd_C5, jsn_Ca5, jrd_C6, jsn_Ca6, jobj_Y, jfd_Y0, jfd_Y1, jfd_Y2, jsn_Y2, jfd_Y3, jfd_Y4, jfd_Y5, jarr_Y1, jobj_D, jfd_D0, jfd_D1, jfd_D2, jfd_D3, jsn_D3, jfd_D4, jsn_D4, jfd_D5, jsn_D5, jfd_D6, jfd_D7, jsn_D7, jfd_D8, jsn_D8, jfd_D9, jsn_D9, jfd_D10, jsn_D10, jfd_D11, jsn_D11, jfd_D12, jsn_D12, jfd_D13, jsn_D13, jfd_D14, jsn_D14, jfd_D15, jsn_D15, jfd_D16, jsn_D16, jarr_D1, jL32_0, jL32_1, jL32_2, jL32_3, jL32_4, jL32_5, jL32_6, jL32_7, jL32_8, jL32_9, jL32_10, jL32_11, jL32_12, jL32_13, jL32_14, jL32_15, jL32_16, jL32_17, jL32_18, jL32_19, jL32_20, jL32_21, jL32_22, jL32_23, jL32_24, jL32_25, jL32_26, jL32_27, jL32_28, jL32_29, jL32_30, jL32_31, jL32_32, jL32_33, jL32_34, jL32_35, jL32_36, jL32_37, jL32_38, jL32_39, jL32_57, jL32_60, jL32_97, jL32_122, jL32_255, jLm32_1, jLm32_2, jLm32_3, jLm32_1000, jL64_0, jL64_1, zne_10, zne_00, zne_01, zne_11, false_imp_iff, true_imp_iff, fX2_cutToBox_0, fX2_cutToBox_1, fX2_cutToBox_2, fX2_cutToBox_3, fX2_cutToBox_4, fX2_cutToBox_7, fX2_cutToBox_8, fX2_cutToBox_9, fX2_cutToBox_12, fX2_cutToBox_13, fX2_cutToBox_16, fX2_cutToBox_19, fX2_cutToBox_22, jtm_49, ↓jo_0, ↓jo_1, ↓jo_2, ↓jo_20, ↓jo_21, ↓jo_28, ↓jo_3, ↓jo_31v, ↓jo_41]
    refine ⟨jI32_nat (by omega), fun c => ?_, fun c => ?_⟩
    · have : k = 4 := by omega
      subst this
      refine out S' fr f2 (hI.cg (fun X Y B hB => ?_)) (fun j hj => h4 j hj)
      unfold boxF
      constructor
      · rintro ⟨q, q1, q2, q3, q4⟩
        refine ⟨q, fun j hj => ?_⟩
        rcases (show j = 0 ∨ j = 1 ∨ j = 2 ∨ j = 3 by omega) with e | e | e | e <;> subst e
        · rw [x1, x2]; omega
        · rw [x3, x4]; omega
        · rw [x5, x6]; omega
        · rw [x7, x8]; omega
      · rintro ⟨q, q'⟩
        have q0 := q' 0 (by omega)
        have q1 := q' 1 (by omega)
        have q2 := q' 2 (by omega)
        have q3 := q' 3 (by omega)
        rw [x1, x2] at q0
        rw [x3, x4] at q1
        rw [x5, x6] at q2
        rw [x7, x8] at q3
        exact ⟨q, by omega, by omega, by omega, by omega⟩
    · refine (k_cutAt (n := wN W) (c := 1000) (g := 1) (by omega) n24.2.2 hI.2.1 (by omega) (by omega)).go ?_
      simp -implicitDefEqProofs only [Nat.reduceAdd, Nat.reduceMul, Nat.reduceEqDiff, Nat.reduceBEq, Nat.reduceLT, Nat.reduceLeDiff, Int.reduceToNat, Int.reduceLE, Int.reduceLT, Int.reduceNeg, Int.reduceAdd, Int.reduceMul, Bool.or_false, Bool.or_true, Bool.true_or, Bool.false_or, jwq_s, jwp_sn, jwp_sc, jwp_0, jsum, jwx_s, ↓jol_c, ↓jo1_c, ↓jo2_c, ↓jo3_c, Bool.false_eq_true, beq_iff_eq, jst, jins_c, jins_n, jdrop_c, jdrop_n, jargs, jtg, jtag, jcnd, true_and, and_true, false_or, or_false, true_or, or_true, forall_const, ↓reduceIte, Option.toList, List.cons_append, List.nil_append, false_and, and_false, reduceCtorEq, false_imp_iff, forall_eq, true_imp_iff, joc_c, List.drop_succ_cons, List.drop_zero, List.take_succ_cons, List.take_zero, List.reverse_cons, List.reverse_nil, List.length_cons, List.length_nil, Int.reduceEq, not_true_eq_false, not_false_eq_true, mm_S, mm_L, mm_set, Int.toNat_natCast, Int.natCast_nonneg, ju_at, ne21, ne01, jrd_1, jrd_2, jrd_3, jobj_M, jfd_M0, jfd_M1, jfd_M2, jfd_M3, jfd_M4, jfd_M5, jfd_M6, jfd_M7, jfd_M8, jfd_M9, jfd_M10, jfd_M11, jfd_M12, jsn_M12, jfd_M13, jsn_M13, jfd_M14, jsn_M14, jfd_M15, jsn_M15, jarr_M5, jarr_M6, jarr_M7, jarr_M82, jarr_M83, jarr_M145, jarr_M146, jarr_M147, jarr_M8, jrd_M8, jarr_M9, jrd_M9, jarr_M84, jrd_M84, jobj_N, jfd_N0, jfd_N1, jfd_N2, jfd_N3, jsn_N3, jarr_N1, jarr_N2, jarr_N3, jobj_B, jfd_B0, jfd_B1, jfd_B2, jfd_B3, jfd_B4, jfd_B5, jsn_B5, jarr_B1, jarr_B2, jarr_B3, jarr_B4, jarr_B5, jobj_H, jfd_H0, jfd_H1, jfd_H2, jsn_H2, jfd_H3, jsn_H3, jfd_H4, jsn_H4, jfd_H5, jsn_H5, jfd_H6, jsn_H6, jfd_H7, jsn_H7, jfd_H8, jsn_H8, jfd_H9, jsn_H9, jfd_H10, jfd_H11, jarr_H429, jarr_H1, jrd_H1, jobj_P, jfd_P0, jfd_P1, jfd_P2, jsn_P2, jfd_P3, jsn_P3, jfd_P4, jsn_P4, jfd_P5, jsn_P5, jfd_P6, jsn_P6, jfd_P7, jsn_P7, jfd_P8, jsn_P8, jfd_P9, jsn_P9, jobj_G, jfd_G0, jfd_G1, jarr_G1, jarr_G2, jobj_A, jfd_A0, jsn_A0, jfd_A1, jsn_A1, jobj_O, jfd_O0, jfd_O1, jsn_O1, jfd_O2, jsn_O2, jfd_O3, jsn_O3, jfd_O4, jsn_O4, jfd_O5, jsn_O5, jfd_O6, jfd_O7, jfd_O8, jfd_O9, jfd_O10, jfd_O11, jarr_O1, jobj_E, jfd_E0, jfd_E1, jsn_E1, jfd_E2, jsn_E2, jfd_E3, jsn_E3, jfd_E4, jsn_E4, jfd_E5, jsn_E5, jfd_E6, jsn_E6, jfd_E7, jsn_E7, jfd_E8, jsn_E8, jfd_E9, jsn_E9, jfd_E10, jsn_E10, jfd_E11, jsn_E11, jfd_E12, jsn_E12, jfd_E13, jsn_E13, jfd_E14, jsn_E14, jarr_E1, jobj_C, jfd_C0, jfd_C1, jfd_C2, jfd_C3, jfd_C4, jfd_C5, jfd_C6, jsn_C6, jfd_C7, jsn_C7, jfd_C8, jsn_C8, jarr_C1, jarr_C2, jarr_C3, jarr_C4, jarr_C5, jarr_C6, jrd_C5, jsn_Ca5, jrd_C6, jsn_Ca6, jobj_Y, jfd_Y0, jfd_Y1, jfd_Y2, jsn_Y2, jfd_Y3, jfd_Y4, jfd_Y5, jarr_Y1, jobj_D, jfd_D0, jfd_D1, jfd_D2, jfd_D3, jsn_D3, jfd_D4, jsn_D4, jfd_D5, jsn_D5, jfd_D6, jfd_D7, jsn_D7, jfd_D8, jsn_D8, jfd_D9, jsn_D9, jfd_D10, jsn_D10, jfd_D11, jsn_D11, jfd_D12, jsn_D12, jfd_D13, jsn_D13, jfd_D14, jsn_D14, jfd_D15, jsn_D15, jfd_D16, jsn_D16, jarr_D1, jL32_0, jL32_1, jL32_2, jL32_3, jL32_4, jL32_5, jL32_6, jL32_7, jL32_8, jL32_9, jL32_10, jL32_11, jL32_12, jL32_13, jL32_14, jL32_15, jL32_16, jL32_17, jL32_18, jL32_19, jL32_20, jL32_21, jL32_22, jL32_23, jL32_24, jL32_25, jL32_26, jL32_27, jL32_28, jL32_29, jL32_30, jL32_31, jL32_32, jL32_33, jL32_34, jL32_35, jL32_36, jL32_37, jL32_38, jL32_39, jL32_57, jL32_60, jL32_97, jL32_122, jL32_255, jLm32_1, jLm32_2, jLm32_3, jLm32_1000, jL64_0, jL64_1, zne_10, zne_00, zne_01, zne_11, false_imp_iff, true_imp_iff, fX2_cutToBox_0, fX2_cutToBox_1, fX2_cutToBox_2, fX2_cutToBox_3, fX2_cutToBox_4, fX2_cutToBox_7, fX2_cutToBox_8, fX2_cutToBox_9, fX2_cutToBox_12, fX2_cutToBox_13, fX2_cutToBox_16, fX2_cutToBox_19, fX2_cutToBox_22, jtm_49, ↓jo_0, ↓jo_1, ↓jo_2, ↓jo_20, ↓jo_21, ↓jo_28, ↓jo_3, ↓jo_31v, ↓jo_41]
      refine nx (by omega) _ (fr.trans kcut_fu) (fun r j r1 r2 => by rw [kcut_fr _ _ _ _ _ _ r1 r2, f2 r j r1 r2]) ?_ (fun j hj => ?_)
      · refine (kcut_I hI (by omega) (by omega) (by omega)).cg (fun X Y B hB => ?_)
        constructor
        · rintro ⟨q1, q2⟩
          exact ⟨⟨q1, fun j hj => q2 j (by omega)⟩, q2 k (by omega)⟩
        · rintro ⟨⟨q1, q2⟩, q3⟩
          refine ⟨q1, fun j hj => ?_⟩
          by_cases e : j = k
          · subst e; exact q3
          · exact q2 j (by omega)
      · by_cases e : j = k
        · subst e; exact (kcut_4 (by omega)).2
        · exact (kcut_4 (by omega)).1 j (h4 j (by omega))
  refine jCw kX2_cutToBox jn_X2 (fun pc => pc == 2) 40 (Nat.le_of_ble_eq_true rfl) ?_
  simp -implicitDefEqProofs only [Nat.reduceAdd, Nat.reduceMul, Nat.reduceEqDiff, Nat.reduceBEq, Nat.reduceLT, Nat.reduceLeDiff, Int.reduceToNat, Int.reduceLE, Int.reduceLT, Int.reduceNeg, Int.reduceAdd, Int.reduceMul, Bool.or_false, Bool.or_true, Bool.true_or, Bool.false_or, jwq_s, jwp_sn, jwp_sc, jwp_0, jsum, jwx_s, ↓jol_c, ↓jo1_c, ↓jo2_c, ↓jo3_c, Bool.false_eq_true, beq_iff_eq, jst, jins_c, jins_n, jdrop_c, jdrop_n, jargs, jtg, jtag, jcnd, true_and, and_true, false_or, or_false, true_or, or_true, forall_const, ↓reduceIte, Option.toList, List.cons_append, List.nil_append, false_and, and_false, reduceCtorEq, false_imp_iff, forall_eq, true_imp_iff, joc_c, List.drop_succ_cons, List.drop_zero, List.take_succ_cons, List.take_zero, List.reverse_cons, List.reverse_nil, List.length_cons, List.length_nil, Int.reduceEq, not_true_eq_false, not_false_eq_true, mm_S, mm_L, mm_set, Int.toNat_natCast, Int.natCast_nonneg, ju_at, ne21, ne01, jrd_1, jrd_2, jrd_3, jobj_M, jfd_M0, jfd_M1, jfd_M2, jfd_M3, jfd_M4, jfd_M5, jfd_M6, jfd_M7, jfd_M8, jfd_M9, jfd_M10, jfd_M11, jfd_M12, jsn_M12, jfd_M13, jsn_M13, jfd_M14, jsn_M14, jfd_M15, jsn_M15, jarr_M5, jarr_M6, jarr_M7, jarr_M82, jarr_M83, jarr_M145, jarr_M146, jarr_M147, jarr_M8, jrd_M8, jarr_M9, jrd_M9, jarr_M84, jrd_M84, jobj_N, jfd_N0, jfd_N1, jfd_N2, jfd_N3, jsn_N3, jarr_N1, jarr_N2, jarr_N3, jobj_B, jfd_B0, jfd_B1, jfd_B2, jfd_B3, jfd_B4, jfd_B5, jsn_B5, jarr_B1, jarr_B2, jarr_B3, jarr_B4, jarr_B5, jobj_H, jfd_H0, jfd_H1, jfd_H2, jsn_H2, jfd_H3, jsn_H3, jfd_H4, jsn_H4, jfd_H5, jsn_H5, jfd_H6, jsn_H6, jfd_H7, jsn_H7, jfd_H8, jsn_H8, jfd_H9, jsn_H9, jfd_H10, jfd_H11, jarr_H429, jarr_H1, jrd_H1, jobj_P, jfd_P0, jfd_P1, jfd_P2, jsn_P2, jfd_P3, jsn_P3, jfd_P4, jsn_P4, jfd_P5, jsn_P5, jfd_P6, jsn_P6, jfd_P7, jsn_P7, jfd_P8, jsn_P8, jfd_P9, jsn_P9, jobj_G, jfd_G0, jfd_G1, jarr_G1, jarr_G2, jobj_A, jfd_A0, jsn_A0, jfd_A1, jsn_A1, jobj_O, jfd_O0, jfd_O1, jsn_O1, jfd_O2, jsn_O2, jfd_O3, jsn_O3, jfd_O4, jsn_O4, jfd_O5, jsn_O5, jfd_O6, jfd_O7, jfd_O8, jfd_O9, jfd_O10, jfd_O11, jarr_O1, jobj_E, jfd_E0, jfd_E1, jsn_E1, jfd_E2, jsn_E2, jfd_E3, jsn_E3, jfd_E4, jsn_E4, jfd_E5, jsn_E5, jfd_E6, jsn_E6, jfd_E7, jsn_E7, jfd_E8, jsn_E8, jfd_E9, jsn_E9, jfd_E10, jsn_E10, jfd_E11, jsn_E11, jfd_E12, jsn_E12, jfd_E13, jsn_E13, jfd_E14, jsn_E14, jarr_E1, jobj_C, jfd_C0, jfd_C1, jfd_C2, jfd_C3, jfd_C4, jfd_C5, jfd_C6, jsn_C6, jfd_C7, jsn_C7, jfd_C8, jsn_C8, jarr_C1, jarr_C2, jarr_C3, jarr_C4, jarr_C5, jarr_C6, jrd_C5, jsn_Ca5, jrd_C6, jsn_Ca6, jobj_Y, jfd_Y0, jfd_Y1, jfd_Y2, jsn_Y2, jfd_Y3, jfd_Y4, jfd_Y5, jarr_Y1, jobj_D, jfd_D0, jfd_D1, jfd_D2, jfd_D3, jsn_D3, jfd_D4, jsn_D4, jfd_D5, jsn_D5, jfd_D6, jfd_D7, jsn_D7, jfd_D8, jsn_D8, jfd_D9, jsn_D9, jfd_D10, jsn_D10, jfd_D11, jsn_D11, jfd_D12, jsn_D12, jfd_D13, jsn_D13, jfd_D14, jsn_D14, jfd_D15, jsn_D15, jfd_D16, jsn_D16, jarr_D1, jL32_0, jL32_1, jL32_2, jL32_3, jL32_4, jL32_5, jL32_6, jL32_7, jL32_8, jL32_9, jL32_10, jL32_11, jL32_12, jL32_13, jL32_14, jL32_15, jL32_16, jL32_17, jL32_18, jL32_19, jL32_20, jL32_21, jL32_22, jL32_23, jL32_24, jL32_25, jL32_26, jL32_27, jL32_28, jL32_29, jL32_30, jL32_31, jL32_32, jL32_33, jL32_34, jL32_35, jL32_36, jL32_37, jL32_38, jL32_39, jL32_57, jL32_60, jL32_97, jL32_122, jL32_255, jLm32_1, jLm32_2, jLm32_3, jLm32_1000, jL64_0, jL64_1, zne_10, zne_00, zne_01, zne_11, false_imp_iff, true_imp_iff, fX2_cutToBox_0, fX2_cutToBox_1, fX2_cutToBox_2, fX2_cutToBox_3, fX2_cutToBox_4, fX2_cutToBox_7, fX2_cutToBox_8, fX2_cutToBox_9, fX2_cutToBox_12, fX2_cutToBox_13, fX2_cutToBox_16, fX2_cutToBox_19, fX2_cutToBox_22, jtm_49, ↓jo_0, ↓jo_1, ↓jo_2, ↓jo_20, ↓jo_21, ↓jo_28, ↓jo_3, ↓jo_31v, ↓jo_41]
  exact main 0 (by omega) S (frU.refl S) (fun _ _ _ _ => rfl) (h.cg (fun X Y B hB => ⟨fun q => q.1, fun q => ⟨q, fun i hi => by omega⟩⟩)) (fun j hj => by omega)

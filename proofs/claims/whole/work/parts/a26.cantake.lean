/-! The class Ride: canTake. -/
theorem keep_k {W : Nat → Int} {m : Nat} {k X Y B X' Y' B' : Int} (hk : 0 < k) (hX : X' = k * X) (hY : Y' = k * Y) (hB : B' = k * B) : keepF W m X' Y' B' ↔ keepF W m X Y B := by
  subst hX
  subst hY
  subst hB
  have one : ∀ p q : Int, k * p ≤ k * q ↔ p ≤ q := fun p q => ⟨fun h => Int.le_of_mul_le_mul_left h hk, fun h => Int.mul_le_mul_of_nonneg_left h (Int.le_of_lt hk)⟩
  unfold keepF boxF bndF
  refine and_congr ?_ ⟨fun h i hi => ?_, fun h i hi => ?_⟩
  · have e1 : 1000 * (k * B) = k * (1000 * B) := by grind
    have e2 : -(k * X) = k * -X := by grind
    have e3 : -(k * Y) = k * -Y := by grind
    rw [e1, e2, e3, one, one, one, one]
  · have q := h i hi
    refine (one _ _).mp ?_
    have e1 : k * ((wA W (W (63 + 25 * m + 3 * i)).toNat * X + wB W (W (63 + 25 * m + 3 * i)).toNat * Y) * W (63 + 25 * m + 3 * i + 2)) = (wA W (W (63 + 25 * m + 3 * i)).toNat * (k * X) + wB W (W (63 + 25 * m + 3 * i)).toNat * (k * Y)) * W (63 + 25 * m + 3 * i + 2) := by grind
    have e2 : k * (W (63 + 25 * m + 3 * i + 1) * B) = W (63 + 25 * m + 3 * i + 1) * (k * B) := by grind
    rw [e1, e2]; exact q
  · have q := (one _ _).mpr (h i hi)
    have e1 : k * ((wA W (W (63 + 25 * m + 3 * i)).toNat * X + wB W (W (63 + 25 * m + 3 * i)).toNat * Y) * W (63 + 25 * m + 3 * i + 2)) = (wA W (W (63 + 25 * m + 3 * i)).toNat * (k * X) + wB W (W (63 + 25 * m + 3 * i)).toNat * (k * Y)) * W (63 + 25 * m + 3 * i + 2) := by grind
    have e2 : k * (W (63 + 25 * m + 3 * i + 1) * B) = W (63 + 25 * m + 3 * i + 1) * (k * B) := by grind
    rw [← e1, ← e2]; exact q
/-- the earliest of the times that are left -/
theorem rn_ls {S : jS} {C : Int → Int → Prop} {s : Int} (h : rnI S C) (e7 : S 1232 7 = s) (hs : 0 < s) (c0 : S 1232 16 ≠ 0) (c1 : S 1232 15 = 0 ∨ S 1232 12 * S 1232 15 ≤ S 1232 14 * S 1232 13) : lsT C (S 1232 12 / ig (S 1232 12) (S 1232 13 * s)) (S 1232 13 * s / ig (S 1232 12) (S 1232 13 * s)) := by
  obtain ⟨h16, h13, h12, h15, h14, hC⟩ := h
  rw [e7] at hC
  have hB := Int.mul_pos h13.1 hs
  have g := lsT_v (C := fun u d => 0 ≤ u ∧ ∀ k, k < 2 → (if k = 0 then S 1232 12 else if S 1232 15 = 0 then 0 else -S 1232 14) * d ≤ (if k = 0 then s * S 1232 13 else if S 1232 15 = 0 then 0 else -(s * S 1232 15)) * u) (n := 2) (nn := fun k => if k = 0 then S 1232 12 else if S 1232 15 = 0 then 0 else -S 1232 14) (pp := fun k => if k = 0 then s * S 1232 13 else if S 1232 15 = 0 then 0 else -(s * S 1232 15)) (N := S 1232 12) (E := S 1232 13 * s) (fun u d => Iff.rfl) ?_ hB h12.1 ?_ ?_
  · refine lsT_congr (fun u d hd => ?_) g
    rw [hC u d hd]
    constructor
    · rintro ⟨a, b⟩
      have b0 := b 0 (by omega)
      have b1 := b 1 (by omega)
      simp only [if_true, if_false, Nat.one_ne_zero] at b0 b1
      have e0 : s * S 1232 13 * u = u * s * S 1232 13 := by grind
      refine ⟨by omega, by omega, ?_⟩
      by_cases z : S 1232 15 = 0
      · exact Or.inl z
      · rw [if_neg z, if_neg z, Int.neg_mul, Int.neg_mul] at b1
        have e1 : s * S 1232 15 * u = u * s * S 1232 15 := by grind
        exact Or.inr (by omega)
    · rintro ⟨a, b, c⟩
      refine ⟨?_, fun k hk => ?_⟩
      · refine Decidable.byContradiction fun q => ?_
        have n1 := Int.mul_neg_of_neg_of_pos (show u < 0 by omega) hs
        have n2 := Int.mul_neg_of_neg_of_pos n1 h13.1
        have n3 := Int.mul_nonneg h12.1 (Int.le_of_lt hd)
        omega
      · have e0 : s * S 1232 13 * u = u * s * S 1232 13 := by grind
        have e1 : s * S 1232 15 * u = u * s * S 1232 15 := by grind
        by_cases k0 : k = 0
        · rw [if_pos k0, if_pos k0]; omega
        · rw [if_neg k0, if_neg k0]
          by_cases z : S 1232 15 = 0
          · rw [if_pos z, if_pos z]; omega
          · rw [if_neg z, if_neg z, Int.neg_mul, Int.neg_mul]
            have := c.resolve_left z
            omega
  · refine ⟨S 1232 12, S 1232 13 * s, hB, h12.1, fun k hk => ?_⟩
    by_cases k0 : k = 0
    · rw [if_pos k0, if_pos k0]
      have : s * S 1232 13 * S 1232 12 = S 1232 12 * (S 1232 13 * s) := by grind
      omega
    · rw [if_neg k0, if_neg k0]
      by_cases z : S 1232 15 = 0
      · rw [if_pos z, if_pos z]; omega
      · rw [if_neg z, if_neg z, Int.neg_mul, Int.neg_mul]
        have q := Int.mul_le_mul_of_nonneg_right (c1.resolve_left z) (Int.le_of_lt hs)
        have e1 : S 1232 14 * (S 1232 13 * s) = S 1232 14 * S 1232 13 * s := by grind
        have e2 : s * S 1232 15 * S 1232 12 = S 1232 12 * S 1232 15 * s := by grind
        omega
  · intro k hk
    by_cases k0 : k = 0
    · rw [if_pos k0, if_pos k0]
      intro _
      have : s * S 1232 13 * S 1232 12 = S 1232 12 * (S 1232 13 * s) := by grind
      omega
    · rw [if_neg k0, if_neg k0]
      by_cases z : S 1232 15 = 0
      · rw [if_pos z, if_pos z]; omega
      · rw [if_neg z, if_neg z]
        have := Int.mul_nonneg (Int.le_of_lt hs) h15.1
        omega
  · refine Or.inr ⟨0, by omega, ?_, ?_⟩
    · simp only [if_true]; exact Int.mul_pos hs h13.1
    · simp only [if_true]; grind
theorem rn_no {S : jS} {C : Int → Int → Prop} (h : rnI S C) (c : S 1232 16 = 0 ∨ (S 1232 15 ≠ 0 ∧ S 1232 14 * S 1232 13 < S 1232 12 * S 1232 15)) : ¬ ∃ u d, 0 < d ∧ C u d := by
  rintro ⟨u, d, hd, q⟩
  obtain ⟨h16, h13, h12, h15, h14, hC⟩ := h
  obtain ⟨a, b, e⟩ := (hC u d hd).mp q
  rcases c with c | ⟨c, c'⟩
  · omega
  · have e := e.resolve_left c
    have q1 := Int.mul_le_mul_of_nonneg_right b h15.1
    have q2 := Int.mul_le_mul_of_nonneg_right e (Int.le_of_lt h13.1)
    have q3 := Int.mul_lt_mul_of_pos_right c' hd
    have e1 : S 1232 12 * d * S 1232 15 = S 1232 12 * S 1232 15 * d := by grind
    have e2 : u * S 1232 7 * S 1232 13 * S 1232 15 = u * S 1232 7 * S 1232 15 * S 1232 13 := by grind
    have e3 : S 1232 14 * d * S 1232 13 = S 1232 14 * S 1232 13 * d := by grind
    omega

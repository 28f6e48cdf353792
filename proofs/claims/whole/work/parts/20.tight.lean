/-! The reference: limits become tight. -/
theorem crn_bd {S : jS} {n i j : Nat} (hN : gN S n) (hW : gW S n) (hi : i < n) (hj : j < n) (h : cok S i j) : (-10000000000000 ≤ cX S i j ∧ cX S i j ≤ 10000000000000) ∧ (-10000000000000 ≤ cY S i j ∧ cY S i j ≤ 10000000000000) ∧ (0 < cB S i j ∧ cB S i j ≤ 10000000000) := by
  obtain ⟨h1, h2, h3⟩ := h
  have hI := (hW i hi).1.resolve_left h1
  have hJ := (hW j hj).1.resolve_left h2
  obtain ⟨bX, bY, bB⟩ := cX0_bd hN hW hi hj hI hJ
  have wi := (hW i hi).2 hI
  have wj := (hW j hj).2 hJ
  have hb0 : cB0 S i j ≠ 0 := by
    unfold cB0
    exact Int.mul_ne_zero (Int.mul_ne_zero h3 (by omega)) (by omega)
  have p1 : 0 < cB1 S i j ∧ cB1 S i j ≤ 10000000000 := by
    unfold cB1
    split <;> omega
  have p2 : -10000000000000 ≤ cX1 S i j ∧ cX1 S i j ≤ 10000000000000 := by
    unfold cX1
    split <;> omega
  have p3 : -10000000000000 ≤ cY1 S i j ∧ cY1 S i j ≤ 10000000000000 := by
    unfold cY1
    split <;> omega
  have hg : 0 < cg S i j := cG_pos p1.1
  refine ⟨div_bd p2, div_bd p3, div_pos' p1.1 hg (cG_B _ _ _), ?_⟩
  have := div_bd (x := cB1 S i j) (g := cg S i j) (A := 10000000000) ⟨by omega, by omega⟩
  exact this.2
/-- the greatest so far, laid beside -/
def mset (S : jS) (U D : Nat → Int) : jS := fun p k => if p = RB + 8 then U k else if p = RB + 9 then D k else S p k
theorem mset_o (S : jS) (U D : Nat → Int) {p k : Nat} (h : p ≠ RB + 8 ∧ p ≠ RB + 9) : mset S U D p k = S p k := by simp [mset, h.1, h.2]
theorem mset_self (S : jS) : mset S (S (RB + 8)) (S (RB + 9)) = S := by
  funext p k
  simp only [mset]
  split
  · rename_i h; rw [h]
  · split
    · rename_i h; rw [h]
    · rfl
section MSET
variable (S : jS) (U D : Nat → Int)
theorem wI_m : wI (mset S U D) = wI S := funext fun k => mset_o S U D (by simp)
theorem wU_m : wU (mset S U D) = wU S := funext fun k => mset_o S U D (by simp)
theorem wD_m : wD (mset S U D) = wD S := funext fun k => mset_o S U D (by simp)
theorem nA_m : nA (mset S U D) = nA S := funext fun k => mset_o S U D (by simp)
theorem nB_m : nB (mset S U D) = nB S := funext fun k => mset_o S U D (by simp)
theorem nN_m : nN (mset S U D) = nN S := mset_o S U D (by simp)
theorem cD_m : cD (mset S U D) = cD S := by funext i j; simp only [cD, nA_m, nB_m]
theorem cX0_m : cX0 (mset S U D) = cX0 S := by funext i j; simp only [cX0, nB_m, wU_m, wD_m]
theorem cY0_m : cY0 (mset S U D) = cY0 S := by funext i j; simp only [cY0, nA_m, wU_m, wD_m]
theorem cB0_m : cB0 (mset S U D) = cB0 S := by funext i j; simp only [cB0, cD_m, wD_m]
theorem cX1_m : cX1 (mset S U D) = cX1 S := by funext i j; simp only [cX1, cX0_m, cB0_m]
theorem cY1_m : cY1 (mset S U D) = cY1 S := by funext i j; simp only [cY1, cY0_m, cB0_m]
theorem cB1_m : cB1 (mset S U D) = cB1 S := by funext i j; simp only [cB1, cB0_m]
theorem cg_m : cg (mset S U D) = cg S := by funext i j; simp only [cg, cX1_m, cY1_m, cB1_m]
theorem cX_m : cX (mset S U D) = cX S := by funext i j; simp only [cX, cX1_m, cg_m]
theorem cY_m : cY (mset S U D) = cY S := by funext i j; simp only [cY, cY1_m, cg_m]
theorem cB_m : cB (mset S U D) = cB S := by funext i j; simp only [cB, cB1_m, cg_m]
theorem cok_m : cok (mset S U D) = cok S := by funext i j; simp only [cok, wI_m, cD_m]
theorem hol_m : hol (mset S U D) = hol S := by funext n X Y B; simp only [hol, wI_m, wU_m, wD_m, nA_m, nB_m]
theorem gN_m : gN (mset S U D) = gN S := by funext n; simp only [gN, nA_m, nB_m, nN_m]
theorem gW_m : gW (mset S U D) = gW S := by funext n; simp only [gW, wI_m, wU_m, wD_m]
theorem crn_m : crn (mset S U D) = crn S := by funext n i j; simp only [crn, cok_m, hol_m, cX_m, cY_m, cB_m]
end MSET
/-- what a normal tells of a corner -/
def vk (S : jS) (k i j : Nat) : Int := nA S k * cX S i j + nB S k * cY S i j
/-- u by d is the greatest that a normal tells of the corners among Q -/
def gst (S : jS) (n : Nat) (Q : Nat → Nat → Prop) (k : Nat) (u d : Int) : Prop := (-1000000000000000 ≤ u ∧ u ≤ 1000000000000000) ∧ (0 < d ∧ d ≤ 10000000000) ∧ (∃ i j, Q i j ∧ crn S n i j ∧ u * cB S i j = vk S k i j * d) ∧ ∀ i j, Q i j → crn S n i j → vk S k i j * d ≤ u * cB S i j
theorem vk_bd {S : jS} {n k i j : Nat} (hN : gN S n) (hW : gW S n) (hk : k < n) (hi : i < n) (hj : j < n) (h : cok S i j) : -1000000000000000 ≤ vk S k i j ∧ vk S k i j ≤ 1000000000000000 := by
  obtain ⟨b1, b2, -⟩ := crn_bd hN hW hi hj h
  have m1 := mul_bd (A := 9) (B := 10000000000000) (hN.2.2 k hk).1 b1
  have m2 := mul_bd (A := 9) (B := 10000000000000) (hN.2.2 k hk).2 b2
  unfold vk
  omega
/-- one corner more -/
theorem gst_first {S : jS} {n k i j : Nat} {Q : Nat → Nat → Prop} (hN : gN S n) (hW : gW S n) (hk : k < n) (hi : i < n) (hj : j < n) (hc : crn S n i j) (h : ∀ i' j', Q i' j' → ¬ crn S n i' j') : gst S n (fun i' j' => Q i' j' ∨ (i' = i ∧ j' = j)) k (vk S k i j) (cB S i j) := by
  refine ⟨vk_bd hN hW hk hi hj hc.1, (crn_bd hN hW hi hj hc.1).2.2, ⟨i, j, Or.inr ⟨rfl, rfl⟩, hc, rfl⟩, fun i' j' hq hc' => ?_⟩
  rcases hq with hq | ⟨rfl, rfl⟩
  · exact absurd hc' (h i' j' hq)
  · exact Int.le_refl _
theorem gst_keep {S : jS} {n k i j : Nat} {Q : Nat → Nat → Prop} {u d : Int} (h : gst S n Q k u d) (hle : vk S k i j * d - u * cB S i j ≤ 0) : gst S n (fun i' j' => Q i' j' ∨ (i' = i ∧ j' = j)) k u d := by
  obtain ⟨h1, h2, ⟨a, b, h3, h4, h5⟩, h6⟩ := h
  refine ⟨h1, h2, ⟨a, b, Or.inl h3, h4, h5⟩, fun i' j' hq hc => ?_⟩
  rcases hq with hq | ⟨rfl, rfl⟩
  · exact h6 i' j' hq hc
  · omega
theorem gst_new {S : jS} {n k i j : Nat} {Q : Nat → Nat → Prop} {u d : Int} (hN : gN S n) (hW : gW S n) (hk : k < n) (hi : i < n) (hj : j < n) (hc : crn S n i j) (hQ : ∀ i' j', Q i' j' → i' < n ∧ j' < n) (h : gst S n Q k u d) (hlt : 0 < vk S k i j * d - u * cB S i j) : gst S n (fun i' j' => Q i' j' ∨ (i' = i ∧ j' = j)) k (vk S k i j) (cB S i j) := by
  obtain ⟨h1, h2, -, h6⟩ := h
  refine ⟨vk_bd hN hW hk hi hj hc.1, (crn_bd hN hW hi hj hc.1).2.2, ⟨i, j, Or.inr ⟨rfl, rfl⟩, hc, rfl⟩, fun i' j' hq hc' => ?_⟩
  rcases hq with hq | ⟨rfl, rfl⟩
  · have b1 := (crn_bd hN hW hi hj hc.1).2.2
    have b2 := (crn_bd hN hW (hQ i' j' hq).1 (hQ i' j' hq).2 hc'.1).2.2
    have q1 := h6 i' j' hq hc'
    have q2 : vk S k i' j' * d * cB S i j ≤ u * cB S i' j' * cB S i j := Int.mul_le_mul_of_nonneg_right q1 (by omega)
    have q3 : u * cB S i j * cB S i' j' ≤ vk S k i j * d * cB S i' j' := Int.mul_le_mul_of_nonneg_right (by omega) (by omega)
    have q4 : vk S k i' j' * cB S i j * d ≤ vk S k i j * cB S i' j' * d := by
      have e1 : vk S k i' j' * cB S i j * d = vk S k i' j' * d * cB S i j := by grind
      have e2 : vk S k i j * cB S i' j' * d = vk S k i j * d * cB S i' j' := by grind
      have e3 : u * cB S i' j' * cB S i j = u * cB S i j * cB S i' j' := by grind
      omega
    exact Int.le_of_mul_le_mul_right q4 h2.1
  · exact Int.le_refl _

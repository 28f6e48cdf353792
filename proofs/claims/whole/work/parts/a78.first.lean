/-! The first state of the class. -/
theorem aBegin_0 : aBegin gF0 = aZero := by
  unfold aBegin
  dsimp only
  rw [if_pos (show gF0 4 = 0 by decide)]
section
variable {S : jS}
set_option maxRecDepth 100000 in
theorem k_first (h : ∀ r j, r < RB → S r j = (dCel r).2 j) : kC S 2 gF0 (aBegin gF0) af0 ∧ eB S ∧ (∀ i, i < 11 → S 299 i = LG i) ∧ (∀ e R, rdR S (-1) e R) ∧ (S 0 1 = 0 ∧ S 0 2 = 0 ∧ S 0 3 = -1) ∧ (∀ j, S 1 j = 0) ∧ S CK 5 = 0 := by
  have w : wfW gF0 := wf_F0.1
  have g : ∀ r j v, r < RB → (dCel r).2 j = v → S r j = v := fun r j v hr hv => (h r j hr).trans hv
  have hR : RB = 1237 := rfl
  have a0 : gF0 0 = 0 := by decide
  have a1 : gF0 1 = 0 := by decide
  have a4 : gF0 4 = 0 := by decide
  have n4 : wN gF0 = 4 := by decide
  refine ⟨⟨⟨Or.inl rfl, ?_, ?_⟩, ⟨w, wfT_begin w, afR_0⟩, ⟨⟨?_, ?_⟩, ⟨?_, ?_, ?_⟩, ?_, ?_⟩, ⟨?_, ?_⟩, ⟨⟨?_, ?_, ?_, ?_⟩, ?_⟩, ⟨?_, ?_⟩, ?_⟩, ⟨⟨?_, ?_⟩, ⟨?_, ?_⟩, ?_, ?_⟩, ?_, ?_, ⟨?_, ?_, ?_⟩, ?_, ?_⟩
  · exact g 0 4 _ (by omega) rfl
  · exact g 0 5 _ (by omega) rfl
  · exact g 3 3 _ (by omega) (by decide +kernel)
  · intro k hk
    rw [n4] at hk
    rcases (show k = 0 ∨ k = 1 ∨ k = 2 ∨ k = 3 by omega) with e | e | e | e <;> subst e
    · exact ⟨g 4 0 _ (by omega) (by decide +kernel), g 5 0 _ (by omega) (by decide +kernel), g 6 0 _ (by omega) (by decide +kernel)⟩
    · exact ⟨g 4 1 _ (by omega) (by decide +kernel), g 5 1 _ (by omega) (by decide +kernel), g 6 1 _ (by omega) (by decide +kernel)⟩
    · exact ⟨g 4 2 _ (by omega) (by decide +kernel), g 5 2 _ (by omega) (by decide +kernel), g 6 2 _ (by omega) (by decide +kernel)⟩
    · exact ⟨g 4 3 _ (by omega) (by decide +kernel), g 5 3 _ (by omega) (by decide +kernel), g 6 3 _ (by omega) (by decide +kernel)⟩
  · exact g 2 12 _ (by omega) (by decide +kernel)
  · exact g 2 13 _ (by omega) (by decide +kernel)
  · exact g 2 14 _ (by omega) (by decide +kernel)
  · intro m hm
    rw [a0] at hm
    omega
  · intro m hm
    rw [a1] at hm
    omega
  · exact g 2 15 _ (by omega) (by decide +kernel)
  · intro h4
    exact absurd a4 h4
  · rw [aBegin_0]
    exact g 361 4 0 (by omega) (by decide +kernel)
  · rw [aBegin_0]
    exact g 361 6 0 (by omega) (by decide +kernel)
  · rw [aBegin_0]
    exact g 361 7 0 (by omega) (by decide +kernel)
  · rw [aBegin_0]
    exact g 361 8 0 (by omega) (by decide +kernel)
  · intro p hp
    rw [aBegin_0] at hp
    exact absurd hp (Nat.not_lt_zero _)
  · exact g 361 9 _ (by omega) (by decide +kernel)
  · intro h0
    exact absurd a0 h0
  · refine ⟨fun i => i, fun i => i, fun i hi => ⟨?_, ?_, hi, hi⟩, fun i j hi hj e => ⟨e, e⟩⟩
    · exact g 305 i _ (by omega) ((show ∀ i, i < 25 → (dCel 305).2 i = ((307 + 2 * i : Nat) : Int) by decide +kernel) i hi)
    · exact g 306 i _ (by omega) ((show ∀ i, i < 25 → (dCel 306).2 i = ((308 + 2 * i : Nat) : Int) by decide +kernel) i hi)
  · rw [g 298 4 0 (by omega) (by decide +kernel)]; omega
  · rw [g 298 4 0 (by omega) (by decide +kernel)]; omega
  · rw [g 298 6 0 (by omega) (by decide +kernel)]; omega
  · rw [g 298 6 0 (by omega) (by decide +kernel)]; omega
  · rw [g 298 7 0 (by omega) (by decide +kernel)]; omega
  · rw [g 298 7 0 (by omega) (by decide +kernel)]; omega
  · exact fun i hi => g 299 i _ (by omega) ((show ∀ i, i < 11 → (dCel 299).2 i = LG i by decide +kernel) i hi)
  · exact fun e R => ⟨by omega, fun _ => g 1232 3 0 (by omega) (by decide +kernel), fun h => absurd rfl h⟩
  · exact g 0 1 0 (by omega) (by decide +kernel)
  · exact g 0 2 0 (by omega) (by decide +kernel)
  · exact g 0 3 (-1) (by omega) (by decide +kernel)
  · exact fun j => g 1 j 0 (by omega) rfl
  · exact g 361 5 0 (by omega) (by decide +kernel)
end

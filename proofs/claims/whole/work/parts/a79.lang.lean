/-! The language's text, and what Reader makes of it. -/
/-- words begun and their numbers after i characters -/
def lgF : Nat → Nat × (Nat → Int)
  | 0 => (0, fun _ => 0)
  | i + 1 => if lgT.getD i 0 = 32 then ((lgF i).1 + 1, (lgF i).2) else ((lgF i).1, fun k => if k = (lgF i).1 then (lgF i).2 (lgF i).1 * 27 + lgT.getD i 0 - 96 else (lgF i).2 k)
theorem lgT_n : lgT.length = 48 := by decide
theorem lgT_b : ∀ i, i < 48 → 32 ≤ lgT.getD i 0 ∧ lgT.getD i 0 ≤ 122 := by decide
set_option maxRecDepth 100000 in
theorem lgF_b : ∀ i, i < 48 → (lgF i).1 < 11 ∧ 0 ≤ (lgF i).2 (lgF i).1 ∧ (lgF i).2 (lgF i).1 ≤ 10492274 := by decide +kernel
theorem lgF_w : ∀ i, i ≤ 48 → (lgF i).1 ≤ 11 := by decide +kernel
theorem lgF_z : ∀ i k, 11 ≤ k → i ≤ 48 → (lgF i).2 k = 0
  | 0, k, _, _ => rfl
  | i + 1, k, hk, hi => by
    have h := lgF_z i k hk (by omega)
    have b := (lgF_b i (by omega)).1
    unfold lgF
    by_cases c : lgT.getD i 0 = 32
    · rw [if_pos c]; exact h
    · rw [if_neg c]
      show (if k = (lgF i).1 then _ else _) = _
      rw [if_neg (by omega)]
      exact h
set_option maxRecDepth 100000 in
theorem lgF_e : (lgF 48).1 = 11 ∧ (lgF 48).2 = LG := by
  refine ⟨by decide +kernel, funext fun k => ?_⟩
  by_cases c : k < 11
  · exact (show ∀ k, k < 11 → (lgF 48).2 k = LG k by decide +kernel) k c
  · rw [lgF_z 48 k (by omega) (by omega)]
    unfold LG
    rw [List.getD_eq_getElem?_getD, List.getElem?_eq_none (by simp; omega)]
    rfl

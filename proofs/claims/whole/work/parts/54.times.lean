/-! The least point; times; what is exact. -/
section
variable {a b U D : Nat → Int} {n : Nat}
/-- the corner where the left side ends is the least point -/
theorem ring_lex {p q : Nat} {X Y B : Int} (hp : hld a b U D p X Y B) (hq : hld a b U D q X Y B) (dp : 0 < D p) (dq : 0 < D q) (ht : 0 < tn a b p q) (hc : (a p = -1 ∧ b p = 0) ∨ (0 < b p ∧ b q < 0)) (hB : 0 < B) : ¬ lexL X B Y B (vX b U D p q) (vB a b D p q) (vY a U D p q) (vB a b D p q) := by
  have vb : 0 < vB a b D p q := Int.mul_pos (Int.mul_pos ht dp) dq
  have ep : (a p * vX b U D p q + b p * vY a U D p q) * D p = U p * vB a b D p q := by rw [vtx_v]; unfold vV vB tn; grind
  have eq : (a q * vX b U D p q + b q * vY a U D p q) * D q = U q * vB a b D p q := by rw [vtx_v]; unfold vV vB tn; grind
  have cross : ∀ k, 0 < D k → hld a b U D k X Y B → (a k * vX b U D p q + b k * vY a U D p q) * D k = U k * vB a b D p q → a k * (X * vB a b D p q - vX b U D p q * B) + b k * (Y * vB a b D p q - vY a U D p q * B) ≤ 0 := by
    intro k dk hk ek
    have m1 := Int.mul_le_mul_of_nonneg_right hk (Int.le_of_lt vb)
    refine Int.le_of_mul_le_mul_right (a := D k) ?_ dk
    have e1 : (a k * (X * vB a b D p q - vX b U D p q * B) + b k * (Y * vB a b D p q - vY a U D p q * B)) * D k = (a k * X + b k * Y) * D k * vB a b D p q - (a k * vX b U D p q + b k * vY a U D p q) * D k * B := by grind
    have e2 : U k * B * vB a b D p q = U k * vB a b D p q * B := by grind
    rw [e1, ek]
    omega
  have cp := cross p dp hp ep
  have cq := cross q dq hq eq
  generalize hdx : X * vB a b D p q - vX b U D p q * B = dx at *
  generalize hdy : Y * vB a b D p q - vY a U D p q * B = dy at *
  have main : 0 ≤ dx ∧ (dx = 0 → 0 ≤ dy) := by
    rcases hc with ⟨h1, h2⟩ | ⟨h1, h2⟩
    · have bq : b q < 0 := by unfold tn at ht; rw [h1, h2] at ht; omega
      rw [h1, h2] at cp
      refine ⟨by omega, fun z => ?_⟩
      rw [z] at cq
      refine Decidable.byContradiction fun c => ?_
      have := Int.mul_pos_of_neg_of_neg bq (show dy < 0 by omega)
      omega
    · refine ⟨?_, fun z => ?_⟩
      · refine Decidable.byContradiction fun c => ?_
        have m1 := Int.mul_le_mul_of_nonneg_left cp (show 0 ≤ -b q by omega)
        have m2 := Int.mul_le_mul_of_nonneg_left cq (Int.le_of_lt h1)
        have e1 : -b q * (a p * dx + b p * dy) + b p * (a q * dx + b q * dy) = -(tn a b p q * dx) := by unfold tn; grind
        have := Int.mul_neg_of_pos_of_neg ht (show dx < 0 by omega)
        omega
      · rw [z] at cq
        refine Decidable.byContradiction fun c => ?_
        have := Int.mul_pos_of_neg_of_neg h2 (show dy < 0 by omega)
        omega
  unfold lexL
  omega
theorem fund_lex (hd : dirs a b n) (h4 : 4 ≤ n) (hb : bx4 a b) {live : Nat → Bool} (hl : ∀ k, live k = true → k < n ∧ 0 < D k) (l4 : ∀ k, k < 4 → live k = true)
    (hx : ∃ X Y B, 0 < B ∧ ∀ k, live k = true → hld a b U D k X Y B) :
    ∃ p q, live p = true ∧ live q = true ∧ 0 < tn a b p q ∧ (∀ j, live j = true → hld a b U D j (vX b U D p q) (vY a U D p q) (vB a b D p q)) ∧ ∀ X Y B, 0 < B → (∀ j, live j = true → hld a b U D j X Y B) → ¬ lexL X B Y B (vX b U D p q) (vB a b D p q) (vY a U D p q) (vB a b D p q) := by
  obtain ⟨nx, bk, hr⟩ := ring_ex hd h4 hb hl l4
  rcases ring_min (U := U) hd _ live nx bk (Nat.le_refl _) hr with r | ⟨l', n', b', r1, r2, r3, r4, r5⟩
  · obtain ⟨X, Y, B, x1, x2⟩ := hx
    exact absurd x2 (r X Y B x1)
  · obtain ⟨p, p1, p2, p3, p4⟩ := ring_loc hd r1 (r5 ⟨0, l4 0 (by omega)⟩) (show 1 < n by omega)
    obtain ⟨s1, s2, s3, s4, s5, s6, s7, s8⟩ := r1 p p1
    have s9 := (r1 _ s3).2.1
    obtain ⟨-, -, b3, b4, -⟩ := hb
    have cse : (a p = -1 ∧ b p = 0) ∨ (0 < b p ∧ b (n' p) < 0) := by
      have t := cy_t hd s1 (show 1 < n by omega)
      have t2 := cy_t hd s1 (r1 _ s3).1
      by_cases c : tn a b p 1 = 0
      · have z : cy a b p 1 = 0 := by omega
        by_cases e : p = 1
        · subst e; exact Or.inl ⟨b3, b4⟩
        · exact absurd z ((hd p s1).2 1 (by omega) (fun q => e q.symm))
      · have t3 : 0 < tn a b p 1 := by omega
        unfold tn at t3 p3
        rw [b3, b4] at t3 p3
        exact Or.inr ⟨by omega, by omega⟩
    exact ⟨p, n' p, r2 p p1, r2 _ s3, s7, r4 _ _ _ (Int.mul_pos (Int.mul_pos s7 s2) s9) fun j hj => vtx_h.mpr (ring_feas hd r1 r3 p1 hj), fun X Y B hB h => ring_lex (h p (r2 p p1)) (h _ (r2 _ s3)) s2 s9 s7 cse hB⟩
end
/-- the least point of points, in lowest terms -/
def lst (F : Int → Int → Int → Prop) (x d y e : Int) : Prop := 0 < d ∧ 0 < e ∧ Int.gcd x d = 1 ∧ Int.gcd y e = 1 ∧ (∃ X Y B, 0 < B ∧ F X Y B ∧ x * B = X * d ∧ y * B = Y * e) ∧ ∀ X Y B, 0 < B → F X Y B → ¬ lexL X B Y B x d y e
theorem lst_uniq {F : Int → Int → Int → Prop} {x d y e x' d' y' e' : Int} (h : lst F x d y e) (h' : lst F x' d' y' e') : x = x' ∧ d = d' ∧ y = y' ∧ e = e' := by
  obtain ⟨a, b, c, g, ⟨X, Y, B, k1, k2, k3, k4⟩, l⟩ := h
  obtain ⟨a', b', c', g', ⟨X', Y', B', k1', k2', k3', k4'⟩, l'⟩ := h'
  have n1 := l' X Y B k1 k2
  have n2 := l X' Y' B' k1' k2'
  have tr : ∀ (x d X B x' d' : Int), 0 < d → 0 < B → x * B = X * d → ((X * d' < x' * B ↔ x * d' < x' * d) ∧ (X * d' = x' * B ↔ x * d' = x' * d)) := by
    intro x d X B x' d' hd hB e
    have e1 : X * d' * d = x * d' * B := by
      have : X * d' * d = X * d * d' := by grind
      rw [this, ← e]; grind
    have e2 : x' * B * d = x' * d * B := by grind
    constructor
    · constructor
      · intro q
        have := Int.mul_lt_mul_of_pos_right q hd
        rw [e1, e2] at this
        exact Int.lt_of_mul_lt_mul_right this (Int.le_of_lt hB)
      · intro q
        have := Int.mul_lt_mul_of_pos_right q hB
        rw [← e1, ← e2] at this
        exact Int.lt_of_mul_lt_mul_right this (Int.le_of_lt hd)
    · constructor
      · intro q
        have : X * d' * d = x' * B * d := by rw [q]
        rw [e1, e2] at this
        exact Int.eq_of_mul_eq_mul_right (by omega) this
      · intro q
        have : x * d' * B = x' * d * B := by rw [q]
        rw [← e1, ← e2] at this
        exact Int.eq_of_mul_eq_mul_right (by omega) this
  unfold lexL at n1 n2
  rw [(tr x d X B x' d' a k1 k3).1, (tr x d X B x' d' a k1 k3).2, (tr y e Y B y' e' b k1 k4).1] at n1
  rw [(tr x' d' X' B' x d a' k1' k3').1, (tr x' d' X' B' x d a' k1' k3').2, (tr y' e' Y' B' y e b' k1' k4').1] at n2
  have ex : x * d' = x' * d := by omega
  have ey : y * e' = y' * e := by omega
  have u1 := low_eq a a' c c' ex
  have u2 := low_eq b b' g g' ey
  exact ⟨u1.1, u1.2, u2.1, u2.2⟩
/-- the least time of times, in lowest terms -/
def lsT (C : Int → Int → Prop) (u d : Int) : Prop := 0 < d ∧ Int.gcd u d = 1 ∧ C u d ∧ ∀ u' d', 0 < d' → C u' d' → u * d' ≤ u' * d
theorem lsT_uniq {C : Int → Int → Prop} {u d u' d' : Int} (h : lsT C u d) (h' : lsT C u' d') : u = u' ∧ d = d' := by
  have l1 := h.2.2.2 u' d' h'.1 h'.2.2.1
  have l2 := h'.2.2.2 u d h.1 h.2.2.1
  exact low_eq h.1 h'.1 h.2.1 h'.2.1 (by omega)
noncomputable def aLst (F : Int → Int → Int → Prop) : Int × Int × Int × Int := Classical.epsilon (fun q => lst F q.1 q.2.1 q.2.2.1 q.2.2.2)
theorem aLst_eq {F : Int → Int → Int → Prop} {x d y e : Int} (h : lst F x d y e) : aLst F = (x, d, y, e) := by
  have q : lst F (aLst F).1 (aLst F).2.1 (aLst F).2.2.1 (aLst F).2.2.2 := Classical.epsilon_spec (p := fun q : Int × Int × Int × Int => lst F q.1 q.2.1 q.2.2.1 q.2.2.2) ⟨(x, d, y, e), h⟩
  have u := lst_uniq q h
  obtain ⟨u1, u2, u3, u4⟩ := u
  generalize aLst F = t at *
  obtain ⟨t1, t2, t3, t4⟩ := t
  simp only at u1 u2 u3 u4
  rw [u1, u2, u3, u4]
noncomputable def aLsT (C : Int → Int → Prop) : Int × Int := Classical.epsilon (fun q => lsT C q.1 q.2)
theorem aLsT_eq {C : Int → Int → Prop} {u d : Int} (h : lsT C u d) : aLsT C = (u, d) := by
  have q : lsT C (aLsT C).1 (aLsT C).2 := Classical.epsilon_spec (p := fun q : Int × Int => lsT C q.1 q.2) ⟨(u, d), h⟩
  have v := lsT_uniq q h
  generalize aLsT C = t at *
  obtain ⟨t1, t2⟩ := t
  simp only at v
  rw [v.1, v.2]

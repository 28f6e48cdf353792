/-! What is read is right. -/
theorem bokW_mono {W W' : Nat → Int} {n n' f m : Nat} (h : bokW W n f m) (hn : n ≤ n') (hc : ∀ j, f ≤ j → j < f + 3 * m → W' j = W j) : bokW W' n' f m := by
  intro i hi
  obtain ⟨a, b, c⟩ := h i hi
  rw [hc _ (by omega) (by omega), hc _ (by omega) (by omega), hc _ (by omega) (by omega)]
  exact ⟨⟨a.1, by omega⟩, b, c⟩
theorem perp_mono {W W' : Nat → Int} {p q : Int} (h : perp W p q) (hn : wN W ≤ wN W') (ha : ∀ k, k < wN W → wA W' k = wA W k ∧ wB W' k = wB W k) : perp W' p q := by
  rcases h with h | ⟨i, j, g, hi, hj, g0, h1, h2, h3, h4⟩
  · exact Or.inl h
  · refine Or.inr ⟨i, j, g, by omega, by omega, g0, ?_, ?_, ?_, ?_⟩
    · rw [(ha i hi).1]; exact h1
    · rw [(ha i hi).2]; exact h2
    · rw [(ha j hj).1]; exact h3
    · rw [(ha j hj).2]; exact h4
theorem wfM_mono {W W' : Nat → Int} {m : Nat} (h : wfM W m) (hc : ∀ j, 59 + 25 * m ≤ j → j < 84 + 25 * m → W' j = W j) (hn : wN W ≤ wN W') (ha : ∀ k, k < wN W → wA W' k = wA W k ∧ wB W' k = wB W k) : wfM W' m := by
  obtain ⟨a, b, c, d, e⟩ := h
  have e9 := hc (59 + 25 * m) (by omega) (by omega)
  have e0 := hc (60 + 25 * m) (by omega) (by omega)
  have e1 := hc (61 + 25 * m) (by omega) (by omega)
  have e2 := hc (62 + 25 * m) (by omega) (by omega)
  unfold wfM
  rw [e9, e0, e1, e2]
  exact ⟨a, b, perp_mono c hn ha, ⟨d.1, bokW_mono d.2 hn (fun j j1 j2 => hc j (by omega) (by omega))⟩, e.1, bokW_mono e.2 hn (fun j j1 j2 => hc j (by omega) (by omega))⟩
theorem wfE_mono {W W' : Nat → Int} {e : Nat} (h : wfE W e) (hc : ∀ j, 209 + 19 * e ≤ j → j < 228 + 19 * e → W' j = W j) (hn : wN W ≤ wN W') (h0 : W 0 ≤ W' 0) : wfE W' e := by
  obtain ⟨a, b, c, d⟩ := h
  unfold wfE
  rw [hc (209 + 19 * e) (by omega) (by omega), hc (210 + 19 * e) (by omega) (by omega), hc (211 + 19 * e) (by omega) (by omega), hc (212 + 19 * e) (by omega) (by omega), hc (213 + 19 * e) (by omega) (by omega), hc (214 + 19 * e) (by omega) (by omega), hc (215 + 19 * e) (by omega) (by omega)]
  exact ⟨⟨a.1, by omega⟩, ⟨b.1, by omega⟩, ⟨c.1, bokW_mono c.2 hn (fun j j1 j2 => hc j (by omega) (by omega))⟩, d⟩
/-- what isn't told yet is 0 -/
def zR (F : Nat → Int) : Prop := (∀ m : Nat, F 0 ≤ (m : Int) → m < 6 → F (61 + 25 * m) = 0 ∧ F (62 + 25 * m) = 0) ∧ (∀ e : Nat, F 1 ≤ (e : Int) → e < 10 → F (211 + 19 * e) = 0 ∧ F (212 + 19 * e) = 0 ∧ F (213 + 19 * e) = 0 ∧ F (214 + 19 * e) = 0 ∧ F (215 + 19 * e) = 0) ∧ ∀ j, 399 ≤ j → F j = 0
def wfF (F : Nat → Int) : Prop := wfW F ∧ zR F
theorem wfN_mono {W W' : Nat → Int} (h : wfN W) (h2 : W' 2 = W 2) (hc : ∀ j, 11 ≤ j → j < 59 → W' j = W j) : wfN W' ∧ wN W' = wN W ∧ ∀ k, k < wN W → wA W' k = wA W k ∧ wB W' k = wB W k := by
  have n := wfN_n h
  have en : wN W' = wN W := by unfold wN; rw [h2]
  have ab : ∀ k, k < wN W → wA W' k = wA W k ∧ wB W' k = wB W k := fun k hk => by
    unfold wA wB
    rw [hc _ (by omega) (by omega), hc _ (by omega) (by omega)]
    exact ⟨rfl, rfl⟩
  refine ⟨⟨by rw [h2]; exact h.1, fun k hk => ?_, ?_⟩, en, ab⟩
  · rw [en] at hk ⊢
    obtain ⟨a, b, c⟩ := h.2.1 k hk
    rw [(ab k hk).1, (ab k hk).2]
    refine ⟨a, b, fun j hj jk => ?_⟩
    rw [(ab j hj).1, (ab j hj).2]
    exact c j hj jk
  · obtain ⟨a, b, c, d, e, f, g, i⟩ := h.2.2
    unfold bx4
    rw [(ab 0 (by omega)).1, (ab 0 (by omega)).2, (ab 1 (by omega)).1, (ab 1 (by omega)).2, (ab 2 (by omega)).1, (ab 2 (by omega)).2, (ab 3 (by omega)).1, (ab 3 (by omega)).2]
    exact ⟨a, b, c, d, e, f, g, i⟩
theorem nIn_no {W : Nat → Int} {a b : Int} (h : nIn W a b = -1) : ∀ k, k < wN W → ¬ (wA W k = a ∧ wB W k = b) := by
  have g : ∀ (c k : Nat), frs (fun k => decide (wA W k = a) && decide (wB W k = b)) (-1) c k = -1 → ∀ i, k ≤ i → i < k + c → ¬ (wA W i = a ∧ wB W i = b) := by
    intro c
    induction c with
    | zero => intro k _ i h1 h2; omega
    | succ c ih =>
      intro k hk i h1 h2
      unfold frs at hk
      split at hk
      · omega
      next hh =>
        by_cases e : i = k
        · subst e
          intro w
          exact hh (by simp [w.1, w.2])
        · exact ih (k + 1) hk i (by omega) (by omega)
  exact fun k hk => g (wN W) 0 h k (by omega) (by omega)
theorem nIn_yes {W : Nat → Int} {a b : Int} (h : nIn W a b ≠ -1) : ∃ k : Nat, nIn W a b = (k : Int) ∧ k < wN W ∧ wA W k = a ∧ wB W k = b := by
  have g : ∀ (c k : Nat), frs (fun k => decide (wA W k = a) && decide (wB W k = b)) (-1) c k ≠ -1 → ∃ i : Nat, frs (fun k => decide (wA W k = a) && decide (wB W k = b)) (-1) c k = (i : Int) ∧ i < k + c ∧ wA W i = a ∧ wB W i = b := by
    intro c
    induction c with
    | zero => intro k hk; exact absurd rfl hk
    | succ c ih =>
      intro k hk
      unfold frs at hk ⊢
      split
      next hh =>
        simp only [Bool.and_eq_true, decide_eq_true_eq] at hh
        exact ⟨k, rfl, by omega, hh.1, hh.2⟩
      next hh =>
        rw [if_neg hh] at hk
        obtain ⟨i, h1, h2, h3⟩ := ih (k + 1) hk
        exact ⟨i, h1, by omega, h3⟩
  obtain ⟨i, h1, h2, h3⟩ := g (wN W) 0 h
  exact ⟨i, h1, by omega, h3⟩
theorem nrm_div {a b : Int} (ha : -9 ≤ a ∧ a ≤ 9) (hb : -9 ≤ b ∧ b ≤ 9) (h : ¬ (a = 0 ∧ b = 0)) : 0 < ig a b ∧ ig a b ≤ 9 ∧ ig a b * Int.tdiv a (ig a b) = a ∧ ig a b * Int.tdiv b (ig a b) = b ∧ nrm (Int.tdiv a (ig a b)) (Int.tdiv b (ig a b)) ∧ Int.gcd (Int.tdiv a (ig a b)) (Int.tdiv b (ig a b)) = 1 := by
  have g := ig_9 ha hb h
  have d1 : ig a b ∣ a := Int.gcd_dvd_left ..
  have d2 : ig a b ∣ b := Int.gcd_dvd_right ..
  have m1 := Int.mul_tdiv_cancel' d1
  have m2 := Int.mul_tdiv_cancel' d2
  refine ⟨g.1, g.2, m1, m2, ?_, ?_⟩
  · generalize Int.tdiv a (ig a b) = x at *
    generalize Int.tdiv b (ig a b) = y at *
    generalize ig a b = k at *
    have bd : ∀ x c : Int, k * x = c → -9 ≤ c ∧ c ≤ 9 → -9 ≤ x ∧ x ≤ 9 := fun x c hx hc => by
      constructor
      · have : ¬ x ≤ -10 := fun w => by have := Int.mul_le_mul_of_nonneg_left w (show 0 ≤ k by omega); omega
        omega
      · have : ¬ 10 ≤ x := fun w => by have := Int.mul_le_mul_of_nonneg_left w (show 0 ≤ k by omega); omega
        omega
    refine ⟨bd x a m1 ha, bd y b m2 hb, fun w => h ⟨?_, ?_⟩⟩
    · rw [← m1, w.1, Int.mul_zero]
    · rw [← m2, w.2, Int.mul_zero]
  · have e : Int.gcd a b = (ig a b).natAbs * Int.gcd (Int.tdiv a (ig a b)) (Int.tdiv b (ig a b)) := by
      rw [← Int.gcd_mul_left, m1, m2]
    have n : (ig a b).natAbs = Int.gcd a b := by unfold ig; exact Int.natAbs_natCast _
    rw [n] at e
    have p : 0 < Int.gcd a b := by have := g.1; unfold ig at this; omega
    have : Int.gcd a b * 1 = Int.gcd a b * Int.gcd (Int.tdiv a (ig a b)) (Int.tdiv b (ig a b)) := by rw [Nat.mul_one]; exact e
    exact (Nat.eq_of_mul_eq_mul_left p this).symm
/-- what a new normal may change -/
def frN (F F' : Nat → Int) : Prop := wfF F' ∧ wN F ≤ wN F' ∧ (∀ k, k < wN F → wA F' k = wA F k ∧ wB F' k = wB F k) ∧ (∀ j, j ≠ 2 → (j < 11 ∨ 59 ≤ j) → F' j = F j)
theorem frN.trans {F F' F'' : Nat → Int} (h : frN F F') (h' : frN F' F'') : frN F F'' :=
  ⟨h'.1, Nat.le_trans h.2.1 h'.2.1, fun k hk => by rw [(h'.2.2.1 k (Nat.lt_of_lt_of_le hk h.2.1)).1, (h'.2.2.1 k (Nat.lt_of_lt_of_le hk h.2.1)).2]; exact h.2.2.1 k hk, fun j a b => by rw [h'.2.2.2 j a b, h.2.2.2 j a b]⟩
theorem gAdd_wf {F : Nat → Int} {a b : Int} (h : wfF F) (h24 : F 2 ≠ 24) (hn : nrm a b) (hg : Int.gcd a b = 1) (no : nIn F a b = -1) : frN F (gAdd F a b) ∧ wN (gAdd F a b) = wN F + 1 ∧ wA (gAdd F a b) (wN F) = a ∧ wB (gAdd F a b) (wN F) = b := by
  obtain ⟨⟨w1, w2, w3, w4, w5, w6, w7⟩, z1, z2, z3⟩ := h
  have n := wfN_n w1
  have c24 := w1.1.2
  have e2 : gAdd F a b 2 = F 2 + 1 := by unfold gAdd; rw [fu_eq]
  have eo : ∀ j, j ≠ 2 → j ≠ 11 + 2 * wN F → j ≠ 11 + 2 * wN F + 1 → gAdd F a b j = F j := fun j h1 h2 h3 => by unfold gAdd; rw [fu_ne _ _ h1, fu_ne _ _ h3, fu_ne _ _ h2]
  have en : wN (gAdd F a b) = wN F + 1 := by unfold wN at *; rw [e2]; omega
  have ea : wA (gAdd F a b) (wN F) = a := by unfold gAdd; show fu _ _ _ (11 + 2 * wN F) = a; rw [fu_ne _ _ (by omega), fu_ne _ _ (by omega), fu_eq]
  have eb : wB (gAdd F a b) (wN F) = b := by unfold gAdd; show fu _ _ _ (11 + 2 * wN F + 1) = b; rw [fu_ne _ _ (by omega), fu_eq]
  have ab : ∀ k, k < wN F → wA (gAdd F a b) k = wA F k ∧ wB (gAdd F a b) k = wB F k := fun k hk => ⟨by unfold wA; exact eo _ (by omega) (by omega) (by omega), by unfold wB; exact eo _ (by omega) (by omega) (by omega)⟩
  have fr : ∀ j, j ≠ 2 → (j < 11 ∨ 59 ≤ j) → gAdd F a b j = F j := fun j h1 h2 => eo j h1 (by omega) (by omega)
  have wn : wfN (gAdd F a b) := by
    refine ⟨by rw [e2]; omega, fun k hk => ?_, ?_⟩
    · rw [en] at hk ⊢
      by_cases ck : k = wN F
      · subst ck
        rw [ea, eb]
        refine ⟨hn, hg, fun j hj jk => ?_⟩
        have hj' : j < wN F := by omega
        rw [(ab j hj').1, (ab j hj').2]
        exact nIn_no no j hj'
      · have hk' : k < wN F := by omega
        obtain ⟨p1, p2, p3⟩ := w1.2.1 k hk'
        rw [(ab k hk').1, (ab k hk').2]
        refine ⟨p1, p2, fun j hj jk => ?_⟩
        by_cases cj : j = wN F
        · subst cj
          rw [ea, eb]
          exact fun w => nIn_no no k hk' ⟨w.1.symm, w.2.symm⟩
        · rw [(ab j (by omega)).1, (ab j (by omega)).2]
          exact p3 j (by omega) jk
    · obtain ⟨p1, p2, p3, p4, p5, p6, p7, p8⟩ := w1.2.2
      unfold bx4
      rw [(ab 0 (by omega)).1, (ab 0 (by omega)).2, (ab 1 (by omega)).1, (ab 1 (by omega)).2, (ab 2 (by omega)).1, (ab 2 (by omega)).2, (ab 3 (by omega)).1, (ab 3 (by omega)).2]
      exact ⟨p1, p2, p3, p4, p5, p6, p7, p8⟩
  have f0 := fr 0 (by omega) (by omega)
  have f1 := fr 1 (by omega) (by omega)
  refine ⟨⟨⟨⟨wn, by rw [f0]; exact w2, by rw [f1]; exact w3, by rw [fr 3 (by omega) (by omega)]; exact w4, fun m hm => ?_, fun e he => ?_, ?_⟩, fun m hm h6 => ?_, fun e he h10 => ?_, fun j hj => by rw [fr j (by omega) (by omega)]; exact z3 j hj⟩, by omega, ab, fr⟩, en, ea, eb⟩
  · rw [f0] at hm
    exact wfM_mono (w5 m hm) (fun j j1 j2 => fr j (by omega) (by omega)) (by omega) ab
  · rw [f1] at he
    exact wfE_mono (w6 e he) (fun j j1 j2 => fr j (by omega) (by omega)) (by omega) (by rw [f0]; exact Int.le_refl _)
  · unfold wfS at *
    rw [fr 4 (by omega) (by omega), fr 5 (by omega) (by omega), fr 6 (by omega) (by omega), fr 7 (by omega) (by omega), fr 8 (by omega) (by omega), fr 9 (by omega) (by omega), f0]
    exact w7
  · rw [f0] at hm
    rw [fr _ (by omega) (by omega), fr _ (by omega) (by omega)]
    exact z1 m hm h6
  · rw [f1] at he
    rw [fr _ (by omega) (by omega), fr _ (by omega) (by omega), fr _ (by omega) (by omega), fr _ (by omega) (by omega), fr _ (by omega) (by omega)]
    exact z2 e he h10
theorem gNor_ok {F F' : Nat → Int} {a b k : Int} {line : Nat} (h : wfF F) (ha : -9 ≤ a ∧ a ≤ 9) (hb : -9 ≤ b ∧ b ≤ 9) (h0 : ¬ (a = 0 ∧ b = 0)) (e : gNor F a b line = .inr (k, F')) : frN F F' ∧ (0 ≤ k ∧ k < (wN F' : Int)) ∧ ig a b * wA F' k.toNat = a ∧ ig a b * wB F' k.toNat = b := by
  obtain ⟨g1, g2, m1, m2, m3, m4⟩ := nrm_div ha hb h0
  unfold gNor at e
  dsimp only at e
  by_cases c1 : nIn F (Int.tdiv a (ig a b)) (Int.tdiv b (ig a b)) ≠ -1
  · rw [if_pos c1] at e
    injection e with e
    injection e with e1 e2
    obtain ⟨i, i1, i2, i3, i4⟩ := nIn_yes c1
    subst e2
    rw [← e1, i1, Int.toNat_natCast, i3, i4]
    exact ⟨⟨h, Nat.le_refl _, fun _ _ => ⟨rfl, rfl⟩, fun _ _ _ => rfl⟩, by omega, m1, m2⟩
  · rw [if_neg c1] at e
    by_cases c2 : F 2 = 24
    · rw [if_pos c2] at e; cases e
    · rw [if_neg c2] at e
      injection e with e
      injection e with e1 e2
      have q := gAdd_wf h c2 m3 m4 (Decidable.byContradiction c1)
      subst e2
      have n := wfN_n h.1.1
      have kn : k.toNat = wN F := by rw [← e1]; rfl
      rw [kn, q.2.2.1, q.2.2.2]
      exact ⟨q.1, by rw [q.2.1, ← e1]; omega, m1, m2⟩
theorem gPer_ok {F F' : Nat → Int} {a b : Int} {line : Nat} (h : wfF F) (ha : -9 ≤ a ∧ a ≤ 9) (hb : -9 ≤ b ∧ b ≤ 9) (e : gPer F a b line = .inr F') : frN F F' ∧ perp F' a b := by
  unfold gPer at e
  by_cases c : a = 0 ∧ b = 0
  · rw [if_pos c] at e
    injection e with e
    subst e
    exact ⟨⟨h, Nat.le_refl _, fun _ _ => ⟨rfl, rfl⟩, fun _ _ _ => rfl⟩, Or.inl c⟩
  · rw [if_neg c] at e
    cases r1 : gNor F (-b) a line with
    | inl x => rw [r1] at e; cases e
    | inr x =>
      obtain ⟨k1, F1⟩ := x
      rw [r1] at e
      dsimp only at e
      obtain ⟨f1, k1b, k1a, k1c⟩ := gNor_ok h (by omega) ha (by omega) r1
      cases r2 : gNor F1 b (-a) line with
      | inl x => rw [r2] at e; cases e
      | inr x =>
        obtain ⟨k2, F2⟩ := x
        rw [r2] at e
        injection e with e
        subst e
        obtain ⟨f2, k2b, k2a, k2c⟩ := gNor_ok f1.1 hb (by omega) (by omega) r2
        have gg : ig (-b) a = ig b (-a) := by unfold ig; rw [Int.neg_gcd, Int.gcd_neg]
        have g0 := ig_9 hb (show -9 ≤ -a ∧ -a ≤ 9 by omega) (by omega)
        refine ⟨f1.trans f2, Or.inr ⟨k1.toNat, k2.toNat, ig b (-a), ?_, ?_, g0.1, ?_, ?_, k2a, k2c⟩⟩
        · have := f2.2.1; omega
        · omega
        · rw [(f2.2.2.1 k1.toNat (by omega)).1, ← gg]; exact k1a
        · rw [(f2.2.2.1 k1.toNat (by omega)).2, ← gg]; exact k1c
/-- a bound as told: no more than 9 below, no more than 999 above -/
theorem gBd_v {c g : Int} (hc : -999 ≤ c ∧ c ≤ 999) (hg : 0 < g ∧ g ≤ 9) : (-999 ≤ Int.tdiv c (ig c g) ∧ Int.tdiv c (ig c g) ≤ 999) ∧ (0 < Int.tdiv g (ig c g) ∧ Int.tdiv g (ig c g) ≤ 9) ∧ 0 < ig c g ∧ ig c g * Int.tdiv c (ig c g) = c ∧ ig c g * Int.tdiv g (ig c g) = g := by
  have d1 : ig c g ∣ c := Int.gcd_dvd_left ..
  have d2 : ig c g ∣ g := Int.gcd_dvd_right ..
  have m1 := Int.mul_tdiv_cancel' d1
  have m2 := Int.mul_tdiv_cancel' d2
  have g0 : 0 < ig c g := by
    unfold ig
    have : 0 < Int.gcd c g := by
      rcases Nat.eq_zero_or_pos (Int.gcd c g) with q | q
      · have := (Int.gcd_eq_zero_iff.mp q).2; omega
      · exact q
    omega
  generalize Int.tdiv c (ig c g) = x at *
  generalize Int.tdiv g (ig c g) = y at *
  generalize ig c g = k at *
  have lo : ∀ (z w t : Int), k * z = w → -t ≤ w → 0 ≤ t → -t ≤ z := fun z w t e hw ht => by
    have : ¬ z ≤ -t - 1 := fun q => by
      have a1 := Int.mul_le_mul_of_nonneg_left q (show 0 ≤ k by omega)
      have a2 : k * (-t - 1) ≤ 1 * (-t - 1) := Int.mul_le_mul_of_nonpos_right (by omega) (by omega)
      omega
    omega
  have hi : ∀ (z w t : Int), k * z = w → w ≤ t → 0 ≤ t → z ≤ t := fun z w t e hw ht => by
    have : ¬ t + 1 ≤ z := fun q => by
      have a1 := Int.mul_le_mul_of_nonneg_left q (show 0 ≤ k by omega)
      have a2 : 1 * (t + 1) ≤ k * (t + 1) := Int.mul_le_mul_of_nonneg_right (by omega) (by omega)
      omega
    omega
  refine ⟨⟨lo x c 999 m1 hc.1 (by omega), hi x c 999 m1 hc.2 (by omega)⟩, ⟨?_, hi y g 9 m2 hg.2 (by omega)⟩, g0, m1, m2⟩
  have : ¬ y ≤ 0 := fun q => by
    have a1 := Int.mul_le_mul_of_nonneg_left q (show 0 ≤ k by omega)
    omega
  omega

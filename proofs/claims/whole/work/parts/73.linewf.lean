/-! A line leaves what is told right. -/
theorem gBound_ok {tp : Nat → Int} {n : Nat} {F F' : Nat → Int} {to line p p' : Nat} (hp : p ≤ n) (h : wfF F) (e : gBound tp n F to line p = .inr (F', p')) : ∃ (F1 : Nat → Int) (k c g : Int), F' = gBd F1 to k c g ∧ frN F F1 ∧ (0 ≤ k ∧ k < (wN F1 : Int)) ∧ (-999 ≤ c ∧ c ≤ 999) ∧ (0 < g ∧ g ≤ 9) ∧ p < p' ∧ p' ≤ n := by
  unfold gBound at e
  cases r1 : gNum tp n (-9) 9 true p with
  | inl x => rw [r1] at e; cases e
  | inr x =>
    obtain ⟨a, p1⟩ := x
    rw [r1] at e
    dsimp only at e
    obtain ⟨a1, -, a2, a3⟩ := gNum_ok hp r1
    cases r2 : gNum tp n (-9) 9 (decide (a ≠ 0)) p1 with
    | inl x => rw [r2] at e; cases e
    | inr x =>
      obtain ⟨b, p2⟩ := x
      rw [r2] at e
      dsimp only at e
      obtain ⟨b1, b0, b2, b3⟩ := gNum_ok a3 r2
      have ab : ¬ (a = 0 ∧ b = 0) := fun w => b0 (by simp [w.1]) w.2
      cases r3 : gNor F a b line with
      | inl x => rw [r3] at e; cases e
      | inr x =>
        obtain ⟨k, F1⟩ := x
        rw [r3] at e
        dsimp only at e
        obtain ⟨f1, k1, -, -⟩ := gNor_ok h a1 b1 ab r3
        cases r4 : gNum tp n (-999) 999 true p2 with
        | inl x => rw [r4] at e; cases e
        | inr x =>
          obtain ⟨c, p3⟩ := x
          rw [r4] at e
          injection e with e
          injection e with e1 e2
          obtain ⟨c1, -, c2, c3⟩ := gNum_ok b3 r4
          exact ⟨F1, k, c, ig a b, e1.symm, f1, k1, c1, ig_9 a1 b1 ab, by omega, by omega⟩
theorem gBd_ne {F : Nat → Int} {to j : Nat} {k c g : Int} (h : j < to ∨ to + 2 < j) : gBd F to k c g j = F j := by
  unfold gBd
  rw [fu_ne _ _ (by omega), fu_ne _ _ (by omega), fu_ne _ _ (by omega)]
theorem gBd_0 {F : Nat → Int} {to : Nat} {k c g : Int} : gBd F to k c g to = k ∧ gBd F to k c g (to + 1) = Int.tdiv c (ig c g) ∧ gBd F to k c g (to + 2) = Int.tdiv g (ig c g) := by
  unfold gBd
  refine ⟨?_, ?_, ?_⟩
  · rw [fu_ne _ _ (by omega), fu_ne _ _ (by omega), fu_eq]
  · rw [fu_ne _ _ (by omega), fu_eq]
  · rw [fu_eq]
/-- a bound more -/
theorem bok_more {W W' : Nat → Int} {n f i : Nat} {k c g : Int} (h : bokW W n f i) (hc : ∀ j, f ≤ j → j < f + 3 * i → W' j = W j) (h0 : W' (f + 3 * i) = k) (h1 : W' (f + 3 * i + 1) = Int.tdiv c (ig c g)) (h2 : W' (f + 3 * i + 2) = Int.tdiv g (ig c g)) (hk : 0 ≤ k ∧ k < (n : Int)) (hc' : -999 ≤ c ∧ c ≤ 999) (hg : 0 < g ∧ g ≤ 9) : bokW W' n f (i + 1) := by
  intro j hj
  by_cases e : j = i
  · subst e
    rw [h0, h1, h2]
    have := gBd_v hc' hg
    exact ⟨hk, this.1, this.2.1⟩
  · have : j < i := by omega
    rw [hc _ (by omega) (by omega), hc _ (by omega) (by omega), hc _ (by omega) (by omega)]
    exact h j this
theorem wf_keep {F : Nat → Int} {m i w : Nat} {k c g : Int} (h : wfF F) (hm : (m : Int) < F 0) (hw : w < 2) (hi : F (61 + w + 25 * m) = (i : Int)) (h4 : i < (if w = 0 then 4 else 3)) (hk : 0 ≤ k ∧ k < (wN F : Int)) (hc : -999 ≤ c ∧ c ≤ 999) (hg : 0 < g ∧ g ≤ 9) :
    wfF (fu (gBd F ((if w = 0 then 63 else 75) + 25 * m + 3 * i) k c g) (61 + w + 25 * m) ((i : Int) + 1)) := by
  obtain ⟨⟨w1, w2, w3, w4, w5, w6, w7⟩, z1, z2, z3⟩ := h
  generalize hto : (if w = 0 then 63 else 75) + 25 * m + 3 * i = to
  have tb : (w = 0 ∧ to = 63 + 25 * m + 3 * i ∧ i < 4) ∨ (w = 1 ∧ to = 75 + 25 * m + 3 * i ∧ i < 3) := by
    rcases (show w = 0 ∨ w = 1 by omega) with q | q
    · subst q; rw [if_pos rfl] at hto h4; exact Or.inl ⟨rfl, hto.symm, h4⟩
    · subst q; rw [if_neg (by omega)] at hto h4; exact Or.inr ⟨rfl, hto.symm, h4⟩
  generalize hF : fu (gBd F to k c g) (61 + w + 25 * m) ((i : Int) + 1) = F'
  have eo : ∀ j, (j < to ∨ to + 2 < j) → j ≠ 61 + w + 25 * m → F' j = F j := fun j h1 h2 => by rw [← hF, fu_ne _ _ h2, gBd_ne h1]
  have ec : F' (61 + w + 25 * m) = (i : Int) + 1 := by rw [← hF, fu_eq]
  have b0 := gBd_0 (F := F) (to := to) (k := k) (c := c) (g := g)
  have e0 : F' to = k := by rw [← hF, fu_ne _ _ (by omega)]; exact b0.1
  have e1 : F' (to + 1) = Int.tdiv c (ig c g) := by rw [← hF, fu_ne _ _ (by omega)]; exact b0.2.1
  have e2 : F' (to + 2) = Int.tdiv g (ig c g) := by rw [← hF, fu_ne _ _ (by omega)]; exact b0.2.2
  clear hF b0
  obtain ⟨wn, en, ab⟩ := wfN_mono w1 (eo 2 (by omega) (by omega)) (fun j j1 j2 => eo j (by omega) (by omega))
  refine ⟨⟨wn, ?_, ?_, ?_, fun m' hm' => ?_, fun e he => ?_, ?_⟩, fun m' hm' h6 => ?_, fun e he h10 => ?_, fun j hj => ?_⟩
  · rw [eo 0 (by omega) (by omega)]; exact w2
  · rw [eo 1 (by omega) (by omega)]; exact w3
  · rw [eo 3 (by omega) (by omega)]; exact w4
  · rw [eo 0 (by omega) (by omega)] at hm'
    by_cases cm : m' = m
    · subst cm
      obtain ⟨q1, q2, q3, q4, q5⟩ := w5 m' hm'
      rcases tb with ⟨t1, t2, t3⟩ | ⟨t1, t2, t3⟩
      · subst t1
        have ec' : F' (61 + 25 * m') = (i : Int) + 1 := ec
        have hi' : F (61 + 25 * m') = (i : Int) := hi
        unfold wfM
        rw [eo (59 + 25 * m') (by omega) (by omega), eo (60 + 25 * m') (by omega) (by omega), eo (62 + 25 * m') (by omega) (by omega), ec', en]
        rw [hi'] at q4
        refine ⟨q1, q2, perp_mono q3 (by omega) ab, ⟨by omega, ?_⟩, q5.1, bokW_mono q5.2 (Nat.le_refl _) (fun j j1 j2 => eo j (by omega) (by omega))⟩
        have := bok_more (W' := F') (k := k) (c := c) (g := g) q4.2 (fun j j1 j2 => eo j (by omega) (by omega)) (by rw [Int.toNat_natCast, ← t2]; exact e0) (by rw [Int.toNat_natCast, ← t2]; exact e1) (by rw [Int.toNat_natCast, ← t2]; exact e2) hk hc hg
        rw [show ((i : Int) + 1).toNat = (i : Int).toNat + 1 by omega]
        exact this
      · subst t1
        have ec' : F' (62 + 25 * m') = (i : Int) + 1 := ec
        have hi' : F (62 + 25 * m') = (i : Int) := hi
        unfold wfM
        rw [eo (59 + 25 * m') (by omega) (by omega), eo (60 + 25 * m') (by omega) (by omega), eo (61 + 25 * m') (by omega) (by omega), ec', en]
        rw [hi'] at q5
        refine ⟨q1, q2, perp_mono q3 (by omega) ab, ⟨q4.1, bokW_mono q4.2 (Nat.le_refl _) (fun j j1 j2 => eo j (by omega) (by omega))⟩, by omega, ?_⟩
        have := bok_more (W' := F') (k := k) (c := c) (g := g) q5.2 (fun j j1 j2 => eo j (by omega) (by omega)) (by rw [Int.toNat_natCast, ← t2]; exact e0) (by rw [Int.toNat_natCast, ← t2]; exact e1) (by rw [Int.toNat_natCast, ← t2]; exact e2) hk hc hg
        rw [show ((i : Int) + 1).toNat = (i : Int).toNat + 1 by omega]
        exact this
    · exact wfM_mono (w5 m' hm') (fun j j1 j2 => eo j (by omega) (by omega)) (by omega) ab
  · rw [eo 1 (by omega) (by omega)] at he
    exact wfE_mono (w6 e he) (fun j j1 j2 => eo j (by omega) (by omega)) (by omega) (by rw [eo 0 (by omega) (by omega)]; exact Int.le_refl _)
  · unfold wfS at *
    rw [eo 4 (by omega) (by omega), eo 5 (by omega) (by omega), eo 6 (by omega) (by omega), eo 7 (by omega) (by omega), eo 8 (by omega) (by omega), eo 9 (by omega) (by omega), eo 0 (by omega) (by omega)]
    exact w7
  · rw [eo 0 (by omega) (by omega)] at hm'
    rw [eo _ (by omega) (by omega), eo _ (by omega) (by omega)]
    exact z1 m' hm' h6
  · rw [eo 1 (by omega) (by omega)] at he
    rw [eo _ (by omega) (by omega), eo _ (by omega) (by omega), eo _ (by omega) (by omega), eo _ (by omega) (by omega), eo _ (by omega) (by omega)]
    exact z2 e he h10
  · rw [eo _ (by omega) (by omega)]
    exact z3 j hj
theorem wf_when {F : Nat → Int} {m i : Nat} {k c g : Int} (h : wfF F) (hm : (m : Int) < F 1) (hi : F (211 + 19 * m) = (i : Int)) (h4 : i < 4) (hk : 0 ≤ k ∧ k < (wN F : Int)) (hc : -999 ≤ c ∧ c ≤ 999) (hg : 0 < g ∧ g ≤ 9) :
    wfF (fu (gBd F (216 + 19 * m + 3 * i) k c g) (211 + 19 * m) ((i : Int) + 1)) := by
  obtain ⟨⟨w1, w2, w3, w4, w5, w6, w7⟩, z1, z2, z3⟩ := h
  generalize hF : fu (gBd F (216 + 19 * m + 3 * i) k c g) (211 + 19 * m) ((i : Int) + 1) = F'
  have eo : ∀ j, (j < 216 + 19 * m + 3 * i ∨ 216 + 19 * m + 3 * i + 2 < j) → j ≠ 211 + 19 * m → F' j = F j := fun j h1 h2 => by rw [← hF, fu_ne _ _ h2, gBd_ne h1]
  have ec : F' (211 + 19 * m) = (i : Int) + 1 := by rw [← hF, fu_eq]
  have b0 := gBd_0 (F := F) (to := 216 + 19 * m + 3 * i) (k := k) (c := c) (g := g)
  have e0 : F' (216 + 19 * m + 3 * i) = k := by rw [← hF, fu_ne _ _ (by omega)]; exact b0.1
  have e1 : F' (216 + 19 * m + 3 * i + 1) = Int.tdiv c (ig c g) := by rw [← hF, fu_ne _ _ (by omega)]; exact b0.2.1
  have e2 : F' (216 + 19 * m + 3 * i + 2) = Int.tdiv g (ig c g) := by rw [← hF, fu_ne _ _ (by omega)]; exact b0.2.2
  clear hF b0
  obtain ⟨wn, en, ab⟩ := wfN_mono w1 (eo 2 (by omega) (by omega)) (fun j j1 j2 => eo j (by omega) (by omega))
  refine ⟨⟨wn, ?_, ?_, ?_, fun m' hm' => ?_, fun e he => ?_, ?_⟩, fun m' hm' h6 => ?_, fun e he h10 => ?_, fun j hj => ?_⟩
  · rw [eo 0 (by omega) (by omega)]; exact w2
  · rw [eo 1 (by omega) (by omega)]; exact w3
  · rw [eo 3 (by omega) (by omega)]; exact w4
  · rw [eo 0 (by omega) (by omega)] at hm'
    exact wfM_mono (w5 m' hm') (fun j j1 j2 => eo j (by omega) (by omega)) (by omega) ab
  · rw [eo 1 (by omega) (by omega)] at he
    by_cases cm : e = m
    · subst cm
      obtain ⟨q1, q2, q3, q4⟩ := w6 e he
      unfold wfE
      rw [eo (209 + 19 * e) (by omega) (by omega), eo (210 + 19 * e) (by omega) (by omega), eo (212 + 19 * e) (by omega) (by omega), eo (213 + 19 * e) (by omega) (by omega), eo (214 + 19 * e) (by omega) (by omega), eo (215 + 19 * e) (by omega) (by omega), ec, en, eo 0 (by omega) (by omega)]
      rw [hi] at q3
      refine ⟨q1, q2, ⟨by omega, ?_⟩, q4⟩
      have := bok_more (W' := F') (k := k) (c := c) (g := g) q3.2 (fun j j1 j2 => eo j (by omega) (by omega)) (by rw [Int.toNat_natCast]; exact e0) (by rw [Int.toNat_natCast]; exact e1) (by rw [Int.toNat_natCast]; exact e2) hk hc hg
      rw [show ((i : Int) + 1).toNat = (i : Int).toNat + 1 by omega]
      exact this
    · exact wfE_mono (w6 e he) (fun j j1 j2 => eo j (by omega) (by omega)) (by omega) (by rw [eo 0 (by omega) (by omega)]; exact Int.le_refl _)
  · unfold wfS at *
    rw [eo 4 (by omega) (by omega), eo 5 (by omega) (by omega), eo 6 (by omega) (by omega), eo 7 (by omega) (by omega), eo 8 (by omega) (by omega), eo 9 (by omega) (by omega), eo 0 (by omega) (by omega)]
    exact w7
  · rw [eo 0 (by omega) (by omega)] at hm'
    rw [eo _ (by omega) (by omega), eo _ (by omega) (by omega)]
    exact z1 m' hm' h6
  · rw [eo 1 (by omega) (by omega)] at he
    rw [eo _ (by omega) (by omega), eo _ (by omega) (by omega), eo _ (by omega) (by omega), eo _ (by omega) (by omega), eo _ (by omega) (by omega)]
    exact z2 e he h10
  · rw [eo _ (by omega) (by omega)]
    exact z3 j hj
theorem wf_own {F : Nat → Int} {a b : Int} (h : wfF F) (h6 : F 0 ≠ 6) (ha : -9 ≤ a ∧ a ≤ 9) (hb : -9 ≤ b ∧ b ≤ 9) (hp : perp F a b) : wfF (gMk F a b) := by
  obtain ⟨⟨w1, w2, w3, w4, w5, w6, w7⟩, z1, z2, z3⟩ := h
  have hm : F 0 = (((F 0).toNat : Nat) : Int) := by omega
  generalize hmm : (F 0).toNat = m at hm
  generalize hF : gMk F a b = F'
  have eo : ∀ j, j ≠ 0 → j ≠ 59 + 25 * m → j ≠ 60 + 25 * m → F' j = F j := fun j h1 h2 h3 => by rw [← hF]; unfold gMk; rw [hmm, fu_ne _ _ h1, fu_ne _ _ h3, fu_ne _ _ h2]
  have e0 : F' 0 = (m : Int) + 1 := by rw [← hF]; unfold gMk; rw [fu_eq, hm]
  have ea : F' (59 + 25 * m) = a := by rw [← hF]; unfold gMk; rw [hmm, fu_ne _ _ (by omega), fu_ne _ _ (by omega), fu_eq]
  have eb : F' (60 + 25 * m) = b := by rw [← hF]; unfold gMk; rw [hmm, fu_ne _ _ (by omega), fu_eq]
  clear hF
  obtain ⟨wn, en, ab⟩ := wfN_mono w1 (eo 2 (by omega) (by omega) (by omega)) (fun j j1 j2 => eo j (by omega) (by omega) (by omega))
  refine ⟨⟨wn, by omega, ?_, ?_, fun m' hm' => ?_, fun e he => ?_, ?_⟩, fun m' hm' h6' => ?_, fun e he h10 => ?_, fun j hj => ?_⟩
  · rw [eo 1 (by omega) (by omega) (by omega)]; exact w3
  · rw [eo 3 (by omega) (by omega) (by omega)]; exact w4
  · rw [e0] at hm'
    by_cases cm : m' = m
    · subst cm
      have zz := z1 m' (by omega) (by omega)
      unfold wfM
      rw [ea, eb, eo (61 + 25 * m') (by omega) (by omega) (by omega), eo (62 + 25 * m') (by omega) (by omega) (by omega), zz.1, zz.2]
      exact ⟨ha, hb, perp_mono hp (by omega) ab, ⟨by decide, fun i hi => absurd hi (by simp)⟩, by decide, fun i hi => absurd hi (by simp)⟩
    · exact wfM_mono (w5 m' (by omega)) (fun j j1 j2 => eo j (by omega) (by omega) (by omega)) (by omega) ab
  · rw [eo 1 (by omega) (by omega) (by omega)] at he
    exact wfE_mono (w6 e he) (fun j j1 j2 => eo j (by omega) (by omega) (by omega)) (by omega) (by omega)
  · unfold wfS at *
    rw [eo 4 (by omega) (by omega) (by omega), eo 5 (by omega) (by omega) (by omega), eo 6 (by omega) (by omega) (by omega), eo 7 (by omega) (by omega) (by omega), eo 8 (by omega) (by omega) (by omega), eo 9 (by omega) (by omega) (by omega)]
    rcases w7 with w | ⟨w, v, u⟩
    · exact Or.inl w
    · exact Or.inr ⟨w, by omega, u⟩
  · rw [e0] at hm'
    rw [eo _ (by omega) (by omega) (by omega), eo _ (by omega) (by omega) (by omega)]
    exact z1 m' (by omega) h6'
  · rw [eo 1 (by omega) (by omega) (by omega)] at he
    rw [eo _ (by omega) (by omega) (by omega), eo _ (by omega) (by omega) (by omega), eo _ (by omega) (by omega) (by omega), eo _ (by omega) (by omega) (by omega), eo _ (by omega) (by omega) (by omega)]
    exact z2 e he h10
  · rw [eo _ (by omega) (by omega) (by omega)]
    exact z3 j hj
theorem wf_edge {F : Nat → Int} {a b : Int} (h : wfF F) (h6 : F 1 ≠ 10) (ha : 0 ≤ a ∧ a < F 0) (hb : 0 ≤ b ∧ b < F 0) : wfF (gEd F a b) := by
  obtain ⟨⟨w1, w2, w3, w4, w5, w6, w7⟩, z1, z2, z3⟩ := h
  have hm : F 1 = (((F 1).toNat : Nat) : Int) := by omega
  generalize hmm : (F 1).toNat = m at hm
  generalize hF : gEd F a b = F'
  have eo : ∀ j, j ≠ 1 → j ≠ 209 + 19 * m → j ≠ 210 + 19 * m → F' j = F j := fun j h1 h2 h3 => by rw [← hF]; unfold gEd; rw [hmm, fu_ne _ _ h1, fu_ne _ _ h3, fu_ne _ _ h2]
  have e0 : F' 1 = (m : Int) + 1 := by rw [← hF]; unfold gEd; rw [fu_eq, hm]
  have ea : F' (209 + 19 * m) = a := by rw [← hF]; unfold gEd; rw [hmm, fu_ne _ _ (by omega), fu_ne _ _ (by omega), fu_eq]
  have eb : F' (210 + 19 * m) = b := by rw [← hF]; unfold gEd; rw [hmm, fu_ne _ _ (by omega), fu_eq]
  clear hF
  obtain ⟨wn, en, ab⟩ := wfN_mono w1 (eo 2 (by omega) (by omega) (by omega)) (fun j j1 j2 => eo j (by omega) (by omega) (by omega))
  refine ⟨⟨wn, ?_, by omega, ?_, fun m' hm' => ?_, fun e he => ?_, ?_⟩, fun m' hm' h6' => ?_, fun e he h10 => ?_, fun j hj => ?_⟩
  · rw [eo 0 (by omega) (by omega) (by omega)]; exact w2
  · rw [eo 3 (by omega) (by omega) (by omega)]; exact w4
  · rw [eo 0 (by omega) (by omega) (by omega)] at hm'
    exact wfM_mono (w5 m' hm') (fun j j1 j2 => eo j (by omega) (by omega) (by omega)) (by omega) ab
  · rw [e0] at he
    by_cases cm : e = m
    · subst cm
      have zz := z2 e (by omega) (by omega)
      unfold wfE
      rw [ea, eb, eo (211 + 19 * e) (by omega) (by omega) (by omega), eo (212 + 19 * e) (by omega) (by omega) (by omega), eo (213 + 19 * e) (by omega) (by omega) (by omega), eo (214 + 19 * e) (by omega) (by omega) (by omega), eo (215 + 19 * e) (by omega) (by omega) (by omega), zz.1, zz.2.1, zz.2.2.1, zz.2.2.2.1, zz.2.2.2.2, eo 0 (by omega) (by omega) (by omega)]
      exact ⟨ha, hb, ⟨by decide, fun i hi => absurd hi (by simp)⟩, by decide, by decide, by decide, by decide, fun _ => rfl, fun _ => rfl⟩
    · exact wfE_mono (w6 e (by omega)) (fun j j1 j2 => eo j (by omega) (by omega) (by omega)) (by omega) (by rw [eo 0 (by omega) (by omega) (by omega)]; exact Int.le_refl _)
  · unfold wfS at *
    rw [eo 4 (by omega) (by omega) (by omega), eo 5 (by omega) (by omega) (by omega), eo 6 (by omega) (by omega) (by omega), eo 7 (by omega) (by omega) (by omega), eo 8 (by omega) (by omega) (by omega), eo 9 (by omega) (by omega) (by omega), eo 0 (by omega) (by omega) (by omega)]
    exact w7
  · rw [eo 0 (by omega) (by omega) (by omega)] at hm'
    rw [eo _ (by omega) (by omega) (by omega), eo _ (by omega) (by omega) (by omega)]
    exact z1 m' hm' h6'
  · rw [e0] at he
    rw [eo _ (by omega) (by omega) (by omega), eo _ (by omega) (by omega) (by omega), eo _ (by omega) (by omega) (by omega), eo _ (by omega) (by omega) (by omega), eo _ (by omega) (by omega) (by omega)]
    exact z2 e (by omega) h10
  · rw [eo _ (by omega) (by omega) (by omega)]
    exact z3 j hj
theorem wf_deed {F : Nat → Int} {m w : Nat} {a b : Int} (h : wfF F) (hm : (m : Int) < F 1) (hw : w < 2) (ha : 0 < a ∧ a ≤ 2) (hb : -999 ≤ b ∧ b ≤ 999) : wfF (fu (fu F (212 + 2 * w + 19 * m) a) (212 + 2 * w + 19 * m + 1) b) := by
  obtain ⟨⟨w1, w2, w3, w4, w5, w6, w7⟩, z1, z2, z3⟩ := h
  generalize hF : fu (fu F (212 + 2 * w + 19 * m) a) (212 + 2 * w + 19 * m + 1) b = F'
  have eo : ∀ j, j ≠ 212 + 2 * w + 19 * m → j ≠ 212 + 2 * w + 19 * m + 1 → F' j = F j := fun j h1 h2 => by rw [← hF, fu_ne _ _ h2, fu_ne _ _ h1]
  have ea : F' (212 + 2 * w + 19 * m) = a := by rw [← hF, fu_ne _ _ (by omega), fu_eq]
  have eb : F' (212 + 2 * w + 19 * m + 1) = b := by rw [← hF, fu_eq]
  clear hF
  obtain ⟨wn, en, ab⟩ := wfN_mono w1 (eo 2 (by omega) (by omega)) (fun j j1 j2 => eo j (by omega) (by omega))
  refine ⟨⟨wn, ?_, ?_, ?_, fun m' hm' => ?_, fun e he => ?_, ?_⟩, fun m' hm' h6' => ?_, fun e he h10 => ?_, fun j hj => ?_⟩
  · rw [eo 0 (by omega) (by omega)]; exact w2
  · rw [eo 1 (by omega) (by omega)]; exact w3
  · rw [eo 3 (by omega) (by omega)]; exact w4
  · rw [eo 0 (by omega) (by omega)] at hm'
    exact wfM_mono (w5 m' hm') (fun j j1 j2 => eo j (by omega) (by omega)) (by omega) ab
  · rw [eo 1 (by omega) (by omega)] at he
    by_cases cm : e = m
    · subst cm
      obtain ⟨q1, q2, q3, q4, q5, q6, q7, q8, q9⟩ := w6 e he
      unfold wfE
      rw [eo (209 + 19 * e) (by omega) (by omega), eo (210 + 19 * e) (by omega) (by omega), eo (211 + 19 * e) (by omega) (by omega), en, eo 0 (by omega) (by omega)]
      refine ⟨q1, q2, ⟨q3.1, bokW_mono q3.2 (Nat.le_refl _) (fun j j1 j2 => eo j (by omega) (by omega))⟩, ?_⟩
      rcases (show w = 0 ∨ w = 1 by omega) with q | q
      · subst q
        have ea' : F' (212 + 19 * e) = a := ea
        have eb' : F' (213 + 19 * e) = b := by rw [← eb]; congr 1; omega
        rw [ea', eb', eo (214 + 19 * e) (by omega) (by omega), eo (215 + 19 * e) (by omega) (by omega)]
        exact ⟨by omega, hb, q6, q7, fun x => by omega, q9⟩
      · subst q
        have ea' : F' (214 + 19 * e) = a := ea
        have eb' : F' (215 + 19 * e) = b := by rw [← eb]; congr 1; omega
        rw [ea', eb', eo (212 + 19 * e) (by omega) (by omega), eo (213 + 19 * e) (by omega) (by omega)]
        exact ⟨q4, q5, by omega, hb, q8, fun x => by omega⟩
    · exact wfE_mono (w6 e he) (fun j j1 j2 => eo j (by omega) (by omega)) (by omega) (by rw [eo 0 (by omega) (by omega)]; exact Int.le_refl _)
  · unfold wfS at *
    rw [eo 4 (by omega) (by omega), eo 5 (by omega) (by omega), eo 6 (by omega) (by omega), eo 7 (by omega) (by omega), eo 8 (by omega) (by omega), eo 9 (by omega) (by omega), eo 0 (by omega) (by omega)]
    exact w7
  · rw [eo 0 (by omega) (by omega)] at hm'
    rw [eo _ (by omega) (by omega), eo _ (by omega) (by omega)]
    exact z1 m' hm' h6'
  · rw [eo 1 (by omega) (by omega)] at he
    rw [eo _ (by omega) (by omega), eo _ (by omega) (by omega), eo _ (by omega) (by omega), eo _ (by omega) (by omega), eo _ (by omega) (by omega)]
    exact z2 e he h10
  · rw [eo _ (by omega) (by omega)]
    exact z3 j hj
/-- cells 3 to 10 -/
theorem wf_low {F F' : Nat → Int} (h : wfF F) (eo : ∀ j, (j < 3 ∨ 10 < j) → F' j = F j) (h3 : 1 ≤ F' 3 ∧ F' 3 ≤ 8) (hs : F' 4 = 0 ∨ F' 4 = 1 ∧ (0 ≤ F' 5 ∧ F' 5 < F' 0) ∧ wfS F') : wfF F' := by
  obtain ⟨⟨w1, w2, w3, w4, w5, w6, w7⟩, z1, z2, z3⟩ := h
  obtain ⟨wn, en, ab⟩ := wfN_mono w1 (eo 2 (by omega)) (fun j j1 j2 => eo j (by omega))
  refine ⟨⟨wn, ?_, ?_, h3, fun m' hm' => ?_, fun e he => ?_, hs⟩, fun m' hm' h6' => ?_, fun e he h10 => ?_, fun j hj => ?_⟩
  · rw [eo 0 (by omega)]; exact w2
  · rw [eo 1 (by omega)]; exact w3
  · rw [eo 0 (by omega)] at hm'
    exact wfM_mono (w5 m' hm') (fun j j1 j2 => eo j (by omega)) (by omega) ab
  · rw [eo 1 (by omega)] at he
    exact wfE_mono (w6 e he) (fun j j1 j2 => eo j (by omega)) (by omega) (by rw [eo 0 (by omega)]; exact Int.le_refl _)
  · rw [eo 0 (by omega)] at hm'
    rw [eo _ (by omega), eo _ (by omega)]
    exact z1 m' hm' h6'
  · rw [eo 1 (by omega)] at he
    rw [eo _ (by omega), eo _ (by omega), eo _ (by omega), eo _ (by omega), eo _ (by omega)]
    exact z2 e he h10
  · rw [eo _ (by omega)]
    exact z3 j hj
theorem wf_F0 : wfF gF0 := by
  have hm : ∀ m : Nat, m < 24 → gF0 (11 + 2 * m) = (if m = 0 then 1 else if m = 1 then -1 else 0) ∧ gF0 (11 + 2 * m + 1) = (if m = 2 then 1 else if m = 3 then -1 else 0) := by
    intro m hm
    unfold gF0
    constructor <;> (repeat' split) <;> omega
  refine ⟨⟨⟨by decide, fun k hk => ?_, by unfold bx4; decide⟩, by decide, by decide, by decide, fun m h => absurd h (by simp [gF0]), fun e h => absurd h (by simp [gF0]), Or.inl rfl⟩, fun m h h6 => ?_, fun e h h10 => ?_, fun j hj => ?_⟩
  · have k4 : k < 4 := hk
    rcases (show k = 0 ∨ k = 1 ∨ k = 2 ∨ k = 3 by omega) with q | q | q | q <;> subst q <;> refine ⟨by unfold nrm; decide, by decide, fun j hj jk => ?_⟩ <;> (have j4 : j < 4 := hj; rcases (show j = 0 ∨ j = 1 ∨ j = 2 ∨ j = 3 by omega) with q | q | q | q <;> subst q <;> first | exact absurd rfl jk | decide)
  · unfold gF0; constructor <;> (repeat' split) <;> omega
  · unfold gF0; refine ⟨?_, ?_, ?_, ?_, ?_⟩ <;> (repeat' split) <;> omega
  · unfold gF0; (repeat' split) <;> omega

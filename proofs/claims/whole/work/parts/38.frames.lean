/-! The reference: limits that are made tight, by the points that hold them. -/
theorem rset_wI (S : jS) (k : Nat) (a d : Int) (j : Nat) : wI (rset S k a d) j = if j = k then 1 else wI S j := (rset_w S k a d j).1
theorem rset_wU (S : jS) (k : Nat) (a d : Int) (j : Nat) : wU (rset S k a d) j = if j = k then a else wU S j := (rset_w S k a d j).2.1
theorem rset_wD (S : jS) (k : Nat) (a d : Int) (j : Nat) : wD (rset S k a d) j = if j = k then d else wD S j := (rset_w S k a d j).2.2
theorem rjs_o (S' : jS) (xh yh x y : Int) {p j : Nat} (h : p ≠ RB + 5 ∧ p ≠ RB + 6 ∧ p ≠ RB + 7) : rjs S' xh yh x y p j = S' p j := by
  unfold rjs
  split <;> split <;> simp only [rset_o _ _ _ _ h]
theorem rjs_w (S' : jS) (xh yh x y : Int) (k : Nat) :
    (wI (rjs S' xh yh x y) k = if (xh = 1 ∧ k < 2) ∨ (yh = 1 ∧ 2 ≤ k ∧ k < 4) then 1 else wI S' k) ∧
    (wU (rjs S' xh yh x y) k = if xh = 1 ∧ k < 2 then (if k = 0 then x else -x) else if yh = 1 ∧ 2 ≤ k ∧ k < 4 then (if k = 2 then y else -y) else wU S' k) ∧
    (wD (rjs S' xh yh x y) k = if (xh = 1 ∧ k < 2) ∨ (yh = 1 ∧ 2 ≤ k ∧ k < 4) then 1 else wD S' k) := by
  unfold rjs
  by_cases hx : xh = 1
  · rw [if_pos hx]
    by_cases hy : yh = 1
    · rw [if_pos hy]
      simp only [rset_wI, rset_wU, rset_wD, hx, hy, true_and]
      refine ⟨?_, ?_, ?_⟩
      · by_cases c : k < 4
        · rw [if_pos (show k < 2 ∨ 2 ≤ k ∧ k < 4 by omega)]
          by_cases c3 : k = 3
          · rw [if_pos c3]
          · rw [if_neg c3]
            by_cases c2 : k = 2
            · rw [if_pos c2]
            · rw [if_neg c2]
              by_cases c1 : k = 1
              · rw [if_pos c1]
              · rw [if_neg c1, if_pos (by omega)]
        · rw [if_neg (by omega), if_neg (by omega), if_neg (by omega), if_neg (by omega), if_neg (by omega)]
      · by_cases c3 : k = 3
        · rw [if_pos c3, if_neg (by omega), if_pos (by omega), if_neg (by omega)]
        · rw [if_neg c3]
          by_cases c2 : k = 2
          · rw [if_pos c2, if_neg (by omega), if_pos (by omega), if_pos c2]
          · rw [if_neg c2]
            by_cases c1 : k = 1
            · rw [if_pos c1, if_pos (by omega), if_neg (by omega)]
            · rw [if_neg c1]
              by_cases c0 : k = 0
              · rw [if_pos c0, if_pos (by omega), if_pos c0]
              · rw [if_neg c0, if_neg (by omega), if_neg (by omega)]
      · by_cases c : k < 4
        · rw [if_pos (show k < 2 ∨ 2 ≤ k ∧ k < 4 by omega)]
          by_cases c3 : k = 3
          · rw [if_pos c3]
          · rw [if_neg c3]
            by_cases c2 : k = 2
            · rw [if_pos c2]
            · rw [if_neg c2]
              by_cases c1 : k = 1
              · rw [if_pos c1]
              · rw [if_neg c1, if_pos (by omega)]
        · rw [if_neg (by omega), if_neg (by omega), if_neg (by omega), if_neg (by omega), if_neg (by omega)]
    · rw [if_neg hy]
      simp only [rset_wI, rset_wU, rset_wD, hx, hy, true_and, false_and, or_false, if_false]
      refine ⟨?_, ?_, ?_⟩
      · by_cases c1 : k = 1
        · rw [if_pos c1, if_pos (by omega)]
        · rw [if_neg c1]
          by_cases c0 : k = 0
          · rw [if_pos c0, if_pos (by omega)]
          · rw [if_neg c0, if_neg (by omega)]
      · by_cases c1 : k = 1
        · rw [if_pos c1, if_pos (by omega), if_neg (by omega)]
        · rw [if_neg c1]
          by_cases c0 : k = 0
          · rw [if_pos c0, if_pos (by omega), if_pos c0]
          · rw [if_neg c0, if_neg (by omega)]
      · by_cases c1 : k = 1
        · rw [if_pos c1, if_pos (by omega)]
        · rw [if_neg c1]
          by_cases c0 : k = 0
          · rw [if_pos c0, if_pos (by omega)]
          · rw [if_neg c0, if_neg (by omega)]
  · rw [if_neg hx]
    by_cases hy : yh = 1
    · rw [if_pos hy]
      simp only [rset_wI, rset_wU, rset_wD, hx, hy, true_and, false_and, false_or, if_false]
      refine ⟨?_, ?_, ?_⟩
      · by_cases c1 : k = 3
        · rw [if_pos c1, if_pos (by omega)]
        · rw [if_neg c1]
          by_cases c0 : k = 2
          · rw [if_pos c0, if_pos (by omega)]
          · rw [if_neg c0, if_neg (by omega)]
      · by_cases c1 : k = 3
        · rw [if_pos c1, if_pos (by omega), if_neg (by omega)]
        · rw [if_neg c1]
          by_cases c0 : k = 2
          · rw [if_pos c0, if_pos (by omega), if_pos c0]
          · rw [if_neg c0, if_neg (by omega)]
      · by_cases c1 : k = 3
        · rw [if_pos c1, if_pos (by omega)]
        · rw [if_neg c1]
          by_cases c0 : k = 2
          · rw [if_pos c0, if_pos (by omega)]
          · rw [if_neg c0, if_neg (by omega)]
    · rw [if_neg hy]
      simp only [hx, hy, false_and, or_self, if_false, and_self]
theorem jstay_i (xh yh a b : Int) : jstay xh yh a b ≠ 0 ↔ (xh ≠ 1 ∨ a = 0) ∧ (yh ≠ 1 ∨ b = 0) := by
  unfold jstay
  split
  · rename_i h; exact ⟨fun _ => h, fun _ => by decide⟩
  · rename_i h; exact ⟨fun q => absurd rfl q, fun q => absurd q h⟩
theorem hol_jump {S S' : jS} {n e : Nat} {X Y B : Int} (hn : nok S n) (hN : nN S = (n : Int))
    (inv : jinv S S' (S (RB + 2) (212 + 19 * e)) (S (RB + 2) (214 + 19 * e)) (S (RB + 2) (213 + 19 * e)) (S (RB + 2) (215 + 19 * e)) n) :
    hol (rjs S' (S (RB + 2) (212 + 19 * e)) (S (RB + 2) (214 + 19 * e)) (S (RB + 2) (213 + 19 * e)) (S (RB + 2) (215 + 19 * e))) n X Y B ↔ jumpF (S (RB + 2)) e (wU S) (wD S) X Y B := by
  obtain ⟨i1, i2, i3⟩ := inv
  have eA : ∀ k, nA (rjs S' (S (RB + 2) (212 + 19 * e)) (S (RB + 2) (214 + 19 * e)) (S (RB + 2) (213 + 19 * e)) (S (RB + 2) (215 + 19 * e))) k = nA S k := fun k => by
    unfold nA; rw [rjs_o _ _ _ _ _ (by simp)]; exact i1 _ _ (by simp) (by simp)
  have eB : ∀ k, nB (rjs S' (S (RB + 2) (212 + 19 * e)) (S (RB + 2) (214 + 19 * e)) (S (RB + 2) (213 + 19 * e)) (S (RB + 2) (215 + 19 * e))) k = nB S k := fun k => by
    unfold nB; rw [rjs_o _ _ _ _ _ (by simp)]; exact i1 _ _ (by simp) (by simp)
  obtain ⟨-, h4, b1, b2, b3, b4, b5, b6, b7, b8⟩ := hn
  have eD : ∀ k, wD S' k = wD S k := fun k => i1 _ _ (by simp) (by simp)
  unfold hol jumpF limF
  rw [wN_n hN]
  have sA : ∀ k, wA (S (RB + 2)) k = nA S k := fun k => rfl
  have sB : ∀ k, wB (S (RB + 2)) k = nB S k := fun k => rfl
  simp only [eA, eB, (rjs_w _ _ _ _ _ _).1, (rjs_w _ _ _ _ _ _).2.1, (rjs_w _ _ _ _ _ _).2.2, sA, sB]
  constructor
  · intro h
    refine ⟨fun k hk st => ?_, fun hx => ?_, fun hy => ?_⟩
    · have q := h k hk
      have nx : ¬ (S (RB + 2) (212 + 19 * e) = 1 ∧ k < 2) := fun c => by
        rcases st.1 with s | s
        · exact s c.1
        · rw [sA] at s
          rcases Nat.lt_or_ge k 1 with g | g
          · have : k = 0 := by omega
            rw [this] at s; omega
          · have : k = 1 := by omega
            rw [this] at s; omega
      have ny : ¬ (S (RB + 2) (214 + 19 * e) = 1 ∧ 2 ≤ k ∧ k < 4) := fun c => by
        rcases st.2 with s | s
        · exact s c.1
        · rw [sB] at s
          rcases Nat.lt_or_ge k 3 with g | g
          · have : k = 2 := by omega
            rw [this] at s; omega
          · have : k = 3 := by omega
            rw [this] at s; omega
      rw [if_neg (fun c => c.elim nx ny), if_neg nx, if_neg ny, if_neg (fun c => c.elim nx ny), (i2 k hk).1, (i2 k hk).2, eD] at q
      exact q ((jstay_i _ _ _ _).mpr st)
    · have q0 := h 0 (by omega)
      have q1 := h 1 (by omega)
      simp [hx, b1, b2] at q0
      simp [hx, b3, b4] at q1
      rw [Int.neg_mul] at q1
      omega
    · have q0 := h 2 (by omega)
      have q1 := h 3 (by omega)
      simp [hy, b5, b6] at q0
      simp [hy, b7, b8] at q1
      rw [Int.neg_mul] at q1
      omega
  · rintro ⟨h1, h2, h3⟩ k hk
    by_cases c1 : S (RB + 2) (212 + 19 * e) = 1 ∧ k < 2
    · rw [if_pos (Or.inl c1), if_pos c1, if_pos (Or.inl c1)]
      intro _
      have hx := h2 c1.1
      have : -S (RB + 2) (213 + 19 * e) * B = -(S (RB + 2) (213 + 19 * e) * B) := by grind
      rcases Nat.lt_or_ge k 1 with g | g
      · have : k = 0 := by omega
        subst this
        rw [if_pos rfl, b1, b2]; omega
      · have : k = 1 := by omega
        subst this
        rw [if_neg (by omega), b3, b4]; omega
    · by_cases c2 : S (RB + 2) (214 + 19 * e) = 1 ∧ 2 ≤ k ∧ k < 4
      · rw [if_pos (Or.inr c2), if_neg c1, if_pos c2, if_pos (Or.inr c2)]
        intro _
        have hy := h3 c2.1
        have : -S (RB + 2) (215 + 19 * e) * B = -(S (RB + 2) (215 + 19 * e) * B) := by grind
        rcases Nat.lt_or_ge k 3 with g | g
        · have : k = 2 := by omega
          subst this
          rw [if_pos rfl, b5, b6]; omega
        · have : k = 3 := by omega
          subst this
          rw [if_neg (by omega), b7, b8]; omega
      · rw [if_neg (fun c => c.elim c1 c2), if_neg c1, if_neg c2, if_neg (fun c => c.elim c1 c2), (i2 k hk).1, (i2 k hk).2, eD]
        intro st
        exact h1 k hk ((jstay_i _ _ _ _).mp st)
theorem gW_jump {S S' : jS} {n e : Nat} (hN : gN S n) (ho : eok S n e) (hU : ∀ k, k < n → (-3000000 ≤ wU S k ∧ wU S k ≤ 3000000) ∧ 0 < wD S k ∧ wD S k ≤ 3000)
    (inv : jinv S S' (S (RB + 2) (212 + 19 * e)) (S (RB + 2) (214 + 19 * e)) (S (RB + 2) (213 + 19 * e)) (S (RB + 2) (215 + 19 * e)) n) :
    gW (rjs S' (S (RB + 2) (212 + 19 * e)) (S (RB + 2) (214 + 19 * e)) (S (RB + 2) (213 + 19 * e)) (S (RB + 2) (215 + 19 * e))) n := by
  obtain ⟨i1, i2, i3⟩ := inv
  obtain ⟨-, -, o1, o2, o3, o4⟩ := ho
  intro k hk
  obtain ⟨a1, a2⟩ := hN.2.2 k hk
  obtain ⟨u1, u2⟩ := hU k hk
  have sb := jshf_bd (xh := S (RB + 2) (212 + 19 * e)) (yh := S (RB + 2) (214 + 19 * e)) o2 o4 a1 a2
  have m3 := mul_bd (y := wD S k) (A := 17982) (B := 3000) sb ⟨by omega, by omega⟩
  have eD : wD S' k = wD S k := i1 _ _ (by simp) (by simp)
  rw [(rjs_w _ _ _ _ _ _).1, (rjs_w _ _ _ _ _ _).2.1, (rjs_w _ _ _ _ _ _).2.2, (i2 k hk).1, (i2 k hk).2, eD]
  refine ⟨?_, fun _ => ⟨?_, ?_⟩⟩
  · split
    · exact Or.inr rfl
    · unfold jstay; split
      · exact Or.inr rfl
      · exact Or.inl rfl
  · split
    · split <;> omega
    · split
      · split <;> omega
      · omega
  · split <;> omega
/-- what limits that are made tight leave as it was -/
def fr9 (S S' : jS) : Prop := (∀ r j, r ≠ RB → r ≠ RB + 5 → r ≠ RB + 6 → r ≠ RB + 7 → r ≠ RB + 8 → r ≠ RB + 9 → S' r j = S r j) ∧ ∀ k, (k < 22 ∨ 24 < k) → S' RB k = S RB k
theorem fr9.trans {S S' S'' : jS} (h : fr9 S S') (h' : fr9 S' S'') : fr9 S S'' := ⟨fun r j a b c d e f => by rw [h'.1 r j a b c d e f, h.1 r j a b c d e f], fun k hk => by rw [h'.2 k hk, h.2 k hk]⟩
theorem fr9.refl (S : jS) : fr9 S S := ⟨fun _ _ _ _ _ _ _ _ => rfl, fun _ _ => rfl⟩
theorem fr9.of {S S' : jS} (h : ∀ r j, (r ≠ RB + 5 ∧ r ≠ RB + 6 ∧ r ≠ RB + 7) → S' r j = S r j) : fr9 S S' := ⟨fun r j _ b c d _ _ => h r j ⟨b, c, d⟩, fun k _ => h RB k (by simp)⟩
theorem fr9.w {S S' : jS} (h : fr9 S S') (j : Nat) : S' (RB + 2) j = S (RB + 2) j := h.1 _ _ (by simp) (by simp) (by simp) (by simp) (by simp) (by simp)
theorem fr9.W {S S' : jS} (h : fr9 S S') : S' (RB + 2) = S (RB + 2) := funext h.w
/-- limits as the points F have them -/
def tight (S : jS) (n : Nat) (F : Int → Int → Int → Prop) : Prop := ∀ k, k < n → wI S k = 1 ∧ wU S k = tuF (S (RB + 2)) F k ∧ wD S k = tdF (S (RB + 2)) F k ∧ supP F (wA (S (RB + 2)) k) (wB (S (RB + 2)) k) (wU S k) (wD S k) ∧ (-1000000000000000 ≤ wU S k ∧ wU S k ≤ 1000000000000000) ∧ 0 < wD S k ∧ wD S k ≤ 10000000000
theorem tight_of {S S' : jS} {n : Nat} {F : Int → Int → Int → Prop} (hW : gW S n) (hn : nok S n) (h4 : ∀ k, k < 4 → wI S k ≠ 0) (hF : ∀ X Y B, 0 < B → (hol S n X Y B ↔ F X Y B)) (hw : S' (RB + 2) = S (RB + 2)) (h : ∀ k, k < n → wI S' k = 1 ∧ isT S n k (wU S' k) (wD S' k)) : tight S' n F := by
  intro k hk
  obtain ⟨h1, h2⟩ := h k hk
  have s := isT_sup hW hn h4 hk h2
  have s' : supP F (wA (S (RB + 2)) k) (wB (S (RB + 2)) k) (wU S' k) (wD S' k) := (sup_congr hF).mp s
  have e := tP_eq s'
  rw [hw]
  exact ⟨h1, e.1.symm, e.2.symm, s', h2.1, h2.2.1⟩
theorem c_tight {G : jG} {z n : Nat} {S : jS} {P : Option jV → jM → Prop} {F : Int → Int → Int → Prop} (hN : gN S n) (hW : gW S n) (hn : nok S n) (h4 : ∀ k, k < 4 → wI S k ≠ 0) (hF : ∀ X Y B, 0 < B → (hol S n X Y B ↔ F X Y B))
    (no : ∀ S', fr9 S S' → ¬ neF F → P (some (0, 0)) (mm z S')) (yes : ∀ S', fr9 S S' → neF F → tight S' n F → P (some (0, 1)) (mm z S')) : jC G mX12_tightens 0 0 (mm z S) [(2, (RB : Int))] P := by
  have ne : neF F ↔ ∃ i j, i < j ∧ j < n ∧ crn S n i j := (neF_congr hF).symm.trans (ne_crn hW hn h4)
  refine c_tightens hN hW (fun S' a b c => ?_) (fun S' a b c => ?_)
  · refine no S' ⟨fun r j r0 r5 r6 r7 r8 r9 => a r j r0 r8 r9, b⟩ (fun h => ?_)
    obtain ⟨i, j, h1, h2, h3⟩ := ne.mp h
    exact c i j h1 h2 h3
  · have f : fr9 S S' := ⟨fun r j r0 r5 r6 r7 r8 r9 => a r j r0 r5 r6 r7 r8 r9, b⟩
    obtain ⟨-, -, -, -, ⟨i, j, i1, i2, i3, -⟩, -⟩ := c 0 (by have := hn.2.1; omega)
    exact yes S' f (ne.mpr ⟨i, j, i1, i2, i3⟩) (tight_of hW hn h4 hF f.W c)
theorem tight_gW {S : jS} {n : Nat} {F : Int → Int → Int → Prop} (h : tight S n F) (hf : ∀ k, k < n → ¬ byd (wU S k) (wD S k)) : gW S n ∧ (∀ k, k < n → (-3000000 ≤ wU S k ∧ wU S k ≤ 3000000) ∧ 0 < wD S k ∧ wD S k ≤ 3000) := by
  have q : ∀ k, k < n → (-3000000 ≤ wU S k ∧ wU S k ≤ 3000000) ∧ 0 < wD S k ∧ wD S k ≤ 3000 := fun k hk => by
    obtain ⟨h1, h2, h3, h4, h5, h6⟩ := h k hk
    have := hf k hk
    unfold byd at this
    omega
  refine ⟨fun k hk => ⟨Or.inr (h k hk).1, fun _ => ?_⟩, q⟩
  have := q k hk
  omega
theorem hol_grow {S : jS} {n m : Nat} {X Y B : Int} (hN : nN S = (n : Int)) (hI : ∀ k, k < n → wI S k = 1) : hol (rgrow S (mP S m) (mQ S m) n) n X Y B ↔ limF (S (RB + 2)) (fun k => slp (S (RB + 2)) m k ≤ 0) (wU S) (wD S) X Y B := by
  unfold hol limF
  rw [wN_n hN, nA_g, nB_g, wU_g, wD_g]
  constructor
  · intro h k hk sl
    have q := h k hk
    rw [wI_g S _ _ hk, if_pos ⟨by rw [hI k hk]; decide, sl⟩] at q
    exact q (by decide)
  · intro h k hk ik
    rw [wI_g S _ _ hk] at ik
    by_cases c : wI S k ≠ 0 ∧ nA S k * mP S m + nB S k * mQ S m ≤ 0
    · exact h k hk c.2
    · rw [if_neg c] at ik; exact absurd rfl ik
theorem nok_g {S : jS} {n k : Nat} {p q : Int} : nok (rgrow S p q k) n ↔ nok S n := nok_o (fun j => rgrow_o S p q k (by simp))
theorem nok_kept {S : jS} {n m : Nat} : nok (rkept S m) n ↔ nok S n := nok_o (fun j => rkept_o S m (by simp))
/-- what is tight grows along a mode's slopes -/
theorem c_grow {G : jG} {z n m : Nat} {S : jS} {P : Option jV → jM → Prop} {u d : Nat → Int} (hN : gN S n) (hW : gW S n) (hn : nok S n) (h6 : m < 6) (hm : mok S n m) (hp : -9 ≤ mP S m ∧ mP S m ≤ 9) (hq : -9 ≤ mQ S m ∧ mQ S m ≤ 9) (hI : ∀ k, k < n → wI S k = 1) (hu : ∀ k, k < n → wU S k = u k ∧ wD S k = d k)
    (ne : neF (growF (S (RB + 2)) m u d)) (yes : ∀ S', fr9 S S' → tight S' n (growF (S (RB + 2)) m u d) → P (some (0, 1)) (mm z S')) : jC G mX12_grows 0 0 (mm z S) [(2, (RB : Int)), (0, (m : Int))] P := by
  have lim : ∀ X Y B, limF (S (RB + 2)) (fun k => slp (S (RB + 2)) m k ≤ 0) (wU S) (wD S) X Y B ↔ limF (S (RB + 2)) (fun k => slp (S (RB + 2)) m k ≤ 0) u d X Y B := by
    intro X Y B
    unfold limF
    rw [wN_n hN.1]
    constructor
    · intro h k hk s; have := h k hk s; rw [(hu k hk).1, (hu k hk).2] at this; exact this
    · intro h k hk s; rw [(hu k hk).1, (hu k hk).2]; exact h k hk s
  have hF : ∀ X Y B, 0 < B → (hol (rgr S n m) n X Y B ↔ growF (S (RB + 2)) m u d X Y B) := by
    intro X Y B hB
    unfold rgr growF
    rw [hol_kept (gW_g _ _ hW) (nok_g.mpr hn) (mok_g _ _ _ hm) hB, hol_grow hN.1 hI, lim, show rgrow S (mP S m) (mQ S m) n (RB + 2) = S (RB + 2) from funext fun j => rgrow_o S _ _ _ (by simp)]
  have nk : nok (rgr S n m) n := nok_kept.mpr (nok_g.mpr hn)
  have i4 : ∀ k, k < 4 → wI (rgr S n m) k ≠ 0 := fun k hk => wI_kept hk
  have hw : rgr S n m (RB + 2) = S (RB + 2) := funext fun j => rgr_o S n m (by simp)
  refine c_grows hN hW hn.2.1 h6 hm hp hq (fun S' a b c => ?_) (fun S' a b c => ?_)
  · obtain ⟨i, j, h1, h2, h3⟩ := (ne_crn (gW_gr hW hm) nk i4).mp ((neF_congr hF).mpr ne)
    exact absurd h3 (c i j h1 h2)
  · have f : fr9 S S' := ⟨fun r j r0 r5 r6 r7 r8 r9 => a r j r0 r5 r6 r7 r8 r9, b⟩
    exact yes S' f (tight_of (gW_gr hW hm) nk i4 hF (f.W.trans hw.symm) c)

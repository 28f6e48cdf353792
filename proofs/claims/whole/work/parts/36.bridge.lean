/-! What the reference tells of its corners is told of all points. -/
def rlive (S : jS) (n k : Nat) : Bool := decide (k < n ∧ wI S k ≠ 0)
theorem rlive_i {S : jS} {n k : Nat} : rlive S n k = true ↔ k < n ∧ wI S k ≠ 0 := by unfold rlive; exact decide_eq_true_iff
theorem hol_live {S : jS} {n : Nat} {X Y B : Int} : hol S n X Y B ↔ ∀ k, rlive S n k = true → hld (nA S) (nB S) (wU S) (wD S) k X Y B := by
  constructor
  · intro h k hk
    exact h k (rlive_i.mp hk).1 (rlive_i.mp hk).2
  · intro h k h1 h2
    exact h k (rlive_i.mpr ⟨h1, h2⟩)
theorem cD_tn (S : jS) (i j : Nat) : cD S i j = tn (nA S) (nB S) i j := rfl
/-- a corner by numbers is where two limits meet -/
theorem crn_v {S : jS} {n p q : Nat} (hW : gW S n) (hp : p < n) (hq : q < n) (ip : wI S p ≠ 0) (iq : wI S q ≠ 0) (ht : 0 < tn (nA S) (nB S) p q) :
    ∃ i j g : Int, ∃ i' j' : Nat, i' < j' ∧ j' < n ∧ cok S i' j' ∧ 0 < g ∧ cX S i' j' * g = vX (nB S) (wU S) (wD S) p q ∧ cY S i' j' * g = vY (nA S) (wU S) (wD S) p q ∧ cB S i' j' * g = vB (nA S) (nB S) (wD S) p q ∧ i = i' ∧ j = j' := by
  have w1 : wI S p = 1 := by rcases (hW p hp).1 with h | h; exact absurd h ip; exact h
  have w2 : wI S q = 1 := by rcases (hW q hq).1 with h | h; exact absurd h iq; exact h
  have d1 := ((hW p hp).2 w1).2.1
  have d2 := ((hW q hq).2 w2).2.1
  have vb : 0 < vB (nA S) (nB S) (wD S) p q := Int.mul_pos (Int.mul_pos ht d1) d2
  have main : ∀ i' j' : Nat, i' < j' → j' < n → cok S i' j' → cX1 S i' j' = vX (nB S) (wU S) (wD S) p q → cY1 S i' j' = vY (nA S) (wU S) (wD S) p q → cB1 S i' j' = vB (nA S) (nB S) (wD S) p q → ∃ i j g : Int, ∃ i' j' : Nat, i' < j' ∧ j' < n ∧ cok S i' j' ∧ 0 < g ∧ cX S i' j' * g = vX (nB S) (wU S) (wD S) p q ∧ cY S i' j' * g = vY (nA S) (wU S) (wD S) p q ∧ cB S i' j' * g = vB (nA S) (nB S) (wD S) p q ∧ i = i' ∧ j = j' := by
    intro i' j' h1 h2 h3 e1 e2 e3
    have g := cG_pos (X := cX1 S i' j') (Y := cY1 S i' j') (B := cB1 S i' j') (by rw [e3]; exact vb)
    refine ⟨i', j', cg S i' j', i', j', h1, h2, h3, g, ?_, ?_, ?_, rfl, rfl⟩
    · rw [← e1]; exact Int.ediv_mul_cancel (cG_X _ _ _)
    · rw [← e2]; exact Int.ediv_mul_cancel (cG_Y _ _ _)
    · rw [← e3]; exact Int.ediv_mul_cancel (cG_B _ _ _)
  have pq : p ≠ q := fun e => by rw [e, tn_self] at ht; omega
  by_cases c : p < q
  · have b0 : cB0 S p q = vB (nA S) (nB S) (wD S) p q := rfl
    refine main p q c hq ⟨ip, iq, by rw [cD_tn]; omega⟩ ?_ ?_ ?_
    · unfold cX1; rw [if_neg (by omega)]; rfl
    · unfold cY1; rw [if_neg (by omega)]; rfl
    · unfold cB1; rw [if_neg (by omega), b0]
  · have b0 : cB0 S q p = - vB (nA S) (nB S) (wD S) p q := by unfold cB0 vB; rw [cD_tn, tn_anti]; grind
    refine main q p (by omega) hp ⟨iq, ip, by rw [cD_tn, tn_anti]; omega⟩ ?_ ?_ ?_
    · unfold cX1; rw [if_pos (by omega)]; unfold cX0 vX; grind
    · unfold cY1; rw [if_pos (by omega)]; unfold cY0 vY; grind
    · unfold cB1; rw [if_pos (by omega), b0]; grind
theorem cB_pos {S : jS} {n i j : Nat} (hW : gW S n) (hi : i < n) (hj : j < n) (h : cok S i j) : 0 < cB S i j := by
  obtain ⟨h1, h2, h3⟩ := h
  have w1 : wI S i = 1 := by rcases (hW i hi).1 with h | h; exact absurd h h1; exact h
  have w2 : wI S j = 1 := by rcases (hW j hj).1 with h | h; exact absurd h h2; exact h
  have d1 := ((hW i hi).2 w1).2.1
  have d2 := ((hW j hj).2 w2).2.1
  have b1 : 0 < cB1 S i j := by
    have nz : cB0 S i j ≠ 0 := by
      unfold cB0
      exact Int.mul_ne_zero (Int.mul_ne_zero h3 (by omega)) (by omega)
    unfold cB1
    split <;> omega
  exact div_pos' b1 (cG_pos b1) (cG_B _ _ _)
/-- normals that are different, the box's sides first -/
def nok (S : jS) (n : Nat) : Prop := dirs (nA S) (nB S) n ∧ 4 ≤ n ∧ bx4 (nA S) (nB S)
theorem hol_scale {S : jS} {n : Nat} {X Y B g : Int} (hg : 0 < g) : hol S n (X * g) (Y * g) (B * g) ↔ hol S n X Y B := by
  have e : ∀ k, (nA S k * (X * g) + nB S k * (Y * g)) * wD S k = (nA S k * X + nB S k * Y) * wD S k * g := fun k => by grind
  have e2 : ∀ k, wU S k * (B * g) = wU S k * B * g := fun k => by grind
  constructor
  · intro h k h1 h2
    have := h k h1 h2
    rw [e, e2] at this
    exact Int.le_of_mul_le_mul_right this hg
  · intro h k h1 h2
    rw [e, e2]
    exact Int.mul_le_mul_of_nonneg_right (h k h1 h2) (Int.le_of_lt hg)
/-- of all points that hold all limits, a normal tells most of a corner -/
theorem hol_fund {S : jS} {n k : Nat} (hW : gW S n) (hn : nok S n) (h4 : ∀ k, k < 4 → wI S k ≠ 0) (hx : neF (hol S n)) (hk : k < n) :
    ∃ i j, i < j ∧ j < n ∧ crn S n i j ∧ ∀ X Y B, 0 < B → hol S n X Y B → (nA S k * X + nB S k * Y) * cB S i j ≤ vk S k i j * B := by
  have hl : ∀ k, rlive S n k = true → k < n ∧ 0 < wD S k := fun k h => by
    have h := rlive_i.mp h
    have w1 : wI S k = 1 := by rcases (hW k h.1).1 with g | g; exact absurd g h.2; exact g
    exact ⟨h.1, ((hW k h.1).2 w1).2.1⟩
  obtain ⟨X, Y, B, x1, x2⟩ := hx
  obtain ⟨p, q, l1, l2, t, f1, f2⟩ := fund (U := wU S) hn.1 hn.2.1 hn.2.2 hl (fun k h => rlive_i.mpr ⟨by have := hn.2.1; omega, h4 k h⟩) ⟨X, Y, B, x1, hol_live.mp x2⟩ hk
  obtain ⟨-, -, g, i, j, c1, c2, c3, c4, c5, c6, c7, -, -⟩ := crn_v hW (rlive_i.mp l1).1 (rlive_i.mp l2).1 (rlive_i.mp l1).2 (rlive_i.mp l2).2 t
  refine ⟨i, j, c1, c2, ⟨c3, ?_⟩, fun X Y B hB h => ?_⟩
  · have := hol_live.mpr f1
    rw [← c5, ← c6, ← c7] at this
    exact (hol_scale c4).mp this
  · have := f2 X Y B hB (hol_live.mp h)
    rw [← c7] at this
    have e : vV (nA S) (nB S) (wU S) (wD S) p q k = vk S k i j * g := by
      rw [← vtx_v, ← c5, ← c6]; unfold vk; grind
    rw [e] at this
    refine Int.le_of_mul_le_mul_right (a := g) ?_ c4
    have e1 : (nA S k * X + nB S k * Y) * cB S i j * g = (nA S k * X + nB S k * Y) * (cB S i j * g) := by grind
    have e2 : vk S k i j * B * g = vk S k i j * g * B := by grind
    omega
theorem isT_sup {S : jS} {n k : Nat} {u d : Int} (hW : gW S n) (hn : nok S n) (h4 : ∀ k, k < 4 → wI S k ≠ 0) (hk : k < n) (h : isT S n k u d) : supP (hol S n) (nA S k) (nB S k) u d := by
  obtain ⟨_, ⟨h2, _⟩, h3, ⟨i, j, i1, i2, i3, i4⟩, h6⟩ := h
  have cb := cB_pos hW (by omega) i2 i3.1
  refine ⟨h2, h3, fun X Y B hB hh => ?_, cX S i j, cY S i j, cB S i j, cb, i3.2, ?_⟩
  · obtain ⟨i', j', c1, c2, c3, c4⟩ := hol_fund hW hn h4 ⟨X, Y, B, hB, hh⟩ hk
    have l1 := c4 X Y B hB hh
    have l2 := h6 i' j' c1 c2 c3
    have cb' := cB_pos hW (by omega) c2 c3.1
    refine Int.le_of_mul_le_mul_right (a := cB S i' j') ?_ cb'
    have m1 := Int.mul_le_mul_of_nonneg_right l1 (Int.le_of_lt h2)
    have m2 := Int.mul_le_mul_of_nonneg_right l2 (Int.le_of_lt hB)
    have e1 : (nA S k * X + nB S k * Y) * d * cB S i' j' = (nA S k * X + nB S k * Y) * cB S i' j' * d := by grind
    have e2 : u * B * cB S i' j' = u * cB S i' j' * B := by grind
    have e3 : vk S k i' j' * B * d = vk S k i' j' * d * B := by grind
    omega
  · show vk S k i j * d = u * cB S i j
    omega
theorem ne_crn {S : jS} {n : Nat} (hW : gW S n) (hn : nok S n) (h4 : ∀ k, k < 4 → wI S k ≠ 0) : neF (hol S n) ↔ ∃ i j, i < j ∧ j < n ∧ crn S n i j := by
  constructor
  · intro h
    obtain ⟨i, j, c1, c2, c3, _⟩ := hol_fund (k := 0) hW hn h4 h (by have := hn.2.1; omega)
    exact ⟨i, j, c1, c2, c3⟩
  · rintro ⟨i, j, c1, c2, c3⟩
    exact ⟨_, _, _, cB_pos hW (by omega) c2 c3.1, c3.2⟩
/-! What the rows of limits say, operation by operation. -/
theorem frac_le {x a d u e B : Int} (hd : 0 < d) (h : x * d ≤ u * B) (hl : u * e ≤ a * d) (he : 0 < e) (hB : 0 < B) : x * e ≤ a * B := by
  have m1 := Int.mul_le_mul_of_nonneg_right h (Int.le_of_lt he)
  have m2 := Int.mul_le_mul_of_nonneg_right hl (Int.le_of_lt hB)
  refine Int.le_of_mul_le_mul_right (a := d) ?_ hd
  have e1 : x * e * d = x * d * e := by grind
  have e2 : a * B * d = a * d * B := by grind
  have e3 : u * B * e = u * e * B := by grind
  omega
theorem hol_cut {S : jS} {n k : Nat} {a d X Y B : Int} (hW : gW S n) (hk : k < n) (hd : 0 < d) (hB : 0 < B) : hol (rcut S k a d) n X Y B ↔ hol S n X Y B ∧ (nA S k * X + nB S k * Y) * d ≤ a * B := by
  have w1 : wI S k ≠ 0 → 0 < wD S k := fun h => by
    have : wI S k = 1 := by rcases (hW k hk).1 with g | g; exact absurd g h; exact g
    exact ((hW k hk).2 this).2.1
  unfold rcut
  split
  · rename_i c
    constructor
    · intro h
      have q := h k hk c.1
      exact ⟨h, frac_le (w1 c.1) q (by show wU S k * d ≤ a * wD S k; have : wU S k * d = S (RB + 6) k * d := rfl; have : a * wD S k = a * S (RB + 7) k := rfl; omega) hd hB⟩
    · exact fun h => h.1
  · rename_i c
    have hA : ∀ j, nA (rset S k a d) j = nA S j := fun j => rset_o S k a d (by simp)
    have hBn : ∀ j, nB (rset S k a d) j = nB S j := fun j => rset_o S k a d (by simp)
    constructor
    · intro h
      have q := h k hk
      rw [(rset_w S k a d k).1, (rset_w S k a d k).2.1, (rset_w S k a d k).2.2, if_pos rfl, if_pos rfl, if_pos rfl, hA, hBn] at q
      have q := q (by decide)
      refine ⟨fun j hj ij => ?_, q⟩
      by_cases e : j = k
      · subst e
        have dj := w1 ij
        refine frac_le hd q ?_ dj hB
        have : ¬ (0 ≤ a * wD S j - wU S j * d) := fun c' => c ⟨ij, c'⟩
        omega
      · have q := h j hj
        rw [(rset_w S k a d j).1, (rset_w S k a d j).2.1, (rset_w S k a d j).2.2, if_neg e, if_neg e, if_neg e, hA, hBn] at q
        exact q ij
    · rintro ⟨h, q⟩ j hj
      rw [(rset_w S k a d j).1, (rset_w S k a d j).2.1, (rset_w S k a d j).2.2, hA, hBn]
      by_cases e : j = k
      · subst e
        rw [if_pos rfl, if_pos rfl, if_pos rfl]
        exact fun _ => q
      · rw [if_neg e, if_neg e, if_neg e]
        exact h j hj
theorem nA_cut {S : jS} {k : Nat} {a d : Int} : nA (rcut S k a d) = nA S := funext fun j => rcut_o S k a d (by simp)
theorem nB_cut {S : jS} {k : Nat} {a d : Int} : nB (rcut S k a d) = nB S := funext fun j => rcut_o S k a d (by simp)
theorem wI_cut {S : jS} {k j : Nat} {a d : Int} : wI (rcut S k a d) j ≠ 0 ↔ (j = k ∨ wI S j ≠ 0) := by
  unfold rcut
  split
  · rename_i c
    constructor
    · exact Or.inr
    · rintro (h | h)
      · subst h; exact c.1
      · exact h
  · rw [(rset_w S k a d j).1]
    by_cases e : j = k
    · rw [if_pos e]; exact ⟨fun _ => Or.inl e, fun _ => by decide⟩
    · rw [if_neg e]; exact ⟨Or.inr, fun h => h.resolve_left e⟩
theorem hol_cuts {S : jS} {n f : Nat} {X Y B : Int} (hW : gW S n) (hB : 0 < B) : ∀ m, bok S n f m → (hol (rcuts S f m) n X Y B ↔ hol S n X Y B ∧ bndF (S (RB + 2)) f m X Y B) := by
  intro m
  induction m with
  | zero => intro _; exact ⟨fun h => ⟨h, fun i hi => by omega⟩, fun h => h.1⟩
  | succ m ih =>
    intro hb
    have hb' : bok S n f m := fun i hi => hb i (by omega)
    obtain ⟨b1, b2, b3⟩ := hb m (by omega)
    show hol (rcut (rcuts S f m) _ _ _) n X Y B ↔ _
    rw [hol_cut (gW_cuts hW m hb') (by omega) b3.1 hB, ih hb']
    have e1 : nA (rcuts S f m) (S (RB + 2) (f + 3 * m)).toNat = wA (S (RB + 2)) (S (RB + 2) (f + 3 * m)).toNat := rcuts_o S f (by simp) m
    have e2 : nB (rcuts S f m) (S (RB + 2) (f + 3 * m)).toNat = wB (S (RB + 2)) (S (RB + 2) (f + 3 * m)).toNat := rcuts_o S f (by simp) m
    rw [e1, e2]
    constructor
    · rintro ⟨⟨h1, h2⟩, h3⟩
      refine ⟨h1, fun i hi => ?_⟩
      by_cases e : i = m
      · subst e; exact h3
      · exact h2 i (by omega)
    · rintro ⟨h1, h2⟩
      exact ⟨⟨h1, fun i hi => h2 i (by omega)⟩, h2 m (by omega)⟩
theorem wI_cuts {S : jS} {f j : Nat} (h : wI S j ≠ 0) : ∀ m, wI (rcuts S f m) j ≠ 0
  | 0 => h
  | m + 1 => wI_cut.mpr (Or.inr (wI_cuts h m))
theorem hol_box {S : jS} {n : Nat} {X Y B : Int} (hW : gW S n) (hn : nok S n) (hB : 0 < B) : hol (rbox S) n X Y B ↔ hol S n X Y B ∧ boxF X Y B := by
  obtain ⟨-, h4, b1, b2, b3, b4, b5, b6, b7, b8⟩ := hn
  have g1 := gW_cut (k := 0) (a := 1000) (d := 1) hW (by decide) (by decide)
  have g2 := gW_cut (k := 1) (a := 1000) (d := 1) g1 (by decide) (by decide)
  have g3 := gW_cut (k := 2) (a := 1000) (d := 1) g2 (by decide) (by decide)
  unfold rbox
  rw [hol_cut g3 (by omega) (by decide) hB, hol_cut g2 (by omega) (by decide) hB, hol_cut g1 (by omega) (by decide) hB, hol_cut hW (by omega) (by decide) hB]
  simp only [nA_cut, nB_cut, b1, b2, b3, b4, b5, b6, b7, b8]
  unfold boxF
  constructor
  · rintro ⟨⟨⟨⟨h, q1⟩, q2⟩, q3⟩, q4⟩
    exact ⟨h, by omega, by omega, by omega, by omega⟩
  · rintro ⟨h, q1, q2, q3, q4⟩
    exact ⟨⟨⟨⟨h, by omega⟩, by omega⟩, by omega⟩, by omega⟩
theorem wI_box {S : jS} {j : Nat} : wI (rbox S) j ≠ 0 ↔ (j < 4 ∨ wI S j ≠ 0) := by
  unfold rbox
  rw [wI_cut, wI_cut, wI_cut, wI_cut]
  omega
theorem hol_kept {S : jS} {n m : Nat} {X Y B : Int} (hW : gW S n) (hn : nok S n) (hm : mok S n m) (hB : 0 < B) : hol (rkept S m) n X Y B ↔ hol S n X Y B ∧ keepF (S (RB + 2)) m X Y B := by
  unfold rkept
  rw [hol_cuts (gW_box hW) hB _ (bok_box hm.2), hol_box hW hn hB, show rbox S (RB + 2) = S (RB + 2) from funext fun j => rbox_o S (by simp)]
  unfold keepF
  exact and_assoc
theorem wI_kept {S : jS} {m j : Nat} (h : j < 4) : wI (rkept S m) j ≠ 0 := wI_cuts (wI_box.mpr (Or.inl h)) _
theorem wN_n {S : jS} {n : Nat} (h : nN S = (n : Int)) : wN (S (RB + 2)) = n := by unfold wN; unfold nN at h; rw [h]; simp
theorem hol_take {S : jS} {n p w : Nat} {X Y B : Int} (hn : nN S = (n : Int)) : hol (rtake S (96 * p + 48 * w) n) n X Y B ↔ limF (S (RB + 2)) (fun _ => True) (sU S p w) (sD S p w) X Y B := by
  have e1 : ∀ k, nA (rtake S (96 * p + 48 * w) n) k = wA (S (RB + 2)) k := fun k => rtake_o S _ n (by simp)
  have e2 : ∀ k, nB (rtake S (96 * p + 48 * w) n) k = wB (S (RB + 2)) k := fun k => rtake_o S _ n (by simp)
  unfold hol limF
  rw [wN_n hn]
  constructor
  · intro h k hk _
    have := h k hk (by simp [wI, rtake, hk])
    rw [e1, e2] at this
    simpa [wU, wD, rtake, hk, sU, sD] using this
  · intro h k hk _
    have := h k hk trivial
    rw [e1, e2]
    simpa [wU, wD, rtake, hk, sU, sD] using this
theorem nok_o {S S' : jS} {n : Nat} (h : ∀ j, S' (RB + 2) j = S (RB + 2) j) : nok S' n ↔ nok S n := by
  have e1 : nA S' = nA S := funext fun j => h _
  have e2 : nB S' = nB S := funext fun j => h _
  unfold nok
  rw [e1, e2]

/-! What is exact: a point of a set comes from the entry, a point of an entry from ahead of the edge. -/
theorem sq_nn (x : Int) : 0 ≤ x * x := by
  rcases Int.le_total 0 x with h | h
  · exact Int.mul_nonneg h h
  · have := Int.mul_nonneg (show 0 ≤ -x by omega) (show 0 ≤ -x by omega)
    rw [Int.neg_mul_neg] at this
    exact this
theorem fm {P Q aj bj ak bk ai bi N c X Y B X' Y' B' Uj Dj Uk Dk Ui Di : Int} (hB : 0 < B) (hB' : 0 < B') (dj : 0 < Dj) (dk : 0 < Dk) (di : 0 < Di) (sj : 0 < aj * P + bj * Q) (sk : ak * P + bk * Q < 0) (hc : 0 ≤ c) (hN : 0 < N)
    (hx : N * (-(ak * P + bk * Q) * aj + (aj * P + bj * Q) * ak) = c * ai) (hy : N * (-(ak * P + bk * Q) * bj + (aj * P + bj * Q) * bk) = c * bi) (hi : (ai * X + bi * Y) * Di ≤ Ui * B) (hi' : (ai * X' + bi * Y') * Di = Ui * B') (hj' : (aj * X' + bj * Y') * Dj ≤ Uj * B') (hk' : (ak * X' + bk * Y') * Dk ≤ Uk * B') :
    -(ak * P + bk * Q) * Dk * ((aj * X + bj * Y) * Dj - Uj * B) + (aj * P + bj * Q) * Dj * ((ak * X + bk * Y) * Dk - Uk * B) ≤ 0 := by
  generalize hsj : aj * P + bj * Q = sj' at *
  generalize hsk : ak * P + bk * Q = sk' at *
  have e1 : N * ((-sk' * aj + sj' * ak) * X + (-sk' * bj + sj' * bk) * Y) = c * (ai * X + bi * Y) := by
    have : N * ((-sk' * aj + sj' * ak) * X + (-sk' * bj + sj' * bk) * Y) = N * (-sk' * aj + sj' * ak) * X + N * (-sk' * bj + sj' * bk) * Y := by grind
    rw [this, hx, hy]; grind
  have e2 : N * ((-sk' * aj + sj' * ak) * X' + (-sk' * bj + sj' * bk) * Y') = c * (ai * X' + bi * Y') := by
    have : N * ((-sk' * aj + sj' * ak) * X' + (-sk' * bj + sj' * bk) * Y') = N * (-sk' * aj + sj' * ak) * X' + N * (-sk' * bj + sj' * bk) * Y' := by grind
    rw [this, hx, hy]; grind
  generalize hM : (-sk' * aj + sj' * ak) * X + (-sk' * bj + sj' * bk) * Y = M at *
  generalize hM' : (-sk' * aj + sj' * ak) * X' + (-sk' * bj + sj' * bk) * Y' = M' at *
  have s1 : M * B' ≤ M' * B := by
    have q := Int.mul_le_mul_of_nonneg_left hi (Int.mul_nonneg hc (Int.le_of_lt hB'))
    refine Int.le_of_mul_le_mul_right (a := N * Di) ?_ (Int.mul_pos hN di)
    have r1 : M * B' * (N * Di) = c * B' * ((ai * X + bi * Y) * Di) := by
      have : M * B' * (N * Di) = N * M * B' * Di := by grind
      rw [this, e1]; grind
    have r2 : M' * B * (N * Di) = c * B' * (Ui * B) := by
      have : M' * B * (N * Di) = N * M' * B * Di := by grind
      rw [this, e2]
      have : c * (ai * X' + bi * Y') * B * Di = c * B * ((ai * X' + bi * Y') * Di) := by grind
      rw [this, hi']; grind
    rw [r1, r2]; exact q
  have s2 : M' * (Dj * Dk) ≤ (-sk' * Uj * Dk + sj' * Uk * Dj) * B' := by
    have q1 := Int.mul_le_mul_of_nonneg_left hj' (Int.mul_nonneg (show 0 ≤ -sk' by omega) (Int.le_of_lt dk))
    have q2 := Int.mul_le_mul_of_nonneg_left hk' (Int.mul_nonneg (show 0 ≤ sj' by omega) (Int.le_of_lt dj))
    have r1 : M' * (Dj * Dk) = -sk' * Dk * ((aj * X' + bj * Y') * Dj) + sj' * Dj * ((ak * X' + bk * Y') * Dk) := by rw [← hM']; grind
    have r2 : (-sk' * Uj * Dk + sj' * Uk * Dj) * B' = -sk' * Dk * (Uj * B') + sj' * Dj * (Uk * B') := by grind
    rw [r1, r2]; omega
  have s3 : M * (Dj * Dk) ≤ (-sk' * Uj * Dk + sj' * Uk * Dj) * B := by
    have q1 := Int.mul_le_mul_of_nonneg_right s1 (Int.mul_nonneg (Int.le_of_lt dj) (Int.le_of_lt dk))
    have q2 := Int.mul_le_mul_of_nonneg_right s2 (Int.le_of_lt hB)
    refine Int.le_of_mul_le_mul_right (a := B') ?_ hB'
    have r1 : M * (Dj * Dk) * B' = M * B' * (Dj * Dk) := by grind
    have r2 : M' * B * (Dj * Dk) = M' * (Dj * Dk) * B := by grind
    have r3 : (-sk' * Uj * Dk + sj' * Uk * Dj) * B * B' = (-sk' * Uj * Dk + sj' * Uk * Dj) * B' * B := by grind
    omega
  have r : -sk' * Dk * ((aj * X + bj * Y) * Dj - Uj * B) + sj' * Dj * ((ak * X + bk * Y) * Dk - Uk * B) = M * (Dj * Dk) - (-sk' * Uj * Dk + sj' * Uk * Dj) * B := by rw [← hM]; grind
  rw [r]; omega
theorem sup_hp {F : Int → Int → Int → Prop} {a b u d c g : Int} (h : supP F a b u d) (hF : ∀ X Y B, 0 < B → F X Y B → (a * X + b * Y) * g ≤ c * B) : u * g ≤ c * d := by
  obtain ⟨h1, -, -, X, Y, B, h4, h5, h6⟩ := h
  have q := Int.mul_le_mul_of_nonneg_right (hF X Y B h4 h5) (Int.le_of_lt h1)
  refine Int.le_of_mul_le_mul_right (a := B) ?_ h4
  have r1 : u * g * B = (a * X + b * Y) * g * d := by
    have : (a * X + b * Y) * g * d = (a * X + b * Y) * d * g := by grind
    rw [this, h6]; grind
  have r2 : c * d * B = c * B * d := by grind
  rw [r1, r2]; exact q
/-- what holds tight limits holds the limits that they come from -/
theorem lim_hp {F : Int → Int → Int → Prop} {a b u d c g X Y B : Int} (h : supP F a b u d) (hg : 0 < g) (hF : ∀ X Y B, 0 < B → F X Y B → (a * X + b * Y) * g ≤ c * B) (hB : 0 < B) (hz : (a * X + b * Y) * d ≤ u * B) : (a * X + b * Y) * g ≤ c * B :=
  frac_le h.1 hz (sup_hp h hF) hg hB
theorem argmaxR {P : Nat → Prop} {le : Nat → Nat → Prop} (tot : ∀ i j, P i → P j → le i j ∨ le j i) (tr : ∀ i j k, P i → P j → P k → le i j → le j k → le i k) : ∀ n : Nat, (∃ j, j < n ∧ P j) → ∃ j, j < n ∧ P j ∧ ∀ i, i < n → P i → le i j := by
  intro n
  induction n with
  | zero => rintro ⟨j, h, _⟩; omega
  | succ n ih =>
    intro h
    by_cases hx : ∃ j, j < n ∧ P j
    · obtain ⟨j, h1, h2, h3⟩ := ih hx
      by_cases hn : P n
      · rcases tot j n h2 hn with c | c
        · refine ⟨n, by omega, hn, fun i hi pi => ?_⟩
          by_cases e : i = n
          · subst e; exact (tot i i pi pi).elim id id
          · exact tr i j n pi h2 hn (h3 i (by omega) pi) c
        · refine ⟨j, by omega, h2, fun i hi pi => ?_⟩
          by_cases e : i = n
          · subst e; exact c
          · exact h3 i (by omega) pi
      · refine ⟨j, by omega, h2, fun i hi pi => ?_⟩
        by_cases e : i = n
        · subst e; exact absurd pi hn
        · exact h3 i (by omega) pi
    · obtain ⟨j, h1, h2⟩ := h
      have : j = n := Decidable.byContradiction fun c => hx ⟨j, by omega, h2⟩
      subst this
      refine ⟨j, by omega, h2, fun i hi pi => ?_⟩
      have : i = j := Decidable.byContradiction fun c => hx ⟨i, by omega, pi⟩
      subst this
      exact (tot i i pi pi).elim id id
/-- a point that goes back by a mode's slopes for a time u by d -/
def bkF (W : Nat → Int) (T : Nat → Nat → Int) (p : Nat) (X Y B u d : Int) : Prop := 0 ≤ u ∧ setF W T p 0 (X * d - W (59 + 25 * (qT T p 0).toNat) * u * B) (Y * d - W (60 + 25 * (qT T p 0).toNat) * u * B) (B * d)
theorem bk_iff {W : Nat → Int} {T : Nat → Nat → Int} {p : Nat} {X Y B u d : Int} : bkF W T p X Y B u d ↔ 0 ≤ u ∧ ∀ k, k < wN W → ((wA W k * X + wB W k * Y) * qD T p 0 k - qU T p 0 k * B) * d ≤ slp W (qT T p 0).toNat k * qD T p 0 k * B * u := by
  unfold bkF setF limF slp
  refine and_congr Iff.rfl ⟨fun h k hk => ?_, fun h k hk _ => ?_⟩
  · have q := h k hk trivial
    have r : (wA W k * (X * d - W (59 + 25 * (qT T p 0).toNat) * u * B) + wB W k * (Y * d - W (60 + 25 * (qT T p 0).toNat) * u * B)) * qD T p 0 k = (wA W k * X + wB W k * Y) * qD T p 0 k * d - (wA W k * W (59 + 25 * (qT T p 0).toNat) + wB W k * W (60 + 25 * (qT T p 0).toNat)) * qD T p 0 k * B * u := by grind
    have r2 : qU T p 0 k * (B * d) = qU T p 0 k * B * d := by grind
    rw [Int.sub_mul]
    omega
  · have q := h k hk
    have r : (wA W k * (X * d - W (59 + 25 * (qT T p 0).toNat) * u * B) + wB W k * (Y * d - W (60 + 25 * (qT T p 0).toNat) * u * B)) * qD T p 0 k = (wA W k * X + wB W k * Y) * qD T p 0 k * d - (wA W k * W (59 + 25 * (qT T p 0).toNat) + wB W k * W (60 + 25 * (qT T p 0).toNat)) * qD T p 0 k * B * u := by grind
    have r2 : qU T p 0 k * (B * d) = qU T p 0 k * B * d := by grind
    rw [Int.sub_mul] at q
    omega
theorem ex_time {W : Nat → Int} {T : Nat → Nat → Int} {p : Nat} (hw : wfW W) (ht : wfT W T) (hp : p < qN T) (hx : qT T p 4 = 1) {X Y B : Int} (hB : 0 < B) (hz : setF W T p 1 X Y B) : ∃ u d, 0 < d ∧ bkF W T p X Y B u d ∧ ∀ u' d', 0 < d' → bkF W T p X Y B u' d' → u * d' ≤ u' * d := by
  obtain ⟨m0, -, -, -, lm, gr, -⟩ := ht.2.2 p hp
  have gr := gr hx
  have em : (((qT T p 0).toNat : Nat) : Int) < W 0 := by omega
  generalize hm : (qT T p 0).toNat = m at *
  have lim : ∀ k, k < wN W → slp W m k ≤ 0 → (wA W k * X + wB W k * Y) * qD T p 0 k ≤ qU T p 0 k * B := fun k hk hs =>
    lim_hp (gr k hk) (lm 0 (by omega) k hk).2.1 (fun X Y B _ f => f.1 k hk hs) hB (hz k hk trivial)
  have dpos : ∀ k, k < wN W → 0 < qD T p 0 k := fun k hk => (lm 0 (by omega) k hk).2.1
  by_cases hex : ∃ k, k < wN W ∧ (0 < slp W m k ∧ 0 < (wA W k * X + wB W k * Y) * qD T p 0 k - qU T p 0 k * B)
  · obtain ⟨j, j1, ⟨j2, j3⟩, j4⟩ := argmaxR (P := fun k => k < wN W ∧ (0 < slp W m k ∧ 0 < (wA W k * X + wB W k * Y) * qD T p 0 k - qU T p 0 k * B)) (le := fun i j => ((wA W i * X + wB W i * Y) * qD T p 0 i - qU T p 0 i * B) * (slp W m j * qD T p 0 j * B) ≤ ((wA W j * X + wB W j * Y) * qD T p 0 j - qU T p 0 j * B) * (slp W m i * qD T p 0 i * B)) (fun i j _ _ => Int.le_total _ _) (fun i j k hi hj hk l1 l2 => fr_ll (Int.mul_pos (Int.mul_pos hi.2.1 (dpos i hi.1)) hB) (Int.mul_pos (Int.mul_pos hj.2.1 (dpos j hj.1)) hB) (Int.mul_pos (Int.mul_pos hk.2.1 (dpos k hk.1)) hB) l1 l2) (wN W) (by obtain ⟨k, k1, k2⟩ := hex; exact ⟨k, k1, k1, k2⟩)
    refine ⟨(wA W j * X + wB W j * Y) * qD T p 0 j - qU T p 0 j * B, slp W m j * qD T p 0 j * B, Int.mul_pos (Int.mul_pos j3.1 (dpos j j1)) hB, bk_iff.mpr ⟨by omega, fun k hk => ?_⟩, fun u' d' _ q => ?_⟩
    rotate_left
    · have q := (bk_iff.mp q).2 j j1
      rw [hm] at q
      rw [Int.mul_comm u']
      exact q
    rw [hm]
    have dk := dpos k hk
    have dj := dpos j j1
    rcases Int.lt_trichotomy (slp W m k) 0 with s | s | s
    · have wm := hw.2.2.2.2.1 m em
      obtain ⟨i, c, N, hN, hc, hi, hi0, sx, sy⟩ : ∃ (i : Nat) (c N : Int), 0 < N ∧ 0 ≤ c ∧ i < wN W ∧ slp W m i ≤ 0 ∧ N * (-(slp W m k) * wA W j + slp W m j * wA W k) = c * wA W i ∧ N * (-(slp W m k) * wB W j + slp W m j * wB W k) = c * wB W i := by
        have np : ¬ (W (59 + 25 * m) = 0 ∧ W (60 + 25 * m) = 0) := fun q => by unfold slp at s; rw [q.1, q.2] at s; omega
        obtain ⟨i1, i2, g, k1, k2, k3, k4, k5, k6, k7⟩ := wm.2.2.1.resolve_left np
        have hN : 0 < W (59 + 25 * m) * W (59 + 25 * m) + W (60 + 25 * m) * W (60 + 25 * m) := by
          by_cases c1 : W (59 + 25 * m) = 0
          · have c2 : W (60 + 25 * m) ≠ 0 := fun q => np ⟨c1, q⟩
            have := sq_nn (W (59 + 25 * m))
            have q : 0 < W (60 + 25 * m) * W (60 + 25 * m) := by
              rcases Int.lt_or_gt_of_ne c2 with l | l
              · exact Int.mul_pos_of_neg_of_neg l l
              · exact Int.mul_pos l l
            omega
          · have := sq_nn (W (60 + 25 * m))
            have q : 0 < W (59 + 25 * m) * W (59 + 25 * m) := by
              rcases Int.lt_or_gt_of_ne c1 with l | l
              · exact Int.mul_pos_of_neg_of_neg l l
              · exact Int.mul_pos l l
            omega
        generalize hwx : -(slp W m k) * wA W j + slp W m j * wA W k = wx at *
        generalize hwy : -(slp W m k) * wB W j + slp W m j * wB W k = wy at *
        have z : wx * W (59 + 25 * m) + wy * W (60 + 25 * m) = 0 := by rw [← hwx, ← hwy]; unfold slp; grind
        have ex : (W (59 + 25 * m) * W (59 + 25 * m) + W (60 + 25 * m) * W (60 + 25 * m)) * wx = (-W (60 + 25 * m) * wx + W (59 + 25 * m) * wy) * -W (60 + 25 * m) := by
          have : (W (59 + 25 * m) * W (59 + 25 * m) + W (60 + 25 * m) * W (60 + 25 * m)) * wx = W (59 + 25 * m) * (wx * W (59 + 25 * m) + wy * W (60 + 25 * m)) + (-W (60 + 25 * m) * wx + W (59 + 25 * m) * wy) * -W (60 + 25 * m) := by grind
          rw [this, z]; simp
        have ey : (W (59 + 25 * m) * W (59 + 25 * m) + W (60 + 25 * m) * W (60 + 25 * m)) * wy = (-W (60 + 25 * m) * wx + W (59 + 25 * m) * wy) * W (59 + 25 * m) := by
          have : (W (59 + 25 * m) * W (59 + 25 * m) + W (60 + 25 * m) * W (60 + 25 * m)) * wy = W (60 + 25 * m) * (wx * W (59 + 25 * m) + wy * W (60 + 25 * m)) + (-W (60 + 25 * m) * wx + W (59 + 25 * m) * wy) * W (59 + 25 * m) := by grind
          rw [this, z]; simp
        generalize hkap : -W (60 + 25 * m) * wx + W (59 + 25 * m) * wy = kap at *
        have z1 : slp W m i1 ≤ 0 := by
          have : g * slp W m i1 = 0 := by
            have : g * slp W m i1 = g * wA W i1 * W (59 + 25 * m) + g * wB W i1 * W (60 + 25 * m) := by unfold slp; grind
            rw [this, k4, k5]; grind
          rcases Int.mul_eq_zero.mp this with q | q <;> omega
        have z2 : slp W m i2 ≤ 0 := by
          have : g * slp W m i2 = 0 := by
            have : g * slp W m i2 = g * wA W i2 * W (59 + 25 * m) + g * wB W i2 * W (60 + 25 * m) := by unfold slp; grind
            rw [this, k6, k7]; grind
          rcases Int.mul_eq_zero.mp this with q | q <;> omega
        by_cases c1 : 0 ≤ kap
        · refine ⟨i1, kap * g, _, hN, Int.mul_nonneg c1 (Int.le_of_lt k3), k1, z1, ?_, ?_⟩
          · rw [ex, Int.mul_assoc, k4]
          · rw [ey, Int.mul_assoc, k5]
        · refine ⟨i2, -kap * g, _, hN, Int.mul_nonneg (by omega) (Int.le_of_lt k3), k2, z2, ?_, ?_⟩
          · rw [ex, Int.mul_assoc, k6]; grind
          · rw [ey, Int.mul_assoc, k7]; grind
      obtain ⟨X', Y', B', b', f', e'⟩ := (lm 0 (by omega) i hi).2.2.2.2
      have q := fm (P := W (59 + 25 * m)) (Q := W (60 + 25 * m)) (aj := wA W j) (bj := wB W j) (ak := wA W k) (bk := wB W k) hB b' dj dk (dpos i hi) j3.1 s hc hN sx sy (lim i hi hi0) e' (f' j j1 trivial) (f' k hk trivial)
      have q2 := Int.mul_le_mul_of_nonneg_left q (Int.le_of_lt hB)
      have r : B * (-(wA W k * W (59 + 25 * m) + wB W k * W (60 + 25 * m)) * qD T p 0 k * ((wA W j * X + wB W j * Y) * qD T p 0 j - qU T p 0 j * B) + (wA W j * W (59 + 25 * m) + wB W j * W (60 + 25 * m)) * qD T p 0 j * ((wA W k * X + wB W k * Y) * qD T p 0 k - qU T p 0 k * B)) = ((wA W k * X + wB W k * Y) * qD T p 0 k - qU T p 0 k * B) * (slp W m j * qD T p 0 j * B) - slp W m k * qD T p 0 k * B * ((wA W j * X + wB W j * Y) * qD T p 0 j - qU T p 0 j * B) := by unfold slp; grind
      rw [r] at q2
      omega
    · rw [s]
      have := lim k hk (by omega)
      have q : ((wA W k * X + wB W k * Y) * qD T p 0 k - qU T p 0 k * B) * (slp W m j * qD T p 0 j * B) ≤ 0 := Int.mul_nonpos_of_nonpos_of_nonneg (by omega) (Int.le_of_lt (Int.mul_pos (Int.mul_pos j3.1 dj) hB))
      simpa using q
    · by_cases c : 0 < (wA W k * X + wB W k * Y) * qD T p 0 k - qU T p 0 k * B
      · have := j4 k hk ⟨hk, s, c⟩
        rw [Int.mul_comm (slp W m k * qD T p 0 k * B)]
        exact this
      · have q : ((wA W k * X + wB W k * Y) * qD T p 0 k - qU T p 0 k * B) * (slp W m j * qD T p 0 j * B) ≤ 0 := Int.mul_nonpos_of_nonpos_of_nonneg (by omega) (Int.le_of_lt (Int.mul_pos (Int.mul_pos j3.1 dj) hB))
        have r : 0 ≤ slp W m k * qD T p 0 k * B * ((wA W j * X + wB W j * Y) * qD T p 0 j - qU T p 0 j * B) := Int.mul_nonneg (Int.le_of_lt (Int.mul_pos (Int.mul_pos s dk) hB)) (by omega)
        omega
  · refine ⟨0, 1, by decide, bk_iff.mpr ⟨by omega, fun k hk => ?_⟩, fun u' d' _ q => by have := q.1; omega⟩
    rw [hm]
    have : (wA W k * X + wB W k * Y) * qD T p 0 k - qU T p 0 k * B ≤ 0 := by
      by_cases s : slp W m k ≤ 0
      · have := lim k hk s; omega
      · refine Decidable.byContradiction fun c => hex ⟨k, hk, by omega, by omega⟩
    omega
/-- there is a least time -/
theorem ex_least {W : Nat → Int} {T : Nat → Nat → Int} {p : Nat} (hw : wfW W) (ht : wfT W T) (hp : p < qN T) (hx : qT T p 4 = 1) {X Y B : Int} (hB : 0 < B) (hz : setF W T p 1 X Y B) : lsT (bkF W T p X Y B) (aLsT (bkF W T p X Y B)).1 (aLsT (bkF W T p X Y B)).2 := by
  obtain ⟨u, d, h1, h2, h3⟩ := ex_time hw ht hp hx hB hz
  have g := ig_pos (a := u) h1
  have x1 : u / ig u d * ig u d = u := Int.ediv_mul_cancel (Int.gcd_dvd_left _ _)
  have x2 : d / ig u d * ig u d = d := Int.ediv_mul_cancel (Int.gcd_dvd_right _ _)
  have c1 : bkF W T p X Y B (u / ig u d) (d / ig u d) := by
    rw [bk_iff] at h2 ⊢
    refine ⟨?_, fun k hk => ?_⟩
    · refine Decidable.byContradiction fun c => ?_
      have := Int.mul_neg_of_neg_of_pos (show u / ig u d < 0 by omega) g
      have := h2.1
      omega
    · have q := h2.2 k hk
      refine Int.le_of_mul_le_mul_right (a := ig u d) ?_ g
      have r1 : ((wA W k * X + wB W k * Y) * qD T p 0 k - qU T p 0 k * B) * (d / ig u d) * ig u d = ((wA W k * X + wB W k * Y) * qD T p 0 k - qU T p 0 k * B) * d := by rw [Int.mul_assoc, x2]
      have r2 : slp W (qT T p 0).toNat k * qD T p 0 k * B * (u / ig u d) * ig u d = slp W (qT T p 0).toNat k * qD T p 0 k * B * u := by rw [Int.mul_assoc, x1]
      rw [r1, r2]; exact q
  have l : lsT (bkF W T p X Y B) (u / ig u d) (d / ig u d) := by
    refine ⟨div_pos' h1 g (Int.gcd_dvd_right _ _), Int.gcd_ediv_gcd_ediv_gcd (by unfold ig at g; omega), c1, fun u' d' hd q => ?_⟩
    have := h3 u' d' hd q
    refine Int.le_of_mul_le_mul_right (a := ig u d) ?_ g
    have r1 : u / ig u d * d' * ig u d = u * d' := by
      have : u / ig u d * d' * ig u d = u / ig u d * ig u d * d' := by grind
      rw [this, x1]
    have r2 : u' * (d / ig u d) * ig u d = u' * d := by rw [Int.mul_assoc, x2]
    rw [r1, r2]; exact this
  rw [aLsT_eq l]
  exact l
/-- ahead of an edge: what of a set holds the guards and comes to a point -/
def ahF (W : Nat → Int) (T : Nat → Nat → Int) (f e : Nat) (x d y d' : Int) (X Y B : Int) : Prop := (setF W T f 1 X Y B ∧ guardF W e X Y B) ∧ (W (212 + 19 * e) ≠ 1 → X * d = (x - W (213 + 19 * e) * d) * B) ∧ (W (214 + 19 * e) ≠ 1 → Y * d' = (y - W (215 + 19 * e) * d') * B)
theorem conv {W : Nat → Int} {T : Nat → Nat → Int} {f e : Nat} {X1 Y1 B1 X2 Y2 B2 s t : Int} (hb : bokW W (wN W) (216 + 19 * e) (W (211 + 19 * e)).toNat) (hs : 0 ≤ s) (ht : 0 ≤ t) (h1 : setF W T f 1 X1 Y1 B1 ∧ guardF W e X1 Y1 B1) (h2 : setF W T f 1 X2 Y2 B2 ∧ guardF W e X2 Y2 B2) : setF W T f 1 (s * X1 + t * X2) (s * Y1 + t * Y2) (s * B1 + t * B2) ∧ guardF W e (s * X1 + t * X2) (s * Y1 + t * Y2) (s * B1 + t * B2) := by
  have key : ∀ a b d u : Int, (a * X1 + b * Y1) * d ≤ u * B1 → (a * X2 + b * Y2) * d ≤ u * B2 → (a * (s * X1 + t * X2) + b * (s * Y1 + t * Y2)) * d ≤ u * (s * B1 + t * B2) := by
    intro a b d u q1 q2
    have m1 := Int.mul_le_mul_of_nonneg_left q1 hs
    have m2 := Int.mul_le_mul_of_nonneg_left q2 ht
    have e1 : (a * (s * X1 + t * X2) + b * (s * Y1 + t * Y2)) * d = s * ((a * X1 + b * Y1) * d) + t * ((a * X2 + b * Y2) * d) := by grind
    have e2 : u * (s * B1 + t * B2) = s * (u * B1) + t * (u * B2) := by grind
    omega
  exact ⟨fun k hk _ => key _ _ _ _ (h1.1 k hk trivial) (h2.1 k hk trivial), fun i hi => key _ _ _ _ (h1.2 i hi) (h2.2 i hi)⟩
/-- points between two whose one size is a given one -/
theorem between {c g Y1 B1 Y2 B2 : Int} (hg : 0 < g) (h1 : 0 < B1) (h2 : 0 < B2) (hi : c * B1 ≤ Y1 * g) (lo : Y2 * g ≤ c * B2) : ∃ s t : Int, 0 ≤ s ∧ 0 ≤ t ∧ 0 < s * B1 + t * B2 ∧ (s * Y1 + t * Y2) * g = c * (s * B1 + t * B2) := by
  by_cases z : Y1 * g = c * B1
  · exact ⟨1, 0, by decide, by decide, by omega, by simp; omega⟩
  · refine ⟨c * B2 - Y2 * g, Y1 * g - c * B1, by omega, by omega, ?_, by grind⟩
    have p1 : 0 ≤ (c * B2 - Y2 * g) * B1 := Int.mul_nonneg (by omega) (Int.le_of_lt h1)
    have p2 : 0 < (Y1 * g - c * B1) * B2 := Int.mul_pos (by omega) h2
    omega
theorem ex_ahead {W : Nat → Int} {T : Nat → Nat → Int} {p f e : Nat} (hw : wfW W) (ht : wfT W T) (hp : p < qN T) (hx : qT T p 4 = 1) (hf : qT T p 1 = (f : Int)) (he : qT T p 2 = (e : Int)) {x d y d' : Int} (hd : 0 < d) (hd' : 0 < d') (hz : setF W T p 0 (x * d') (y * d) (d * d')) : neF (ahF W T f e x d y d') := by
  obtain ⟨m0, -, -, fr, lm, -, -⟩ := ht.2.2 p hp
  rcases fr with ⟨q, -, -⟩ | ⟨f', e', f1, f2, f3, f4, f5, f6, f7, f8⟩
  · omega
  have : f' = f := by omega
  subst this
  have : e' = e := by omega
  subst this
  obtain ⟨-, s1, s2⟩ := f8 hx
  generalize hF1 : (fun X Y B => setF W T f' 1 X Y B ∧ guardF W e' X Y B) = F1 at *
  have n4 := (wfN_n hw.1).2.1
  obtain ⟨b1, b2, b3, b4, b5, b6, b7, b8⟩ := hw.1.2.2
  obtain ⟨-, -, gb, hx2, -, hy2, -, zx, zy⟩ := hw.2.2.2.2.2.1 e' f4
  have hB : 0 < d * d' := Int.mul_pos hd hd'
  -- what stays of limits is told by the point
  have st : ∀ k, k < wN W → stays W e' k → (wA W k * (x * d') + wB W k * (y * d)) * tdF W F1 k ≤ (tuF W F1 k + shft W e' k * tdF W F1 k) * (d * d') := fun k hk sk =>
    lim_hp (s2 k hk) (s1 k hk).1 (fun X Y B _ q => q.1.1 k hk sk) hB (hz k hk trivial)
  have inF1 : ∀ X Y B, 0 < B → (∀ k, k < wN W → (wA W k * X + wB W k * Y) * tdF W F1 k ≤ tuF W F1 k * B) → F1 X Y B := by
    intro X Y B b q
    rw [← hF1]
    refine ⟨fun k hk _ => ?_, fun i hi => ?_⟩
    · refine lim_hp (s1 k hk) (wfT_lim ht (show f' < qN T by omega) (show 1 < 2 by omega) hk).2.1 (fun X Y B _ g => ?_) b (q k hk)
      rw [← hF1] at g
      exact g.1 k hk trivial
    · obtain ⟨g1, g2, g3⟩ := gb.2 i hi
      refine lim_hp (s1 _ (by omega)) g3.1 (fun X Y B _ g => ?_) b (q _ (by omega))
      rw [← hF1] at g
      exact g.2 i hi
  have up := s1 2 (by omega)
  have dn := s1 3 (by omega)
  have ri := s1 0 (by omega)
  have le := s1 1 (by omega)
  have att : ∀ k, k < wN W → ∃ X Y B, 0 < B ∧ F1 X Y B ∧ (wA W k * X + wB W k * Y) * tdF W F1 k = tuF W F1 k * B := fun k hk => (s1 k hk).2.2.2
  by_cases cx : W (212 + 19 * e') = 1
  · by_cases cy' : W (214 + 19 * e') = 1
    · obtain ⟨X, Y, B, b, g, -⟩ := att 0 (by omega)
      rw [← hF1] at g
      exact ⟨X, Y, B, b, g, fun q => absurd cx q, fun q => absurd cy' q⟩
    · -- x is put: the point's y, less what is added, lies between
      have a2 := st 2 (by omega) ⟨Or.inr b5, Or.inl cy'⟩
      have a3 := st 3 (by omega) ⟨Or.inr b7, Or.inl cy'⟩
      have sh2 : shft W e' 2 = W (215 + 19 * e') := by unfold shft; rw [if_neg (by omega), b6]; split <;> omega
      have sh3 : shft W e' 3 = -W (215 + 19 * e') := by unfold shft; rw [if_neg (by omega), b8]; split <;> omega
      rw [b5, b6, sh2] at a2
      rw [b7, b8, sh3] at a3
      obtain ⟨X1, Y1, B1, c1, g1, t1⟩ := att 2 (by omega)
      obtain ⟨X2, Y2, B2, c2, g2, t2⟩ := att 3 (by omega)
      rw [b5, b6] at t1
      rw [b7, b8] at t2
      have hi : (y - W (215 + 19 * e') * d') * B1 ≤ Y1 * d' := by
        have q : (y * d - W (215 + 19 * e') * (d * d')) * tdF W F1 2 ≤ tuF W F1 2 * (d * d') := by
          have r : (y * d - W (215 + 19 * e') * (d * d')) * tdF W F1 2 = (0 * (x * d') + 1 * (y * d)) * tdF W F1 2 - W (215 + 19 * e') * tdF W F1 2 * (d * d') := by grind
          have r2 : (tuF W F1 2 + W (215 + 19 * e') * tdF W F1 2) * (d * d') = tuF W F1 2 * (d * d') + W (215 + 19 * e') * tdF W F1 2 * (d * d') := by grind
          omega
        have q2 := Int.mul_le_mul_of_nonneg_right q (Int.le_of_lt c1)
        refine Int.le_of_mul_le_mul_right (a := d * tdF W F1 2) ?_ (Int.mul_pos hd up.1)
        have r1 : (y - W (215 + 19 * e') * d') * B1 * (d * tdF W F1 2) = (y * d - W (215 + 19 * e') * (d * d')) * tdF W F1 2 * B1 := by grind
        have r2 : Y1 * d' * (d * tdF W F1 2) = tuF W F1 2 * (d * d') * B1 := by
          have : Y1 * d' * (d * tdF W F1 2) = (0 * X1 + 1 * Y1) * tdF W F1 2 * (d * d') := by grind
          rw [this, t1]; grind
        omega
      have lo : Y2 * d' ≤ (y - W (215 + 19 * e') * d') * B2 := by
        have q : -(y * d - W (215 + 19 * e') * (d * d')) * tdF W F1 3 ≤ tuF W F1 3 * (d * d') := by
          have r : -(y * d - W (215 + 19 * e') * (d * d')) * tdF W F1 3 = (0 * (x * d') + -1 * (y * d)) * tdF W F1 3 + W (215 + 19 * e') * tdF W F1 3 * (d * d') := by grind
          have r2 : (tuF W F1 3 + -W (215 + 19 * e') * tdF W F1 3) * (d * d') = tuF W F1 3 * (d * d') - W (215 + 19 * e') * tdF W F1 3 * (d * d') := by grind
          omega
        have q2 := Int.mul_le_mul_of_nonneg_right q (Int.le_of_lt c2)
        refine Int.le_of_mul_le_mul_right (a := d * tdF W F1 3) ?_ (Int.mul_pos hd dn.1)
        have r1 : (y - W (215 + 19 * e') * d') * B2 * (d * tdF W F1 3) = -(-(y * d - W (215 + 19 * e') * (d * d')) * tdF W F1 3 * B2) := by grind
        have r2 : Y2 * d' * (d * tdF W F1 3) = -(tuF W F1 3 * (d * d') * B2) := by
          have : Y2 * d' * (d * tdF W F1 3) = -((0 * X2 + -1 * Y2) * tdF W F1 3 * (d * d')) := by grind
          rw [this, t2]; grind
        omega
      obtain ⟨s, t, hs, ht', hp', e1⟩ := between hd' c1 c2 hi lo
      rw [← hF1] at g1 g2
      exact ⟨_, _, _, hp', conv gb.2 hs ht' g1 g2, fun q => absurd cx q, fun _ => e1⟩
  · by_cases cy' : W (214 + 19 * e') = 1
    · have a2 := st 0 (by omega) ⟨Or.inl cx, Or.inr b2⟩
      have a3 := st 1 (by omega) ⟨Or.inl cx, Or.inr b4⟩
      have sh2 : shft W e' 0 = W (213 + 19 * e') := by
        unfold shft; rw [if_neg (show ¬ W (214 + 19 * e') = 2 by omega), b1]; split <;> omega
      have sh3 : shft W e' 1 = -W (213 + 19 * e') := by
        unfold shft; rw [if_neg (show ¬ W (214 + 19 * e') = 2 by omega), b3]; split <;> omega
      rw [b1, b2, sh2] at a2
      rw [b3, b4, sh3] at a3
      obtain ⟨X1, Y1, B1, c1, g1, t1⟩ := att 0 (by omega)
      obtain ⟨X2, Y2, B2, c2, g2, t2⟩ := att 1 (by omega)
      rw [b1, b2] at t1
      rw [b3, b4] at t2
      have hi : (x - W (213 + 19 * e') * d) * B1 ≤ X1 * d := by
        have q : (x * d' - W (213 + 19 * e') * (d * d')) * tdF W F1 0 ≤ tuF W F1 0 * (d * d') := by
          have r : (x * d' - W (213 + 19 * e') * (d * d')) * tdF W F1 0 = (1 * (x * d') + 0 * (y * d)) * tdF W F1 0 - W (213 + 19 * e') * tdF W F1 0 * (d * d') := by grind
          have r2 : (tuF W F1 0 + W (213 + 19 * e') * tdF W F1 0) * (d * d') = tuF W F1 0 * (d * d') + W (213 + 19 * e') * tdF W F1 0 * (d * d') := by grind
          omega
        have q2 := Int.mul_le_mul_of_nonneg_right q (Int.le_of_lt c1)
        refine Int.le_of_mul_le_mul_right (a := d' * tdF W F1 0) ?_ (Int.mul_pos hd' ri.1)
        have r1 : (x - W (213 + 19 * e') * d) * B1 * (d' * tdF W F1 0) = (x * d' - W (213 + 19 * e') * (d * d')) * tdF W F1 0 * B1 := by grind
        have r2 : X1 * d * (d' * tdF W F1 0) = tuF W F1 0 * (d * d') * B1 := by
          have : X1 * d * (d' * tdF W F1 0) = (1 * X1 + 0 * Y1) * tdF W F1 0 * (d * d') := by grind
          rw [this, t1]; grind
        omega
      have lo : X2 * d ≤ (x - W (213 + 19 * e') * d) * B2 := by
        have q : -(x * d' - W (213 + 19 * e') * (d * d')) * tdF W F1 1 ≤ tuF W F1 1 * (d * d') := by
          have r : -(x * d' - W (213 + 19 * e') * (d * d')) * tdF W F1 1 = (-1 * (x * d') + 0 * (y * d)) * tdF W F1 1 + W (213 + 19 * e') * tdF W F1 1 * (d * d') := by grind
          have r2 : (tuF W F1 1 + -W (213 + 19 * e') * tdF W F1 1) * (d * d') = tuF W F1 1 * (d * d') - W (213 + 19 * e') * tdF W F1 1 * (d * d') := by grind
          omega
        have q2 := Int.mul_le_mul_of_nonneg_right q (Int.le_of_lt c2)
        refine Int.le_of_mul_le_mul_right (a := d' * tdF W F1 1) ?_ (Int.mul_pos hd' le.1)
        have r1 : (x - W (213 + 19 * e') * d) * B2 * (d' * tdF W F1 1) = -(-(x * d' - W (213 + 19 * e') * (d * d')) * tdF W F1 1 * B2) := by grind
        have r2 : X2 * d * (d' * tdF W F1 1) = -(tuF W F1 1 * (d * d') * B2) := by
          have : X2 * d * (d' * tdF W F1 1) = -((-1 * X2 + 0 * Y2) * tdF W F1 1 * (d * d')) := by grind
          rw [this, t2]; grind
        omega
      obtain ⟨s, t, hs, ht', hp', e1⟩ := between hd c1 c2 hi lo
      rw [← hF1] at g1 g2
      exact ⟨_, _, _, hp', conv gb.2 hs ht' g1 g2, fun _ => e1, fun q => absurd cy' q⟩
    · refine ⟨x * d' - W (213 + 19 * e') * (d * d'), y * d - W (215 + 19 * e') * (d * d'), d * d', hB, ?_, fun _ => by grind, fun _ => by grind⟩
      have := inF1 (x * d' - W (213 + 19 * e') * (d * d')) (y * d - W (215 + 19 * e') * (d * d')) (d * d') hB (fun k hk => ?_)
      · rw [← hF1] at this; exact this
      · have q := st k hk ⟨Or.inl cx, Or.inl cy'⟩
        have sh : shft W e' k = W (213 + 19 * e') * wA W k + W (215 + 19 * e') * wB W k := by
          unfold shft
          have r1 : (if W (212 + 19 * e') = 2 then W (213 + 19 * e') * wA W k else 0) = W (213 + 19 * e') * wA W k := by
            by_cases c : W (212 + 19 * e') = 2
            · rw [if_pos c]
            · rw [if_neg c, zx (by omega)]; simp
          have r2 : (if W (214 + 19 * e') = 2 then W (215 + 19 * e') * wB W k else 0) = W (215 + 19 * e') * wB W k := by
            by_cases c : W (214 + 19 * e') = 2
            · rw [if_pos c]
            · rw [if_neg c, zy (by omega)]; simp
          rw [r1, r2]
        rw [sh] at q
        have e1 : (wA W k * (x * d' - W (213 + 19 * e') * (d * d')) + wB W k * (y * d - W (215 + 19 * e') * (d * d'))) * tdF W F1 k = (wA W k * (x * d') + wB W k * (y * d)) * tdF W F1 k - (W (213 + 19 * e') * wA W k + W (215 + 19 * e') * wB W k) * tdF W F1 k * (d * d') := by grind
        have e2 : (tuF W F1 k + (W (213 + 19 * e') * wA W k + W (215 + 19 * e') * wB W k) * tdF W F1 k) * (d * d') = tuF W F1 k * (d * d') + (W (213 + 19 * e') * wA W k + W (215 + 19 * e') * wB W k) * tdF W F1 k * (d * d') := by grind
        omega

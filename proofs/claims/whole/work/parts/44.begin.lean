/-! A check stays right over edges; the reference: the beginning. -/
theorem nbyd {u d : Int} (h : ¬ byd u d) (hd : 0 < d) : (-3000000 ≤ u ∧ u ≤ 3000000) ∧ 0 < d ∧ d ≤ 3000 := by unfold byd at h; omega
theorem nfar {W : Nat → Int} {u d : Nat → Int} (h : ¬ farL W u d) {k : Nat} (hk : k < wN W) : ¬ byd (u k) (d k) := fun q => h ⟨k, hk, q⟩
theorem wfT_comes {W : Nat → Int} {T : Nat → Nat → Int} (hw : wfW W) (ht : wfT W T) {p e : Nat} (hp : p < qN T) (he : (e : Int) < W 1) (hfr : W (209 + 19 * e) = qT T p 0) {u0 d0 u d : Nat → Int}
    (h1 : ∀ k, k < wN W → supP (fun X Y B => setF W T p 1 X Y B ∧ guardF W e X Y B) (wA W k) (wB W k) (tuF W (fun X Y B => setF W T p 1 X Y B ∧ guardF W e X Y B) k) (tdF W (fun X Y B => setF W T p 1 X Y B ∧ guardF W e X Y B) k))
    (h2 : ∀ k, k < wN W → ¬ byd (u0 k) (d0 k) ∧ supP (fun X Y B => jumpF W e (tuF W (fun X Y B => setF W T p 1 X Y B ∧ guardF W e X Y B)) (tdF W (fun X Y B => setF W T p 1 X Y B ∧ guardF W e X Y B)) X Y B ∧ keepF W (W (210 + 19 * e)).toNat X Y B) (wA W k) (wB W k) (u0 k) (d0 k))
    (h3 : ∀ k, k < wN W → ¬ byd (u k) (d k) ∧ supP (growF W (W (210 + 19 * e)).toNat u0 d0) (wA W k) (wB W k) (u k) (d k)) :
    wfT W (aComes W T p e u0 d0 u d) ∧ ext W T (aComes W T p e u0 d0 u d) := by
  have e1 := lay3_W W 1 u d
  obtain ⟨-, -, em, em0⟩ := W_eok e1 hw he
  have h4 := (wfN_n hw.1).2.1
  unfold aComes
  dsimp only
  generalize hm : (W (210 + 19 * e)).toNat = m at *
  by_cases c1 : aCov W T m u d
  · rw [cif_pos c1]
    exact wfT_set0 ht (by omega) (by omega)
  rw [cif_neg c1]
  by_cases c2 : T 0 0 = 60
  · rw [if_pos c2]
    exact wfT_set0 ht (by omega) (by omega)
  rw [if_neg c2]
  by_cases c3 : (cnt (aLiv T m) (qN T) : Int) < W 3
  · rw [if_pos c3]
    exact wfT_make hw ht c2 em0 ((ht.2.2 p hp).2.1 4 (by omega) (by omega)) h2 h3 (fun _ => rfl) (Or.inr ⟨p, e, rfl, hp, rfl, he, rfl, hfr, em, fun hx => ⟨hx, h1, rfl⟩⟩)
  rw [if_neg c3]
  obtain ⟨o, o1, o2, o3⟩ := gre_some (f := aLiv T m) (qN T) (by have := hw.2.2.2.1; omega)
  rw [o3 0, Int.toNat_natCast]
  by_cases c4 : farL W (tuF W (growF W m (joU T o u d) (joD T o u d))) (tdF W (growF W m (joU T o u d) (joD T o u d)))
  · rw [cif_pos c4]
    exact wfT_set0 ht (by omega) (by omega)
  rw [cif_neg c4]
  obtain ⟨w1, x1⟩ := wfT_set1 ht (o := o) (w := 6) (v := 1) (Or.inr rfl) (Or.inr rfl)
  obtain ⟨w2, x2⟩ := wfT_set1 w1 (o := o) (w := 5) (v := 0) (Or.inl rfl) (Or.inl rfl)
  obtain ⟨w3, x3⟩ := wfT_set0 w2 (j := 3) (v := T 0 3 + 1) (by omega) (by omega)
  have xx := ext_trans (ext_trans x1 x2) x3
  have uB : ∀ k, k < wN W → (-3000000 ≤ u k ∧ u k ≤ 3000000) ∧ 0 < d k ∧ d k ≤ 3000 := fun k hk => nbyd (h3 k hk).1 (h3 k hk).2.1
  have jB : ∀ k, k < wN W → (-100000000 ≤ joU T o u d k ∧ joU T o u d k ≤ 100000000) ∧ 0 < joD T o u d k ∧ joD T o u d k ≤ 3000 := fun k hk => by
    have := uB k hk
    have := wfT_lim ht o1 (show 1 < 2 by omega) hk
    unfold joU joD
    split <;> omega
  have gne : neF (growF W m (joU T o u d) (joD T o u d)) := by
    obtain ⟨-, -, -, X, Y, B, b, f, -⟩ := (h3 0 (by omega)).2
    refine ⟨X, Y, B, b, fun k hk _ => ?_, f.2⟩
    have j := jo_ge (T := T) (o := o) (k := k) (u := u) (d := d) (uB k hk).2.1 (wfT_lim ht o1 (show 1 < 2 by omega) hk).2.1
    exact frac_le (uB k hk).2.1 ((h3 k hk).2.2.2.1 X Y B b f) j.2 j.1 b
  have p1 := xx.2 p hp
  have := wfT_make (T := qset (qset (qset T 1 (8 * o + 6) 1) 1 (8 * o + 5) 0) 0 3 (T 0 3 + 1)) hw w3 (by rw [qset_at, if_neg (by omega), qset_at, if_neg (by omega), qset_at, if_neg (by omega)]; exact c2) (f := (p : Int)) (e := (e : Int)) (d := qT T p 3 + 1) (x := 0) em0 (Or.inl rfl) h2 (fun k hk => ⟨nfar c4 hk, sup_grow hw em0 jB gne hk⟩) (fun hx => by omega) (Or.inr ⟨p, e, rfl, by have := xx.1; omega, rfl, he, by rw [p1.1 3 (by omega) (by omega) (by omega)], by rw [p1.1 0 (by omega) (by omega) (by omega)]; exact hfr, em, fun hx => by omega⟩)
  exact ⟨this.1, ext_trans xx this.2⟩
theorem setF_lim {W : Nat → Int} {T : Nat → Nat → Int} {p w : Nat} : setF W T p w = limF W (fun _ => True) (qU T p w) (qD T p w) := rfl
theorem wfT_goes {W : Nat → Int} {T : Nat → Nat → Int} (hw : wfW W) (ht : wfT W T) {p e : Nat} (hp : p < qN T) (he : (e : Int) < W 1) (hfr : W (209 + 19 * e) = qT T p 0) : wfT W (aGoes W T p e) ∧ ext W T (aGoes W T p e) := by
  have e1 := lay3_W W 1 (fun _ => 0) (fun _ => 0)
  obtain ⟨-, -, em, em0⟩ := W_eok e1 hw he
  have gb := (hw.2.2.2.2.2.1 e he).2.2.1
  unfold aGoes
  dsimp only
  by_cases c1 : neF (fun X Y B => setF W T p 1 X Y B ∧ guardF W e X Y B)
  case neg => rw [cif_neg c1]; exact ⟨ht, ext_refl ht⟩
  rw [cif_pos c1]
  have s1 : ∀ k, k < wN W → supP (fun X Y B => setF W T p 1 X Y B ∧ guardF W e X Y B) (wA W k) (wB W k) (tuF W (fun X Y B => setF W T p 1 X Y B ∧ guardF W e X Y B) k) (tdF W (fun X Y B => setF W T p 1 X Y B ∧ guardF W e X Y B) k) := fun k hk =>
    sup_cuts hw (fun k hk => by have := wfT_lim ht hp (show 1 < 2 by omega) hk; omega) gb.2 c1 hk
  generalize hF1 : (fun X Y B => setF W T p 1 X Y B ∧ guardF W e X Y B) = F1 at *
  by_cases c2 : farL W (tuF W F1) (tdF W F1)
  · rw [cif_pos c2]; exact wfT_set0 ht (by omega) (by omega)
  rw [cif_neg c2]
  by_cases c3 : neF (fun X Y B => jumpF W e (tuF W F1) (tdF W F1) X Y B ∧ keepF W (W (210 + 19 * e)).toNat X Y B)
  case neg => rw [cif_neg c3]; exact ⟨ht, ext_refl ht⟩
  rw [cif_pos c3]
  have s2 : ∀ k, k < wN W → supP (fun X Y B => jumpF W e (tuF W F1) (tdF W F1) X Y B ∧ keepF W (W (210 + 19 * e)).toNat X Y B) (wA W k) (wB W k) (tuF W (fun X Y B => jumpF W e (tuF W F1) (tdF W F1) X Y B ∧ keepF W (W (210 + 19 * e)).toNat X Y B) k) (tdF W (fun X Y B => jumpF W e (tuF W F1) (tdF W F1) X Y B ∧ keepF W (W (210 + 19 * e)).toNat X Y B) k) := fun k hk =>
    sup_jump hw he em0 (fun k hk => nbyd (nfar c2 hk) (s1 k hk).1) c3 hk
  generalize hF2 : (fun X Y B => jumpF W e (tuF W F1) (tdF W F1) X Y B ∧ keepF W (W (210 + 19 * e)).toNat X Y B) = F2 at *
  by_cases c4 : farL W (tuF W F2) (tdF W F2)
  · rw [cif_pos c4]; exact wfT_set0 ht (by omega) (by omega)
  rw [cif_neg c4]
  have gne := grow_ne (m := (W (210 + 19 * e)).toNat) s2 (fun X Y B f => by rw [← hF2] at f; exact f.2) c3
  have s3 : ∀ k, k < wN W → supP (growF W (W (210 + 19 * e)).toNat (tuF W F2) (tdF W F2)) (wA W k) (wB W k) (tuF W (growF W (W (210 + 19 * e)).toNat (tuF W F2) (tdF W F2)) k) (tdF W (growF W (W (210 + 19 * e)).toNat (tuF W F2) (tdF W F2)) k) := fun k hk =>
    sup_grow hw em0 (fun k hk => by have := nbyd (nfar c4 hk) (s2 k hk).1; omega) gne hk
  by_cases c5 : farL W (tuF W (growF W (W (210 + 19 * e)).toNat (tuF W F2) (tdF W F2))) (tdF W (growF W (W (210 + 19 * e)).toNat (tuF W F2) (tdF W F2)))
  · rw [cif_pos c5]; exact wfT_set0 ht (by omega) (by omega)
  rw [cif_neg c5]
  subst hF1
  subst hF2
  exact wfT_comes hw ht hp he hfr s1 (fun k hk => ⟨nfar c4 hk, s2 k hk⟩) (fun k hk => ⟨nfar c5 hk, s3 k hk⟩)
theorem wfT_zero (W : Nat → Int) : wfT W aZero := ⟨⟨by decide, by decide⟩, ⟨by decide, by decide⟩, fun p hp => by simp [qN, aZero] at hp⟩
/-- the box that a check begins with -/
def rst (S : jS) : jS := rset (rset (rset (rset S 0 (S (RB + 2) 7) 1) 1 (-S (RB + 2) 6) 1) 2 (S (RB + 2) 9) 1) 3 (-S (RB + 2) 8) 1
theorem rst_o (S : jS) {p j : Nat} (h : p ≠ RB + 5 ∧ p ≠ RB + 6 ∧ p ≠ RB + 7) : rst S p j = S p j := by
  unfold rst; rw [rset_o _ _ _ _ h, rset_o _ _ _ _ h, rset_o _ _ _ _ h, rset_o _ _ _ _ h]
theorem rst_w (S : jS) (k : Nat) : wI (rst S) k = (if k < 4 then 1 else wI S k) ∧ wU (rst S) k = (if k = 0 then S (RB + 2) 7 else if k = 1 then -S (RB + 2) 6 else if k = 2 then S (RB + 2) 9 else if k = 3 then -S (RB + 2) 8 else wU S k) ∧ wD (rst S) k = (if k < 4 then 1 else wD S k) := by
  unfold rst
  simp only [rset_wI, rset_wU, rset_wD]
  by_cases c : k < 4
  · rcases (show k = 0 ∨ k = 1 ∨ k = 2 ∨ k = 3 by omega) with rfl | rfl | rfl | rfl <;> simp
  · have c0 : k ≠ 0 := by omega
    have c1 : k ≠ 1 := by omega
    have c2 : k ≠ 2 := by omega
    have c3 : k ≠ 3 := by omega
    simp [c0, c1, c2, c3, c]
theorem rst_gW {S : jS} {n : Nat} (h : wfS (S (RB + 2))) (hI : ∀ k, k < n → wI S k = 0) : gW (rst S) n := by
  intro k hk
  obtain ⟨a, b, c, d, -⟩ := h
  rw [(rst_w S k).1, (rst_w S k).2.1, (rst_w S k).2.2]
  by_cases q : k < 4
  · rw [if_pos q, if_pos q]
    refine ⟨Or.inr rfl, fun _ => ⟨?_, by omega, by omega⟩⟩
    split
    · omega
    · split
      · omega
      · split
        · omega
        · split
          · omega
          · omega
  · rw [if_neg q, if_neg q, hI k hk]
    exact ⟨Or.inl rfl, fun h => by omega⟩
theorem hol_start {S : jS} {n : Nat} {X Y B : Int} (hn : nok S n) (hI : ∀ k, k < n → wI S k = 0) : hol (rst S) n X Y B ↔ startF (S (RB + 2)) X Y B := by
  obtain ⟨-, h4, b1, b2, b3, b4, b5, b6, b7, b8⟩ := hn
  have eA : ∀ k, nA (rst S) k = nA S k := fun k => rst_o S (by simp)
  have eB : ∀ k, nB (rst S) k = nB S k := fun k => rst_o S (by simp)
  unfold hol startF
  simp only [eA, eB, (rst_w S _).1, (rst_w S _).2.1, (rst_w S _).2.2]
  constructor
  · intro h
    have q0 := h 0 (by omega)
    have q1 := h 1 (by omega)
    have q2 := h 2 (by omega)
    have q3 := h 3 (by omega)
    simp [b1, b2] at q0
    simp [b3, b4] at q1
    simp [b5, b6] at q2
    simp [b7, b8] at q3
    exact ⟨q0, by omega, q2, by omega⟩
  · rintro ⟨h0, h1, h2, h3⟩ k hk
    by_cases c : k < 4
    · rcases (show k = 0 ∨ k = 1 ∨ k = 2 ∨ k = 3 by omega) with rfl | rfl | rfl | rfl
      · simp [b1, b2]; exact h0
      · simp [b3, b4]; omega
      · simp [b5, b6]; exact h2
      · simp [b7, b8]; omega
    · rw [if_neg c, hI k hk]
      intro q; exact absurd rfl q
theorem sup_start {W : Nat → Int} (hw : wfW W) (hs : wfS W) {m : Nat} (hm : (m : Int) < W 0) (ne : neF (fun X Y B => startF W X Y B ∧ keepF W m X Y B)) {k : Nat} (hk : k < wN W) : supP (fun X Y B => startF W X Y B ∧ keepF W m X Y B) (wA W k) (wB W k) (tuF W (fun X Y B => startF W X Y B ∧ keepF W m X Y B) k) (tdF W (fun X Y B => startF W X Y B ∧ keepF W m X Y B) k) := by
  have e := lay3_W W 0 (fun _ => 0) (fun _ => 0)
  have I0 : ∀ k, k < wN W → wI (lay3 W 0 (fun _ => 0) (fun _ => 0)) k = 0 := fun k _ => (lay3_w W 0 (fun _ => 0) (fun _ => 0) k).1
  have e5 : rst (lay3 W 0 (fun _ => 0) (fun _ => 0)) (RB + 2) = W := (funext fun j => rst_o _ (by simp)).trans e
  have g := rst_gW (S := lay3 W 0 (fun _ => 0) (fun _ => 0)) (by rw [e]; exact hs) I0
  obtain ⟨-, mo5, -⟩ := W_mok e5 hw hm
  refine supW (S := rkept (rst (lay3 W 0 (fun _ => 0) (fun _ => 0))) m) ((funext fun j => rkept_o _ _ (by simp)).trans e5) hw (gW_kept g mo5) (fun k hk => wI_kept hk) (fun X Y B hB => ?_) ne hk
  rw [hol_kept g (W_nok e5 hw) mo5 hB, hol_start (W_nok e hw) I0, e5, e]
theorem wfT_begin {W : Nat → Int} (hw : wfW W) : wfT W (aBegin W) := by
  unfold aBegin
  dsimp only
  have z := wfT_zero W
  by_cases c0 : W 4 = 0
  · rw [if_pos c0]; exact z
  rw [if_neg c0]
  obtain ⟨-, w5, ws⟩ := hw.2.2.2.2.2.2.resolve_left c0
  have em0 : (((W 5).toNat : Nat) : Int) < W 0 := by omega
  by_cases c3 : neF (fun X Y B => startF W X Y B ∧ keepF W (W 5).toNat X Y B)
  case neg => rw [cif_neg c3]; exact z
  rw [cif_pos c3]
  have s2 : ∀ k, k < wN W → _ := fun k hk => sup_start hw ws em0 c3 hk
  generalize hF2 : (fun X Y B => startF W X Y B ∧ keepF W (W 5).toNat X Y B) = F2 at *
  by_cases c4 : farL W (tuF W F2) (tdF W F2)
  · rw [cif_pos c4]; exact (wfT_set0 z (by omega) (by omega)).1
  rw [cif_neg c4]
  have gne := grow_ne (m := (W 5).toNat) s2 (fun X Y B f => by rw [← hF2] at f; exact f.2) c3
  by_cases c5 : farL W (tuF W (growF W (W 5).toNat (tuF W F2) (tdF W F2))) (tdF W (growF W (W 5).toNat (tuF W F2) (tdF W F2)))
  · rw [cif_pos c5]; exact (wfT_set0 z (by omega) (by omega)).1
  rw [cif_neg c5]
  exact (wfT_make hw z (by decide) em0 (Or.inr rfl) (fun k hk => ⟨nfar c4 hk, s2 k hk⟩) (fun k hk => ⟨nfar c5 hk, sup_grow hw em0 (fun k hk => by have := nbyd (nfar c4 hk) (s2 k hk).1; omega) gne hk⟩) (fun _ => rfl) (Or.inl ⟨rfl, rfl, rfl⟩)).1

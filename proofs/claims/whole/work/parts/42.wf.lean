/-! A check stays right as it goes on. -/
theorem setF_eq {W : Nat → Int} {T T' : Nat → Nat → Int} {p w : Nat} (h : ∀ k, k < wN W → qU T' p w k = qU T p w k ∧ qD T' p w k = qD T p w k) : setF W T' p w = setF W T p w := by
  funext X Y B
  exact propext (lim_congr h)
theorem growF_eq {W : Nat → Int} {m : Nat} {u d u' d' : Nat → Int} (h : ∀ k, k < wN W → u' k = u k ∧ d' k = d k) : growF W m u' d' = growF W m u d := by
  funext X Y B
  exact propext (and_congr (lim_congr h) Iff.rfl)
/-- the parts of the one are in the other, but for what is open and gone -/
def ext (W : Nat → Int) (T T' : Nat → Nat → Int) : Prop := qN T ≤ qN T' ∧ ∀ p, p < qN T → (∀ w, w < 8 → w ≠ 5 → w ≠ 6 → qT T' p w = qT T p w) ∧ (qT T' p 5 = 0 ∨ qT T' p 5 = 1) ∧ (qT T' p 6 = 0 ∨ qT T' p 6 = 1) ∧ ∀ w, w < 2 → ∀ k, k < wN W → qU T' p w k = qU T p w k ∧ qD T' p w k = qD T p w k
theorem ext_refl {W : Nat → Int} {T : Nat → Nat → Int} (h : wfT W T) : ext W T T := ⟨Nat.le_refl _, fun p hp => ⟨fun _ _ _ _ => rfl, (h.2.2 p hp).2.1 5 (by omega) (by omega), (h.2.2 p hp).2.1 6 (by omega) (by omega), fun _ _ _ _ => ⟨rfl, rfl⟩⟩⟩
theorem ext_trans {W : Nat → Int} {T T' T'' : Nat → Nat → Int} (h : ext W T T') (h' : ext W T' T'') : ext W T T'' := by
  refine ⟨Nat.le_trans h.1 h'.1, fun p hp => ?_⟩
  obtain ⟨a, b, c, d⟩ := h.2 p hp
  obtain ⟨a', b', c', d'⟩ := h'.2 p (by have := h.1; omega)
  refine ⟨fun w h1 h2 h3 => by rw [a' w h1 h2 h3, a w h1 h2 h3], b', c', fun w h1 k h2 => ?_⟩
  rw [(d' w h1 k h2).1, (d' w h1 k h2).2]
  exact d w h1 k h2
theorem wfP_ext {W : Nat → Int} {T T' : Nat → Nat → Int} (h : ext W T T') {p : Nat} (hp : p < qN T) (q : wfP W T p) : wfP W T' p := by
  obtain ⟨a, b, c, d⟩ := h.2 p hp
  obtain ⟨q1, q2, q3, q4, q5, q6, q7⟩ := q
  have s : ∀ w, w < 2 → setF W T' p w = setF W T p w := fun w hw => setF_eq (d w hw)
  refine ⟨?_, fun w h4 h8 => ?_, ?_, ?_, fun w hw k hk => ?_, fun hx k hk => ?_, fun hx => ?_⟩
  · rw [a 0 (by omega) (by omega) (by omega)]; exact q1
  · rcases (show w = 5 ∨ w = 6 ∨ (w ≠ 5 ∧ w ≠ 6) by omega) with rfl | rfl | h
    · exact b
    · exact c
    · rw [a w h8 h.1 h.2]; exact q2 w h4 h8
  · rw [a 3 (by omega) (by omega) (by omega)]; exact q3
  · rw [a 1 (by omega) (by omega) (by omega), a 2 (by omega) (by omega) (by omega), a 3 (by omega) (by omega) (by omega)]
    rcases q4 with q4 | ⟨f, e, f1, f2, f3, f4, f5, f6, f7, f8⟩
    · exact Or.inl q4
    · obtain ⟨a', b', c', d'⟩ := h.2 f (by omega)
      refine Or.inr ⟨f, e, f1, f2, f3, f4, ?_, ?_, ?_, fun hx => ?_⟩
      · rw [a' 3 (by omega) (by omega) (by omega)]; exact f5
      · rw [a' 0 (by omega) (by omega) (by omega)]; exact f6
      · rw [a 0 (by omega) (by omega) (by omega)]; exact f7
      · rw [a 4 (by omega) (by omega) (by omega)] at hx
        obtain ⟨g1, g2, g3⟩ := f8 hx
        rw [a' 4 (by omega) (by omega) (by omega), setF_eq (d' 1 (by omega)), a 0 (by omega) (by omega) (by omega)]
        refine ⟨g1, g2, fun k hk => ?_⟩
        rw [(d 0 (by omega) k hk).1, (d 0 (by omega) k hk).2]
        exact g3 k hk
  · rw [(d w hw k hk).1, (d w hw k hk).2, s w hw]
    exact q5 w hw k hk
  · rw [a 4 (by omega) (by omega) (by omega)] at hx
    rw [(d 1 (by omega) k hk).1, (d 1 (by omega) k hk).2, a 0 (by omega) (by omega) (by omega), growF_eq (d 0 (by omega))]
    exact q6 hx k hk
  · rw [a 7 (by omega) (by omega) (by omega)] at hx
    rw [s 1 (by omega), a 0 (by omega) (by omega) (by omega)]
    exact q7 hx
theorem wfT_set0 {W : Nat → Int} {T : Nat → Nat → Int} (h : wfT W T) {j : Nat} {v : Int} (hj : 1 ≤ j) (hv : j = 1 → 0 ≤ v ∧ v ≤ 2) : wfT W (qset T 0 j v) ∧ ext W T (qset T 0 j v) := by
  have n : qN (qset T 0 j v) = qN T := by unfold qN; rw [qset_at, if_neg (by omega)]
  have ex : ext W T (qset T 0 j v) := by
    refine ⟨Nat.le_of_eq n.symm, fun p hp => ⟨fun w _ _ _ => ?_, ?_, ?_, fun w _ k _ => ⟨?_, ?_⟩⟩⟩
    · unfold qT; rw [qset_at, if_neg (by omega)]
    · unfold qT; rw [qset_at, if_neg (by omega)]; exact (h.2.2 p hp).2.1 5 (by omega) (by omega)
    · unfold qT; rw [qset_at, if_neg (by omega)]; exact (h.2.2 p hp).2.1 6 (by omega) (by omega)
    · unfold qU; rw [qset_at, if_neg (by omega)]
    · unfold qD; rw [qset_at, if_neg (by omega)]
  refine ⟨⟨?_, ?_, fun p hp => wfP_ext ex (by omega) (h.2.2 p (by omega))⟩, ex⟩
  · rw [qset_at, if_neg (by omega)]; exact h.1
  · rw [qset_at]
    by_cases c : j = 1
    · rw [if_pos (by omega)]; exact hv c
    · rw [if_neg (by omega)]; exact h.2.1
theorem wfT_set1 {W : Nat → Int} {T : Nat → Nat → Int} (h : wfT W T) {o w : Nat} {v : Int} (hw : w = 5 ∨ w = 6) (hv : v = 0 ∨ v = 1) : wfT W (qset T 1 (8 * o + w) v) ∧ ext W T (qset T 1 (8 * o + w) v) := by
  have n : qN (qset T 1 (8 * o + w) v) = qN T := by unfold qN; rw [qset_at, if_neg (by omega)]
  have t : ∀ p w', w' < 8 → (qT (qset T 1 (8 * o + w) v) p w' = v ∧ w' = w) ∨ qT (qset T 1 (8 * o + w) v) p w' = qT T p w' := by
    intro p w' h8
    unfold qT
    rw [qset_at]
    by_cases c : 8 * p + w' = 8 * o + w
    · rw [if_pos ⟨rfl, c⟩]; exact Or.inl ⟨rfl, by omega⟩
    · rw [if_neg (fun q => c q.2)]; exact Or.inr rfl
  have ex : ext W T (qset T 1 (8 * o + w) v) := by
    refine ⟨Nat.le_of_eq n.symm, fun p hp => ⟨fun w' h8 h5 h6 => ?_, ?_, ?_, fun w _ k _ => ⟨?_, ?_⟩⟩⟩
    · rcases t p w' h8 with c | c
      · omega
      · exact c
    · rcases t p 5 (by omega) with c | c
      · rw [c.1]; exact hv
      · rw [c]; exact (h.2.2 p hp).2.1 5 (by omega) (by omega)
    · rcases t p 6 (by omega) with c | c
      · rw [c.1]; exact hv
      · rw [c]; exact (h.2.2 p hp).2.1 6 (by omega) (by omega)
    · unfold qU; rw [qset_at, if_neg (by omega)]
    · unfold qD; rw [qset_at, if_neg (by omega)]
  refine ⟨⟨?_, ?_, fun p hp => wfP_ext ex (by omega) (h.2.2 p (by omega))⟩, ex⟩
  · rw [qset_at, if_neg (by omega)]; exact h.1
  · rw [qset_at, if_neg (by omega)]; exact h.2.1
theorem aHarm_01 (W : Nat → Int) (m : Nat) (u d : Nat → Int) : aHarm W m u d = 0 ∨ aHarm W m u d = 1 := by
  unfold aHarm
  by_cases c : (W (62 + 25 * m) ≠ 0 ∧ neF (fun X Y B => limF W (fun _ => True) u d X Y B ∧ harmF W m X Y B))
  · rw [cif_pos c]; exact Or.inr rfl
  · rw [cif_neg c]; exact Or.inl rfl
theorem aHarm_ne {W : Nat → Int} {m : Nat} {u d : Nat → Int} (h : aHarm W m u d = 1) : neF (fun X Y B => limF W (fun _ => True) u d X Y B ∧ harmF W m X Y B) := by
  unfold aHarm at h
  by_cases c : (W (62 + 25 * m) ≠ 0 ∧ neF (fun X Y B => limF W (fun _ => True) u d X Y B ∧ harmF W m X Y B))
  · exact c.2
  · rw [cif_neg c] at h; omega
/-- a part that is added -/
theorem wfT_make {W : Nat → Int} {T : Nat → Nat → Int} (hw : wfW W) (h : wfT W T) (h60 : T 0 0 ≠ 60) {m : Nat} {f e d x : Int} {u0 d0 u d' : Nat → Int} (hm : (m : Int) < W 0) (hx : x = 0 ∨ x = 1)
    {Fe Fs : Int → Int → Int → Prop} (he : ∀ k, k < wN W → ¬ byd (u0 k) (d0 k) ∧ supP Fe (wA W k) (wB W k) (u0 k) (d0 k)) (hs : ∀ k, k < wN W → ¬ byd (u k) (d' k) ∧ supP Fs (wA W k) (wB W k) (u k) (d' k)) (hg : x = 1 → Fs = growF W m u0 d0)
    (hf : (f = -2 ∧ e = -2 ∧ d = 0) ∨ ∃ p i : Nat, f = (p : Int) ∧ p < qN T ∧ e = (i : Int) ∧ (i : Int) < W 1 ∧ d = qT T p 3 + 1 ∧ W (209 + 19 * i) = qT T p 0 ∧ W (210 + 19 * i) = (m : Int) ∧ (x = 1 → qT T p 4 = 1 ∧ (∀ k, k < wN W → supP (fun X Y B => setF W T p 1 X Y B ∧ guardF W i X Y B) (wA W k) (wB W k) (tuF W (fun X Y B => setF W T p 1 X Y B ∧ guardF W i X Y B) k) (tdF W (fun X Y B => setF W T p 1 X Y B ∧ guardF W i X Y B) k)) ∧ Fe = fun X Y B => jumpF W i (tuF W (fun X Y B => setF W T p 1 X Y B ∧ guardF W i X Y B)) (tdF W (fun X Y B => setF W T p 1 X Y B ∧ guardF W i X Y B)) X Y B ∧ keepF W m X Y B)) :
    wfT W (aMake W T m f e d x u0 d0 u d') ∧ ext W T (aMake W T m f e d x u0 d0 u d') := by
  obtain ⟨n1, n2⟩ := wfT_N h
  have h24 := (wfN_n hw.1).2.2
  have N := make_N (W := W) (T := T) (m := m) (f := f) (e := e) (d := d) (x := x) (u0 := u0) (d0 := d0) (u := u) (d' := d') (by omega)
  have tT : ∀ p w, p ≤ qN T → w < 8 → _ := fun p w hp hw => make_T (W := W) (T := T) (m := m) (f := f) (e := e) (d := d) (x := x) (u0 := u0) (d0 := d0) (u := u) (d' := d') (p := p) (w := w) hp hw
  have tU : ∀ p w k, p ≤ qN T → w < 2 → k < wN W → _ := fun p w k hp hw hk => make_U (W := W) (T := T) (m := m) (f := f) (e := e) (d := d) (x := x) (u0 := u0) (d0 := d0) (u := u) (d' := d') (p := p) (w := w) (k := k) h24 hp hw hk
  have z0 := make_0 (W := W) (T := T) (m := m) (f := f) (e := e) (d := d) (x := x) (u0 := u0) (d0 := d0) (u := u) (d' := d')
  have ah := aHarm_01 W m u d'
  generalize aMake W T m f e d x u0 d0 u d' = T' at *
  have ex : ext W T T' := by
    refine ⟨by omega, fun p hp => ⟨fun w h8 _ _ => ?_, ?_, ?_, fun w hw k hk => ?_⟩⟩
    · rw [tT p w (by omega) h8, if_neg (by omega)]
    · rw [tT p 5 (by omega) (by omega), if_neg (by omega)]; exact (h.2.2 p hp).2.1 5 (by omega) (by omega)
    · rw [tT p 6 (by omega) (by omega), if_neg (by omega)]; exact (h.2.2 p hp).2.1 6 (by omega) (by omega)
    · have := tU p w k (by omega) hw hk
      rw [if_neg (by omega), if_neg (by omega)] at this
      exact this
  have nT : ∀ w, w < 8 → qT T' (qN T) w = _ := fun w hw => by rw [tT (qN T) w (by omega) hw, if_pos rfl]
  have nU0 : ∀ k, k < wN W → qU T' (qN T) 0 k = u0 k ∧ qD T' (qN T) 0 k = d0 k := fun k hk => by
    have := tU (qN T) 0 k (by omega) (by omega) hk
    rw [if_pos rfl, if_pos rfl, if_pos rfl, if_pos rfl] at this
    exact this
  have nU1 : ∀ k, k < wN W → qU T' (qN T) 1 k = u k ∧ qD T' (qN T) 1 k = d' k := fun k hk => by
    have := tU (qN T) 1 k (by omega) (by omega) hk
    rw [if_pos rfl, if_neg (by omega), if_pos rfl, if_neg (by omega)] at this
    exact this
  have m0 : qT T' (qN T) 0 = (m : Int) := by rw [nT 0 (by omega)]; rfl
  have t1 : qT T' (qN T) 1 = f := by rw [nT 1 (by omega)]; rfl
  have t2 : qT T' (qN T) 2 = e := by rw [nT 2 (by omega)]; rfl
  have t3 : qT T' (qN T) 3 = d := by rw [nT 3 (by omega)]; rfl
  have t4 : qT T' (qN T) 4 = x := by rw [nT 4 (by omega)]; rfl
  refine ⟨⟨?_, ?_, fun p hp => ?_⟩, ex⟩
  · have q := h.1
    clear hf
    rw [z0, if_pos rfl]; omega
  · rw [z0, if_neg (by omega)]; exact h.2.1
  · by_cases c : p = qN T
    · subst c
      refine ⟨by rw [m0]; omega, fun w h4 h8 => ?_, ?_, ?_, fun w hw' k hk => ?_, fun hx1 k hk => ?_, fun hx7 => ?_⟩
      · rcases (show w = 4 ∨ w = 5 ∨ w = 6 ∨ w = 7 by omega) with rfl | rfl | rfl | rfl
        · rw [t4]; exact hx
        · rw [nT 5 (by omega)]; exact Or.inr rfl
        · rw [nT 6 (by omega)]; exact Or.inl rfl
        · rw [nT 7 (by omega)]; exact ah
      · rw [t3]
        rcases hf with ⟨-, -, hd⟩ | ⟨p, i, f1, f2, f3, f4, f5, -⟩
        · omega
        · have := (h.2.2 p f2).2.2.1; omega
      · rw [t1, t2, t3, t4]
        rcases hf with hf | ⟨p, i, f1, f2, f3, f4, f5, f6, f7, f8⟩
        · exact Or.inl hf
        · obtain ⟨a', b', c', d''⟩ := ex.2 p f2
          refine Or.inr ⟨p, i, f1, f2, f3, f4, ?_, ?_, ?_, fun hx1 => ?_⟩
          · rw [a' 3 (by omega) (by omega) (by omega)]; exact f5
          · rw [a' 0 (by omega) (by omega) (by omega)]; exact f6
          · rw [m0]; exact f7
          · obtain ⟨g1, g2, g3⟩ := f8 hx1
            rw [a' 4 (by omega) (by omega) (by omega), setF_eq (d'' 1 (by omega)), m0, Int.toNat_natCast]
            refine ⟨g1, g2, fun k hk => ?_⟩
            rw [(nU0 k hk).1, (nU0 k hk).2, ← g3]
            exact (he k hk).2
      · rcases (show w = 0 ∨ w = 1 by omega) with rfl | rfl
        · have e1 : setF W T' (qN T) 0 = limF W (fun _ => True) u0 d0 := by funext X Y B; exact propext (lim_congr nU0)
          rw [(nU0 k hk).1, (nU0 k hk).2, e1]
          exact ⟨(he k hk).1, sup_lim (fun k hk => (he k hk).2) hk⟩
        · have e1 : setF W T' (qN T) 1 = limF W (fun _ => True) u d' := by funext X Y B; exact propext (lim_congr nU1)
          rw [(nU1 k hk).1, (nU1 k hk).2, e1]
          exact ⟨(hs k hk).1, sup_lim (fun k hk => (hs k hk).2) hk⟩
      · rw [t4] at hx1
        rw [(nU1 k hk).1, (nU1 k hk).2, m0, Int.toNat_natCast, growF_eq nU0, ← hg hx1]
        exact (hs k hk).2
      · have e1 : setF W T' (qN T) 1 = limF W (fun _ => True) u d' := by funext X Y B; exact propext (lim_congr nU1)
        rw [nT 7 (by omega)] at hx7
        rw [e1, m0, Int.toNat_natCast]
        exact aHarm_ne hx7
    · exact wfP_ext ex (by omega) (h.2.2 p (by omega))

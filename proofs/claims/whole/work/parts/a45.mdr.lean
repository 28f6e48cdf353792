/-! The class Reader: what is told so far. -/
/-- the class's cells hold what is told -/
def mdR (u : Nat) (S : jS) (s : gS) (af : Nat → Nat) : Prop := mdC u S s.1 af ∧ afR s.1 af ∧ S u 15 = s.1 3 ∧ (s.1 4 ≠ 0 → ∀ i, i < 4 → S (u + 147) i = s.1 (6 + i)) ∧ nmR (S (u + 5)) s.1 s.2.1
def mdT (S : jS) (s : gS) : Prop := S 298 10 = (if s.2.2 = true then 1 else 0) ∧ S 298 12 = s.1 10
def eW (tp : Nat → Int) (n u line : Nat) (S : jS) (s : gS) (a : Nat) : Prop := eR tp n u line S a ∧ gI s ∧ (∃ af, mdR u S s af) ∧ mdT S s
def eX (u : Nat) (S : jS) (e : Int × Nat) : Prop := ex S e ∧ xn6 u S
/-- what a line changes -/
def eF (u : Nat) (S S' : jS) : Prop := (∀ r j, r ≠ 298 → (r < u ∨ u + 147 < r) → S' r j = S r j) ∧ ∀ k, (k < 3 ∨ k = 11) → S' 298 k = S 298 k
section
variable {tp : Nat → Int} {n u line : Nat} {S S' : jS} {s : gS} {af : Nat → Nat}
theorem eF.refl (u : Nat) (S : jS) : eF u S S := ⟨fun _ _ _ _ => rfl, fun _ _ => rfl⟩
theorem eF.trans {S'' : jS} (h : eF u S S') (h' : eF u S' S'') : eF u S S'' := ⟨fun r j a b => by rw [h'.1 r j a b, h.1 r j a b], fun k a => by rw [h'.2 k a, h.2 k a]⟩
theorem eF.ofJ (h : eJ S S') : eF u S S' := ⟨fun r j a _ => h.1 r j a, fun k a => h.2 k (by omega) (by omega) (by omega) (by omega)⟩
theorem eF.ofY (h : eY u S S') : eF u S S' := ⟨fun r j a b => h.1 r j a (by omega), fun k a => h.2.2 k (by omega) (by omega) (by omega) (by omega)⟩
theorem xn6.Y (h : xn6 u S) (f : eY u S S') : xn6 u S' := by
  have ub := mU_b h.1
  obtain ⟨h1, h2, ⟨c, h3, h4, h5⟩, ⟨d, h6, h7⟩, h8⟩ := h
  exact ⟨h1, by rw [f.2.2 11 (by omega) (by omega) (by omega) (by omega)]; exact h2, ⟨c, by rw [f.1 _ _ (by omega) (by omega)]; exact h3, h4, fun m hm => by rw [f.1 _ _ (by omega) (by omega)]; exact h5 m hm⟩, ⟨d, by rw [f.1 _ _ (by omega) (by omega)]; exact h6, h7⟩, fun i hi => by rw [f.1 _ _ (by omega) (by omega)]; exact h8 i hi⟩
theorem nmR_b {C F Nm : Nat → Int} (h : nmR C F Nm) {m : Nat} (hm : (m : Int) < F 0) : jI32 (C m) := by
  have := nmP_b (h m hm)
  exact ⟨by omega, by omega⟩
theorem eW.x6 {a : Nat} (h : eW tp n u line S s a) : xn6 u S := by
  obtain ⟨⟨h1, h2, h3, h4, h5, h6⟩, ⟨gI1, gI2⟩, ⟨af, m1, m2, m3, m4, m5⟩, t⟩ := h
  have w0 := gI1.1.2.1
  have w1 := gI1.1.2.2.1
  exact ⟨h1, h5, ⟨(s.1 0).toNat, by rw [m1.2.1.1]; omega, by omega, fun m hm => nmR_b m5 (by omega)⟩, ⟨(s.1 1).toNat, by rw [m1.2.1.2.1]; omega, by omega⟩, h6⟩
theorem eW.nm {a : Nat} (h : eW tp n u line S s a) : nmC u S s.1 s.2.1 := by
  obtain ⟨⟨h1, h2, h3, h4, h5, h6⟩, ⟨gI1, gI2⟩, ⟨af, m1, m2, m3, m4, m5⟩, t⟩ := h
  exact ⟨h1, h5, m1.2.1.1, gI1.1.2.1, m5⟩
theorem nst2_r (W : Nat → Int) : nst2 W W := fun _ _ => ⟨rfl, rfl⟩
theorem mdR.c (h : mdR u S s af) (hw : wfF s.1) (f : ∀ r j, u ≤ r → r ≤ u + 147 → S' r j = S r j) : mdR u S' s af := by
  obtain ⟨m1, m2, m3, m4, m5⟩ := h
  obtain ⟨c1, c2, c3, c4⟩ := mdC_i.mp m1
  have w0 := hw.1.2.1
  have w1 := hw.1.2.2.1
  refine ⟨mdC_i.mpr ⟨nwR_mono c1 (f _ _ (by omega) (by omega)) (fun r j q1 q2 => f r j (by omega) (by omega)) rfl (nst2_r _), ?_, fun m hm => ?_, fun e he => ?_⟩, m2, by rw [f _ _ (by omega) (by omega)]; exact m3, fun q i hi => by rw [f _ _ (by omega) (by omega)]; exact m4 q i hi, fun m hm => by rw [f _ _ (by omega) (by omega)]; exact m5 m hm⟩
  · rw [f u _ (by omega) (by omega), f u _ (by omega) (by omega), f u _ (by omega) (by omega)]; exact c2
  · exact mM_mono (c3 m hm) (hw.1.2.2.2.2.1 m hm) (f _ _ (by omega) (by omega)) (f _ _ (by omega) (by omega)) (fun r j q1 q2 => f r j (by omega) (by omega)) (fun _ _ _ => rfl) (nst2_r _)
  · exact mE_mono (c4 e he) (hw.1.2.2.2.2.2.1 e he) (f _ _ (by omega) (by omega)) (f _ _ (by omega) (by omega)) (fun r j q1 q2 => f r j (by omega) (by omega)) (fun j _ _ => ⟨f _ _ (by omega) (by omega), f _ _ (by omega) (by omega)⟩) (fun _ _ _ => rfl) (nst2_r _)
theorem mdT.J (h : mdT S s) (f : eJ S S') : mdT S' s := by
  unfold mdT at *
  rw [f.2 10 (by omega) (by omega) (by omega) (by omega), f.2 12 (by omega) (by omega) (by omega) (by omega)]
  exact h
theorem eW.J {a a' : Nat} (h : eW tp n u line S s a) (f : eJ S S') (g : eg n S' a') : eW tp n u line S' s a' := by
  obtain ⟨h1, h2, ⟨af, h3⟩, h4⟩ := h
  have ub := mU_b h1.1
  exact ⟨h1.J f g, h2, ⟨af, h3.c h2.1 (fun r j q1 q2 => f.1 r j (by omega))⟩, h4.J f⟩
/-- a bound more of a mode -/
theorem md_keep {F F1 : Nat → Int} {Nm : Nat → Int} {bo : Bool} {af1 : Nat → Nat} {w m i v : Nat} {x y c k : Int} (hw : w < 2) (hF : wfF F) (hm : (m : Int) < F 0) (hi : F (61 + w + 25 * m) = (i : Int)) (i4 : i < (if w = 0 then 4 else 3)) (hv : v = (if w = 0 then u + 10 else u + 16) + 12 * m) (md : mdR u S (F, Nm, bo) af) (B : bdO u v i S S' x y c k) (u298 : u + 147 < 298) (n1 : nwR (u + 1) S' F1 af1) (a1 : afR F1 af1) (gn : gNor F x y line = .inr (k, F1)) (xb : -9 ≤ x ∧ x ≤ 9) (yb : -9 ≤ y ∧ y ≤ 9) (nz : ¬ (x = 0 ∧ y = 0)) (cb : -999 ≤ c ∧ c ≤ 999) :
    mdR u S' (fu (gBd F1 ((if w = 0 then 63 else 75) + 25 * m + 3 * i) k c (ig x y)) (61 + w + 25 * m) (F1 (61 + w + 25 * m) + 1), Nm, bo) af1 := by
  obtain ⟨fN, kb, ka, kb'⟩ := gNor_ok hF xb yb nz gn
  obtain ⟨g1, g2, -⟩ := nrm_div xb yb nz
  obtain ⟨B1, B2, B3, B4, B5, s1, s2, s3, s4, s5⟩ := B
  have w0 := hF.1.2.1
  have w1 := hF.1.2.2.1
  generalize hto : (if w = 0 then 63 else 75) + 25 * m + 3 * i = to
  have tb : (w = 0 ∧ to = 63 + 25 * m + 3 * i ∧ i < 4 ∧ v = u + 10 + 12 * m) ∨ (w = 1 ∧ to = 75 + 25 * m + 3 * i ∧ i < 3 ∧ v = u + 16 + 12 * m) := by
    rcases (show w = 0 ∨ w = 1 by omega) with q | q
    · subst q; rw [if_pos rfl] at hto i4 hv; exact Or.inl ⟨rfl, hto.symm, i4, hv⟩
    · subst q; rw [if_neg (by omega)] at hto i4 hv; exact Or.inr ⟨rfl, hto.symm, i4, hv⟩
  have F1t : F1 (61 + w + 25 * m) = (i : Int) := by rw [fN.2.2.2 _ (by omega) (by omega)]; exact hi
  generalize hF' : fu (gBd F1 to k c (ig x y)) (61 + w + 25 * m) (F1 (61 + w + 25 * m) + 1) = F'
  have eo1 : ∀ j, (j < to ∨ to + 2 < j) → j ≠ 61 + w + 25 * m → F' j = F1 j := fun j h1 h2 => by rw [← hF', fu_ne _ _ h2, gBd_ne h1]
  have eo : ∀ j, j ≠ 2 → (j < 11 ∨ 59 ≤ j) → (j < to ∨ to + 2 < j) → j ≠ 61 + w + 25 * m → F' j = F j := fun j q1 q2 h1 h2 => by rw [eo1 j h1 h2, fN.2.2.2 j q1 q2]
  have ec : F' (61 + w + 25 * m) = (i : Int) + 1 := by rw [← hF', fu_eq, F1t]
  have b0 := gBd_0 (F := F1) (to := to) (k := k) (c := c) (g := ig x y)
  have e0 : F' to = k := by rw [← hF', fu_ne _ _ (by omega)]; exact b0.1
  have e1 : F' (to + 1) = Int.tdiv c (ig c (ig x y)) := by rw [← hF', fu_ne _ _ (by omega)]; exact b0.2.1
  have e2 : F' (to + 2) = Int.tdiv (ig x y) (ig c (ig x y)) := by rw [← hF', fu_ne _ _ (by omega)]; exact b0.2.2
  clear hF' b0
  have n1F : nst2 F1 F' := nst2_hi fN.1.1.1 (fun j q1 q2 => eo1 j (by omega) (by omega))
  have nF : nst2 F F' := fun q hq => by
    have a := fN.2.2.1 q hq
    have b := n1F q (Nat.lt_of_lt_of_le hq fN.2.1)
    rw [b.1, b.2]; exact a
  have kk : k.toNat < wN F1 := by omega
  rw [← (n1F _ kk).1] at ka
  rw [← (n1F _ kk).2] at kb'
  obtain ⟨m1, m2, m3, m4, m5⟩ := md
  obtain ⟨c1, c2, c3, c4⟩ := mdC_i.mp m1
  refine ⟨mdC_i.mpr ⟨nwR_mono n1 rfl (fun _ _ _ _ => rfl) (eo1 2 (by omega) (by omega)) n1F, ?_, fun m' hm' => ?_, fun e he => ?_⟩, afR_mono a1 (eo1 2 (by omega) (by omega)) n1F, ?_, fun q j hj => ?_, fun m' hm' => ?_⟩
  · rw [B1 u _ (by omega) (by omega) (by omega), B1 u _ (by omega) (by omega) (by omega), B1 u _ (by omega) (by omega) (by omega)]
    show S u 12 = F' 0 ∧ S u 13 = F' 1 ∧ S u 14 = if F' 4 = 0 then -1 else F' 5
    rw [eo 0 (by omega) (by omega) (by omega) (by omega), eo 1 (by omega) (by omega) (by omega) (by omega), eo 4 (by omega) (by omega) (by omega) (by omega), eo 5 (by omega) (by omega) (by omega) (by omega)]
    exact c2
  · have hm' : (m' : Int) < F 0 := by rw [← eo 0 (by omega) (by omega) (by omega) (by omega)]; exact hm'
    have wm := hF.1.2.2.2.2.1 m' hm'
    by_cases cm : m' = m
    · subst cm
      obtain ⟨p1, p2, p3, p4⟩ := c3 m' hm'
      obtain ⟨-, -, -, w4, w5⟩ := wm
      unfold mM
      rw [B1 (u + 6) _ (by omega) (by omega) (by omega), B1 (u + 7) _ (by omega) (by omega) (by omega)]
      show S (u + 6) m' = F' (59 + 25 * m') ∧ S (u + 7) m' = F' (60 + 25 * m') ∧ bdR (u + 10 + 12 * m') S' F' (63 + 25 * m') (F' (61 + 25 * m')).toNat ∧ bdR (u + 16 + 12 * m') S' F' (75 + 25 * m') (F' (62 + 25 * m')).toNat
      rw [eo (59 + 25 * m') (by omega) (by omega) (by omega) (by omega), eo (60 + 25 * m') (by omega) (by omega) (by omega) (by omega)]
      rcases tb with ⟨t1, t2, t3, t4⟩ | ⟨t1, t2, t3, t4⟩
      · subst t1
        have ec' : F' (61 + 25 * m') = (i : Int) + 1 := ec
        have hi' : F (61 + 25 * m') = (i : Int) := hi
        have p3' : bdR v S F (63 + 25 * m') i := by have := p3; rw [show (((F, Nm, bo) : gS).1 (61 + 25 * m')).toNat = i by show (F _).toNat = i; omega] at this; rw [t4]; exact this
        have w4' : bokW F (wN F) (63 + 25 * m') i := by have := w4.2; rw [show (F (61 + 25 * m')).toNat = i by omega] at this; exact this
        rw [ec', eo (62 + 25 * m') (by omega) (by omega) (by omega) (by omega), show ((i : Int) + 1).toNat = i + 1 by omega]
        refine ⟨p1, p2, ?_, bdR_mono p4 w5.2 (fun r j q1 q2 _ => B1 r j (by omega) (by omega) (by omega)) (fun j q1 q2 => eo j (by omega) (by omega) (by omega) (by omega)) nF⟩
        rw [← t4]
        exact bdR_more p3' w4' (fun r j q1 q2 q3 => B2 r j q1 q2 q3) B3 (fun j q1 q2 => eo j (by omega) (by omega) (by omega) (by omega)) nF (by rw [← t2]; exact e0) (by rw [← t2]; exact e1) (by rw [← t2]; exact e2) cb ⟨g1, g2⟩ ka kb' s1 s2 s3 s4 s5
      · subst t1
        have ec' : F' (62 + 25 * m') = (i : Int) + 1 := ec
        have hi' : F (62 + 25 * m') = (i : Int) := hi
        have p4' : bdR v S F (75 + 25 * m') i := by have := p4; rw [show (((F, Nm, bo) : gS).1 (62 + 25 * m')).toNat = i by show (F _).toNat = i; omega] at this; rw [t4]; exact this
        have w5' : bokW F (wN F) (75 + 25 * m') i := by have := w5.2; rw [show (F (62 + 25 * m')).toNat = i by omega] at this; exact this
        rw [ec', eo (61 + 25 * m') (by omega) (by omega) (by omega) (by omega), show ((i : Int) + 1).toNat = i + 1 by omega]
        refine ⟨p1, p2, bdR_mono p3 w4.2 (fun r j q1 q2 _ => B1 r j (by omega) (by omega) (by omega)) (fun j q1 q2 => eo j (by omega) (by omega) (by omega) (by omega)) nF, ?_⟩
        rw [← t4]
        exact bdR_more p4' w5' (fun r j q1 q2 q3 => B2 r j q1 q2 q3) B3 (fun j q1 q2 => eo j (by omega) (by omega) (by omega) (by omega)) nF (by rw [← t2]; exact e0) (by rw [← t2]; exact e1) (by rw [← t2]; exact e2) cb ⟨g1, g2⟩ ka kb' s1 s2 s3 s4 s5
    · exact mM_mono (c3 m' hm') wm (B1 _ _ (by omega) (by omega) (by omega)) (B1 _ _ (by omega) (by omega) (by omega)) (fun r j q1 q2 => B1 r j (by omega) (by omega) (by omega)) (fun j q1 q2 => eo j (by omega) (by omega) (by omega) (by omega)) nF
  · have he : (e : Int) < F 1 := by rw [← eo 1 (by omega) (by omega) (by omega) (by omega)]; exact he
    exact mE_mono (c4 e he) (hF.1.2.2.2.2.2.1 e he) (B1 _ _ (by omega) (by omega) (by omega)) (B1 _ _ (by omega) (by omega) (by omega)) (fun r j q1 q2 => B1 r j (by omega) (by omega) (by omega)) (fun j _ _ => ⟨B1 _ _ (by omega) (by omega) (by omega), B1 _ _ (by omega) (by omega) (by omega)⟩) (fun j q1 q2 => eo j (by omega) (by omega) (by omega) (by omega)) nF
  · show S' u 15 = F' 3
    rw [B1 u _ (by omega) (by omega) (by omega), eo 3 (by omega) (by omega) (by omega) (by omega)]; exact m3
  · have q : F 4 ≠ 0 := by rw [← eo 4 (by omega) (by omega) (by omega) (by omega)]; exact q
    show S' (u + 147) j = F' (6 + j)
    rw [B1 _ _ (by omega) (by omega) (by omega), eo _ (by omega) (by omega) (by omega) (by omega)]; exact m4 q j hj
  · have hm' : (m' : Int) < F 0 := by rw [← eo 0 (by omega) (by omega) (by omega) (by omega)]; exact hm'
    rw [B1 _ _ (by omega) (by omega) (by omega)]; exact m5 m' hm'
end

/-! The class Reader: modes, edges, what they do, the start: as the cells hold them. -/
section
variable {tp : Nat → Int} {n u line : Nat} {S S' : jS} {af : Nat → Nat} {F F' Nm Nm' : Nat → Int} {bo bo' : Bool}
/-- numbers below 11 change, and modes and edges stay -/
theorem md_low (hF : wfF F) (md : mdR u S (F, Nm, bo) af) (eo : ∀ j, (j < 3 ∨ 10 < j) → F' j = F j) (fr : ∀ r j, u < r → r < u + 147 → S' r j = S r j) (f12 : S' u 12 = S u 12) (f13 : S' u 13 = S u 13) (f14 : S' u 14 = if F' 4 = 0 then -1 else F' 5) (f15 : S' u 15 = F' 3) (fs : F' 4 ≠ 0 → ∀ i, i < 4 → S' (u + 147) i = F' (6 + i)) : mdR u S' (F', Nm, bo') af := by
  obtain ⟨m1, m2, m3, m4, m5⟩ := md
  obtain ⟨c1, c2, c3, c4⟩ := mdC_i.mp m1
  have w0 := hF.1.2.1
  have w1 := hF.1.2.2.1
  have nF : nst2 F F' := nst2_hi hF.1.1 (fun j q1 q2 => eo j (by omega))
  refine ⟨mdC_i.mpr ⟨nwR_mono c1 (fr _ _ (by omega) (by omega)) (fun r j q1 q2 => fr r j (by omega) (by omega)) (eo 2 (by omega)) nF, ?_, fun m hm => ?_, fun e he => ?_⟩, afR_mono m2 (eo 2 (by omega)) nF, f15, fs, fun m hm => ?_⟩
  · show S' u 12 = F' 0 ∧ S' u 13 = F' 1 ∧ S' u 14 = if F' 4 = 0 then -1 else F' 5
    rw [f12, f13, eo 0 (by omega), eo 1 (by omega)]
    exact ⟨c2.1, c2.2.1, f14⟩
  · have hm : (m : Int) < F 0 := by rw [← eo 0 (by omega)]; exact hm
    exact mM_mono (c3 m hm) (hF.1.2.2.2.2.1 m hm) (fr _ _ (by omega) (by omega)) (fr _ _ (by omega) (by omega)) (fun r j q1 q2 => fr r j (by omega) (by omega)) (fun j q1 q2 => eo j (by omega)) nF
  · have he : (e : Int) < F 1 := by rw [← eo 1 (by omega)]; exact he
    exact mE_mono (c4 e he) (hF.1.2.2.2.2.2.1 e he) (fr _ _ (by omega) (by omega)) (fr _ _ (by omega) (by omega)) (fun r j q1 q2 => fr r j (by omega) (by omega)) (fun j _ _ => ⟨fr _ _ (by omega) (by omega), fr _ _ (by omega) (by omega)⟩) (fun j q1 q2 => eo j (by omega)) nF
  · have hm : (m : Int) < F 0 := by rw [← eo 0 (by omega)]; exact hm
    rw [fr _ _ (by omega) (by omega)]; exact m5 m hm
/-- an edge's deed -/
theorem md_deed {m w : Nat} {k v : Int} (hF : wfF F) (hw : w < 2) (hm : (m : Int) < F 1) (md : mdR u S (F, Nm, bo) af) (f0 : ∀ r j, r ≠ u + 145 → r ≠ u + 146 → S' r j = S r j) (f1 : ∀ j, j ≠ 2 * m + w → S' (u + 145) j = S (u + 145) j ∧ S' (u + 146) j = S (u + 146) j) (k1 : S' (u + 145) (2 * m + w) = k) (v1 : S' (u + 146) (2 * m + w) = v) :
    mdR u S' (fu (fu F (212 + 2 * w + 19 * m) k) (212 + 2 * w + 19 * m + 1) v, Nm, bo) af := by
  obtain ⟨m1, m2, m3, m4, m5⟩ := md
  obtain ⟨c1, c2, c3, c4⟩ := mdC_i.mp m1
  have w0 := hF.1.2.1
  have w1 := hF.1.2.2.1
  generalize hF' : fu (fu F (212 + 2 * w + 19 * m) k) (212 + 2 * w + 19 * m + 1) v = F'
  have eo : ∀ j, j ≠ 212 + 2 * w + 19 * m → j ≠ 212 + 2 * w + 19 * m + 1 → F' j = F j := fun j h1 h2 => by rw [← hF', fu_ne _ _ h2, fu_ne _ _ h1]
  have ek : F' (212 + 2 * w + 19 * m) = k := by rw [← hF', fu_ne _ _ (by omega), fu_eq]
  have ev : F' (212 + 2 * w + 19 * m + 1) = v := by rw [← hF', fu_eq]
  clear hF'
  have nF : nst2 F F' := nst2_hi hF.1.1 (fun j q1 q2 => eo j (by omega) (by omega))
  refine ⟨mdC_i.mpr ⟨nwR_mono c1 (f0 _ _ (by omega) (by omega)) (fun r j q1 q2 => f0 r j (by omega) (by omega)) (eo 2 (by omega) (by omega)) nF, ?_, fun m' hm' => ?_, fun e he => ?_⟩, afR_mono m2 (eo 2 (by omega) (by omega)) nF, ?_, fun q j hj => ?_, fun m' hm' => ?_⟩
  · show S' u 12 = F' 0 ∧ S' u 13 = F' 1 ∧ S' u 14 = if F' 4 = 0 then -1 else F' 5
    rw [f0 u _ (by omega) (by omega), f0 u _ (by omega) (by omega), f0 u _ (by omega) (by omega), eo 0 (by omega) (by omega), eo 1 (by omega) (by omega), eo 4 (by omega) (by omega), eo 5 (by omega) (by omega)]
    exact c2
  · have hm' : (m' : Int) < F 0 := by rw [← eo 0 (by omega) (by omega)]; exact hm'
    exact mM_mono (c3 m' hm') (hF.1.2.2.2.2.1 m' hm') (f0 _ _ (by omega) (by omega)) (f0 _ _ (by omega) (by omega)) (fun r j q1 q2 => f0 r j (by omega) (by omega)) (fun j q1 q2 => eo j (by omega) (by omega)) nF
  · have he : (e : Int) < F 1 := by rw [← eo 1 (by omega) (by omega)]; exact he
    by_cases cm : e = m
    · subst cm
      obtain ⟨p1, p2, p3, p4, p5, p6, p7⟩ := c4 e he
      have we := hF.1.2.2.2.2.2.1 e he
      obtain ⟨-, -, w4, -⟩ := we
      unfold mE
      rw [f0 (u + 82) _ (by omega) (by omega), f0 (u + 83) _ (by omega) (by omega)]
      show S (u + 82) e = F' (209 + 19 * e) ∧ S (u + 83) e = F' (210 + 19 * e) ∧ bdR (u + 85 + 6 * e) S' F' (216 + 19 * e) (F' (211 + 19 * e)).toNat ∧ S' (u + 145) (2 * e) = F' (212 + 19 * e) ∧ S' (u + 146) (2 * e) = F' (213 + 19 * e) ∧ S' (u + 145) (2 * e + 1) = F' (214 + 19 * e) ∧ S' (u + 146) (2 * e + 1) = F' (215 + 19 * e)
      rw [eo (209 + 19 * e) (by omega) (by omega), eo (210 + 19 * e) (by omega) (by omega), eo (211 + 19 * e) (by omega) (by omega)]
      refine ⟨p1, p2, bdR_mono p3 w4.2 (fun r j q1 q2 _ => f0 r j (by omega) (by omega)) (fun j q1 q2 => eo j (by omega) (by omega)) nF, ?_⟩
      rcases (show w = 0 ∨ w = 1 by omega) with q | q <;> subst q
      · rw [eo (214 + 19 * e) (by omega) (by omega), eo (215 + 19 * e) (by omega) (by omega), (f1 (2 * e + 1) (by omega)).1, (f1 (2 * e + 1) (by omega)).2]
        exact ⟨k1.trans ek.symm, v1.trans (by rw [← ev]; congr 1; omega), p6, p7⟩
      · rw [eo (212 + 19 * e) (by omega) (by omega), eo (213 + 19 * e) (by omega) (by omega), (f1 (2 * e) (by omega)).1, (f1 (2 * e) (by omega)).2]
        exact ⟨p4, p5, k1.trans ek.symm, v1.trans (by rw [← ev]; congr 1; omega)⟩
    · exact mE_mono (c4 e he) (hF.1.2.2.2.2.2.1 e he) (f0 _ _ (by omega) (by omega)) (f0 _ _ (by omega) (by omega)) (fun r j q1 q2 => f0 r j (by omega) (by omega)) (fun j _ _ => f1 j (by omega)) (fun j q1 q2 => eo j (by omega) (by omega)) nF
  · show S' u 15 = F' 3
    rw [f0 u _ (by omega) (by omega), eo 3 (by omega) (by omega)]; exact m3
  · have q : F 4 ≠ 0 := by rw [← eo 4 (by omega) (by omega)]; exact q
    show S' (u + 147) j = F' (6 + j)
    rw [f0 _ _ (by omega) (by omega), eo _ (by omega) (by omega)]; exact m4 q j hj
  · have hm' : (m' : Int) < F 0 := by rw [← eo 0 (by omega) (by omega)]; exact hm'
    rw [f0 _ _ (by omega) (by omega)]; exact m5 m' hm'
/-- a mode more -/
theorem md_own {a b cn wn : Int} {m : Nat} (hF : wfF F) (hm : F 0 = (m : Int)) (m6 : m < 6) (md : mdR u S (F, Nm, bo) af) (hn : nmP cn wn)
    (f0 : ∀ r j, r ≠ u → r ≠ u + 5 → r ≠ u + 6 → r ≠ u + 7 → r ≠ u + 10 + 12 * m → r ≠ u + 16 + 12 * m → S' r j = S r j) (f1 : ∀ j, j ≠ 12 → S' u j = S u j) (f12 : S' u 12 = (m : Int) + 1) (f5 : ∀ j, S' (u + 5) j = if j = m then cn else S (u + 5) j) (f6 : ∀ j, S' (u + 6) j = if j = m then a else S (u + 6) j) (f7 : ∀ j, S' (u + 7) j = if j = m then b else S (u + 7) j) (z1 : S' (u + 10 + 12 * m) 5 = 0) (z2 : S' (u + 16 + 12 * m) 5 = 0) :
    mdR u S' (gMk F a b, fu Nm m wn, bo) af := by
  obtain ⟨m1, m2, m3, m4, m5⟩ := md
  obtain ⟨c1, c2, c3, c4⟩ := mdC_i.mp m1
  have w0 := hF.1.2.1
  have w1 := hF.1.2.2.1
  have zr := hF.2.1 m (by omega) m6
  generalize hF' : gMk F a b = F'
  have em : (F 0).toNat = m := by omega
  unfold gMk at hF'
  rw [em, hm] at hF'
  have eo : ∀ j, j ≠ 0 → j ≠ 59 + 25 * m → j ≠ 60 + 25 * m → F' j = F j := fun j h0 h1 h2 => by rw [← hF', fu_ne _ _ h0, fu_ne _ _ h2, fu_ne _ _ h1]
  have e0 : F' 0 = (m : Int) + 1 := by rw [← hF', fu_eq]
  have ea : F' (59 + 25 * m) = a := by rw [← hF', fu_ne _ _ (by omega), fu_ne _ _ (by omega), fu_eq]
  have eb : F' (60 + 25 * m) = b := by rw [← hF', fu_ne _ _ (by omega), fu_eq]
  clear hF'
  have nF : nst2 F F' := nst2_hi hF.1.1 (fun j q1 q2 => eo j (by omega) (by omega) (by omega))
  refine ⟨mdC_i.mpr ⟨nwR_mono c1 (f0 _ _ (by omega) (by omega) (by omega) (by omega) (by omega) (by omega)) (fun r j q1 q2 => f0 r j (by omega) (by omega) (by omega) (by omega) (by omega) (by omega)) (eo 2 (by omega) (by omega) (by omega)) nF, ?_, fun m' hm' => ?_, fun e he => ?_⟩, afR_mono m2 (eo 2 (by omega) (by omega) (by omega)) nF, ?_, fun q j hj => ?_, fun m' hm' => ?_⟩
  · show S' u 12 = F' 0 ∧ S' u 13 = F' 1 ∧ S' u 14 = if F' 4 = 0 then -1 else F' 5
    rw [f12, e0, f1 13 (by omega), f1 14 (by omega), eo 1 (by omega) (by omega) (by omega), eo 4 (by omega) (by omega) (by omega), eo 5 (by omega) (by omega) (by omega)]
    exact ⟨rfl, c2.2⟩
  · have hm' : (m' : Int) < F' 0 := hm'
    by_cases cm : m' = m
    · subst cm
      unfold mM
      rw [f6, if_pos rfl, f7, if_pos rfl]
      show a = F' (59 + 25 * m') ∧ b = F' (60 + 25 * m') ∧ bdR (u + 10 + 12 * m') S' F' (63 + 25 * m') (F' (61 + 25 * m')).toNat ∧ bdR (u + 16 + 12 * m') S' F' (75 + 25 * m') (F' (62 + 25 * m')).toNat
      rw [ea, eb, eo (61 + 25 * m') (by omega) (by omega) (by omega), eo (62 + 25 * m') (by omega) (by omega) (by omega), zr.1, zr.2]
      exact ⟨rfl, rfl, ⟨z1, fun i hi => absurd hi (by simp)⟩, ⟨z2, fun i hi => absurd hi (by simp)⟩⟩
    · have hm' : (m' : Int) < F 0 := by omega
      exact mM_mono (c3 m' hm') (hF.1.2.2.2.2.1 m' hm') (by rw [f6, if_neg cm]) (by rw [f7, if_neg cm]) (fun r j q1 q2 => f0 r j (by omega) (by omega) (by omega) (by omega) (by omega) (by omega)) (fun j q1 q2 => eo j (by omega) (by omega) (by omega)) nF
  · have he : (e : Int) < F 1 := by rw [← eo 1 (by omega) (by omega) (by omega)]; exact he
    exact mE_mono (c4 e he) (hF.1.2.2.2.2.2.1 e he) (f0 _ _ (by omega) (by omega) (by omega) (by omega) (by omega) (by omega)) (f0 _ _ (by omega) (by omega) (by omega) (by omega) (by omega) (by omega)) (fun r j q1 q2 => f0 r j (by omega) (by omega) (by omega) (by omega) (by omega) (by omega)) (fun j _ _ => ⟨f0 _ _ (by omega) (by omega) (by omega) (by omega) (by omega) (by omega), f0 _ _ (by omega) (by omega) (by omega) (by omega) (by omega) (by omega)⟩) (fun j q1 q2 => eo j (by omega) (by omega) (by omega)) nF
  · show S' u 15 = F' 3
    rw [f1 15 (by omega), eo 3 (by omega) (by omega) (by omega)]; exact m3
  · have q : F 4 ≠ 0 := by rw [← eo 4 (by omega) (by omega) (by omega)]; exact q
    show S' (u + 147) j = F' (6 + j)
    rw [f0 _ _ (by omega) (by omega) (by omega) (by omega) (by omega) (by omega), eo _ (by omega) (by omega) (by omega)]; exact m4 q j hj
  · have hm' : (m' : Int) < F' 0 := hm'
    show nmP (S' (u + 5) m') (fu Nm m wn m')
    rw [f5]
    by_cases cm : m' = m
    · subst cm
      rw [if_pos rfl, fu_eq]; exact hn
    · rw [if_neg cm, fu_ne _ _ cm]
      exact m5 m' (by show (m' : Int) < F 0; omega)
/-- an edge more -/
theorem md_edge {a b : Int} {e : Nat} (hF : wfF F) (he : F 1 = (e : Int)) (e10 : e < 10) (md : mdR u S (F, Nm, bo) af)
    (f0 : ∀ r j, r ≠ u → r ≠ u + 82 → r ≠ u + 83 → r ≠ u + 85 + 6 * e → r ≠ u + 145 → r ≠ u + 146 → S' r j = S r j) (f1 : ∀ j, j ≠ 13 → S' u j = S u j) (f13 : S' u 13 = (e : Int) + 1) (f6 : ∀ j, S' (u + 82) j = if j = e then a else S (u + 82) j) (f7 : ∀ j, S' (u + 83) j = if j = e then b else S (u + 83) j) (z1 : S' (u + 85 + 6 * e) 5 = 0) (z2 : ∀ j, S' (u + 145) j = (if j = 2 * e ∨ j = 2 * e + 1 then 0 else S (u + 145) j) ∧ S' (u + 146) j = (if j = 2 * e ∨ j = 2 * e + 1 then 0 else S (u + 146) j)) :
    mdR u S' (gEd F a b, Nm, bo) af := by
  obtain ⟨m1, m2, m3, m4, m5⟩ := md
  obtain ⟨c1, c2, c3, c4⟩ := mdC_i.mp m1
  have w0 := hF.1.2.1
  have w1 := hF.1.2.2.1
  have zr := hF.2.2.1 e (by omega) e10
  generalize hF' : gEd F a b = F'
  have em : (F 1).toNat = e := by omega
  unfold gEd at hF'
  rw [em, he] at hF'
  have eo : ∀ j, j ≠ 1 → j ≠ 209 + 19 * e → j ≠ 210 + 19 * e → F' j = F j := fun j h0 h1 h2 => by rw [← hF', fu_ne _ _ h0, fu_ne _ _ h2, fu_ne _ _ h1]
  have e0 : F' 1 = (e : Int) + 1 := by rw [← hF', fu_eq]
  have ea : F' (209 + 19 * e) = a := by rw [← hF', fu_ne _ _ (by omega), fu_ne _ _ (by omega), fu_eq]
  have eb : F' (210 + 19 * e) = b := by rw [← hF', fu_ne _ _ (by omega), fu_eq]
  clear hF'
  have nF : nst2 F F' := nst2_hi hF.1.1 (fun j q1 q2 => eo j (by omega) (by omega) (by omega))
  refine ⟨mdC_i.mpr ⟨nwR_mono c1 (f0 _ _ (by omega) (by omega) (by omega) (by omega) (by omega) (by omega)) (fun r j q1 q2 => f0 r j (by omega) (by omega) (by omega) (by omega) (by omega) (by omega)) (eo 2 (by omega) (by omega) (by omega)) nF, ?_, fun m' hm' => ?_, fun e' he' => ?_⟩, afR_mono m2 (eo 2 (by omega) (by omega) (by omega)) nF, ?_, fun q j hj => ?_, fun m' hm' => ?_⟩
  · show S' u 12 = F' 0 ∧ S' u 13 = F' 1 ∧ S' u 14 = if F' 4 = 0 then -1 else F' 5
    rw [f13, e0, f1 12 (by omega), f1 14 (by omega), eo 0 (by omega) (by omega) (by omega), eo 4 (by omega) (by omega) (by omega), eo 5 (by omega) (by omega) (by omega)]
    exact ⟨c2.1, rfl, c2.2.2⟩
  · have hm' : (m' : Int) < F 0 := by rw [← eo 0 (by omega) (by omega) (by omega)]; exact hm'
    exact mM_mono (c3 m' hm') (hF.1.2.2.2.2.1 m' hm') (f0 _ _ (by omega) (by omega) (by omega) (by omega) (by omega) (by omega)) (f0 _ _ (by omega) (by omega) (by omega) (by omega) (by omega) (by omega)) (fun r j q1 q2 => f0 r j (by omega) (by omega) (by omega) (by omega) (by omega) (by omega)) (fun j q1 q2 => eo j (by omega) (by omega) (by omega)) nF
  · have he' : (e' : Int) < F' 1 := he'
    by_cases cm : e' = e
    · subst cm
      unfold mE
      rw [f6, if_pos rfl, f7, if_pos rfl, (z2 (2 * e')).1, (z2 (2 * e')).2, (z2 (2 * e' + 1)).1, (z2 (2 * e' + 1)).2, if_pos (Or.inl rfl), if_pos (Or.inl rfl), if_pos (Or.inr rfl), if_pos (Or.inr rfl)]
      show a = F' (209 + 19 * e') ∧ b = F' (210 + 19 * e') ∧ bdR (u + 85 + 6 * e') S' F' (216 + 19 * e') (F' (211 + 19 * e')).toNat ∧ 0 = F' (212 + 19 * e') ∧ 0 = F' (213 + 19 * e') ∧ 0 = F' (214 + 19 * e') ∧ 0 = F' (215 + 19 * e')
      rw [ea, eb, eo (211 + 19 * e') (by omega) (by omega) (by omega), eo (212 + 19 * e') (by omega) (by omega) (by omega), eo (213 + 19 * e') (by omega) (by omega) (by omega), eo (214 + 19 * e') (by omega) (by omega) (by omega), eo (215 + 19 * e') (by omega) (by omega) (by omega), zr.1]
      exact ⟨rfl, rfl, ⟨z1, fun i hi => absurd hi (by simp)⟩, zr.2.1.symm, zr.2.2.1.symm, zr.2.2.2.1.symm, zr.2.2.2.2.symm⟩
    · have he' : (e' : Int) < F 1 := by omega
      exact mE_mono (c4 e' he') (hF.1.2.2.2.2.2.1 e' he') (by rw [f6, if_neg cm]) (by rw [f7, if_neg cm]) (fun r j q1 q2 => f0 r j (by omega) (by omega) (by omega) (by omega) (by omega) (by omega)) (fun j _ _ => by rw [(z2 j).1, (z2 j).2, if_neg (by omega), if_neg (by omega)]; exact ⟨rfl, rfl⟩) (fun j q1 q2 => eo j (by omega) (by omega) (by omega)) nF
  · show S' u 15 = F' 3
    rw [f1 15 (by omega), eo 3 (by omega) (by omega) (by omega)]; exact m3
  · have q : F 4 ≠ 0 := by rw [← eo 4 (by omega) (by omega) (by omega)]; exact q
    show S' (u + 147) j = F' (6 + j)
    rw [f0 _ _ (by omega) (by omega) (by omega) (by omega) (by omega) (by omega), eo _ (by omega) (by omega) (by omega)]; exact m4 q j hj
  · have hm' : (m' : Int) < F 0 := by rw [← eo 0 (by omega) (by omega) (by omega)]; exact hm'
    rw [f0 _ _ (by omega) (by omega) (by omega) (by omega) (by omega) (by omega)]; exact m5 m' hm'
end

/-! A line of the spec goes on, and leaves what is told right. -/
def nmF (F Nm : Nat → Int) : Prop := ∀ m : Nat, (m : Int) < F 0 → 0 ≤ Nm m ∧ Nm m < 1073741824
/-- what holds where a line begins -/
def gI (s : gS) : Prop := wfF s.1 ∧ nmF s.1 s.2.1
/-- what a line leaves -/
def gJ (n : Nat) (s : gS) (p : Nat) (s' : gS) (p' : Nat) : Prop := gI s' ∧ p < p' ∧ p' ≤ n ∧ s'.1 10 = s.1 10
section
variable {tp : Nat → Int} {n : Nat} {s s' : gS} {p p' : Nat}
theorem gOwn_ok (hp : p < n) (h : gI s) (e : gOwn tp n s p = .inr (s', p')) : gJ n s p s' p' := by
  unfold gOwn at e
  dsimp only at e
  by_cases c1 : s.1 0 = 6
  · rw [if_pos c1] at e; cases e
  rw [if_neg c1] at e
  by_cases c2 : gNa tp n (gNx tp n p) = false
  · rw [if_pos c2] at e; cases e
  rw [if_neg c2] at e
  by_cases c3 : gMo s.2.1 (s.1 0).toNat (teW tp n (gNx tp n p)) ≠ -1
  · rw [if_pos c3] at e; cases e
  rw [if_neg c3] at e
  have b1 := gNx_bd (tp := tp) (Nat.le_of_lt hp)
  have b1' := b1.2.2 hp
  have b2 := gNx_bd (tp := tp) b1.2.1
  have na := gNa_i.mp (by simpa using c2 : gNa tp n (gNx tp n p) = true)
  cases r1 : gNum tp n (-9) 9 true (gNx tp n (gNx tp n p)) with
  | inl x => rw [r1] at e; cases e
  | inr x =>
    obtain ⟨a, p2⟩ := x
    rw [r1] at e
    dsimp only at e
    obtain ⟨a1, -, a2, a3⟩ := gNum_ok b2.2.1 r1
    cases r2 : gNum tp n (-9) 9 true p2 with
    | inl x => rw [r2] at e; cases e
    | inr x =>
      obtain ⟨b, p3⟩ := x
      rw [r2] at e
      dsimp only at e
      obtain ⟨d1, -, d2, d3⟩ := gNum_ok a3 r2
      cases r3 : gPer s.1 a b p with
      | inl x => rw [r3] at e; cases e
      | inr F1 =>
        rw [r3] at e
        injection e with e
        injection e with e1 e2
        obtain ⟨f1, f2⟩ := gPer_ok h.1 a1 d1 r3
        have f0 : F1 0 = s.1 0 := f1.2.2.2 0 (by omega) (by omega)
        have ww := wf_own f1.1 (by rw [f0]; exact c1) a1 d1 f2
        subst e1 e2
        have h0 := f1.1.1.2.1
        have g0 : gMk F1 a b 0 = F1 0 + 1 := by unfold gMk; rw [fu_eq]
        refine ⟨⟨ww, fun m hm => ?_⟩, by omega, by omega, ?_⟩
        · dsimp only at hm ⊢
          rw [g0] at hm
          by_cases cm : m = (s.1 0).toNat
          · subst cm
            rw [fu_eq]
            exact teW_bd na.1
          · rw [fu_ne _ _ cm]
            exact h.2 m (by omega)
        · show gMk F1 a b 10 = s.1 10
          unfold gMk
          rw [fu_ne _ _ (by omega), fu_ne _ _ (by omega), fu_ne _ _ (by omega)]
          exact f1.2.2.2 10 (by omega) (by omega)
theorem gKept_ok {w : Nat} (hw : w < 2) (hp : p < n) (h : gI s) (e : gKept tp n w s p = .inr (s', p')) : gJ n s p s' p' := by
  unfold gKept at e
  dsimp only at e
  have b1 := gNx_bd (tp := tp) (Nat.le_of_lt hp)
  have b1' := b1.2.2 hp
  have b2 := gNx_bd (tp := tp) b1.2.1
  by_cases c1 : gMi tp n s.1 s.2.1 (gNx tp n p) = -1
  · rw [if_pos c1] at e; cases e
  rw [if_neg c1] at e
  obtain ⟨m0, m1, -⟩ := (gMi_bd (tp := tp) (n := n) (Nm := s.2.1) (p := gNx tp n p) h.1.1.2.1.1).2 c1
  generalize gMi tp n s.1 s.2.1 (gNx tp n p) = m at *
  obtain ⟨i, rfl⟩ : ∃ i : Nat, m = (i : Int) := ⟨m.toNat, by omega⟩
  rw [Int.toNat_natCast] at e
  by_cases c2 : s.1 (61 + w + 25 * i) = (if w = 0 then 4 else 3)
  · rw [if_pos c2] at e; cases e
  rw [if_neg c2] at e
  have hcnt : ∃ j : Nat, s.1 (61 + w + 25 * i) = (j : Int) ∧ j < (if w = 0 then 4 else 3) := by
    obtain ⟨-, -, -, q4, q5⟩ := h.1.1.2.2.2.2.1 i m1
    rcases (show w = 0 ∨ w = 1 by omega) with q | q
    · subst q
      simp only [if_true, Nat.add_zero] at c2 ⊢
      exact ⟨(s.1 (61 + 25 * i)).toNat, by omega, by omega⟩
    · subst q
      simp only [Nat.reduceAdd, Nat.one_ne_zero, if_false] at c2 ⊢
      exact ⟨(s.1 (62 + 25 * i)).toNat, by omega, by omega⟩
  obtain ⟨j, j1, j2⟩ := hcnt
  rw [j1, Int.toNat_natCast] at e
  cases r1 : gBound tp n s.1 ((if w = 0 then 63 else 75) + 25 * i + 3 * j) p (gNx tp n (gNx tp n p)) with
  | inl x => rw [r1] at e; cases e
  | inr x =>
    obtain ⟨F1, p2⟩ := x
    rw [r1] at e
    injection e with e
    injection e with e1 e2
    obtain ⟨F0, k, c, g, eF, f1, k1, c1, g1, q1, q2⟩ := gBound_ok b2.2.1 h.1 r1
    have f0 : F0 0 = s.1 0 := f1.2.2.2 0 (by omega) (by omega)
    have j1' : F0 (61 + w + 25 * i) = (j : Int) := by rw [f1.2.2.2 _ (by omega) (by omega)]; exact j1
    have ww := wf_keep f1.1 (by rw [f0]; exact m1) hw j1' j2 k1 c1 g1
    have tl : (if w = 0 then 63 else 75) = (63 : Nat) ∨ (if w = 0 then 63 else 75) = (75 : Nat) := by by_cases q : w = 0 <;> simp [q]
    have tw : 61 + w + 25 * i < (if w = 0 then 63 else 75) + 25 * i + 3 * j := by
      by_cases q : w = 0
      · rw [if_pos q]; omega
      · rw [if_neg q]; omega
    have ev : F1 (61 + w + 25 * i) = (j : Int) := by rw [eF, gBd_ne (Or.inl tw)]; exact j1'
    subst e1 e2
    refine ⟨⟨?_, fun m hm => ?_⟩, by omega, by omega, ?_⟩
    · show wfF (fu F1 (61 + w + 25 * i) (F1 (61 + w + 25 * i) + 1))
      rw [ev, eF]
      exact ww
    · dsimp only at hm ⊢
      rw [fu_ne _ _ (by omega), eF, gBd_ne (by omega), f0] at hm
      exact h.2 m hm
    · dsimp only
      rw [fu_ne _ _ (by omega), eF, gBd_ne (by omega)]
      exact f1.2.2.2 10 (by omega) (by omega)
theorem gEdge_ok (hp : p < n) (h : gI s) (e : gEdge tp n s p = .inr (s', p')) : gJ n s p s' p' := by
  unfold gEdge at e
  have b1 := gNx_bd (tp := tp) (Nat.le_of_lt hp)
  have b1' := b1.2.2 hp
  by_cases c1 : s.1 1 = 10
  · rw [if_pos c1] at e; cases e
  rw [if_neg c1] at e
  cases r1 : gMode tp n s.1 s.2.1 (gNx tp n p) with
  | inl x => rw [r1] at e; cases e
  | inr x =>
    obtain ⟨a, p1⟩ := x
    rw [r1] at e
    dsimp only at e
    obtain ⟨-, a1, a2, a3, a4, -⟩ := gMode_ok b1.2.1 h.1.1.2.1.1 r1
    cases r2 : gMode tp n s.1 s.2.1 p1 with
    | inl x => rw [r2] at e; cases e
    | inr x =>
      obtain ⟨b, p2⟩ := x
      rw [r2] at e
      injection e with e
      injection e with e1 e2
      obtain ⟨-, d1, d2, d3, d4, -⟩ := gMode_ok a4 h.1.1.2.1.1 r2
      have ww := wf_edge h.1 c1 ⟨a1, a2⟩ ⟨d1, d2⟩
      subst e1 e2
      refine ⟨⟨ww, fun m hm => ?_⟩, by omega, by omega, ?_⟩
      · dsimp only at hm ⊢
        unfold gEd at hm
        rw [fu_ne _ _ (by omega), fu_ne _ _ (by omega), fu_ne _ _ (by omega)] at hm
        exact h.2 m hm
      · dsimp only
        unfold gEd
        rw [fu_ne _ _ (by omega), fu_ne _ _ (by omega), fu_ne _ _ (by omega)]
theorem gWhen_ok (hp : p < n) (h : gI s) (e : gWhen tp n s p = .inr (s', p')) : gJ n s p s' p' := by
  unfold gWhen at e
  dsimp only at e
  have b1 := gNx_bd (tp := tp) (Nat.le_of_lt hp)
  have b1' := b1.2.2 hp
  have h1 := h.1.1.2.2.1
  by_cases c1 : s.1 1 = 0
  · rw [if_pos c1] at e; cases e
  rw [if_neg c1] at e
  have m1 : (((s.1 1).toNat - 1 : Nat) : Int) < s.1 1 := by omega
  generalize (s.1 1).toNat - 1 = i at *
  by_cases c2 : s.1 (211 + 19 * i) = 4
  · rw [if_pos c2] at e; cases e
  rw [if_neg c2] at e
  obtain ⟨-, -, q3, -⟩ := h.1.1.2.2.2.2.2.1 i m1
  obtain ⟨j, j1⟩ : ∃ j : Nat, s.1 (211 + 19 * i) = (j : Int) := ⟨(s.1 (211 + 19 * i)).toNat, by omega⟩
  rw [j1, Int.toNat_natCast] at e
  cases r1 : gBound tp n s.1 (216 + 19 * i + 3 * j) p (gNx tp n p) with
  | inl x => rw [r1] at e; cases e
  | inr x =>
    obtain ⟨F1, p2⟩ := x
    rw [r1] at e
    injection e with e
    injection e with e1 e2
    obtain ⟨F0, k, c, g, eF, f1, k1, c1, g1, q1, q2⟩ := gBound_ok b1.2.1 h.1 r1
    have f0 : F0 0 = s.1 0 := f1.2.2.2 0 (by omega) (by omega)
    have f01 : F0 1 = s.1 1 := f1.2.2.2 1 (by omega) (by omega)
    have j1' : F0 (211 + 19 * i) = (j : Int) := by rw [f1.2.2.2 _ (by omega) (by omega)]; exact j1
    have ww := wf_when f1.1 (by rw [f01]; exact m1) j1' (by omega) k1 c1 g1
    have ev : F1 (211 + 19 * i) = (j : Int) := by rw [eF, gBd_ne (by omega)]; exact j1'
    subst e1 e2
    refine ⟨⟨?_, fun m hm => ?_⟩, by omega, by omega, ?_⟩
    · show wfF (fu F1 (211 + 19 * i) (F1 (211 + 19 * i) + 1))
      rw [ev, eF]
      exact ww
    · dsimp only at hm ⊢
      rw [fu_ne _ _ (by omega), eF, gBd_ne (by omega), f0] at hm
      exact h.2 m hm
    · dsimp only
      rw [fu_ne _ _ (by omega), eF, gBd_ne (by omega)]
      exact f1.2.2.2 10 (by omega) (by omega)
theorem gDeed_ok {how : Int} (hh : 0 < how ∧ how ≤ 2) (hp : p < n) (h : gI s) (e : gDeed tp n how s p = .inr (s', p')) : gJ n s p s' p' := by
  unfold gDeed at e
  dsimp only at e
  have b1 := gNx_bd (tp := tp) (Nat.le_of_lt hp)
  have b1' := b1.2.2 hp
  have b2 := gNx_bd (tp := tp) b1.2.1
  have h1 := h.1.1.2.2.1
  by_cases c1 : s.1 1 = 0
  · rw [if_pos c1] at e; cases e
  rw [if_neg c1] at e
  have m1 : (((s.1 1).toNat - 1 : Nat) : Int) < s.1 1 := by omega
  generalize (s.1 1).toNat - 1 = i at *
  by_cases c2 : teS tp n (gNx tp n p) = 0 ∧ (teV tp n (gNx tp n p) = 9 ∨ teV tp n (gNx tp n p) = 10)
  · rw [if_neg (fun q => q c2)] at e
    have tt : ∃ w, w < 2 ∧ (if teV tp n (gNx tp n p) = 9 then 212 else 214) = 212 + 2 * w := by
      by_cases q : teV tp n (gNx tp n p) = 9
      · exact ⟨0, by omega, by rw [if_pos q]⟩
      · exact ⟨1, by omega, by rw [if_neg q]⟩
    obtain ⟨w, w1, w2⟩ := tt
    rw [w2] at e
    by_cases c3 : s.1 (212 + 2 * w + 19 * i) ≠ 0
    · rw [if_pos c3] at e; cases e
    rw [if_neg c3] at e
    cases r1 : gNum tp n (-999) 999 true (gNx tp n (gNx tp n p)) with
    | inl x => rw [r1] at e; cases e
    | inr x =>
      obtain ⟨v, p2⟩ := x
      rw [r1] at e
      injection e with e
      injection e with e1 e2
      obtain ⟨v1, -, v2, v3⟩ := gNum_ok b2.2.1 r1
      subst e1 e2
      refine ⟨⟨wf_deed h.1 m1 w1 hh v1, fun m hm => ?_⟩, by omega, by omega, ?_⟩
      · dsimp only at hm ⊢
        rw [fu_ne _ _ (by omega), fu_ne _ _ (by omega)] at hm
        exact h.2 m hm
      · dsimp only
        rw [fu_ne _ _ (by omega), fu_ne _ _ (by omega)]
  · rw [if_pos c2] at e; cases e
theorem gStart_ok (hp : p < n) (h : gI s) (e : gStart tp n s p = .inr (s', p')) : gJ n s p s' p' := by
  unfold gStart at e
  have b1 := gNx_bd (tp := tp) (Nat.le_of_lt hp)
  have b1' := b1.2.2 hp
  by_cases c1 : s.1 4 = 1
  · rw [if_pos c1] at e; cases e
  rw [if_neg c1] at e
  cases r1 : gMode tp n s.1 s.2.1 (gNx tp n p) with
  | inl x => rw [r1] at e; cases e
  | inr x =>
    obtain ⟨m, p1⟩ := x
    rw [r1] at e
    dsimp only at e
    obtain ⟨-, a1, a2, a3, a4, -⟩ := gMode_ok b1.2.1 h.1.1.2.1.1 r1
    cases r2 : gNum tp n (-999) 999 true p1 with
    | inl x => rw [r2] at e; cases e
    | inr x =>
      obtain ⟨a, p2⟩ := x
      rw [r2] at e
      dsimp only at e
      obtain ⟨x1, -, x2, x3⟩ := gNum_ok a4 r2
      cases r3 : gNum tp n a 999 true p2 with
      | inl x => rw [r3] at e; cases e
      | inr x =>
        obtain ⟨b, p3⟩ := x
        rw [r3] at e
        dsimp only at e
        obtain ⟨y1, -, y2, y3⟩ := gNum_ok x3 r3
        cases r4 : gNum tp n (-999) 999 true p3 with
        | inl x => rw [r4] at e; cases e
        | inr x =>
          obtain ⟨c, p4⟩ := x
          rw [r4] at e
          dsimp only at e
          obtain ⟨z1, -, z2, z3⟩ := gNum_ok y3 r4
          cases r5 : gNum tp n c 999 true p4 with
          | inl x => rw [r5] at e; cases e
          | inr x =>
            obtain ⟨d, p5⟩ := x
            rw [r5] at e
            injection e with e
            injection e with e1 e2
            obtain ⟨t1, -, t2, t3⟩ := gNum_ok z3 r5
            subst e1 e2
            have eo : ∀ j, (j < 4 ∨ 9 < j) → gSt s.1 m a b c d j = s.1 j := fun j hj => by
              unfold gSt
              rw [fu_ne _ _ (by omega), fu_ne _ _ (by omega), fu_ne _ _ (by omega), fu_ne _ _ (by omega), fu_ne _ _ (by omega), fu_ne _ _ (by omega)]
            refine ⟨⟨wf_low h.1 (fun j hj => eo j (by omega)) (by show 1 ≤ gSt s.1 m a b c d 3 ∧ gSt s.1 m a b c d 3 ≤ 8; rw [eo 3 (by omega)]; exact h.1.1.2.2.2.1) (Or.inr ⟨rfl, ?_, ?_⟩), fun m hm => ?_⟩, by omega, by omega, eo 10 (by omega)⟩
            · show 0 ≤ m ∧ m < gSt s.1 m a b c d 0
              rw [eo 0 (by omega)]; exact ⟨a1, a2⟩
            · show (-999 ≤ a ∧ a ≤ 999) ∧ (-999 ≤ b ∧ b ≤ 999) ∧ (-999 ≤ c ∧ c ≤ 999) ∧ (-999 ≤ d ∧ d ≤ 999) ∧ a ≤ b ∧ c ≤ d
              omega
            · dsimp only at hm ⊢
              rw [eo 0 (by omega)] at hm
              exact h.2 m hm
theorem gMost_ok (hp : p < n) (h : gI s) (e : gMost tp n s p = .inr (s', p')) : gJ n s p s' p' := by
  unfold gMost at e
  have b1 := gNx_bd (tp := tp) (Nat.le_of_lt hp)
  have b1' := b1.2.2 hp
  by_cases c1 : s.2.2 = true
  · rw [if_pos c1] at e; cases e
  rw [if_neg c1] at e
  cases r1 : gNum tp n 1 8 true (gNx tp n p) with
  | inl x => rw [r1] at e; cases e
  | inr x =>
    obtain ⟨v, p1⟩ := x
    rw [r1] at e
    injection e with e
    injection e with e1 e2
    obtain ⟨v1, -, v2, v3⟩ := gNum_ok b1.2.1 r1
    subst e1 e2
    have eo : ∀ j, j ≠ 3 → fu s.1 3 v j = s.1 j := fun j hj => fu_ne _ _ hj
    refine ⟨⟨wf_low h.1 (fun j hj => eo j (by omega)) (by show 1 ≤ fu s.1 3 v 3 ∧ fu s.1 3 v 3 ≤ 8; rw [fu_eq]; exact v1) ?_, fun m hm => ?_⟩, by omega, by omega, eo 10 (by omega)⟩
    · have := h.1.1.2.2.2.2.2.2
      unfold wfS at *
      dsimp only
      rw [eo 4 (by omega), eo 5 (by omega), eo 6 (by omega), eo 7 (by omega), eo 8 (by omega), eo 9 (by omega), eo 0 (by omega)]
      exact this
    · dsimp only at hm ⊢
      rw [eo 0 (by omega)] at hm
      exact h.2 m hm
theorem gBody_ok (hp : p < n) (h : gI s) (e : gBody tp n s p = .inr (s', p')) : gJ n s p s' p' := by
  unfold gBody at e
  dsimp only at e
  split at e
  · exact gOwn_ok hp h e
  · split at e
    · exact gKept_ok (by omega) hp h e
    · split at e
      · exact gKept_ok (by omega) hp h e
      · split at e
        · exact gEdge_ok hp h e
        · split at e
          · exact gWhen_ok hp h e
          · split at e
            · exact gDeed_ok (by omega) hp h e
            · split at e
              · exact gDeed_ok (by omega) hp h e
              · split at e
                · exact gStart_ok hp h e
                · split at e
                  · exact gMost_ok hp h e
                  · cases e
theorem gLine_ok (hp : p < n) (h : gI s) (e : gLine tp n s p = .inr (s', p')) : gI s' ∧ p < p' ∧ p' ≤ n ∧ s'.1 10 = s.1 10 + 1 := by
  unfold gLine at e
  cases r1 : gBody tp n s p with
  | inl x => rw [r1] at e; cases e
  | inr x =>
    obtain ⟨s1, p1⟩ := x
    rw [r1] at e
    dsimp only at e
    obtain ⟨j1, j2, j3, j4⟩ := gBody_ok hp h r1
    by_cases c : gSg tp n 59 p1 = true
    · rw [if_pos c] at e
      injection e with e
      injection e with e1 e2
      have b := gNx_bd (tp := tp) j3
      subst e1 e2
      have eo : ∀ j, j ≠ 10 → fu s1.1 10 (s1.1 10 + 1) j = s1.1 j := fun j hj => fu_ne _ _ hj
      refine ⟨⟨wf_low j1.1 (fun j hj => eo j (by omega)) ?_ ?_, fun m hm => ?_⟩, by omega, by omega, ?_⟩
      · dsimp only
        rw [eo 3 (by omega)]; exact j1.1.1.2.2.2.1
      · have := j1.1.1.2.2.2.2.2.2
        unfold wfS at *
        dsimp only
        rw [eo 4 (by omega), eo 5 (by omega), eo 6 (by omega), eo 7 (by omega), eo 8 (by omega), eo 9 (by omega), eo 0 (by omega)]
        exact this
      · dsimp only at hm ⊢
        rw [eo 0 (by omega)] at hm
        exact j1.2 m hm
      · dsimp only
        rw [fu_eq, j4]
    · rw [if_neg c] at e; cases e
end

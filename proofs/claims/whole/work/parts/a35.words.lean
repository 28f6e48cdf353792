/-! Words and numbers of a text, as the class counts them. -/
def wb (b : Int) (g : Nat → Int) : Nat → Int
  | 0 => 0
  | k + 1 => b * wb b g k + (g k - 96)
theorem wb_pos {g : Nat → Int} : ∀ k, (∀ i, i < k → isL (g i)) → (0 ≤ wb 27 g k ∧ 0 ≤ wb 32 g k) ∧ (0 < k → 0 < wb 27 g k ∧ 0 < wb 32 g k)
  | 0, _ => ⟨⟨Int.le_refl 0, Int.le_refl 0⟩, fun h => absurd h (by omega)⟩
  | k + 1, h => by
    have a := wb_pos k (fun i hi => h i (by omega))
    have b := h k (by omega)
    unfold isL at b
    simp only [wb]
    omega
theorem wb_inj {g g' : Nat → Int} : ∀ k k', (∀ i, i < k → isL (g i)) → (∀ i, i < k' → isL (g' i)) → ((wb 27 g k = wb 27 g' k' ↔ (k = k' ∧ ∀ i, i < k → g i = g' i)) ∧ (wb 32 g k = wb 32 g' k' ↔ (k = k' ∧ ∀ i, i < k → g i = g' i))) := by
  intro k
  induction k with
  | zero =>
    intro k' h h'
    have p := (wb_pos k' h').2
    cases k' with
    | zero => exact ⟨⟨fun _ => ⟨rfl, fun i hi => by omega⟩, fun _ => rfl⟩, ⟨fun _ => ⟨rfl, fun i hi => by omega⟩, fun _ => rfl⟩⟩
    | succ k' =>
      have p := p (by omega)
      have z1 : wb 27 g 0 = 0 := rfl
      have z2 : wb 32 g 0 = 0 := rfl
      exact ⟨⟨fun q => by omega, fun q => by omega⟩, ⟨fun q => by omega, fun q => by omega⟩⟩
  | succ k ih =>
    intro k' h h'
    cases k' with
    | zero =>
      have p := (wb_pos (k + 1) h).2 (by omega)
      have z1 : wb 27 g' 0 = 0 := rfl
      have z2 : wb 32 g' 0 = 0 := rfl
      exact ⟨⟨fun q => by omega, fun q => by omega⟩, ⟨fun q => by omega, fun q => by omega⟩⟩
    | succ k' =>
      obtain ⟨i1, i2⟩ := ih k' (fun i hi => h i (by omega)) (fun i hi => h' i (by omega))
      have a := h k (by omega)
      have b := h' k' (by omega)
      unfold isL at a b
      have e1 : wb 27 g (k + 1) = 27 * wb 27 g k + (g k - 96) := rfl
      have e2 : wb 27 g' (k' + 1) = 27 * wb 27 g' k' + (g' k' - 96) := rfl
      have e3 : wb 32 g (k + 1) = 32 * wb 32 g k + (g k - 96) := rfl
      have e4 : wb 32 g' (k' + 1) = 32 * wb 32 g' k' + (g' k' - 96) := rfl
      have up : (k = k' ∧ ∀ i, i < k → g i = g' i) → g k = g' k' → (k + 1 = k' + 1 ∧ ∀ i, i < k + 1 → g i = g' i) := fun q r => by
        obtain ⟨q, q'⟩ := q
        subst q
        refine ⟨rfl, fun i hi => ?_⟩
        by_cases c : i = k
        · subst c; exact r
        · exact q' i (by omega)
      have dn : (k + 1 = k' + 1 ∧ ∀ i, i < k + 1 → g i = g' i) → (k = k' ∧ ∀ i, i < k → g i = g' i) ∧ g k = g' k' := fun q => by
        obtain ⟨q, q'⟩ := q
        have q : k = k' := by omega
        subst q
        exact ⟨⟨rfl, fun i hi => q' i (by omega)⟩, q' k (by omega)⟩
      refine ⟨⟨fun q => up (i1.mp (by omega)) (by omega), fun q => ?_⟩, ⟨fun q => up (i2.mp (by omega)) (by omega), fun q => ?_⟩⟩
      · have := i1.mpr (dn q).1
        have := (dn q).2
        omega
      · have := i2.mpr (dn q).1
        have := (dn q).2
        omega
theorem wb_lt {g : Nat → Int} : ∀ k, (∀ i, i < k → isL (g i)) → wb 27 g k < 27 ^ k
  | 0, _ => by show (0 : Int) < 27 ^ 0; decide
  | k + 1, h => by
    have a := wb_lt k (fun i hi => h i (by omega))
    have b := h k (by omega)
    unfold isL at b
    have e : (27 : Int) ^ (k + 1) = 27 ^ k * 27 := Int.pow_succ _ _
    simp only [wb]
    rw [e]
    omega
theorem wb_l6 {g : Nat → Int} {k : Nat} (hk : k ≤ 6) (h : ∀ i, i < k → isL (g i)) : wb 27 g k < 387420489 := by
  have := wb_lt k h
  have : (27 : Int) ^ k ≤ 387420489 := by
    rcases (show k = 0 ∨ k = 1 ∨ k = 2 ∨ k = 3 ∨ k = 4 ∨ k = 5 ∨ k = 6 by omega) with e | e | e | e | e | e | e <;> rw [e] <;> decide
  omega
theorem wdc_b (tp : Nat → Int) (p : Nat) : ∀ k, wdc tp p k = wb 32 (fun i => tp (p + i)) k
  | 0 => rfl
  | k + 1 => by simp only [wdc, wb]; rw [wdc_b tp p k]
/-- digits -/
def dgc (tp : Nat → Int) (p : Nat) : Nat → Int
  | 0 => 0
  | k + 1 => if dgc tp p k < 1000000 then 10 * dgc tp p k + tp (p + k) - 48 else dgc tp p k
theorem dgc_v {tp : Nat → Int} {p : Nat} : ∀ k, (∀ i, i < k → isDg (tp (p + i))) → (0 ≤ dgc tp p k ∧ dgc tp p k ≤ 9999999) ∧ ((dgc tp p k = dgv tp p k ∧ dgv tp p k ≤ 99999) ∨ (99999 < dgc tp p k ∧ 99999 < dgv tp p k))
  | 0, _ => ⟨⟨by show (0 : Int) ≤ 0; decide, by show (0 : Int) ≤ 9999999; decide⟩, Or.inl ⟨rfl, by show (0 : Int) ≤ 99999; decide⟩⟩
  | k + 1, h => by
    have a := dgc_v k (fun i hi => h i (by omega))
    have b := h k (by omega)
    unfold isDg at b
    simp only [dgc, dgv]
    split <;> split <;> omega
section
variable (tp : Nat → Int) (n : Nat)
/-- the class's kind of a token -/
def tcT (p : Nat) : Int := if p < n then (if isLb (tp p) = true then 1 else if isDb (tp p) = true then 2 else if tp p = 45 then 3 else if tp p = 59 then 4 else 5) else 0
def cW (p : Nat) : Int := if rn isLb tp n p - p ≤ 6 then wb 27 (fun i => tp (p + i)) (rn isLb tp n p - p) else 0
def dC (p : Nat) : Int := dgc tp p (rn isDb tp n p - p)
end
section
variable {tp : Nat → Int} {n : Nat}
theorem tc_i (p : Nat) : (gSg tp n 45 p = true ↔ tcT tp n p = 3) ∧ (gSg tp n 59 p = true ↔ tcT tp n p = 4) ∧ (teS tp n p = 1 ↔ tcT tp n p = 2) ∧ (teS tp n p = 3 ↔ tcT tp n p = 0) ∧ (teS tp n p = 0 ↔ tcT tp n p = 1 ∧ rn isLb tp n p - p ≤ 6) ∧ (tcT tp n p = 1 → p < n ∧ isL (tp p)) ∧ (tcT tp n p = 2 → p < n ∧ isDg (tp p)) ∧ (0 ≤ tcT tp n p ∧ tcT tp n p ≤ 5) := by
  rw [gSg_i, gSg_i]
  unfold tcT
  by_cases c : p < n
  · rw [if_pos c]
    obtain ⟨e1, e2, e3⟩ := te_of (tp := tp) c
    by_cases l : isL (tp p)
    · obtain ⟨-, q2, q3, -⟩ := e1 l
      rw [if_pos (isLb_i.mpr l), q2, q3]
      have := lwI_bd (tp := tp) p (rn isLb tp n p)
      by_cases c6 : rn isLb tp n p - p ≤ 6
      · rw [if_pos c6]
        exact ⟨by omega, by omega, by omega, by omega, ⟨fun _ => ⟨rfl, c6⟩, fun _ => rfl⟩, fun _ => ⟨c, l⟩, by omega, by omega⟩
      · rw [if_neg c6]
        exact ⟨by omega, by omega, by omega, by omega, by omega, fun _ => ⟨c, l⟩, by omega, by omega⟩
    · rw [if_neg (fun w => l (isLb_i.mp w))]
      by_cases d : isDg (tp p)
      · obtain ⟨-, q2, q3⟩ := e2 l d
        rw [if_pos (isDb_i.mpr d), q2]
        exact ⟨by omega, by omega, by omega, by omega, by omega, by omega, fun _ => ⟨c, d⟩, by omega⟩
      · obtain ⟨-, q2, q3⟩ := e3 l d
        rw [if_neg (fun w => d (isDb_i.mp w)), q2, q3]
        by_cases c1 : tp p = 45
        · rw [if_pos (Or.inr c1), if_pos c1]
          exact ⟨⟨fun _ => rfl, fun _ => ⟨rfl, c1⟩⟩, by omega, by omega, by omega, by omega, by omega, by omega, by omega⟩
        · rw [if_neg c1]
          by_cases c2 : tp p = 59
          · rw [if_pos (Or.inl c2), if_pos c2]
            exact ⟨by omega, ⟨fun _ => rfl, fun _ => ⟨rfl, c2⟩⟩, by omega, by omega, by omega, by omega, by omega, by omega⟩
          · rw [if_neg (by omega), if_neg c2]
            exact ⟨by omega, by omega, by omega, by omega, by omega, by omega, by omega, by omega⟩
  · rw [if_neg c]
    have e : teS tp n p = 3 := by unfold teS; rw [if_neg c]
    rw [e]
    exact ⟨by omega, by omega, by omega, by omega, by omega, by omega, by omega, by omega⟩
theorem rn_let {p : Nat} : ∀ i, i < rn isLb tp n p - p → isL (tp (p + i)) := fun i hi => isLb_i.mp (rn_all (n := n) (n - p) p rfl (p + i) (by omega) (by omega))
theorem rn_dig {p : Nat} : ∀ i, i < rn isDb tp n p - p → isDg (tp (p + i)) := fun i hi => isDb_i.mp (rn_all (n := n) (n - p) p rfl (p + i) (by omega) (by omega))
theorem cW_bd (p : Nat) : 0 ≤ cW tp n p ∧ cW tp n p < 387420489 := by
  unfold cW
  by_cases c : rn isLb tp n p - p ≤ 6
  · rw [if_pos c]
    exact ⟨(wb_pos _ rn_let).1.1, wb_l6 c rn_let⟩
  · rw [if_neg c]; omega
theorem dC_v {p : Nat} (h : tcT tp n p = 2) : (0 ≤ dC tp n p ∧ dC tp n p ≤ 9999999) ∧ ((dC tp n p = teV tp n p ∧ teV tp n p ≤ 99999) ∨ (99999 < dC tp n p ∧ 99999 < teV tp n p)) := by
  obtain ⟨t1, t2, t3, t4, t5, t6, t7, t8⟩ := tc_i (tp := tp) (n := n) p
  obtain ⟨c, d⟩ := t7 h
  have l : ¬ isL (tp p) := fun w => by unfold isL at w; unfold isDg at d; omega
  obtain ⟨e1, e2, e3⟩ := te_of (tp := tp) c
  rw [(e2 l d).2.2]
  exact dgc_v _ rn_dig
theorem cW_pos {p : Nat} (h : tcT tp n p = 1) : 0 < cW tp n p ↔ rn isLb tp n p - p ≤ 6 := by
  obtain ⟨-, -, -, -, -, t6, -⟩ := tc_i (tp := tp) (n := n) p
  obtain ⟨c, l⟩ := t6 h
  have hg : p < rn isLb tp n p := by
    rw [rn_go c (isLb_i.mpr l)]
    have := (rn_bd (f := isLb) (tp := tp) (n := n) _ (p + 1) rfl).1
    omega
  unfold cW
  by_cases c : rn isLb tp n p - p ≤ 6
  · rw [if_pos c]
    exact ⟨fun _ => c, fun _ => ((wb_pos _ rn_let).2 (by omega)).1⟩
  · rw [if_neg c]; omega
end
def LG (i : Nat) : Int := [266927, 220309, 158692, 101525, 458690, 12251, 841, 10492274, 267347, 24, 25].getD i 0
def wlC (w : Int) : Int := frs (fun i => decide (LG i = w)) (-1) 11 0
def LWg (i : Nat) (j : Nat) : Int := (LW.getD i []).getD j 0
theorem LG_w : ∀ i, i < 11 → LG i = wb 27 (LWg i) (LW.getD i []).length ∧ (∀ j, j < (LW.getD i []).length → isL (LWg i j)) := by
  have h : ∀ i, i < 11 → LG i = wb 27 (LWg i) (LW.getD i []).length ∧ (∀ j, j < (LW.getD i []).length → (97 ≤ LWg i j ∧ LWg i j ≤ 122)) := by decide
  exact h
theorem lwM_i {tp : Nat → Int} {p q i : Nat} (hi : i < 11) (hl : ∀ j, j < q - p → isL (tp (p + j))) : lwM tp p q (LW.getD i []) = decide (LG i = wb 27 (fun j => tp (p + j)) (q - p)) := by
  obtain ⟨e, l⟩ := LG_w i hi
  have j := (wb_inj _ _ l hl).1
  rw [← e] at j
  unfold lwM
  rw [Bool.eq_iff_iff]
  simp only [Bool.and_eq_true, decide_eq_true_eq, List.all_eq_true, List.mem_range]
  rw [j]
  refine ⟨fun h => ⟨h.1, fun i hi => (h.2 i hi).symm⟩, fun h => ⟨h.1, fun i hi => (h.2 i hi).symm⟩⟩
theorem LW_frs (f : List Int → Bool) : (match LW.findIdx? f with | some i => (i : Int) | none => -1) = frs (fun i => f (LW.getD i [])) (-1) 11 0 := by
  have u : ∀ c k : Nat, k + c = 11 → (match (LW.drop k).findIdx? f with | some i => ((i + k : Nat) : Int) | none => -1) = frs (fun i => f (LW.getD i [])) (-1) c k := by
    intro c
    induction c with
    | zero =>
      intro k hk
      have : k = 11 := by omega
      subst this
      rfl
    | succ c ih =>
      intro k hk
      have hl : k < LW.length := by have : LW.length = 11 := rfl; omega
      rw [List.drop_eq_getElem_cons hl, List.findIdx?_cons]
      have eg : LW.getD k [] = LW[k] := by rw [List.getD_eq_getElem?_getD, List.getElem?_eq_getElem hl]; rfl
      unfold frs
      rw [eg]
      by_cases c1 : f LW[k] = true
      · rw [if_pos c1, if_pos c1]
        simp
      · rw [if_neg c1, if_neg c1, ← ih (k + 1) (by omega)]
        cases (List.drop (k + 1) LW).findIdx? f with
        | none => rfl
        | some i => simp only [Option.map_some]; congr 1; omega
  have := u 11 0 rfl
  rw [← this]
  rfl
section
variable {tp : Nat → Int} {n : Nat}
theorem wl_z : wlC 0 = -1 := by decide
/-- the class finds the same word -/
theorem wl_gWd {p : Nat} (h : tcT tp n p = 1) : wlC (cW tp n p) = gWd tp n p := by
  obtain ⟨t1, t2, t3, t4, t5, t6, t7, t8⟩ := tc_i (tp := tp) (n := n) p
  obtain ⟨c, l⟩ := t6 h
  unfold gWd cW
  by_cases c6 : rn isLb tp n p - p ≤ 6
  · rw [if_pos c6, if_pos (t5.mpr ⟨h, c6⟩)]
    obtain ⟨e1, -, -⟩ := te_of (tp := tp) c
    rw [(e1 l).2.2.1]
    unfold lwI wlC
    refine Eq.trans (frs_congr 11 0 (fun i _ hi => (lwM_i (by omega) rn_let).symm)) (LW_frs (lwM tp p (rn isLb tp n p))).symm
  · rw [if_neg c6, if_neg (fun w => c6 (t5.mp w).2)]
    exact wl_z
theorem gWd_bd (p : Nat) : -1 ≤ gWd tp n p ∧ gWd tp n p ≤ 10 := by
  unfold gWd
  by_cases c : teS tp n p = 0
  · rw [if_pos c]; exact (teV_0 c).2.2
  · rw [if_neg c]; omega
theorem gNa_c {p : Nat} : gNa tp n p = true ↔ tcT tp n p = 1 ∧ 0 < cW tp n p ∧ wlC (cW tp n p) = -1 := by
  obtain ⟨t1, t2, t3, t4, t5, t6, t7, t8⟩ := tc_i (tp := tp) (n := n) p
  rw [gNa_i]
  constructor
  · intro q
    have a := t5.mp q.1
    refine ⟨a.1, (cW_pos a.1).mpr a.2, ?_⟩
    rw [wl_gWd a.1]
    unfold gWd
    rw [if_pos q.1]
    exact q.2
  · intro q
    have s : teS tp n p = 0 := t5.mpr ⟨q.1, (cW_pos q.1).mp q.2.1⟩
    refine ⟨s, ?_⟩
    have := q.2.2
    rw [wl_gWd q.1] at this
    unfold gWd at this
    rw [if_pos s] at this
    exact this
/-- a name in both counts -/
def nmP (c w : Int) : Prop := ∃ (g : Nat → Int) (k : Nat), (0 < k ∧ k ≤ 6) ∧ (∀ i, i < k → isL (g i)) ∧ c = wb 27 g k ∧ w = wb 32 g k ∧ wlC c = -1
def nmR (C : Nat → Int) (F Nm : Nat → Int) : Prop := ∀ m : Nat, (m : Int) < F 0 → nmP (C m) (Nm m)
theorem nmP_p {p : Nat} (h : gNa tp n p = true) : nmP (cW tp n p) (teW tp n p) := by
  obtain ⟨h1, h2, h3⟩ := gNa_c.mp h
  have c6 := (cW_pos h1).mp h2
  have k0 : 0 < rn isLb tp n p - p := by
    refine Decidable.byContradiction fun w => ?_
    unfold cW at h2
    rw [if_pos c6, show rn isLb tp n p - p = 0 by omega] at h2
    exact absurd h2 (by show ¬ (0 : Int) < 0; decide)
  refine ⟨fun i => tp (p + i), rn isLb tp n p - p, ⟨k0, c6⟩, rn_let, ?_, ?_, h3⟩
  · unfold cW; rw [if_pos c6]
  · unfold teW; rw [Nat.min_eq_right c6, wdc_b]
theorem nmP_i {c w c' w' : Int} (h : nmP c w) (h' : nmP c' w') : c = c' ↔ w = w' := by
  obtain ⟨g, k, -, l, e1, e2, -⟩ := h
  obtain ⟨g', k', -, l', e1', e2', -⟩ := h'
  obtain ⟨i1, i2⟩ := wb_inj k k' l l'
  rw [e1, e2, e1', e2', i1, i2]
theorem nmP_b {c w : Int} (h : nmP c w) : 0 < c ∧ c < 387420489 := by
  obtain ⟨g, k, k1, l, e1, e2, -⟩ := h
  rw [e1]
  exact ⟨((wb_pos k l).2 k1.1).1, wb_l6 k1.2 l⟩
def moC (C : Nat → Int) (F : Nat → Int) (w : Int) : Int := frs (fun m => decide (C m = w)) (-1) (F 0).toNat 0
theorem frs_none {f : Nat → Bool} {d : Int} : ∀ c k, (∀ i, k ≤ i → i < k + c → f i = false) → frs f d c k = d
  | 0, _, _ => rfl
  | c + 1, k, h => by
    unfold frs
    rw [h k (by omega) (by omega), if_neg (by decide)]
    exact frs_none c (k + 1) (fun i h1 h2 => h i (by omega) (by omega))
theorem mo_gMi {C F Nm : Nat → Int} {p : Nat} (hC : nmR C F Nm) (h : tcT tp n p = 1) : moC C F (cW tp n p) = gMi tp n F Nm p := by
  unfold moC gMi
  by_cases c : gNa tp n p = true
  · rw [if_pos c]
    unfold gMo
    refine frs_congr _ _ (fun m _ hm => ?_)
    have := nmP_i (hC m (by omega)) (nmP_p c)
    rw [decide_eq_decide]
    exact this
  · rw [if_neg c]
    refine frs_none _ _ (fun m _ hm => ?_)
    have q := hC m (by omega)
    rw [decide_eq_false_iff_not]
    intro e
    obtain ⟨g, k, k1, l, e1, e2, e3⟩ := q
    rw [e] at e1 e3
    exact c (gNa_c.mpr ⟨h, by rw [e1]; exact ((wb_pos k l).2 k1.1).1, e3⟩)
theorem gMi_no {F Nm : Nat → Int} {p : Nat} (h : tcT tp n p ≠ 1) : gMi tp n F Nm p = -1 := by
  unfold gMi
  rw [if_neg (fun w => h (gNa_c.mp w).1)]
end

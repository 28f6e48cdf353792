/-! What a text tells: both sides are held against it. A result is a fault (kind, place) or what was read. -/
abbrev rR (α : Type) : Type := Sum (Int × Nat) α
section
variable (tp : Nat → Int) (n : Nat)
/-- where the token after the one at p begins -/
def gNx (p : Nat) : Nat := tkP tp n (teE tp n p)
def gSg (c : Int) (p : Nat) : Bool := decide (teS tp n p = 2) && decide (teV tp n p = c)
def gNa (p : Nat) : Bool := decide (teS tp n p = 0) && decide (teV tp n p = -1)
/-- a number -/
def gNum (lo hi : Int) (nz : Bool) (p : Nat) : rR (Int × Nat) :=
  let q := if gSg tp n 45 p = true then gNx tp n p else p
  if teS tp n q ≠ 1 then .inl (1, q) else
  let v := if gSg tp n 45 p = true then -teV tp n q else teV tp n q
  if v < lo ∨ hi < v ∨ (v = 0 ∧ nz = false) then .inl (2, p) else .inr (v, gNx tp n q)
end
/-- which mode has this name -/
def gMo (Nm : Nat → Int) (c : Nat) (w : Int) : Int := frs (fun m => decide (Nm m = w)) (-1) c 0
def gMi (tp : Nat → Int) (n : Nat) (F Nm : Nat → Int) (p : Nat) : Int := if gNa tp n p = true then gMo Nm (F 0).toNat (teW tp n p) else -1
def gMode (tp : Nat → Int) (n : Nat) (F Nm : Nat → Int) (p : Nat) : rR (Int × Nat) := if gMi tp n F Nm p = -1 then .inl (1, p) else .inr (gMi tp n F Nm p, gNx tp n p)
def fu (F : Nat → Int) (k : Nat) (v : Int) : Nat → Int := fun j => if j = k then v else F j
theorem fu_at (F : Nat → Int) (k : Nat) (v : Int) (j : Nat) : fu F k v j = if j = k then v else F j := rfl
theorem fu_eq (F : Nat → Int) (k : Nat) (v : Int) : fu F k v k = v := by rw [fu_at, if_pos rfl]
theorem fu_ne (F : Nat → Int) {k : Nat} (v : Int) {j : Nat} (h : j ≠ k) : fu F k v j = F j := by rw [fu_at, if_neg h]
def gAdd (F : Nat → Int) (a b : Int) : Nat → Int := fu (fu (fu F (11 + 2 * wN F) a) (11 + 2 * wN F + 1) b) 2 (F 2 + 1)
/-- the number of a normal -/
def gNor (F : Nat → Int) (a b : Int) (line : Nat) : rR (Int × (Nat → Int)) :=
  let a' := Int.tdiv a (ig a b)
  let b' := Int.tdiv b (ig a b)
  if nIn F a' b' ≠ -1 then .inr (nIn F a' b', F) else if F 2 = 24 then .inl (2, line) else .inr (F 2, gAdd F a' b')
def gBd (F : Nat → Int) (to : Nat) (k c g : Int) : Nat → Int := fu (fu (fu F to k) (to + 1) (Int.tdiv c (ig c g))) (to + 2) (Int.tdiv g (ig c g))
def gBound (tp : Nat → Int) (n : Nat) (F : Nat → Int) (to line p : Nat) : rR ((Nat → Int) × Nat) :=
  match gNum tp n (-9) 9 true p with
  | .inl e => .inl e
  | .inr (a, p1) => match gNum tp n (-9) 9 (decide (a ≠ 0)) p1 with
    | .inl e => .inl e
    | .inr (b, p2) => match gNor F a b line with
      | .inl e => .inl e
      | .inr (k, F1) => match gNum tp n (-999) 999 true p2 with
        | .inl e => .inl e
        | .inr (c, p3) => .inr (gBd F1 to k c (ig a b), p3)
abbrev gS : Type := (Nat → Int) × (Nat → Int) × Bool
/-- the normals across slopes -/
def gPer (F : Nat → Int) (a b : Int) (line : Nat) : rR (Nat → Int) :=
  if a = 0 ∧ b = 0 then .inr F else
  match gNor F (-b) a line with
  | .inl e => .inl e
  | .inr (_, F1) => match gNor F1 b (-a) line with
    | .inl e => .inl e
    | .inr (_, F2) => .inr F2
def gMk (F : Nat → Int) (a b : Int) : Nat → Int := fu (fu (fu F (59 + 25 * (F 0).toNat) a) (60 + 25 * (F 0).toNat) b) 0 (F 0 + 1)
def gOwn (tp : Nat → Int) (n : Nat) (s : gS) (p : Nat) : rR (gS × Nat) :=
  if s.1 0 = 6 then .inl (2, p) else
  let p1 := gNx tp n p
  if gNa tp n p1 = false then .inl (1, p1) else
  if gMo s.2.1 (s.1 0).toNat (teW tp n p1) ≠ -1 then .inl (3, p1) else
  match gNum tp n (-9) 9 true (gNx tp n p1) with
  | .inl e => .inl e
  | .inr (a, p2) => match gNum tp n (-9) 9 true p2 with
    | .inl e => .inl e
    | .inr (b, p3) => match gPer s.1 a b p with
      | .inl e => .inl e
      | .inr F1 => .inr ((gMk F1 a b, fu s.2.1 (s.1 0).toNat (teW tp n p1), s.2.2), p3)
/-- what a mode keeps (0), its harm (1) -/
def gKept (tp : Nat → Int) (n : Nat) (w : Nat) (s : gS) (p : Nat) : rR (gS × Nat) :=
  let p1 := gNx tp n p
  let m := gMi tp n s.1 s.2.1 p1
  if m = -1 then .inl (1, p1) else
  let t := 61 + w + 25 * m.toNat
  if s.1 t = (if w = 0 then 4 else 3) then .inl (2, p) else
  match gBound tp n s.1 ((if w = 0 then 63 else 75) + 25 * m.toNat + 3 * (s.1 t).toNat) p (gNx tp n p1) with
  | .inl e => .inl e
  | .inr (F1, p2) => .inr ((fu F1 t (F1 t + 1), s.2.1, s.2.2), p2)
def gEd (F : Nat → Int) (a b : Int) : Nat → Int := fu (fu (fu F (209 + 19 * (F 1).toNat) a) (210 + 19 * (F 1).toNat) b) 1 (F 1 + 1)
def gEdge (tp : Nat → Int) (n : Nat) (s : gS) (p : Nat) : rR (gS × Nat) :=
  if s.1 1 = 10 then .inl (2, p) else
  match gMode tp n s.1 s.2.1 (gNx tp n p) with
  | .inl e => .inl e
  | .inr (a, p1) => match gMode tp n s.1 s.2.1 p1 with
    | .inl e => .inl e
    | .inr (b, p2) => .inr ((gEd s.1 a b, s.2.1, s.2.2), p2)
def gWhen (tp : Nat → Int) (n : Nat) (s : gS) (p : Nat) : rR (gS × Nat) :=
  if s.1 1 = 0 then .inl (1, p) else
  let e := (s.1 1).toNat - 1
  let t := 211 + 19 * e
  if s.1 t = 4 then .inl (2, p) else
  match gBound tp n s.1 (216 + 19 * e + 3 * (s.1 t).toNat) p (gNx tp n p) with
  | .inl e => .inl e
  | .inr (F1, p2) => .inr ((fu F1 t (F1 t + 1), s.2.1, s.2.2), p2)
def gDeed (tp : Nat → Int) (n : Nat) (how : Int) (s : gS) (p : Nat) : rR (gS × Nat) :=
  if s.1 1 = 0 then .inl (1, p) else
  let p1 := gNx tp n p
  if ¬ (teS tp n p1 = 0 ∧ (teV tp n p1 = 9 ∨ teV tp n p1 = 10)) then .inl (1, p1) else
  let t := (if teV tp n p1 = 9 then 212 else 214) + 19 * ((s.1 1).toNat - 1)
  if s.1 t ≠ 0 then .inl (3, p) else
  match gNum tp n (-999) 999 true (gNx tp n p1) with
  | .inl e => .inl e
  | .inr (v, p2) => .inr ((fu (fu s.1 t how) (t + 1) v, s.2.1, s.2.2), p2)
def gSt (F : Nat → Int) (m a b c d : Int) : Nat → Int := fu (fu (fu (fu (fu (fu F 4 1) 5 m) 6 a) 7 b) 8 c) 9 d
def gStart (tp : Nat → Int) (n : Nat) (s : gS) (p : Nat) : rR (gS × Nat) :=
  if s.1 4 = 1 then .inl (3, p) else
  match gMode tp n s.1 s.2.1 (gNx tp n p) with
  | .inl e => .inl e
  | .inr (m, p1) => match gNum tp n (-999) 999 true p1 with
    | .inl e => .inl e
    | .inr (a, p2) => match gNum tp n a 999 true p2 with
      | .inl e => .inl e
      | .inr (b, p3) => match gNum tp n (-999) 999 true p3 with
        | .inl e => .inl e
        | .inr (c, p4) => match gNum tp n c 999 true p4 with
          | .inl e => .inl e
          | .inr (d, p5) => .inr ((gSt s.1 m a b c d, s.2.1, s.2.2), p5)
def gMost (tp : Nat → Int) (n : Nat) (s : gS) (p : Nat) : rR (gS × Nat) :=
  if s.2.2 = true then .inl (3, p) else
  match gNum tp n 1 8 true (gNx tp n p) with
  | .inl e => .inl e
  | .inr (v, p1) => .inr ((fu s.1 3 v, s.2.1, true), p1)
def gWd (tp : Nat → Int) (n p : Nat) : Int := if teS tp n p = 0 then teV tp n p else -1
def gBody (tp : Nat → Int) (n : Nat) (s : gS) (p : Nat) : rR (gS × Nat) :=
  let w := gWd tp n p
  if w = 0 then gOwn tp n s p else if w = 1 then gKept tp n 0 s p else if w = 2 then gKept tp n 1 s p else if w = 3 then gEdge tp n s p
  else if w = 4 then gWhen tp n s p else if w = 5 then gDeed tp n 1 s p else if w = 6 then gDeed tp n 2 s p else if w = 7 then gStart tp n s p
  else if w = 8 then gMost tp n s p else .inl (1, p)
def gLine (tp : Nat → Int) (n : Nat) (s : gS) (p : Nat) : rR (gS × Nat) :=
  match gBody tp n s p with
  | .inl e => .inl e
  | .inr (s', p') => if gSg tp n 59 p' = true then .inr ((fu s'.1 10 (s'.1 10 + 1), s'.2.1, s'.2.2), gNx tp n p') else .inl (1, p')
def gLp (tp : Nat → Int) (n : Nat) : Nat → gS → Nat → rR gS
  | 0, s, _ => .inr s
  | c + 1, s, p => if teS tp n p = 3 then .inr s else
    match gLine tp n s p with
    | .inl e => .inl e
    | .inr (s', p') => gLp tp n c s' p'
/-- no text -/
def gF0 : Nat → Int := fun j => if j = 2 then 4 else if j = 3 then 4 else if j = 11 then 1 else if j = 13 then -1 else if j = 16 then 1 else if j = 18 then -1 else 0
def gText (tp : Nat → Int) (n : Nat) (Nm : Nat → Int) : rR gS := gLp tp n (n + 1) (gF0, Nm, false) (tkP tp n 0)
/-! tokens go on -/
section
variable {tp : Nat → Int} {n : Nat}
theorem teE_bd {p : Nat} (hp : p ≤ n) : p ≤ teE tp n p ∧ teE tp n p ≤ n ∧ (p < n → p < teE tp n p) := by
  unfold teE
  by_cases c : p < n
  · rw [if_pos c]
    by_cases l : isLb (tp p) = true
    · rw [if_pos l, rn_go c l]
      have := rn_bd (f := isLb) (tp := tp) (n := n) (n - (p + 1)) (p + 1) rfl
      have := this.2 (by omega)
      omega
    · rw [if_neg l]
      by_cases d : isDb (tp p) = true
      · rw [if_pos d, rn_go c d]
        have := rn_bd (f := isDb) (tp := tp) (n := n) (n - (p + 1)) (p + 1) rfl
        have := this.2 (by omega)
        omega
      · rw [if_neg d]
        omega
  · rw [if_neg c]
    omega
theorem tkP_bd {a : Nat} (ha : a ≤ n) : a ≤ tkP tp n a ∧ tkP tp n a ≤ n := by
  have := rn_bd (f := isWb) (tp := tp) (n := n) (n - a) a rfl
  exact ⟨this.1, this.2 ha⟩
theorem gNx_bd {p : Nat} (hp : p ≤ n) : p ≤ gNx tp n p ∧ gNx tp n p ≤ n ∧ (p < n → p < gNx tp n p) := by
  have a := teE_bd (tp := tp) hp
  have b := tkP_bd (tp := tp) a.2.1
  unfold gNx
  exact ⟨by omega, by omega, fun h => by have := a.2.2 h; omega⟩
theorem teS_lt {p : Nat} (h : teS tp n p ≠ 3) : p < n := by
  unfold teS at h
  by_cases c : p < n
  · exact c
  · rw [if_neg c] at h; exact absurd rfl h
theorem teS_bd (p : Nat) : 0 ≤ teS tp n p ∧ teS tp n p ≤ 4 := by
  unfold teS
  split
  · split
    · split <;> omega
    · split
      · omega
      · split <;> omega
  · omega
theorem dgv_bd {p : Nat} : ∀ k, (∀ i, i < k → isDg (tp (p + i))) → 0 ≤ dgv tp p k ∧ dgv tp p k ≤ 999999
  | 0, _ => ⟨Int.le_refl 0, by show (0 : Int) ≤ 999999; decide⟩
  | k + 1, h => by
    have a := dgv_bd k (fun i hi => h i (by omega))
    have b := h k (by omega)
    unfold isDg at b
    simp only [dgv]
    split
    · exact a
    · omega
theorem rn_all {f : Int → Bool} : ∀ c a, n - a = c → ∀ i, a ≤ i → i < rn f tp n a → f (tp i) = true := by
  intro c
  induction c with
  | zero =>
    intro a h i h1 h2
    rw [rn_end (by omega)] at h2
    omega
  | succ c ih =>
    intro a h i h1 h2
    by_cases q : a < n ∧ f (tp a) = true
    · rw [rn_go q.1 q.2] at h2
      by_cases e : i = a
      · rw [e]; exact q.2
      · exact ih (a + 1) (by omega) i (by omega) h2
    · rw [rn_end q] at h2
      omega
theorem lwI_bd (p q : Nat) : -1 ≤ lwI tp p q ∧ lwI tp p q ≤ 10 := by
  unfold lwI
  cases h : LW.findIdx? (lwM tp p q) with
  | none => exact ⟨by decide, by decide⟩
  | some i =>
    have := (List.findIdx?_eq_some_iff_findIdx_eq.mp h).1
    have l : LW.length = 11 := rfl
    simp only
    omega
theorem teV_0 {p : Nat} (h : teS tp n p = 0) : p < n ∧ isL (tp p) ∧ -1 ≤ teV tp n p ∧ teV tp n p ≤ 10 := by
  have hp : p < n := teS_lt (tp := tp) (by omega)
  obtain ⟨e1, e2, e3⟩ := te_of (tp := tp) hp
  by_cases l : isL (tp p)
  · rw [(e1 l).2.2.1]
    exact ⟨hp, l, lwI_bd _ _⟩
  · exfalso
    by_cases d : isDg (tp p)
    · have := (e2 l d).2.1; omega
    · have := (e3 l d).2.1
      rw [h] at this
      split at this <;> omega
theorem teV_1 {p : Nat} (h : teS tp n p = 1) : p < n ∧ 0 ≤ teV tp n p ∧ teV tp n p ≤ 999999 := by
  have hp : p < n := teS_lt (tp := tp) (by omega)
  obtain ⟨e1, e2, e3⟩ := te_of (tp := tp) hp
  by_cases l : isL (tp p)
  · have := (e1 l).2.1
    rw [h] at this
    split at this <;> omega
  · by_cases d : isDg (tp p)
    · rw [(e2 l d).2.2]
      refine ⟨hp, dgv_bd _ (fun i hi => isDb_i.mp (rn_all (n := n) (n - p) p rfl (p + i) (by omega) ?_))⟩
      omega
    · have := (e3 l d).2.1
      rw [h] at this
      split at this <;> omega
theorem teV_2 {p : Nat} (h : teS tp n p = 2) : p < n ∧ ¬ isL (tp p) ∧ teV tp n p = tp p ∧ (tp p = 59 ∨ tp p = 45) := by
  have hp : p < n := teS_lt (tp := tp) (by omega)
  obtain ⟨e1, e2, e3⟩ := te_of (tp := tp) hp
  by_cases l : isL (tp p)
  · have := (e1 l).2.1
    rw [h] at this
    split at this <;> omega
  · by_cases d : isDg (tp p)
    · have := (e2 l d).2.1; omega
    · have a := e3 l d
      refine ⟨hp, l, a.2.2, ?_⟩
      have := a.2.1
      rw [h] at this
      by_cases q : tp p = 59 ∨ tp p = 45
      · exact q
      · rw [if_neg q] at this; omega
theorem gNum_ok {lo hi : Int} {nz : Bool} {p : Nat} {v : Int} {p' : Nat} (hp : p ≤ n) (h : gNum tp n lo hi nz p = .inr (v, p')) : (lo ≤ v ∧ v ≤ hi) ∧ (nz = false → v ≠ 0) ∧ p < p' ∧ p' ≤ n := by
  unfold gNum at h
  dsimp only at h
  generalize hq : (if gSg tp n 45 p = true then gNx tp n p else p) = q at h
  have hpq : p ≤ q ∧ q ≤ n := by
    rw [← hq]
    have := gNx_bd (tp := tp) hp
    split
    · exact ⟨this.1, this.2.1⟩
    · exact ⟨Nat.le_refl _, hp⟩
  by_cases c1 : teS tp n q ≠ 1
  · rw [if_pos c1] at h; cases h
  · rw [if_neg c1] at h
    generalize (if gSg tp n 45 p = true then -teV tp n q else teV tp n q) = u at h
    by_cases c2 : u < lo ∨ hi < u ∨ (u = 0 ∧ nz = false)
    · rw [if_pos c2] at h; cases h
    · rw [if_neg c2] at h
      injection h with h
      injection h with h1 h2
      subst h1 h2
      have e := teS_lt (tp := tp) (n := n) (p := q) (by omega)
      have := gNx_bd (tp := tp) hpq.2
      have := this.2.2 e
      refine ⟨by omega, fun hz w => c2 (Or.inr (Or.inr ⟨w, hz⟩)), by omega, by omega⟩
theorem gMi_bd {F Nm : Nat → Int} {p : Nat} (h0 : 0 ≤ F 0) : -1 ≤ gMi tp n F Nm p ∧ (gMi tp n F Nm p ≠ -1 → 0 ≤ gMi tp n F Nm p ∧ gMi tp n F Nm p < F 0 ∧ gNa tp n p = true) := by
  unfold gMi
  split
  next h =>
    unfold gMo
    rcases frs_bd (fun m => decide (Nm m = teW tp n p)) (d := -1) (F 0).toNat 0 with e | e
    · rw [e]; exact ⟨by omega, fun w => absurd rfl w⟩
    · exact ⟨by omega, fun _ => ⟨by omega, by omega, h⟩⟩
  next => exact ⟨by omega, fun w => absurd rfl w⟩
theorem gNa_i {p : Nat} : gNa tp n p = true ↔ teS tp n p = 0 ∧ teV tp n p = -1 := by unfold gNa; simp
theorem gSg_i {c : Int} {p : Nat} : gSg tp n c p = true ↔ teS tp n p = 2 ∧ teV tp n p = c := by unfold gSg; simp
theorem gMode_ok {F Nm : Nat → Int} {p p' : Nat} {m : Int} (hp : p ≤ n) (h0 : 0 ≤ F 0) (h : gMode tp n F Nm p = .inr (m, p')) : m = gMi tp n F Nm p ∧ 0 ≤ m ∧ m < F 0 ∧ p < p' ∧ p' ≤ n ∧ p' = gNx tp n p := by
  unfold gMode at h
  by_cases c : gMi tp n F Nm p = -1
  · rw [if_pos c] at h; cases h
  · rw [if_neg c] at h
    injection h with h
    injection h with h1 h2
    obtain ⟨a, b, d⟩ := (gMi_bd (tp := tp) (n := n) (Nm := Nm) (p := p) h0).2 c
    have l := teS_lt (tp := tp) (n := n) (p := p) (by have := gNa_i.mp d; omega)
    have := gNx_bd (tp := tp) hp
    have := this.2.2 l
    subst h1 h2
    exact ⟨rfl, a, b, by omega, by omega, rfl⟩
theorem teW_bd {p : Nat} (h : teS tp n p = 0) : 0 ≤ teW tp n p ∧ teW tp n p < 1073741824 := by
  obtain ⟨h1, h2, -⟩ := teV_0 h
  unfold teW
  have w := wdc_bd (tp := tp) (p := p) (min 6 (rn isLb tp n p - p)) (by omega) (fun i hi => isLb_i.mp (rn_all (n := n) (n - p) p rfl (p + i) (by omega) (by omega)))
  have k6 : min 6 (rn isLb tp n p - p) ≤ 6 := Nat.min_le_left _ _
  generalize min 6 (rn isLb tp n p - p) = k at w k6 ⊢
  have : (32 : Int) ^ k ≤ 1073741824 := by
    rcases (show k = 0 ∨ k = 1 ∨ k = 2 ∨ k = 3 ∨ k = 4 ∨ k = 5 ∨ k = 6 by omega) with e | e | e | e | e | e | e <;> rw [e] <;> decide
  omega
end

/-! Rows of points, in order, each once. -/
theorem fr_ll {a b c d1 d2 d3 : Int} (h1 : 0 < d1) (h2 : 0 < d2) (h3 : 0 < d3) (p : a * d2 ≤ b * d1) (q : b * d3 ≤ c * d2) : a * d3 ≤ c * d1 := by
  have m1 := Int.mul_le_mul_of_nonneg_right p (Int.le_of_lt h3)
  have m2 := Int.mul_le_mul_of_nonneg_right q (Int.le_of_lt h1)
  refine Int.le_of_mul_le_mul_right (a := d2) ?_ h2
  have e1 : a * d3 * d2 = a * d2 * d3 := by grind
  have e2 : c * d1 * d2 = c * d2 * d1 := by grind
  have e3 : b * d1 * d3 = b * d3 * d1 := by grind
  omega
theorem fr_sl {a b c d1 d2 d3 : Int} (h1 : 0 < d1) (h2 : 0 < d2) (h3 : 0 < d3) (p : a * d2 < b * d1) (q : b * d3 ≤ c * d2) : a * d3 < c * d1 := by
  refine Int.lt_of_not_ge fun r => ?_
  have := fr_ll h2 h3 h1 q r
  omega
theorem fr_ls {a b c d1 d2 d3 : Int} (h1 : 0 < d1) (h2 : 0 < d2) (h3 : 0 < d3) (p : a * d2 ≤ b * d1) (q : b * d3 < c * d2) : a * d3 < c * d1 := by
  refine Int.lt_of_not_ge fun r => ?_
  have := fr_ll h3 h1 h2 r p
  omega
def lexL (x1 d1 y1 e1 x2 d2 y2 e2 : Int) : Prop := x1 * d2 < x2 * d1 ∨ (x1 * d2 = x2 * d1 ∧ y1 * e2 < y2 * e1)
theorem lex_tr {x1 d1 y1 e1 x2 d2 y2 e2 x3 d3 y3 e3 : Int} (h1 : 0 < d1) (h2 : 0 < d2) (h3 : 0 < d3) (g1 : 0 < e1) (g2 : 0 < e2) (g3 : 0 < e3) (p : lexL x1 d1 y1 e1 x2 d2 y2 e2) (q : lexL x2 d2 y2 e2 x3 d3 y3 e3) : lexL x1 d1 y1 e1 x3 d3 y3 e3 := by
  rcases p with p | ⟨p, p'⟩ <;> rcases q with q | ⟨q, q'⟩
  · exact Or.inl (fr_sl h1 h2 h3 p (Int.le_of_lt q))
  · exact Or.inl (fr_sl h1 h2 h3 p (Int.le_of_eq q))
  · exact Or.inl (fr_ls h1 h2 h3 (Int.le_of_eq p) q)
  · refine Or.inr ⟨Int.le_antisymm (fr_ll h1 h2 h3 (Int.le_of_eq p) (Int.le_of_eq q)) (fr_ll h3 h2 h1 (Int.le_of_eq q.symm) (Int.le_of_eq p.symm)), fr_sl g1 g2 g3 p' (Int.le_of_lt q')⟩
def rowOk (c : Nat → Int) (k : Nat) : Prop := 0 < c (4 * k + 1) ∧ 0 < c (4 * k + 3) ∧ Int.gcd (c (4 * k)) (c (4 * k + 1)) = 1 ∧ Int.gcd (c (4 * k + 2)) (c (4 * k + 3)) = 1
def rowIs (c : Nat → Int) (k : Nat) (X Y B : Int) : Prop := c (4 * k) * B = X * c (4 * k + 1) ∧ c (4 * k + 2) * B = Y * c (4 * k + 3)
def rowLt (c : Nat → Int) (i : Nat) (c' : Nat → Int) (j : Nat) : Prop := lexL (c (4 * i)) (c (4 * i + 1)) (c (4 * i + 2)) (c (4 * i + 3)) (c' (4 * j)) (c' (4 * j + 1)) (c' (4 * j + 2)) (c' (4 * j + 3))
def rowEq (c : Nat → Int) (i : Nat) (c' : Nat → Int) (j : Nat) : Prop := c (4 * i) = c' (4 * j) ∧ c (4 * i + 1) = c' (4 * j + 1) ∧ c (4 * i + 2) = c' (4 * j + 2) ∧ c (4 * i + 3) = c' (4 * j + 3)
def clist (Q : Int → Int → Int → Prop) (m : Nat) (c : Nat → Int) : Prop := (∀ k, k < m → rowOk c k ∧ ∃ X Y B, 0 < B ∧ Q X Y B ∧ rowIs c k X Y B) ∧ (∀ X Y B, 0 < B → Q X Y B → ∃ k, k < m ∧ rowIs c k X Y B) ∧ ∀ i j, i < j → j < m → rowLt c i c j
theorem fr_eq {a d x b : Int} {a' d' : Int} (hb : 0 < b) (hd : 0 < d) (hd' : 0 < d') (g : Int.gcd a d = 1) (g' : Int.gcd a' d' = 1) (h : a * b = x * d) (h' : a' * b = x * d') : a = a' ∧ d = d' := by
  refine low_eq hd hd' g g' (Int.eq_of_mul_eq_mul_right (a := b) (by omega) ?_)
  have e1 : a * d' * b = a * b * d' := by grind
  have e2 : a' * d * b = a' * b * d := by grind
  rw [e1, e2, h, h']
  grind
theorem row_eq {c c' : Nat → Int} {i j : Nat} {X Y B : Int} (hB : 0 < B) (h : rowOk c i) (h' : rowOk c' j) (p : rowIs c i X Y B) (p' : rowIs c' j X Y B) : rowEq c i c' j := by
  have a := fr_eq hB h.1 h'.1 h.2.2.1 h'.2.2.1 p.1 p'.1
  have b := fr_eq hB h.2.1 h'.2.1 h.2.2.2 h'.2.2.2 p.2 p'.2
  exact ⟨a.1, a.2, b.1, b.2⟩
theorem row_irr {c c' : Nat → Int} {i j : Nat} (h : rowEq c i c' j) (l : rowLt c i c' j) : False := by
  obtain ⟨a, b, d, e⟩ := h
  unfold rowLt lexL at l
  rw [a, b, d, e] at l
  omega
theorem row_asym {c c' : Nat → Int} {i j : Nat} (l : rowLt c i c' j) (l' : rowLt c' j c i) : False := by
  unfold rowLt lexL at l l'
  rcases l with l | l <;> rcases l' with l' | l' <;> omega
theorem row_lt_eq {c c' c'' : Nat → Int} {i j k : Nat} (h : rowEq c i c' j) : (rowLt c'' k c i ↔ rowLt c'' k c' j) ∧ (rowLt c i c'' k ↔ rowLt c' j c'' k) := by
  obtain ⟨a, b, d, e⟩ := h
  unfold rowLt
  rw [a, b, d, e]
  exact ⟨Iff.rfl, Iff.rfl⟩
theorem clist_step {Q : Int → Int → Int → Prop} {m m' : Nat} {c c' : Nat → Int} (h : clist Q m c) (h' : clist Q m' c') {k : Nat} (ih : ∀ j, j < k → j < m → j < m' ∧ rowEq c j c' j) (ih' : ∀ j, j < k → j < m' → j < m) (hk : k < m) : k < m' ∧ rowEq c k c' k := by
  obtain ⟨a, b, d⟩ := h
  obtain ⟨a', b', d'⟩ := h'
  obtain ⟨ok, X, Y, B, hB, q, r⟩ := a k hk
  obtain ⟨j, j1, j2⟩ := b' X Y B hB q
  have e := row_eq hB ok (a' j j1).1 r j2
  have jk : ¬ j < k := fun l => by
    have := (ih j l (by omega)).2
    have l2 := d j k l hk
    have : rowLt c' j c k := (row_lt_eq this).2.mp l2
    have : rowLt c' j c' j := (row_lt_eq e).1.mp this
    exact row_irr ⟨rfl, rfl, rfl, rfl⟩ this
  have km' : k < m' := by omega
  obtain ⟨ok', X', Y', B', hB', q', r'⟩ := a' k km'
  obtain ⟨i, i1, i2⟩ := b X' Y' B' hB' q'
  have e' := row_eq hB' (a i i1).1 ok' i2 r'
  have ik : ¬ i < k := fun l => by
    have := (ih i l (by omega)).2
    have l2 := d' i k l km'
    have : rowLt c i c' k := (row_lt_eq this).2.mpr l2
    have : rowLt c i c i := (row_lt_eq e').1.mpr this
    exact row_irr ⟨rfl, rfl, rfl, rfl⟩ this
  refine ⟨km', ?_⟩
  rcases Nat.lt_or_ge k j with c1 | c1
  · have l1 := d' k j c1 j1
    have l1 : rowLt c' k c k := (row_lt_eq e).1.mpr l1
    rcases Nat.lt_or_ge k i with c2 | c2
    · have l2 := d k i c2 i1
      have l2 : rowLt c k c' k := (row_lt_eq e').1.mp l2
      exact absurd (row_asym l1 l2) id
    · have : i = k := by omega
      subst this
      exact absurd (row_irr ⟨e'.1.symm, e'.2.1.symm, e'.2.2.1.symm, e'.2.2.2.symm⟩ l1) id
  · have : j = k := by omega
    subst this
    exact e
theorem clist_uniq {Q : Int → Int → Int → Prop} {m m' : Nat} {c c' : Nat → Int} (h : clist Q m c) (h' : clist Q m' c') : m = m' ∧ ∀ j, j < 4 * m → c j = c' j := by
  have all : ∀ k, (k < m → k < m' ∧ rowEq c k c' k) ∧ (k < m' → k < m ∧ rowEq c' k c k) := by
    intro k
    induction k using Nat.strongRecOn with
    | _ k ih =>
      exact ⟨fun hk => clist_step h h' (fun j l hj => (ih j l).1 hj) (fun j l hj => ((ih j l).2 hj).1) hk, fun hk => clist_step h' h (fun j l hj => (ih j l).2 hj) (fun j l hj => ((ih j l).1 hj).1) hk⟩
  have em : m = m' := by
    rcases Nat.lt_trichotomy m m' with l | l | l
    · have := ((all m).2 l).1; omega
    · exact l
    · have := ((all m').1 l).1; omega
  refine ⟨em, fun j hj => ?_⟩
  obtain ⟨k, r, e, hr⟩ : ∃ k r, j = 4 * k + r ∧ r < 4 := ⟨j / 4, j % 4, by omega, by omega⟩
  have q := ((all k).1 (by omega)).2
  subst e
  rcases (show r = 0 ∨ r = 1 ∨ r = 2 ∨ r = 3 by omega) with rfl | rfl | rfl | rfl
  · exact q.1
  · exact q.2.1
  · exact q.2.2.1
  · exact q.2.2.2
/-- a row is set between others -/
def rIns (c : Nat → Int) (m k : Nat) (x d y e : Int) : Nat → Int := fun j => if j < 4 * k then c j else if j = 4 * k then x else if j = 4 * k + 1 then d else if j = 4 * k + 2 then y else if j = 4 * k + 3 then e else if j < 4 * m + 4 then c (j - 4) else c j
theorem rIns_lo {c : Nat → Int} {m k i : Nat} {x d y e : Int} (h : i < k) : rowEq (rIns c m k x d y e) i c i := by
  unfold rowEq rIns
  rw [if_pos (by omega), if_pos (by omega), if_pos (by omega), if_pos (by omega)]
  exact ⟨rfl, rfl, rfl, rfl⟩
theorem rIns_at {c : Nat → Int} {m k : Nat} {x d y e : Int} : rIns c m k x d y e (4 * k) = x ∧ rIns c m k x d y e (4 * k + 1) = d ∧ rIns c m k x d y e (4 * k + 2) = y ∧ rIns c m k x d y e (4 * k + 3) = e := by
  unfold rIns
  refine ⟨?_, ?_, ?_, ?_⟩
  · rw [if_neg (by omega), if_pos rfl]
  · rw [if_neg (by omega), if_neg (by omega), if_pos rfl]
  · rw [if_neg (by omega), if_neg (by omega), if_neg (by omega), if_pos rfl]
  · rw [if_neg (by omega), if_neg (by omega), if_neg (by omega), if_neg (by omega), if_pos rfl]
theorem rIns_hi {c : Nat → Int} {m k i : Nat} {x d y e : Int} (h : k ≤ i) (hi : i < m) : rowEq (rIns c m k x d y e) (i + 1) c i := by
  have f : ∀ r, r < 4 → rIns c m k x d y e (4 * (i + 1) + r) = c (4 * i + r) := fun r hr => by
    unfold rIns
    rw [if_neg (by omega), if_neg (by omega), if_neg (by omega), if_neg (by omega), if_neg (by omega), if_pos (by omega)]
    exact congrArg c (by omega)
  exact ⟨f 0 (by omega), f 1 (by omega), f 2 (by omega), f 3 (by omega)⟩
theorem row_ok_eq {c c' : Nat → Int} {i j : Nat} (h : rowEq c i c' j) : rowOk c i ↔ rowOk c' j := by
  obtain ⟨a, b, d, e⟩ := h
  unfold rowOk
  rw [a, b, d, e]
theorem row_is_eq {c c' : Nat → Int} {i j : Nat} {X Y B : Int} (h : rowEq c i c' j) : rowIs c i X Y B ↔ rowIs c' j X Y B := by
  obtain ⟨a, b, d, e⟩ := h
  unfold rowIs
  rw [a, b, d, e]
/-- a point more: it is there already, or it is set where it belongs -/
theorem clist_old {Q : Int → Int → Int → Prop} {m : Nat} {c : Nat → Int} {X0 Y0 B0 : Int} (h : clist Q m c) {k : Nat} (hk : k < m) (r : rowIs c k X0 Y0 B0) : clist (fun X Y B => Q X Y B ∨ (X = X0 ∧ Y = Y0 ∧ B = B0)) m c := by
  obtain ⟨a, b, d⟩ := h
  refine ⟨fun j hj => ?_, fun X Y B hB q => ?_, d⟩
  · obtain ⟨o, X, Y, B, e1, e2, e3⟩ := a j hj
    exact ⟨o, X, Y, B, e1, Or.inl e2, e3⟩
  · rcases q with q | ⟨rfl, rfl, rfl⟩
    · exact b X Y B hB q
    · exact ⟨k, hk, r⟩
theorem clist_new {Q : Int → Int → Int → Prop} {m k : Nat} {c : Nat → Int} {X0 Y0 B0 x d y e : Int} (h : clist Q m c) (hB0 : 0 < B0) (hk : k ≤ m) (hd : 0 < d) (he : 0 < e) (g1 : Int.gcd x d = 1) (g2 : Int.gcd y e = 1) (p1 : x * B0 = X0 * d) (p2 : y * B0 = Y0 * e)
    (lo : ∀ i, i < k → lexL (c (4 * i)) (c (4 * i + 1)) (c (4 * i + 2)) (c (4 * i + 3)) x d y e) (hi : k < m → lexL x d y e (c (4 * k)) (c (4 * k + 1)) (c (4 * k + 2)) (c (4 * k + 3))) :
    clist (fun X Y B => Q X Y B ∨ (X = X0 ∧ Y = Y0 ∧ B = B0)) (m + 1) (rIns c m k x d y e) := by
  obtain ⟨a, b, s⟩ := h
  have at_ := rIns_at (c := c) (m := m) (k := k) (x := x) (d := d) (y := y) (e := e)
  have hi' : ∀ j, k ≤ j → j < m → lexL x d y e (c (4 * j)) (c (4 * j + 1)) (c (4 * j + 2)) (c (4 * j + 3)) := by
    intro j h1 h2
    by_cases c1 : j = k
    · subst c1; exact hi h2
    · have o1 := (a k (by omega)).1
      have o2 := (a j h2).1
      exact lex_tr hd o1.1 o2.1 he o1.2.1 o2.2.1 (hi (by omega)) (s k j (by omega) h2)
  refine ⟨fun j hj => ?_, fun X Y B hB q => ?_, fun i j hij hj => ?_⟩
  · rcases Nat.lt_trichotomy j k with l | l | l
    · have q := rIns_lo (c := c) (m := m) (x := x) (d := d) (y := y) (e := e) l
      obtain ⟨o, X, Y, B, e1, e2, e3⟩ := a j (by omega)
      exact ⟨(row_ok_eq q).mpr o, X, Y, B, e1, Or.inl e2, (row_is_eq q).mpr e3⟩
    · subst l
      refine ⟨?_, X0, Y0, B0, hB0, Or.inr ⟨rfl, rfl, rfl⟩, ?_⟩
      · unfold rowOk; rw [at_.1, at_.2.1, at_.2.2.1, at_.2.2.2]; exact ⟨hd, he, g1, g2⟩
      · unfold rowIs; rw [at_.1, at_.2.1, at_.2.2.1, at_.2.2.2]; exact ⟨p1, p2⟩
    · obtain ⟨i, rfl⟩ : ∃ i, j = i + 1 := ⟨j - 1, by omega⟩
      have q := rIns_hi (c := c) (m := m) (x := x) (d := d) (y := y) (e := e) (show k ≤ i by omega) (show i < m by omega)
      obtain ⟨o, X, Y, B, e1, e2, e3⟩ := a i (by omega)
      exact ⟨(row_ok_eq q).mpr o, X, Y, B, e1, Or.inl e2, (row_is_eq q).mpr e3⟩
  · rcases q with q | ⟨rfl, rfl, rfl⟩
    · obtain ⟨j, j1, j2⟩ := b X Y B hB q
      by_cases l : j < k
      · exact ⟨j, by omega, (row_is_eq (rIns_lo l)).mpr j2⟩
      · exact ⟨j + 1, by omega, (row_is_eq (rIns_hi (by omega) j1)).mpr j2⟩
    · refine ⟨k, by omega, ?_⟩
      unfold rowIs; rw [at_.1, at_.2.1, at_.2.2.1, at_.2.2.2]; exact ⟨p1, p2⟩
  · have rowk : ∀ i, rowLt (rIns c m k x d y e) k c i ↔ lexL x d y e (c (4 * i)) (c (4 * i + 1)) (c (4 * i + 2)) (c (4 * i + 3)) := fun i => by unfold rowLt; rw [at_.1, at_.2.1, at_.2.2.1, at_.2.2.2]
    have rowk' : ∀ i, rowLt c i (rIns c m k x d y e) k ↔ lexL (c (4 * i)) (c (4 * i + 1)) (c (4 * i + 2)) (c (4 * i + 3)) x d y e := fun i => by unfold rowLt; rw [at_.1, at_.2.1, at_.2.2.1, at_.2.2.2]
    rcases Nat.lt_trichotomy j k with l | l | l
    · exact (row_lt_eq (rIns_lo (by omega))).2.mpr ((row_lt_eq (rIns_lo l)).1.mpr (s i j hij (by omega)))
    · subst l
      exact (row_lt_eq (rIns_lo hij)).2.mpr ((rowk' i).mpr (lo i hij))
    · obtain ⟨j', rfl⟩ : ∃ i, j = i + 1 := ⟨j - 1, by omega⟩
      have qj := rIns_hi (c := c) (m := m) (x := x) (d := d) (y := y) (e := e) (show k ≤ j' by omega) (show j' < m by omega)
      refine (row_lt_eq qj).1.mpr ?_
      rcases Nat.lt_trichotomy i k with l2 | l2 | l2
      · exact (row_lt_eq (rIns_lo l2)).2.mpr (s i j' (by omega) (by omega))
      · subst l2
        exact (rowk j').mpr (hi' j' (by omega) (by omega))
      · obtain ⟨i', rfl⟩ : ∃ k, i = k + 1 := ⟨i - 1, by omega⟩
        exact (row_lt_eq (rIns_hi (by omega) (by omega))).2.mpr (s i' j' (by omega) (by omega))
theorem clist_congr {Q Q' : Int → Int → Int → Prop} {m : Nat} {c : Nat → Int} (h1 : ∀ X Y B, 0 < B → Q X Y B → ∃ X' Y' B', 0 < B' ∧ Q' X' Y' B' ∧ X * B' = X' * B ∧ Y * B' = Y' * B) (h2 : ∀ X Y B, 0 < B → Q' X Y B → ∃ X' Y' B', 0 < B' ∧ Q X' Y' B' ∧ X * B' = X' * B ∧ Y * B' = Y' * B) (h : clist Q m c) : clist Q' m c := by
  obtain ⟨a, b, s⟩ := h
  have mv : ∀ k X Y B X' Y' B', 0 < B → X * B' = X' * B → Y * B' = Y' * B → rowIs c k X Y B → rowIs c k X' Y' B' := by
    intro k X Y B X' Y' B' hB e1 e2 r
    obtain ⟨r1, r2⟩ := r
    refine ⟨Int.eq_of_mul_eq_mul_right (a := B) (by omega) ?_, Int.eq_of_mul_eq_mul_right (a := B) (by omega) ?_⟩
    · have q1 : c (4 * k) * B' * B = c (4 * k) * B * B' := by grind
      have q2 : X' * c (4 * k + 1) * B = X' * B * c (4 * k + 1) := by grind
      rw [q1, q2, r1, ← e1]; grind
    · have q1 : c (4 * k + 2) * B' * B = c (4 * k + 2) * B * B' := by grind
      have q2 : Y' * c (4 * k + 3) * B = Y' * B * c (4 * k + 3) := by grind
      rw [q1, q2, r2, ← e2]; grind
  refine ⟨fun k hk => ?_, fun X Y B hB q => ?_, s⟩
  · obtain ⟨o, X, Y, B, e1, e2, e3⟩ := a k hk
    obtain ⟨X', Y', B', f1, f2, f3, f4⟩ := h1 X Y B e1 e2
    exact ⟨o, X', Y', B', f1, f2, mv k _ _ _ _ _ _ e1 f3 f4 e3⟩
  · obtain ⟨X', Y', B', f1, f2, f3, f4⟩ := h2 X Y B hB q
    obtain ⟨k, k1, k2⟩ := b X' Y' B' f1 f2
    exact ⟨k, k1, mv k _ _ _ _ _ _ f1 f3.symm f4.symm k2⟩

/-! Sets of points and what is most of them: what class and reference both tell. -/
def supP (F : Int → Int → Int → Prop) (a b u d : Int) : Prop := 0 < d ∧ Int.gcd u d = 1 ∧ (∀ X Y B, 0 < B → F X Y B → (a * X + b * Y) * d ≤ u * B) ∧ ∃ X Y B, 0 < B ∧ F X Y B ∧ (a * X + b * Y) * d = u * B
theorem low_eq {u d u' d' : Int} (hd : 0 < d) (hd' : 0 < d') (g : Int.gcd u d = 1) (g' : Int.gcd u' d' = 1) (e : u * d' = u' * d) : u = u' ∧ d = d' := by
  have h1 : d ∣ d' := by
    have : d ∣ u * d' := ⟨u', by rw [e, Int.mul_comm]⟩
    have := Int.dvd_gcd_mul_iff_dvd_mul.mpr this
    rw [Int.gcd_comm, g] at this
    simpa using this
  have h2 : d' ∣ d := by
    have : d' ∣ u' * d := ⟨u, by rw [← e, Int.mul_comm]⟩
    have := Int.dvd_gcd_mul_iff_dvd_mul.mpr this
    rw [Int.gcd_comm, g'] at this
    simpa using this
  have l1 := Int.le_of_dvd hd' h1
  have l2 := Int.le_of_dvd hd h2
  have ed : d = d' := by omega
  subst ed
  exact ⟨Int.eq_of_mul_eq_mul_right (by omega) e, rfl⟩
theorem sup_le {F F' : Int → Int → Int → Prop} {a b u d u' d' : Int} (h : supP F a b u d) (h' : supP F' a b u' d') (hF : ∀ X Y B, 0 < B → F X Y B → F' X Y B) : u * d' ≤ u' * d := by
  obtain ⟨d1, _, _, X, Y, B, b1, f1, e1⟩ := h
  obtain ⟨d1', _, l', _⟩ := h'
  have l := l' X Y B b1 (hF X Y B b1 f1)
  have l2 := Int.mul_le_mul_of_nonneg_right l (Int.le_of_lt d1)
  refine Int.le_of_mul_le_mul_right (a := B) ?_ b1
  have : (a * X + b * Y) * d' * d = u * d' * B := by
    have : (a * X + b * Y) * d' * d = ((a * X + b * Y) * d) * d' := by grind
    rw [this, e1]; grind
  have : u' * B * d = u' * d * B := by grind
  omega
theorem sup_uniq {F : Int → Int → Int → Prop} {a b u d u' d' : Int} (h : supP F a b u d) (h' : supP F a b u' d') : u = u' ∧ d = d' := by
  have l1 := sup_le h h' (fun _ _ _ _ f => f)
  have l2 := sup_le h' h (fun _ _ _ _ f => f)
  exact low_eq h.1 h'.1 h.2.1 h'.2.1 (by omega)
theorem sup_congr {F F' : Int → Int → Int → Prop} {a b u d : Int} (hF : ∀ X Y B, 0 < B → (F X Y B ↔ F' X Y B)) : supP F a b u d ↔ supP F' a b u d := by
  constructor
  · rintro ⟨h1, h2, h3, X, Y, B, h4, h5, h6⟩
    exact ⟨h1, h2, fun X Y B hB f => h3 X Y B hB ((hF X Y B hB).mpr f), X, Y, B, h4, (hF X Y B h4).mp h5, h6⟩
  · rintro ⟨h1, h2, h3, X, Y, B, h4, h5, h6⟩
    exact ⟨h1, h2, fun X Y B hB f => h3 X Y B hB ((hF X Y B hB).mp f), X, Y, B, h4, (hF X Y B h4).mpr h5, h6⟩
noncomputable def tP (F : Int → Int → Int → Prop) (a b : Int) : Int × Int := Classical.epsilon (fun p => supP F a b p.1 p.2)
noncomputable def tU (F : Int → Int → Int → Prop) (a b : Int) : Int := (tP F a b).1
noncomputable def tD (F : Int → Int → Int → Prop) (a b : Int) : Int := (tP F a b).2
theorem tP_sup {F : Int → Int → Int → Prop} {a b u d : Int} (h : supP F a b u d) : supP F a b (tU F a b) (tD F a b) :=
  Classical.epsilon_spec (p := fun p : Int × Int => supP F a b p.1 p.2) ⟨(u, d), h⟩
theorem tP_eq {F : Int → Int → Int → Prop} {a b u d : Int} (h : supP F a b u d) : tU F a b = u ∧ tD F a b = d := sup_uniq (tP_sup h) h
theorem tP_congr {F F' : Int → Int → Int → Prop} (hF : ∀ X Y B, 0 < B → (F X Y B ↔ F' X Y B)) (a b : Int) : tU F a b = tU F' a b ∧ tD F a b = tD F' a b := by
  have : (fun p : Int × Int => supP F a b p.1 p.2) = (fun p : Int × Int => supP F' a b p.1 p.2) := funext fun p => propext (sup_congr hF)
  unfold tU tD tP
  rw [this]
  exact ⟨rfl, rfl⟩
def neF (F : Int → Int → Int → Prop) : Prop := ∃ X Y B, 0 < B ∧ F X Y B
theorem neF_congr {F F' : Int → Int → Int → Prop} (hF : ∀ X Y B, 0 < B → (F X Y B ↔ F' X Y B)) : neF F ↔ neF F' :=
  ⟨fun ⟨X, Y, B, h, f⟩ => ⟨X, Y, B, h, (hF X Y B h).mp f⟩, fun ⟨X, Y, B, h, f⟩ => ⟨X, Y, B, h, (hF X Y B h).mpr f⟩⟩
noncomputable def cif {α : Type} (P : Prop) (x y : α) : α := @ite α P (Classical.propDecidable P) x y
theorem cif_pos {α : Type} {P : Prop} (h : P) (x y : α) : cif P x y = x := by unfold cif; rw [if_pos h]
theorem cif_neg {α : Type} {P : Prop} (h : ¬ P) (x y : α) : cif P x y = y := by unfold cif; rw [if_neg h]
section
-- what is told: a row of numbers, as the reference lays it
variable (W : Nat → Int)
def wA (k : Nat) : Int := W (11 + 2 * k)
def wB (k : Nat) : Int := W (11 + 2 * k + 1)
def wN : Nat := (W 2).toNat
def limF (P : Nat → Prop) (u d : Nat → Int) (X Y B : Int) : Prop := ∀ k, k < wN W → P k → (wA W k * X + wB W k * Y) * d k ≤ u k * B
def bndF (f m : Nat) (X Y B : Int) : Prop := ∀ i, i < m → (wA W (W (f + 3 * i)).toNat * X + wB W (W (f + 3 * i)).toNat * Y) * W (f + 3 * i + 2) ≤ W (f + 3 * i + 1) * B
def boxF (X Y B : Int) : Prop := X ≤ 1000 * B ∧ -X ≤ 1000 * B ∧ Y ≤ 1000 * B ∧ -Y ≤ 1000 * B
def keepF (m : Nat) (X Y B : Int) : Prop := boxF X Y B ∧ bndF W (63 + 25 * m) (W (61 + 25 * m)).toNat X Y B
def harmF (m : Nat) (X Y B : Int) : Prop := bndF W (75 + 25 * m) (W (62 + 25 * m)).toNat X Y B
def guardF (e : Nat) (X Y B : Int) : Prop := bndF W (216 + 19 * e) (W (211 + 19 * e)).toNat X Y B
def slp (m k : Nat) : Int := wA W k * W (59 + 25 * m) + wB W k * W (60 + 25 * m)
def growF (m : Nat) (u d : Nat → Int) (X Y B : Int) : Prop := limF W (fun k => slp W m k ≤ 0) u d X Y B ∧ keepF W m X Y B
def stays (e k : Nat) : Prop := (W (212 + 19 * e) ≠ 1 ∨ wA W k = 0) ∧ (W (214 + 19 * e) ≠ 1 ∨ wB W k = 0)
def shft (e k : Nat) : Int := (if W (212 + 19 * e) = 2 then W (213 + 19 * e) * wA W k else 0) + (if W (214 + 19 * e) = 2 then W (215 + 19 * e) * wB W k else 0)
def jumpF (e : Nat) (u d : Nat → Int) (X Y B : Int) : Prop := limF W (stays W e) (fun k => u k + shft W e k * d k) d X Y B ∧ (W (212 + 19 * e) = 1 → X = W (213 + 19 * e) * B) ∧ (W (214 + 19 * e) = 1 → Y = W (215 + 19 * e) * B)
def startF (X Y B : Int) : Prop := X ≤ W 7 * B ∧ -X ≤ -W 6 * B ∧ Y ≤ W 9 * B ∧ -Y ≤ -W 8 * B
/-- tight limits -/
noncomputable def tuF (F : Int → Int → Int → Prop) (k : Nat) : Int := tU F (wA W k) (wB W k)
noncomputable def tdF (F : Int → Int → Int → Prop) (k : Nat) : Int := tD F (wA W k) (wB W k)
def farL (u d : Nat → Int) : Prop := ∃ k, k < wN W ∧ byd (u k) (d k)
end
section
-- a check: 0 its numbers (parts, stop, covered, joined), 1 what is told of parts, 2 their sets
variable (W : Nat → Int) (T : Nat → Nat → Int)
def qN : Nat := (T 0 0).toNat
def qT (p w : Nat) : Int := T 1 (8 * p + w)
def qU (p w k : Nat) : Int := T 2 (96 * p + 48 * w + 2 * k)
def qD (p w k : Nat) : Int := T 2 (96 * p + 48 * w + 2 * k + 1)
def qset (i j : Nat) (v : Int) : Nat → Nat → Int := fun i' j' => if i' = i ∧ j' = j then v else T i' j'
def qlay (b n : Nat) (u d : Nat → Int) : Nat → Nat → Int := fun i j => if i = 2 ∧ b ≤ j ∧ j < b + 2 * n then (if (j - b) % 2 = 0 then u ((j - b) / 2) else d ((j - b) / 2)) else T i j
def setF (p w : Nat) (X Y B : Int) : Prop := limF W (fun _ => True) (qU T p w) (qD T p w) X Y B
noncomputable def aHarm (m : Nat) (u d : Nat → Int) : Int := cif (W (62 + 25 * m) ≠ 0 ∧ neF (fun X Y B => limF W (fun _ => True) u d X Y B ∧ harmF W m X Y B)) 1 0
/-- a new part: mode, from, edge, depth, exact; entry and set -/
noncomputable def aMake (m : Nat) (f e d x : Int) (u0 d0 u d' : Nat → Int) : Nat → Nat → Int :=
  qset (qset (qset (qset (qset (qset (qset (qset (qset (qlay (qlay T (96 * qN T) (wN W) u0 d0) (96 * qN T + 48) (wN W) u d') 1 (8 * qN T) m) 1 (8 * qN T + 1) f) 1 (8 * qN T + 2) e) 1 (8 * qN T + 3) d) 1 (8 * qN T + 4) x) 1 (8 * qN T + 5) 1) 1 (8 * qN T + 6) 0) 1 (8 * qN T + 7) (aHarm W m u d')) 0 0 (T 0 0 + 1)
noncomputable def aLiv (m : Nat) (p : Nat) : Bool := decide (qT T p 0 = (m : Int)) && decide (qT T p 6 ≠ 1)
def aCov (m : Nat) (u d : Nat → Int) : Prop := ∃ p, p < qN T ∧ qT T p 0 = (m : Int) ∧ qT T p 6 = 0 ∧ ∀ k, k < wN W → u k * qD T p 1 k ≤ qU T p 1 k * d k
def joU (p : Nat) (u d : Nat → Int) (k : Nat) : Int := if 0 < qU T p 1 k * d k - u k * qD T p 1 k then qU T p 1 k else u k
def joD (p : Nat) (u d : Nat → Int) (k : Nat) : Int := if 0 < qU T p 1 k * d k - u k * qD T p 1 k then qD T p 1 k else d k
noncomputable def aComes (p e : Nat) (u0 d0 u d : Nat → Int) : Nat → Nat → Int :=
  let m := (W (210 + 19 * e)).toNat
  cif (aCov W T m u d) (qset T 0 2 (T 0 2 + 1))
    (if T 0 0 = 60 then qset T 0 1 2
     else if (cnt (aLiv T m) (qN T) : Int) < W 3 then aMake W T m p e (qT T p 3 + 1) (qT T p 4) u0 d0 u d
     else
       let o := (gre 0 (aLiv T m) (qN T)).toNat
       let F := growF W m (joU T o u d) (joD T o u d)
       cif (farL W (tuF W F) (tdF W F)) (qset T 0 1 1)
         (aMake W (qset (qset (qset T 1 (8 * o + 6) 1) 1 (8 * o + 5) 0) 0 3 (T 0 3 + 1)) m p e (qT T p 3 + 1) 0 u0 d0 (tuF W F) (tdF W F)))
noncomputable def aGoes (p e : Nat) : Nat → Nat → Int :=
  let m := (W (210 + 19 * e)).toNat
  let F1 := fun X Y B => setF W T p 1 X Y B ∧ guardF W e X Y B
  let F2 := fun X Y B => jumpF W e (tuF W F1) (tdF W F1) X Y B ∧ keepF W m X Y B
  let F3 := growF W m (tuF W F2) (tdF W F2)
  cif (neF F1) (cif (farL W (tuF W F1) (tdF W F1)) (qset T 0 1 1)
    (cif (neF F2) (cif (farL W (tuF W F2) (tdF W F2)) (qset T 0 1 1)
      (cif (farL W (tuF W F3) (tdF W F3)) (qset T 0 1 1) (aComes W T p e (tuF W F2) (tdF W F2) (tuF W F3) (tdF W F3)))) T)) T
end
/-- the numbers of a check that has nothing -/
def aZero : Nat → Nat → Int := fun _ _ => 0
noncomputable def aBegin (W : Nat → Int) : Nat → Nat → Int :=
  let m := (W 5).toNat
  let F2 := fun X Y B => startF W X Y B ∧ keepF W m X Y B
  let F3 := growF W m (tuF W F2) (tdF W F2)
  if W 4 = 0 then aZero
  else cif (neF F2) (cif (farL W (tuF W F2) (tdF W F2)) (qset aZero 0 1 1)
    (cif (farL W (tuF W F3) (tdF W F3)) (qset aZero 0 1 1) (aMake W aZero m (-2) (-2) 0 1 (tuF W F2) (tdF W F2) (tuF W F3) (tdF W F3)))) aZero
/-- the edges e .. e + c - 1 from a part, as long as the check doesn't stop -/
noncomputable def aEdges (W : Nat → Int) (dr : Int) (p : Nat) : Nat → Nat → (Nat → Nat → Int) → (Nat → Nat → Int)
  | 0, _, T => T
  | c + 1, e, T => if T 0 1 = 0 then aEdges W dr p c (e + 1) (if W (209 + 19 * e) = qT T p 0 ∧ (e : Int) ≠ dr then aGoes W T p e else T) else T
noncomputable def aOpen (T : Nat → Nat → Int) : Int := frs (fun p => decide (qT T p 5 = 1)) (-1) (qN T) 0
noncomputable def aStep (W : Nat → Int) (dr : Int) (T : Nat → Nat → Int) (p : Nat) : Nat → Nat → Int := aEdges W dr p (W 1).toNat 0 (qset T 1 (8 * p + 5) 0)
/-- steps: how many were done, and the check behind them -/
noncomputable def aRuns (W : Nat → Int) (dr : Int) : Nat → (Nat → Nat → Int) → Nat × (Nat → Nat → Int)
  | 0, T => (0, T)
  | n + 1, T => if T 0 1 = 0 ∧ aOpen T ≠ -1 then ((aRuns W dr n (aStep W dr T (aOpen T).toNat)).1 + 1, (aRuns W dr n (aStep W dr T (aOpen T).toNat)).2) else (0, T)

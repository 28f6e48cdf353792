/-! Plane geometry: directions by angle (a key for each direction, the whole turn is 49008960), rings of limits. -/
def kyN (i j : Nat) : Nat :=
  match Nat.ble 10 j || (Nat.beq j 9 && Nat.ble 10 i) with
  | true => 12252240 + (9 - i) * 12252240 / ((i - 9) + (9 - i) + (j - 9) + (9 - j)) - (i - 9) * 12252240 / ((i - 9) + (9 - i) + (j - 9) + (9 - j))
  | false => 36756720 + (i - 9) * 12252240 / ((i - 9) + (9 - i) + (j - 9) + (9 - j)) - (9 - i) * 12252240 / ((i - 9) + (9 - i) + (j - 9) + (9 - j))
def kck (i j k l x y : Nat) : Bool :=
  match Nat.ble (i * l + 9 * (k + j)) (k * j + 9 * (i + l)) with
  | false => Nat.ble 1 ((y + 49008960 - x) % 49008960) && Nat.ble ((y + 49008960 - x) % 49008960) 24504479
  | true => match Nat.beq (i * l + 9 * (k + j)) (k * j + 9 * (i + l)) with
    | true => (Nat.beq ((y + 49008960 - x) % 49008960) 0 && ((Nat.beq i k && Nat.beq j l) || !(Nat.beq (Nat.gcd ((i - 9) + (9 - i)) ((j - 9) + (9 - j))) 1) || !(Nat.beq (Nat.gcd ((k - 9) + (9 - k)) ((l - 9) + (9 - l))) 1))) || Nat.beq ((y + 49008960 - x) % 49008960) 24504480
    | false => Nat.ble 24504481 ((y + 49008960 - x) % 49008960)
def kin (i j x : Nat) : Bool := (List.range 19).all fun k => (List.range 19).all fun l => (Nat.beq k 9 && Nat.beq l 9) || kck i j k l x (kyN k l)
def kall : Bool := (List.range 19).all fun i => (List.range 19).all fun j => (Nat.beq i 9 && Nat.beq j 9) || (Nat.ble (kyN i j) 49008959 && kin i j (kyN i j))
theorem kall_ok : kall = true := by decide +kernel
def ky (a b : Int) : Int := (kyN (a + 9).toNat (b + 9).toNat : Int)
def nrm (a b : Int) : Prop := (-9 ≤ a ∧ a ≤ 9) ∧ (-9 ≤ b ∧ b ≤ 9) ∧ ¬ (a = 0 ∧ b = 0)
def dky (a b c d : Int) : Int := (ky c d - ky a b) % 49008960
theorem beq_n {i k : Nat} (h : Nat.beq i k = true) : i = k := Nat.eq_of_beq_eq_true h
theorem kall_at {i j k l : Nat} (hi : i < 19) (hj : j < 19) (hk : k < 19) (hl : l < 19) (h1 : ¬ (i = 9 ∧ j = 9)) (h2 : ¬ (k = 9 ∧ l = 9)) : kyN i j ≤ 49008959 ∧ kck i j k l (kyN i j) (kyN k l) = true := by
  have q := kall_ok
  unfold kall at q
  have q1 := (List.all_eq_true.mp q) i (List.mem_range.mpr hi)
  have q2 := (List.all_eq_true.mp q1) j (List.mem_range.mpr hj)
  rcases Bool.or_eq_true_iff.mp q2 with c | c
  · exact absurd ⟨beq_n (Bool.and_eq_true_iff.mp c).1, beq_n (Bool.and_eq_true_iff.mp c).2⟩ h1
  · refine ⟨Nat.le_of_ble_eq_true (Bool.and_eq_true_iff.mp c).1, ?_⟩
    have q3 := (Bool.and_eq_true_iff.mp c).2
    unfold kin at q3
    have q4 := (List.all_eq_true.mp q3) k (List.mem_range.mpr hk)
    have q5 := (List.all_eq_true.mp q4) l (List.mem_range.mpr hl)
    rcases Bool.or_eq_true_iff.mp q5 with c | c
    · exact absurd ⟨beq_n (Bool.and_eq_true_iff.mp c).1, beq_n (Bool.and_eq_true_iff.mp c).2⟩ h2
    · exact c
theorem kck_at {i j k l x y : Nat} (h : kck i j k l x y = true) :
    (k * j + 9 * (i + l) < i * l + 9 * (k + j) ∧ 1 ≤ (y + 49008960 - x) % 49008960 ∧ (y + 49008960 - x) % 49008960 ≤ 24504479) ∨
    (i * l + 9 * (k + j) = k * j + 9 * (i + l) ∧ (((y + 49008960 - x) % 49008960 = 0 ∧ ((i = k ∧ j = l) ∨ Nat.gcd ((i - 9) + (9 - i)) ((j - 9) + (9 - j)) ≠ 1 ∨ Nat.gcd ((k - 9) + (9 - k)) ((l - 9) + (9 - l)) ≠ 1)) ∨ (y + 49008960 - x) % 49008960 = 24504480)) ∨
    (i * l + 9 * (k + j) < k * j + 9 * (i + l) ∧ 24504481 ≤ (y + 49008960 - x) % 49008960) := by
  unfold kck at h
  split at h
  · rename_i c
    have c' : ¬ (i * l + 9 * (k + j) ≤ k * j + 9 * (i + l)) := fun q => by rw [Nat.ble_eq_true_of_le q] at c; cases c
    have h' := Bool.and_eq_true_iff.mp h
    exact Or.inl ⟨by omega, Nat.le_of_ble_eq_true h'.1, Nat.le_of_ble_eq_true h'.2⟩
  · rename_i c
    have c' := Nat.le_of_ble_eq_true c
    split at h
    · rename_i e
      refine Or.inr (Or.inl ⟨beq_n e, ?_⟩)
      rcases Bool.or_eq_true_iff.mp h with g | g
      · have g' := Bool.and_eq_true_iff.mp g
        refine Or.inl ⟨beq_n g'.1, ?_⟩
        rcases Bool.or_eq_true_iff.mp g'.2 with r | r
        · rcases Bool.or_eq_true_iff.mp r with s | s
          · have s' := Bool.and_eq_true_iff.mp s
            exact Or.inl ⟨beq_n s'.1, beq_n s'.2⟩
          · exact Or.inr (Or.inl (fun q => by rw [q] at s; cases s))
        · exact Or.inr (Or.inr (fun q => by rw [q] at r; cases r))
      · exact Or.inr (beq_n g)
    · rename_i e
      refine Or.inr (Or.inr ⟨?_, Nat.le_of_ble_eq_true h⟩)
      have : i * l + 9 * (k + j) ≠ k * j + 9 * (i + l) := fun q => by rw [q, Nat.beq_refl] at e; cases e
      omega
theorem ky_bd {a b : Int} (h : nrm a b) : 0 ≤ ky a b ∧ ky a b < 49008960 := by
  obtain ⟨h1, h2, h3⟩ := h
  have := (kall_at (i := (a + 9).toNat) (j := (b + 9).toNat) (k := (a + 9).toNat) (l := (b + 9).toNat) (by omega) (by omega) (by omega) (by omega) (by omega) (by omega)).1
  unfold ky
  omega
/-- the key tells how directions turn -/
theorem ky_t {a b c d : Int} (h : nrm a b) (h' : nrm c d) :
    (0 < a * d - c * b ∧ 0 < dky a b c d ∧ dky a b c d < 24504480) ∨ (a * d - c * b = 0 ∧ (dky a b c d = 0 ∧ ((a = c ∧ b = d) ∨ Int.gcd a b ≠ 1 ∨ Int.gcd c d ≠ 1) ∨ dky a b c d = 24504480)) ∨ (a * d - c * b < 0 ∧ 24504480 < dky a b c d ∧ dky a b c d < 49008960) := by
  have k1 := ky_bd h
  have k2 := ky_bd h'
  obtain ⟨⟨a1, a2⟩, ⟨b1, b2⟩, h3⟩ := h
  obtain ⟨⟨c1, c2⟩, ⟨d1, d2⟩, h3'⟩ := h'
  obtain ⟨i, ei⟩ : ∃ i : Nat, a = (i : Int) - 9 := ⟨(a + 9).toNat, by omega⟩
  obtain ⟨j, ej⟩ : ∃ i : Nat, b = (i : Int) - 9 := ⟨(b + 9).toNat, by omega⟩
  obtain ⟨k, ek⟩ : ∃ i : Nat, c = (i : Int) - 9 := ⟨(c + 9).toNat, by omega⟩
  obtain ⟨l, el⟩ : ∃ i : Nat, d = (i : Int) - 9 := ⟨(d + 9).toNat, by omega⟩
  have q := kall_at (i := i) (j := j) (k := k) (l := l) (by omega) (by omega) (by omega) (by omega) (by omega) (by omega)
  have q' := kall_at (i := k) (j := l) (k := i) (l := j) (by omega) (by omega) (by omega) (by omega) (by omega) (by omega)
  have r := kck_at q.2
  have t1 : (a + 9).toNat = i := by omega
  have t2 : (b + 9).toNat = j := by omega
  have t3 : (c + 9).toNat = k := by omega
  have t4 : (d + 9).toNat = l := by omega
  have e1 : ky a b = (kyN i j : Int) := by unfold ky; rw [t1, t2]
  have e2 : ky c d = (kyN k l : Int) := by unfold ky; rw [t3, t4]
  have e3 : dky a b c d = (((kyN k l + 49008960 - kyN i j) % 49008960 : Nat) : Int) := by
    unfold dky
    rw [e1, e2]
    omega
  have e4 : a * d - c * b = ((i * l + 9 * (k + j) : Nat) : Int) - ((k * j + 9 * (i + l) : Nat) : Int) := by
    rw [ei, ej, ek, el]
    simp only [Int.natCast_add, Int.natCast_mul]
    grind
  have g1 : Int.gcd a b = Nat.gcd ((i - 9) + (9 - i)) ((j - 9) + (9 - j)) := by
    unfold Int.gcd
    rw [show a.natAbs = (i - 9) + (9 - i) by omega, show b.natAbs = (j - 9) + (9 - j) by omega]
  have g2 : Int.gcd c d = Nat.gcd ((k - 9) + (9 - k)) ((l - 9) + (9 - l)) := by
    unfold Int.gcd
    rw [show c.natAbs = (k - 9) + (9 - k) by omega, show d.natAbs = (l - 9) + (9 - l) by omega]
  rw [e3, e4, g1, g2]
  rcases r with ⟨r1, r2, r3⟩ | ⟨r1, r2⟩ | ⟨r1, r2⟩
  · exact Or.inl ⟨by omega, by omega, by omega⟩
  · refine Or.inr (Or.inl ⟨by omega, ?_⟩)
    rcases r2 with ⟨s1, s2⟩ | s1
    · refine Or.inl ⟨by omega, ?_⟩
      rcases s2 with s | s | s
      · exact Or.inl ⟨by omega, by omega⟩
      · exact Or.inr (Or.inl s)
      · exact Or.inr (Or.inr s)
    · exact Or.inr (by omega)
  · exact Or.inr (Or.inr ⟨by omega, by omega, by omega⟩)
section
variable (a b U D : Nat → Int)
def tn (i j : Nat) : Int := a i * b j - a j * b i
def Sd (p j q : Nat) : Int := tn a b j q * U p * D q * D j + tn a b p j * U q * D p * D j - tn a b p q * U j * D p * D q
def cy (i j : Nat) : Int := dky (a i) (b i) (a j) (b j)
/-- directions that are all different -/
def dirs (n : Nat) : Prop := ∀ k, k < n → nrm (a k) (b k) ∧ ∀ j, j < n → j ≠ k → cy a b k j ≠ 0
def ring (n : Nat) (live : Nat → Bool) (nx bk : Nat → Nat) : Prop :=
  ∀ k, live k = true → k < n ∧ 0 < D k ∧ live (nx k) = true ∧ live (bk k) = true ∧ bk (nx k) = k ∧ nx (bk k) = k ∧ 0 < tn a b k (nx k) ∧ ∀ j, live j = true → j ≠ k → cy a b k (nx k) ≤ cy a b k j
def hld (k : Nat) (X Y B : Int) : Prop := (a k * X + b k * Y) * D k ≤ U k * B
end
section
variable {a b U D : Nat → Int} {n : Nat}
theorem cy_t (hd : dirs a b n) {i j : Nat} (hi : i < n) (hj : j < n) :
    (0 < tn a b i j ∧ 0 < cy a b i j ∧ cy a b i j < 24504480) ∨ (tn a b i j = 0 ∧ (cy a b i j = 0 ∨ cy a b i j = 24504480)) ∨ (tn a b i j < 0 ∧ 24504480 < cy a b i j ∧ cy a b i j < 49008960) := by
  have := ky_t (hd i hi).1 (hd j hj).1
  unfold tn cy
  rcases this with h | ⟨h, h' | h'⟩ | h
  · exact Or.inl h
  · exact Or.inr (Or.inl ⟨h, Or.inl h'.1⟩)
  · exact Or.inr (Or.inl ⟨h, Or.inr h'⟩)
  · exact Or.inr (Or.inr h)
theorem tn_anti (i j : Nat) : tn a b j i = - tn a b i j := by unfold tn; grind
theorem tn_self (i : Nat) : tn a b i i = 0 := by unfold tn; grind
theorem cy_self (i : Nat) : cy a b i i = 0 := by unfold cy dky; simp
/-- keys as numbers: what omega needs of cy -/
theorem cy_k (i j : Nat) : cy a b i j = (ky (a j) (b j) - ky (a i) (b i)) % 49008960 := rfl
theorem Sd_id (p i j q : Nat) : Sd a b U D i j q * (tn a b p i * D p) = Sd a b U D p j i * (tn a b i q * D q) + D j * tn a b i j * Sd a b U D p i q := by
  unfold Sd tn
  grind
theorem Sd_fst (j q : Nat) : Sd a b U D j j q = 0 := by unfold Sd tn; grind
theorem Sd_lst (p j : Nat) : Sd a b U D p j j = 0 := by unfold Sd tn; grind
theorem Sd_fwd {p i j q : Nat} (h1 : 0 < tn a b p i) (h2 : 0 < tn a b i q) (hp : 0 < D p) (hq : 0 < D q) (hj : 0 < D j) (hs : 0 ≤ Sd a b U D p i q) (ht : tn a b i j ≤ 0) (h : Sd a b U D p j i ≤ 0) : Sd a b U D i j q ≤ 0 := by
  have e := Sd_id (a := a) (b := b) (U := U) (D := D) p i j q
  have m1 : 0 < tn a b p i * D p := Int.mul_pos h1 hp
  have m2 : 0 < tn a b i q * D q := Int.mul_pos h2 hq
  have l1 : Sd a b U D p j i * (tn a b i q * D q) ≤ 0 := Int.mul_nonpos_of_nonpos_of_nonneg h (by omega)
  have l2 : D j * tn a b i j ≤ 0 := Int.mul_nonpos_of_nonneg_of_nonpos (by omega) ht
  have l3 : D j * tn a b i j * Sd a b U D p i q ≤ 0 := Int.mul_nonpos_of_nonpos_of_nonneg l2 hs
  refine Decidable.byContradiction fun c => ?_
  have := Int.mul_pos (show 0 < Sd a b U D i j q by omega) m1
  omega
theorem Sd_bwd {p i j q : Nat} (h1 : 0 < tn a b p i) (h2 : 0 < tn a b i q) (hp : 0 < D p) (hq : 0 < D q) (hj : 0 < D j) (hs : 0 ≤ Sd a b U D p i q) (ht : 0 ≤ tn a b i j) (h : Sd a b U D i j q ≤ 0) : Sd a b U D p j i ≤ 0 := by
  have e := Sd_id (a := a) (b := b) (U := U) (D := D) p i j q
  have m1 : 0 < tn a b p i * D p := Int.mul_pos h1 hp
  have m2 : 0 < tn a b i q * D q := Int.mul_pos h2 hq
  have l1 : Sd a b U D i j q * (tn a b p i * D p) ≤ 0 := Int.mul_nonpos_of_nonpos_of_nonneg h (by omega)
  have l2 : 0 ≤ D j * tn a b i j := Int.mul_nonneg (by omega) ht
  have l3 : 0 ≤ D j * tn a b i j * Sd a b U D p i q := Int.mul_nonneg l2 hs
  refine Decidable.byContradiction fun c => ?_
  have := Int.mul_pos (show 0 < Sd a b U D p j i by omega) m2
  omega
/-- all corners of a ring whose sides have lengths of 0 or more hold all its limits -/
theorem ring_feas {live : Nat → Bool} {nx bk : Nat → Nat} (hd : dirs a b n) (hr : ring a b D n live nx bk) (hs : ∀ k, live k = true → 0 ≤ Sd a b U D (bk k) k (nx k)) {i j : Nat} (hi : live i = true) (hj : live j = true) : Sd a b U D i j (nx i) ≤ 0 := by
  have jn := (hr j hj).1
  have fw : ∀ (c i : Nat), live i = true → cy a b j i < 24504480 → (cy a b j i).toNat ≤ c → Sd a b U D i j (nx i) ≤ 0 := by
    intro c
    induction c with
    | zero =>
      intro i hi _ h0
      by_cases e : i = j
      · subst e; rw [Sd_fst]; exact Int.le_refl 0
      · have := (hd j jn).2 i (hr i hi).1 e
        have := cy_k (a := a) (b := b) j i
        omega
    | succ c ih =>
      intro i hi h2 h0
      by_cases e : i = j
      · subst e; rw [Sd_fst]; exact Int.le_refl 0
      · obtain ⟨i1, i2, i3, i4, i5, i6, i7, i8⟩ := hr i hi
        obtain ⟨p1, p2, p3, p4, p5, p6, p7, p8⟩ := hr (bk i) i4
        rw [i6] at p7 p8
        have k1 := cy_k (a := a) (b := b) j i
        have k2 := cy_k (a := a) (b := b) j (bk i)
        have k3 := cy_k (a := a) (b := b) (bk i) i
        have k4 := cy_k (a := a) (b := b) (bk i) j
        have t1 := cy_t hd jn i1
        have t2 := cy_t hd p1 i1
        have n1 := (hd j jn).2 i i1 e
        have lt : cy a b j (bk i) < cy a b j i := by
          by_cases ej : j = bk i
          · rw [ej, cy_self]; omega
          · have := p8 j hj ej
            omega
        have := ih (bk i) i4 (by omega) (by omega)
        rw [i6] at this
        refine Sd_fwd p7 i7 p2 (hr (nx i) i3).2.1 (hr j hj).2.1 (hs i hi) ?_ this
        rw [tn_anti]
        omega
  have bw : ∀ (c i : Nat), live i = true → 24504480 ≤ cy a b j i → (49008960 - cy a b j i).toNat ≤ c → Sd a b U D i j (nx i) ≤ 0 := by
    intro c
    induction c with
    | zero =>
      intro i hi h2 h0
      have := cy_k (a := a) (b := b) j i
      omega
    | succ c ih =>
      intro i hi h2 h0
      obtain ⟨i1, i2, i3, i4, i5, i6, i7, i8⟩ := hr i hi
      by_cases e : nx i = j
      · rw [e, Sd_lst]; exact Int.le_refl 0
      · obtain ⟨q1, q2, q3, q4, q5, q6, q7, q8⟩ := hr (nx i) i3
        have ij : j ≠ i := fun q => by rw [q, cy_self] at h2; omega
        have k1 := cy_k (a := a) (b := b) j i
        have k2 := cy_k (a := a) (b := b) j (nx i)
        have k3 := cy_k (a := a) (b := b) i (nx i)
        have k4 := cy_k (a := a) (b := b) i j
        have := i8 j hj ij
        have n1 := (hd j jn).2 (nx i) q1 e
        have t2 := cy_t hd i1 q1
        have t1 := cy_t hd jn q1
        have gt : cy a b j i < cy a b j (nx i) := by omega
        have := ih (nx i) i3 (by omega) (by omega)
        refine Sd_bwd i7 q7 i2 (hr _ q3).2.1 (hr j hj).2.1 ?_ ?_ this
        · have := hs (nx i) i3
          rw [i5] at this
          exact this
        · rw [tn_anti]
          omega
  by_cases c : cy a b j i < 24504480
  · exact fw _ i hi c (Nat.le_refl _)
  · exact bw _ i hi (by omega) (Nat.le_refl _)
end
section
variable (a b U D : Nat → Int)
/-- where the lines of two limits meet -/
def vX (p q : Nat) : Int := U p * D q * b q - U q * D p * b p
def vY (p q : Nat) : Int := U q * D p * a p - U p * D q * a q
def vB (p q : Nat) : Int := tn a b p q * D p * D q
/-- what a normal tells there, before division -/
def vV (p q k : Nat) : Int := tn a b k q * U p * D q + tn a b p k * U q * D p
end
section
variable {a b U D : Nat → Int} {n : Nat}
theorem vtx_v (p q k : Nat) : a k * vX b U D p q + b k * vY a U D p q = vV a b U D p q k := by unfold vX vY vV tn; grind
theorem vtx_s (p q j : Nat) : vV a b U D p q j * D j - U j * vB a b D p q = Sd a b U D p j q := by unfold vB vV Sd; grind
theorem vtx_h {p q j : Nat} : hld a b U D j (vX b U D p q) (vY a U D p q) (vB a b D p q) ↔ Sd a b U D p j q ≤ 0 := by
  have := vtx_s (a := a) (b := b) (U := U) (D := D) p q j
  unfold hld
  rw [vtx_v]
  omega
theorem hld_comb {p q k : Nat} {X Y B : Int} (hp : hld a b U D p X Y B) (hq : hld a b U D q X Y B) (dp : 0 < D p) (dq : 0 < D q) (t1 : 0 ≤ tn a b k q) (t2 : 0 ≤ tn a b p k) : (a k * X + b k * Y) * vB a b D p q ≤ vV a b U D p q k * B := by
  have e : (a k * X + b k * Y) * vB a b D p q = (tn a b k q * D q) * ((a p * X + b p * Y) * D p) + (tn a b p k * D p) * ((a q * X + b q * Y) * D q) := by unfold vB tn; grind
  have e2 : vV a b U D p q k * B = (tn a b k q * D q) * (U p * B) + (tn a b p k * D p) * (U q * B) := by unfold vV; grind
  have l1 := Int.mul_le_mul_of_nonneg_left hp (Int.mul_nonneg t1 (Int.le_of_lt dq))
  have l2 := Int.mul_le_mul_of_nonneg_left hq (Int.mul_nonneg t2 (Int.le_of_lt dp))
  rw [e, e2]
  omega
/-- a limit whose side would have a length below 0 is told by its neighbours -/
theorem hld_told {p q k : Nat} {X Y B : Int} (hp : hld a b U D p X Y B) (hq : hld a b U D q X Y B) (dp : 0 < D p) (dq : 0 < D q) (dk : 0 < D k) (t1 : 0 < tn a b k q) (t2 : 0 < tn a b p k) (t3 : 0 < tn a b p q) (hs : Sd a b U D p k q < 0) (hB : 0 < B) : hld a b U D k X Y B := by
  have c := hld_comb hp hq dp dq (Int.le_of_lt t1) (Int.le_of_lt t2)
  have s := vtx_s (a := a) (b := b) (U := U) (D := D) p q k
  have vb : 0 < vB a b D p q := Int.mul_pos (Int.mul_pos t3 dp) dq
  unfold hld
  have c2 := Int.mul_le_mul_of_nonneg_right c (Int.le_of_lt dk)
  have c3 : vV a b U D p q k * D k * B ≤ U k * vB a b D p q * B := Int.mul_le_mul_of_nonneg_right (by omega) (Int.le_of_lt hB)
  refine Int.le_of_mul_le_mul_right (a := vB a b D p q) ?_ vb
  have e1 : (a k * X + b k * Y) * D k * vB a b D p q = (a k * X + b k * Y) * vB a b D p q * D k := by grind
  have e2 : U k * B * vB a b D p q = U k * vB a b D p q * B := by grind
  have e3 : vV a b U D p q k * B * D k = vV a b U D p q k * D k * B := by grind
  omega
theorem hld_none {p q k : Nat} {X Y B : Int} (hp : hld a b U D p X Y B) (hk : hld a b U D k X Y B) (hq : hld a b U D q X Y B) (dp : 0 < D p) (dq : 0 < D q) (dk : 0 < D k) (t1 : 0 < tn a b k q) (t2 : 0 < tn a b p k) (t3 : tn a b p q ≤ 0) (hs : Sd a b U D p k q < 0) (hB : 0 < B) : False := by
  have l1 := Int.mul_le_mul_of_nonneg_left hp (Int.mul_nonneg (Int.mul_nonneg (Int.le_of_lt t1) (Int.le_of_lt dq)) (Int.le_of_lt dk))
  have l2 := Int.mul_le_mul_of_nonneg_left hq (Int.mul_nonneg (Int.mul_nonneg (Int.le_of_lt t2) (Int.le_of_lt dp)) (Int.le_of_lt dk))
  have l3 := Int.mul_le_mul_of_nonneg_left hk (Int.mul_nonneg (Int.mul_nonneg (show 0 ≤ - tn a b p q by omega) (Int.le_of_lt dp)) (Int.le_of_lt dq))
  have e : tn a b k q * D q * D k * ((a p * X + b p * Y) * D p) + tn a b p k * D p * D k * ((a q * X + b q * Y) * D q) + -tn a b p q * D p * D q * ((a k * X + b k * Y) * D k) = 0 := by unfold tn; grind
  have e2 : tn a b k q * D q * D k * (U p * B) + tn a b p k * D p * D k * (U q * B) + -tn a b p q * D p * D q * (U k * B) = Sd a b U D p k q * B := by unfold Sd; grind
  have := Int.mul_neg_of_neg_of_pos hs hB
  omega
/-- the ring without a limit -/
theorem ring_rem {live : Nat → Bool} {nx bk : Nat → Nat} (hd : dirs a b n) (hr : ring a b D n live nx bk) {k : Nat} (hk : live k = true) (ht : 0 < tn a b (bk k) (nx k)) :
    ring a b D n (fun j => live j && decide (j ≠ k)) (fun j => if j = bk k then nx k else nx j) (fun j => if j = nx k then bk k else bk j) := by
  obtain ⟨k1, k2, k3, k4, k5, k6, k7, k8⟩ := hr k hk
  obtain ⟨p1, p2, p3, p4, p5, p6, p7, p8⟩ := hr _ k4
  obtain ⟨q1, q2, q3, q4, q5, q6, q7, q8⟩ := hr _ k3
  have pk : bk k ≠ k := fun h => by rw [k6, h, tn_self] at p7; omega
  have qk : nx k ≠ k := fun h => by rw [h, tn_self] at k7; omega
  have pq : bk k ≠ nx k := fun h => by rw [h, tn_self] at ht; omega
  intro i hi
  have hi' := Bool.and_eq_true_iff.mp hi
  have il := hi'.1
  have ik : i ≠ k := of_decide_eq_true hi'.2
  obtain ⟨i1, i2, i3, i4, i5, i6, i7, i8⟩ := hr i il
  have L : ∀ j, live j = true → j ≠ k → (live j && decide (j ≠ k)) = true := fun j h1 h2 => by rw [h1, decide_eq_true h2]; rfl
  refine ⟨i1, i2, ?_, ?_, ?_, ?_, ?_, ?_⟩
  · dsimp only
    split
    · exact L _ k3 qk
    · rename_i h
      refine L _ i3 (fun e => h ?_)
      rw [← i5, e]
  · dsimp only
    split
    · exact L _ k4 pk
    · rename_i h
      refine L _ i4 (fun e => h ?_)
      rw [← i6, e]
  · dsimp only
    by_cases e : i = bk k
    · rw [if_pos e, if_pos rfl, e]
    · rw [if_neg e, if_neg, i5]
      intro h
      have : bk (nx i) = bk (nx k) := by rw [h]
      rw [i5, k5] at this
      exact ik this
  · dsimp only
    by_cases e : i = nx k
    · rw [if_pos e, if_pos rfl, e]
    · rw [if_neg e, if_neg, i6]
      intro h
      have : nx (bk i) = nx (bk k) := by rw [h]
      rw [i6, k6] at this
      exact ik this
  · dsimp only
    split
    · rename_i e; rw [e]; exact ht
    · exact i7
  · intro j hj hji
    have hj' := Bool.and_eq_true_iff.mp hj
    have jl := hj'.1
    have jk : j ≠ k := of_decide_eq_true hj'.2
    dsimp only
    split
    · rename_i e
      subst e
      have m1 := p8 j jl hji
      have m2 := k8 j jl jk
      rw [k6] at m1
      have c1 := cy_k (a := a) (b := b) (bk k) j
      have c2 := cy_k (a := a) (b := b) (bk k) k
      have c3 := cy_k (a := a) (b := b) k j
      have c4 := cy_k (a := a) (b := b) k (nx k)
      have c5 := cy_k (a := a) (b := b) (bk k) (nx k)
      have n1 := (hd k k1).2 j (hr j jl).1 jk
      omega
    · exact i8 j jl hji
theorem argmin (P : Nat → Prop) (f : Nat → Int) : ∀ n : Nat, (∃ j, j < n ∧ P j) → ∃ j, j < n ∧ P j ∧ ∀ i, i < n → P i → f j ≤ f i := by
  intro n
  induction n with
  | zero => rintro ⟨j, h, _⟩; omega
  | succ n ih =>
    intro h
    by_cases hx : ∃ j, j < n ∧ P j
    · obtain ⟨j, h1, h2, h3⟩ := ih hx
      by_cases hn : P n ∧ f n < f j
      · refine ⟨n, by omega, hn.1, fun i hi pi => ?_⟩
        by_cases e : i = n
        · rw [e]; exact Int.le_refl _
        · have := h3 i (by omega) pi; omega
      · refine ⟨j, by omega, h2, fun i hi pi => ?_⟩
        by_cases e : i = n
        · subst e; refine Decidable.byContradiction fun c => hn ⟨pi, by omega⟩
        · exact h3 i (by omega) pi
    · obtain ⟨j, h1, h2⟩ := h
      have : j = n := Decidable.byContradiction fun c => hx ⟨j, by omega, h2⟩
      subst this
      refine ⟨j, by omega, h2, fun i hi pi => ?_⟩
      have : i = j := Decidable.byContradiction fun c => hx ⟨i, by omega, pi⟩
      rw [this]; exact Int.le_refl _
/-- the four sides of the box are the first normals -/
def bx4 (a b : Nat → Int) : Prop := a 0 = 1 ∧ b 0 = 0 ∧ a 1 = -1 ∧ b 1 = 0 ∧ a 2 = 0 ∧ b 2 = 1 ∧ a 3 = 0 ∧ b 3 = -1
theorem bx4_k (h : bx4 a b) : ky (a 0) (b 0) = 0 ∧ ky (a 1) (b 1) = 24504480 ∧ ky (a 2) (b 2) = 12252240 ∧ ky (a 3) (b 3) = 36756720 := by
  obtain ⟨h1, h2, h3, h4, h5, h6, h7, h8⟩ := h
  rw [h1, h2, h3, h4, h5, h6, h7, h8]
  exact ⟨by decide, by decide, by decide, by decide⟩
theorem bx4_gap (hd : dirs a b n) (h : bx4 a b) {k : Nat} (hk : k < n) : ∃ m, m < 4 ∧ 0 < cy a b k m ∧ cy a b k m ≤ 12252240 := by
  obtain ⟨h1, h2, h3, h4⟩ := bx4_k h
  have kb := ky_bd (hd k hk).1
  by_cases c1 : ky (a k) (b k) < 12252240
  · exact ⟨2, by omega, by rw [cy_k, h3]; omega, by rw [cy_k, h3]; omega⟩
  · by_cases c2 : ky (a k) (b k) < 24504480
    · exact ⟨1, by omega, by rw [cy_k, h2]; omega, by rw [cy_k, h2]; omega⟩
    · by_cases c3 : ky (a k) (b k) < 36756720
      · exact ⟨3, by omega, by rw [cy_k, h4]; omega, by rw [cy_k, h4]; omega⟩
      · exact ⟨0, by omega, by rw [cy_k, h1]; omega, by rw [cy_k, h1]; omega⟩
theorem ring_ex (hd : dirs a b n) (h4 : 4 ≤ n) (hb : bx4 a b) {live : Nat → Bool} (hl : ∀ k, live k = true → k < n ∧ 0 < D k) (l4 : ∀ k, k < 4 → live k = true) : ∃ nx bk, ring a b D n live nx bk := by
  have oth : ∀ k, k < n → ∃ j, j < n ∧ (live j = true ∧ j ≠ k) := fun k hk => by
    by_cases e : k = 0
    · exact ⟨1, by omega, l4 1 (by omega), by omega⟩
    · exact ⟨0, by omega, l4 0 (by omega), by omega⟩
  have ex1 : ∀ k, ∃ q, live k = true → live q = true ∧ q ≠ k ∧ ∀ j, live j = true → j ≠ k → cy a b k q ≤ cy a b k j := fun k => by
    by_cases h : live k = true
    · obtain ⟨q, q1, q2, q3⟩ := argmin (fun j => live j = true ∧ j ≠ k) (fun j => cy a b k j) n (oth k (hl k h).1)
      exact ⟨q, fun _ => ⟨q2.1, q2.2, fun j j1 j2 => q3 j (hl j j1).1 ⟨j1, j2⟩⟩⟩
    · exact ⟨0, fun h' => absurd h' h⟩
  have ex2 : ∀ k, ∃ q, live k = true → live q = true ∧ q ≠ k ∧ ∀ j, live j = true → j ≠ k → cy a b q k ≤ cy a b j k := fun k => by
    by_cases h : live k = true
    · obtain ⟨q, q1, q2, q3⟩ := argmin (fun j => live j = true ∧ j ≠ k) (fun j => cy a b j k) n (oth k (hl k h).1)
      exact ⟨q, fun _ => ⟨q2.1, q2.2, fun j j1 j2 => q3 j (hl j j1).1 ⟨j1, j2⟩⟩⟩
    · exact ⟨0, fun h' => absurd h' h⟩
  obtain ⟨nx, hn⟩ := Classical.axiomOfChoice ex1
  obtain ⟨bk, hk⟩ := Classical.axiomOfChoice ex2
  refine ⟨nx, bk, fun k lk => ?_⟩
  obtain ⟨n1, n2, n3⟩ := hn k lk
  obtain ⟨b1, b2, b3⟩ := hk k lk
  obtain ⟨m1, m2, m3⟩ := hk _ n1
  obtain ⟨r1, r2, r3⟩ := hn _ b1
  refine ⟨(hl k lk).1, (hl k lk).2, n1, b1, ?_, ?_, ?_, n3⟩
  · refine Decidable.byContradiction fun c => ?_
    have u1 := n3 (bk (nx k)) m1 c
    have u2 := m3 k lk (fun e => n2 e.symm)
    have d1 := (hd _ (hl _ m1).1).2 (nx k) (hl _ n1).1 (fun e => m2 e.symm)
    have d2 := (hd _ (hl _ lk).1).2 (nx k) (hl _ n1).1 n2
    have c1 := cy_k (a := a) (b := b) k (nx k)
    have c2 := cy_k (a := a) (b := b) k (bk (nx k))
    have c3 := cy_k (a := a) (b := b) (bk (nx k)) (nx k)
    omega
  · refine Decidable.byContradiction fun c => ?_
    have u1 := b3 (nx (bk k)) r1 c
    have u2 := r3 k lk (fun e => b2 e.symm)
    have d1 := (hd _ (hl _ lk).1).2 (nx (bk k)) (hl _ r1).1 c
    have d2 := (hd _ (hl _ b1).1).2 k (hl _ lk).1 (fun e => b2 e.symm)
    have d3 := (hd _ (hl _ b1).1).2 (nx (bk k)) (hl _ r1).1 r2
    have c1 := cy_k (a := a) (b := b) (bk k) k
    have c2 := cy_k (a := a) (b := b) (nx (bk k)) k
    have c3 := cy_k (a := a) (b := b) (bk k) (nx (bk k))
    have c4 := cy_k (a := a) (b := b) k (nx (bk k))
    omega
  · obtain ⟨m, h1, h2, h3⟩ := bx4_gap hd hb (hl k lk).1
    have mk : m ≠ k := fun e => by rw [e, cy_self] at h2; omega
    have u := n3 m (l4 m h1) mk
    have d := (hd _ (hl k lk).1).2 (nx k) (hl _ n1).1 n2
    have t := cy_t hd (hl k lk).1 (hl _ n1).1
    have c1 := cy_k (a := a) (b := b) k (nx k)
    omega
theorem cnt_rem {f : Nat → Bool} {k : Nat} : ∀ n, k < n → f k = true → cnt (fun j => f j && decide (j ≠ k)) n + 1 = cnt f n := by
  intro n
  have same : ∀ m, m ≤ k → cnt (fun j => f j && decide (j ≠ k)) m = cnt f m := by
    intro m
    induction m with
    | zero => intro _; rfl
    | succ m ih =>
      intro hm
      have e : decide (m ≠ k) = true := decide_eq_true (by omega)
      simp only [cnt, ih (by omega), e, Bool.and_true]
  induction n with
  | zero => intro h; omega
  | succ n ih =>
    intro h hf
    by_cases e : k = n
    · subst e
      have e : decide (k ≠ k) = false := decide_eq_false (by simp)
      simp only [cnt, same k (Nat.le_refl _), e, Bool.and_false, hf, if_true]
      simp
    · have e : decide (n ≠ k) = true := decide_eq_true (by omega)
      have := ih (by omega) hf
      simp only [cnt, e, Bool.and_true]
      omega
theorem ring_min (hd : dirs a b n) : ∀ (c : Nat) (live : Nat → Bool) (nx bk : Nat → Nat), cnt live n ≤ c → ring a b D n live nx bk →
    (∀ X Y B, 0 < B → ¬ ∀ k, live k = true → hld a b U D k X Y B) ∨ ∃ live' nx' bk', ring a b D n live' nx' bk' ∧ (∀ k, live' k = true → live k = true) ∧ (∀ k, live' k = true → 0 ≤ Sd a b U D (bk' k) k (nx' k)) ∧ (∀ X Y B, 0 < B → (∀ k, live' k = true → hld a b U D k X Y B) → ∀ k, live k = true → hld a b U D k X Y B) ∧ ((∃ k, live k = true) → ∃ k, live' k = true) := by
  intro c
  induction c with
  | zero =>
    intro live nx bk hc hr
    refine Or.inr ⟨live, nx, bk, hr, fun k h => h, fun k h => ?_, fun X Y B _ h => h, fun h => h⟩
    have := cnt_rem n (hr k h).1 h
    omega
  | succ c ih =>
    intro live nx bk hc hr
    by_cases hs : ∀ k, live k = true → 0 ≤ Sd a b U D (bk k) k (nx k)
    · exact Or.inr ⟨live, nx, bk, hr, fun k h => h, hs, fun X Y B _ h => h, fun h => h⟩
    · obtain ⟨k, hk⟩ := Classical.not_forall.mp hs
      obtain ⟨lk, hk⟩ := Classical.not_imp.mp hk
      obtain ⟨k1, k2, k3, k4, k5, k6, k7, k8⟩ := hr k lk
      have p := hr _ k4
      rw [k6] at p
      have q := hr _ k3
      by_cases ht : 0 < tn a b (bk k) (nx k)
      · have hr' := ring_rem hd hr lk ht
        have hc' := cnt_rem n k1 lk
        have back : ∀ X Y B, 0 < B → (∀ j, (live j && decide (j ≠ k)) = true → hld a b U D j X Y B) → ∀ j, live j = true → hld a b U D j X Y B := by
          intro X Y B hB h j lj
          have L : ∀ j, live j = true → j ≠ k → (live j && decide (j ≠ k)) = true := fun j h1 h2 => by rw [h1, decide_eq_true h2]; rfl
          by_cases e : j = k
          · subst e
            have pk : bk j ≠ j := fun h => by have := p.2.2.2.2.2.2.1; rw [h, tn_self] at this; omega
            have qk : nx j ≠ j := fun h => by rw [h, tn_self] at k7; omega
            exact hld_told (h _ (L _ k4 pk)) (h _ (L _ k3 qk)) p.2.1 q.2.1 k2 k7 p.2.2.2.2.2.2.1 ht (by omega) hB
          · exact h j (L j lj e)
        rcases ih _ _ _ (by omega) hr' with r | ⟨l', n', b', r1, r2, r3, r4, r5⟩
        · exact Or.inl fun X Y B hB h => r X Y B hB fun j hj => h j (Bool.and_eq_true_iff.mp hj).1
        · refine Or.inr ⟨l', n', b', r1, fun j hj => (Bool.and_eq_true_iff.mp (r2 j hj)).1, r3, fun X Y B hB h => back X Y B hB (r4 X Y B hB h), fun _ => r5 ⟨nx k, ?_⟩⟩
          have qk : nx k ≠ k := fun h => by rw [h, tn_self] at k7; omega
          rw [k3, decide_eq_true qk]; rfl
      · exact Or.inl fun X Y B hB h => hld_none (h _ k4) (h _ lk) (h _ k3) p.2.1 q.2.1 k2 k7 p.2.2.2.2.2.2.1 (by omega) (by omega) hB
theorem ring_loc {live : Nat → Bool} {nx bk : Nat → Nat} (hd : dirs a b n) (hr : ring a b D n live nx bk) (hx : ∃ p, live p = true) {k : Nat} (hk : k < n) : ∃ p, live p = true ∧ cy a b p k < cy a b p (nx p) ∧ 0 < tn a b k (nx p) ∧ 0 ≤ tn a b p k := by
  obtain ⟨p0, l0⟩ := hx
  obtain ⟨p, p1, p2, p3⟩ := argmin (fun p => live p = true) (fun p => cy a b p k) n ⟨p0, (hr p0 l0).1, l0⟩
  obtain ⟨r1, r2, r3, r4, r5, r6, r7, r8⟩ := hr p p2
  have m := p3 (nx p) (hr _ r3).1 r3
  have c1 := cy_k (a := a) (b := b) p (nx p)
  have c2 := cy_k (a := a) (b := b) p k
  have c3 := cy_k (a := a) (b := b) (nx p) k
  have c4 := cy_k (a := a) (b := b) k (nx p)
  have t1 := cy_t hd r1 (hr _ r3).1
  have t2 := cy_t hd hk (hr _ r3).1
  have t3 := cy_t hd r1 hk
  refine ⟨p, p2, ?_, ?_, ?_⟩ <;> omega
/-- what a normal tells most of all points that hold all limits, it tells of a corner -/
theorem fund (hd : dirs a b n) (h4 : 4 ≤ n) (hb : bx4 a b) {live : Nat → Bool} (hl : ∀ k, live k = true → k < n ∧ 0 < D k) (l4 : ∀ k, k < 4 → live k = true)
    (hx : ∃ X Y B, 0 < B ∧ ∀ k, live k = true → hld a b U D k X Y B) {k : Nat} (hk : k < n) :
    ∃ p q, live p = true ∧ live q = true ∧ 0 < tn a b p q ∧ (∀ j, live j = true → hld a b U D j (vX b U D p q) (vY a U D p q) (vB a b D p q)) ∧ ∀ X Y B, 0 < B → (∀ j, live j = true → hld a b U D j X Y B) → (a k * X + b k * Y) * vB a b D p q ≤ vV a b U D p q k * B := by
  obtain ⟨nx, bk, hr⟩ := ring_ex hd h4 hb hl l4
  rcases ring_min (U := U) hd _ live nx bk (Nat.le_refl _) hr with r | ⟨l', n', b', r1, r2, r3, r4, r5⟩
  · obtain ⟨X, Y, B, x1, x2⟩ := hx
    exact absurd x2 (r X Y B x1)
  · obtain ⟨p, p1, p2, p3, p4⟩ := ring_loc hd r1 (r5 ⟨0, l4 0 (by omega)⟩) hk
    obtain ⟨s1, s2, s3, s4, s5, s6, s7, s8⟩ := r1 p p1
    have s9 := (r1 _ s3).2.1
    refine ⟨p, n' p, r2 p p1, r2 _ s3, s7, r4 _ _ _ (Int.mul_pos (Int.mul_pos s7 s2) s9) fun j hj => vtx_h.mpr (ring_feas hd r1 r3 p1 hj), fun X Y B _ h => hld_comb (h p (r2 p p1)) (h _ (r2 _ s3)) s2 s9 (Int.le_of_lt p3) p4⟩
end

/-- the fields of the classes: 0 an int, 1 a long, 2 a reference, 3 a boolean -/
def jtf (c : Nat) : List Nat := match c with
  | 0 => [2, 2, 2, 2, 2, 0]
  | 1 => [2, 2, 0, 0, 0, 0, 0, 0, 0, 2, 2, 2]
  | 2 => [2, 2, 2, 2, 2, 2, 2, 0, 0]
  | 3 => [2, 2, 2, 2, 2, 2, 2, 2, 2, 2, 2, 2, 0, 0, 0, 0]
  | 4 => [2, 2, 2, 0]
  | 5 => [2, 2, 0, 0, 0, 0, 3, 3, 3, 3]
  | 6 => [1, 1]
  | 7 => [2, 2, 0, 0, 0, 0, 0, 0, 0, 0, 3, 2, 0, 0, 0]
  | 8 => [2, 2]
  | 9 => [2, 2, 2, 3, 0, 0, 2, 1, 1, 1, 1, 1, 1, 1, 1, 1, 3]
  | 10 => [2, 2, 0, 2, 2, 2]
  | 11 => [2, 0, 0, 0, 2, 2, 2, 2, 2, 2, 2, 2]
  | 12 => [0, 2, 0, 2, 2, 2, 0, 0, 0, 0, 0, 0, 0, 0, 0, 0, 3, 2, 2, 2, 2, 2, 1, 1, 1, 2, 2, 0, 0, 0, 0, 0, 0, 0, 2, 0, 2, 2, 0, 2, 1, 1, 1, 1, 3, 3, 2, 1, 1, 2, 0, 0, 2, 2, 2]
  | _ => []
/-! The memory as whole numbers. A pointer p stands for the cell b + p; a value is a pair: 0 an int, 1 a long, 2 a reference (below 0: null). -/
abbrev jV : Type := Nat × Int
/-- a cell's kind: sort (0 an object, 1 int[], 2 long[], 3 byte[], 4 boolean[], 5 Bounds[], 6 Part[], 7 Ratio[]), class, length, references that stay -/
abbrev jK : Type := Nat × Nat × Nat × (Nat → Option Nat)
/-- heap's size, cells that are known, their kinds, their numbers -/
abbrev jM : Type := Nat × Nat × (Nat → jK) × (Nat → Nat → Int)
abbrev jG : Type := Launch × va_G × Nat × (Nat → ClassId)
/-- a method: name, bytes, locals, answer, frames and locals' words that its calls need -/
abbrev jI : Type := MethodName × ByteArray × Nat × Option FieldType × Nat × Nat
def jr (b : Nat) (x : Int) : Option Nat := if x < 0 then none else some (b + x.toNat)
def jv (b : Nat) (v : jV) : Value := match v.1 with
  | 0 => .int (Int32.ofInt v.2)
  | 1 => .long (Int64.ofInt v.2)
  | _ => va_rf (jr b v.2)
theorem jv_0 (b : Nat) (x : Int) : jv b (0, x) = .int (Int32.ofInt x) := rfl
theorem jv_1 (b : Nat) (x : Int) : jv b (1, x) = .long (Int64.ofInt x) := rfl
theorem jv_2 (b : Nat) (x : Int) : jv b (2, x) = va_rf (jr b x) := rfl
theorem jr_nat (b : Nat) {x : Int} (h : 0 ≤ x) : jr b x = some (b + x.toNat) := by
  unfold jr
  rw [if_neg (Int.not_lt.mpr h)]
theorem jv_ref (b : Nat) {x : Int} (h : 0 ≤ x) : jv b (2, x) = .ref (b + x.toNat) := by rw [jv_2, jr_nat b h]; rfl
def jtg (t : Nat) : Nat := if t = 3 then 0 else t
/-- a field's value: a reference that stays, or the number that the memory has -/
def jfv (b : Nat) (sf : Nat → Option Nat) (t k : Nat) (x : Int) : Value := match sf k with
  | some q => .ref (b + q)
  | none => jv b (jtg t, x)
def jfs (b c : Nat) (sf : Nat → Option Nat) (f : Nat → Int) : List Value := (jtf c).mapIdx (fun k t => jfv b sf t k (f k))
def jarq (b : Nat) (sf : Nat → Option Nat) (f : Nat → Int) : Nat → Option Nat := fun j => match sf j with
  | some q => some (b + q)
  | none => jr b (f j)
def jc (b : Nat) (ac : Nat → ClassId) (kd : jK) (f : Nat → Int) : va_E := match kd.1 with
  | 0 => .inr (kd.2.1, jfs b kd.2.1 kd.2.2.2 f)
  | 1 => .inl (ac 0, kd.2.2.1, .inl (fun j => Int32.ofInt (f j)))
  | 2 => .inl (ac 1, kd.2.2.1, .inr (.inl (fun j => Int64.ofInt (f j))))
  | 3 => .inl (ac 2, kd.2.2.1, .inl (fun j => Int32.ofInt (f j)))
  | 4 => .inl (ac 3, kd.2.2.1, .inl (fun j => Int32.ofInt (f j)))
  | n + 5 => .inl (ac (n + 4), kd.2.2.1, .inr (.inr (.inr (.inr (jarq b kd.2.2.2 f)))))
def jw (b : Nat) (ac : Nat → ClassId) (N : Nat) (L : Nat → jK) (S : Nat → Nat → Int) : va_W := (List.range N).map (fun i => (b + i, jc b ac (L i) (S i)))
/-- a row of the memory becomes another -/
def jup (S : Nat → Nat → Int) (p : Nat) (g : Nat → Int) : Nat → Nat → Int := fun q => if q = p then g else S q
/-- a number of the memory becomes another -/
def ju (S : Nat → Nat → Int) (p k : Nat) (v : Int) : Nat → Nat → Int := fun q j => if q = p ∧ j = k then v else S q j
theorem ju_row (S : Nat → Nat → Int) (p k : Nat) (v : Int) : ju S p k v = jup S p (fun j => if j = k then v else S p j) := by
  funext q j
  unfold ju jup
  by_cases h : q = p
  · subst h
    simp
  · simp [h]
theorem jw_len (b : Nat) (ac : Nat → ClassId) (N : Nat) (L : Nat → jK) (S : Nat → Nat → Int) : (jw b ac N L S).length = N := by simp [jw]
theorem jw_get {b : Nat} {ac : Nat → ClassId} {N : Nat} {L : Nat → jK} {S : Nat → Nat → Int} {p : Nat} (h : p < N) : (jw b ac N L S)[p]? = some (b + p, jc b ac (L p) (S p)) := by
  simp [jw, h]
theorem jw_of {b : Nat} {ac : Nat → ClassId} {N : Nat} {L : Nat → jK} {S : Nat → Nat → Int} {k : Nat} {q : Nat × va_E} (h : (jw b ac N L S)[k]? = some q) : k < N ∧ q = (b + k, jc b ac (L k) (S k)) := by
  have hk : k < N := by
    have := (List.getElem?_eq_some_iff.mp h).1
    rwa [jw_len] at this
  rw [jw_get hk] at h
  exact ⟨hk, (Option.some.inj h).symm⟩
theorem jw_D (b : Nat) (ac : Nat → ClassId) (N : Nat) (L : Nat → jK) (S : Nat → Nat → Int) : va_D (fun q => b ≤ q) (jw b ac N L S) := by
  refine ⟨fun i j p q hi hj hpq => ?_, fun k q hk => ?_⟩
  · obtain ⟨-, rfl⟩ := jw_of hi
    obtain ⟨-, rfl⟩ := jw_of hj
    have : b + i = b + j := hpq
    omega
  · obtain ⟨-, rfl⟩ := jw_of hk
    exact Nat.le_add_right b k
theorem jw_set {b : Nat} {ac : Nat → ClassId} {N : Nat} {L : Nat → jK} {S : Nat → Nat → Int} {p : Nat} {g : Nat → Int} : (jw b ac N L S).set p (b + p, jc b ac (L p) g) = jw b ac N L (jup S p g) := by
  apply List.ext_getElem?
  intro k
  by_cases hk : k < N
  · rw [List.getElem?_set]
    by_cases hp : p = k
    · subst hp
      rw [if_pos rfl, if_pos (by rw [jw_len]; exact hk), jw_get hk]
      simp [jup]
    · rw [if_neg hp, jw_get hk, jw_get hk]
      simp [jup, Ne.symm hp]
  · rw [List.getElem?_eq_none (by simp [jw_len]; omega), List.getElem?_eq_none (by simp [jw_len]; omega)]
theorem jfs_len (b c : Nat) (sf : Nat → Option Nat) (f : Nat → Int) : (jfs b c sf f).length = (jtf c).length := by simp [jfs]
theorem jfs_get {b c : Nat} {sf : Nat → Option Nat} {f : Nat → Int} {k t : Nat} (h : (jtf c)[k]? = some t) : (jfs b c sf f)[k]? = some (jfv b sf t k (f k)) := by
  simp [jfs, h]
theorem jfs_set {b c : Nat} {sf : Nat → Option Nat} {f : Nat → Int} {k t : Nat} {v : Int} (h : (jtf c)[k]? = some t) (hs : sf k = none) : (jfs b c sf f).set k (jv b (jtg t, v)) = jfs b c sf (fun j => if j = k then v else f j) := by
  have hk : k < (jtf c).length := (List.getElem?_eq_some_iff.mp h).1
  apply List.ext_getElem?
  intro j
  rw [List.getElem?_set]
  by_cases hj : k = j
  · subst hj
    rw [if_pos rfl, if_pos (by rw [jfs_len]; exact hk), jfs_get h]
    simp [jfv, hs]
  · rw [if_neg hj]
    cases ht : (jtf c)[j]? with
    | none =>
      have hl := List.getElem?_eq_none_iff.mp ht
      rw [List.getElem?_eq_none (by rw [jfs_len]; exact hl), List.getElem?_eq_none (by rw [jfs_len]; exact hl)]
    | some t' => rw [jfs_get ht, jfs_get ht, if_neg (Ne.symm hj)]

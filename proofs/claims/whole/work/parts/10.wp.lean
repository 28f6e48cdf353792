theorem jo1_mono {st : List jV} {t : Nat} {f g : Int → List jV → Prop} (hf : ∀ v r, f v r → g v r) (h : jo1 st t f) : jo1 st t g := by
  match st, h with
  | v :: r, h => exact ⟨h.1, hf _ _ h.2⟩
theorem jo2_mono {st : List jV} {t1 t2 : Nat} {f g : Int → Int → List jV → Prop} (hf : ∀ v w r, f v w r → g v w r) (h : jo2 st t1 t2 f) : jo2 st t1 t2 g := by
  match st, h with
  | v :: w :: r, h => exact ⟨h.1, h.2.1, hf _ _ _ h.2.2⟩
theorem jo3_mono {st : List jV} {t1 t2 t3 : Nat} {f g : Int → Int → Int → List jV → Prop} (hf : ∀ v w u r, f v w u r → g v w u r) (h : jo3 st t1 t2 t3 f) : jo3 st t1 t2 t3 g := by
  match st, h with
  | v :: w :: u :: r, h => exact ⟨h.1, h.2.1, h.2.2.1, hf _ _ _ _ h.2.2.2⟩
theorem jsw_mono {x : Int} {k k' : Nat → Prop} (hk : ∀ t, k t → k' t) : ∀ {ts : List Nat} {lo : Int}, jsw x lo ts k → jsw x lo ts k'
  | [], _, _ => trivial
  | _ :: _, _, h => ⟨fun e => hk _ (h.1 e), jsw_mono hk h.2⟩
theorem jsl_mono {x : Int} {d : Nat} {k k' : Nat → Prop} (hk : ∀ t, k t → k' t) : ∀ {ps : List (Int × Nat)}, jsl x ps d k → jsl x ps d k'
  | [], h => hk _ h
  | _ :: _, h => ⟨fun e => hk _ (h.1 e), fun e => jsl_mono hk (h.2 e)⟩
theorem jo_mono {G : jG} {e : jE} {K K' : jKt} {R : Option jV → jM → Prop} {pc : Nat} {lv : List (Nat × jV)} {st : List jV} {M : jM} (hk : ∀ pc lv st M, K pc lv st M → K' pc lv st M) (h : jo G e K R pc lv st M) : jo G e K' R pc lv st M := by
  obtain ⟨op, len, x, a, b, c⟩ := e
  match op, h with
  | 0, h => exact hk _ _ _ _ h
  | 1, h => dsimp only [jo] at h ⊢; cases hv : jlk lv a with | none => (rw [hv] at h; exact h) | some v => (rw [hv] at h; dsimp only [jol] at h ⊢; exact ⟨h.1, h.2.1, hk _ _ _ _ h.2.2⟩)
  | 2, h => dsimp only [jo] at h ⊢; exact jo1_mono (fun v r q => ⟨q.1, hk _ _ _ _ q.2⟩) h
  | 3, h => dsimp only [jo] at h ⊢; cases hv : jlk lv a with | none => (rw [hv] at h; exact h) | some v => (rw [hv] at h; dsimp only [jol] at h ⊢; exact ⟨h.1, hk _ _ _ _ h.2⟩)
  | 4, h => dsimp only [jo] at h ⊢; exact jo2_mono (fun v w r q => hk _ _ _ _ q) h
  | 5, h => dsimp only [jo] at h ⊢; exact jo2_mono (fun v w r q => hk _ _ _ _ q) h
  | 6, h => dsimp only [jo] at h ⊢; exact jo2_mono (fun v w r q => hk _ _ _ _ q) h
  | 10, h => dsimp only [jo] at h ⊢; exact jo2_mono (fun v w r q => hk _ _ _ _ q) h
  | 11, h => dsimp only [jo] at h ⊢; exact jo2_mono (fun v w r q => hk _ _ _ _ q) h
  | 12, h => dsimp only [jo] at h ⊢; exact jo2_mono (fun v w r q => hk _ _ _ _ q) h
  | 37, h => dsimp only [jo] at h ⊢; exact jo2_mono (fun v w r q => hk _ _ _ _ q) h
  | 38, h => dsimp only [jo] at h ⊢; exact jo2_mono (fun v w r q => hk _ _ _ _ q) h
  | 39, h => dsimp only [jo] at h ⊢; exact jo2_mono (fun v w r q => hk _ _ _ _ q) h
  | 40, h => dsimp only [jo] at h ⊢; exact jo2_mono (fun v w r q => hk _ _ _ _ q) h
  | 42, h => dsimp only [jo] at h ⊢; exact jo2_mono (fun v w r q => hk _ _ _ _ q) h
  | 7, h => dsimp only [jo] at h ⊢; exact jo2_mono (fun v w r q => ⟨q.1, q.2.1, q.2.2.1, hk _ _ _ _ q.2.2.2⟩) h
  | 8, h => dsimp only [jo] at h ⊢; exact jo2_mono (fun v w r q => ⟨q.1, q.2.1, q.2.2.1, hk _ _ _ _ q.2.2.2⟩) h
  | 13, h => dsimp only [jo] at h ⊢; exact jo2_mono (fun v w r q => ⟨q.1, q.2.1, q.2.2.1, hk _ _ _ _ q.2.2.2⟩) h
  | 14, h => dsimp only [jo] at h ⊢; exact jo2_mono (fun v w r q => ⟨q.1, q.2.1, q.2.2.1, hk _ _ _ _ q.2.2.2⟩) h
  | 9, h => dsimp only [jo] at h ⊢; exact jo1_mono (fun v r q => hk _ _ _ _ q) h
  | 15, h => dsimp only [jo] at h ⊢; exact jo1_mono (fun v r q => hk _ _ _ _ q) h
  | 17, h => dsimp only [jo] at h ⊢; exact jo1_mono (fun v r q => hk _ _ _ _ q) h
  | 18, h => dsimp only [jo] at h ⊢; exact jo1_mono (fun v r q => hk _ _ _ _ q) h
  | 16, h => dsimp only [jo] at h ⊢; exact jo1_mono (fun v r q => ⟨q.1, hk _ _ _ _ q.2⟩) h
  | 19, h => dsimp only [jo] at h ⊢; exact jo1_mono (fun v r q => ⟨q.1, fun z => hk _ _ _ _ (q.2.1 z), fun z => hk _ _ _ _ (q.2.2 z)⟩) h
  | 20, h => dsimp only [jo] at h ⊢; exact jo2_mono (fun v w r q => ⟨q.1, q.2.1, fun z => hk _ _ _ _ (q.2.2.1 z), fun z => hk _ _ _ _ (q.2.2.2 z)⟩) h
  | 22, h => dsimp only [jo] at h ⊢; exact jo2_mono (fun v w r q => ⟨q.1, q.2.1, fun z => hk _ _ _ _ (q.2.2.1 z), fun z => hk _ _ _ _ (q.2.2.2 z)⟩) h
  | 21, h => exact hk _ _ _ _ h
  | 23, h => dsimp only [jo] at h ⊢; exact jo1_mono (fun v r q => ⟨q.1, hk _ _ _ _ q.2⟩) h
  | 24, h => dsimp only [jo] at h ⊢; exact jo2_mono (fun v w r q => ⟨q.1, q.2.1, q.2.2.1, hk _ _ _ _ q.2.2.2⟩) h
  | 25, h => dsimp only [jo] at h ⊢; exact jo2_mono (fun v w r q => ⟨q.1, hk _ _ _ _ q.2⟩) h
  | 26, h => dsimp only [jo] at h ⊢; exact jo3_mono (fun v w u r q => ⟨q.1, q.2.1, q.2.2.1, hk _ _ _ _ q.2.2.2⟩) h
  | 27, h => dsimp only [jo] at h ⊢; exact jo1_mono (fun v r q => ⟨q.1, q.2.1, hk _ _ _ _ q.2.2⟩) h
  | 28, h => dsimp only [jo] at h ⊢; cases hv : st.drop b with | nil => (rw [hv] at h; exact h) | cons v w => (rw [hv] at h; exact ⟨h.1, h.2.1, h.2.2.1, h.2.2.2.1, h.2.2.2.2.mono fun _ _ q => hk _ _ _ _ q⟩)
  | 29, h => exact ⟨h.1, h.2.1, h.2.2.mono fun _ _ q => hk _ _ _ _ q⟩
  | 30, h => exact ⟨h.1, h.2.1, h.2.2.mono fun _ _ q => hk _ _ _ _ q⟩
  | 31, h => exact h
  | 32, h => match st, h with | v :: r, h => exact ⟨h.1, hk _ _ _ _ h.2⟩
  | 33, h => match a, st, h with | 0, v :: w :: r, h => exact ⟨h.1, h.2.1, hk _ _ _ _ h.2.2⟩ | _ + 1, v :: r, h => exact ⟨h.1, hk _ _ _ _ h.2⟩
  | 34, h => match st, h with | v :: r, h => exact ⟨h.1, hk _ _ _ _ h.2⟩
  | 35, h => dsimp only [jo] at h ⊢; exact jo1_mono (fun v r q => ⟨q.1, jsw_mono (fun t => hk t _ _ _) q.2.1, fun z => hk _ _ _ _ (q.2.2 z)⟩) h
  | 36, h => dsimp only [jo] at h ⊢; exact jo1_mono (fun v r q => ⟨q.1, jsl_mono (fun t => hk t _ _ _) q.2⟩) h
  | 41, h => exact hk _ _ _ _ h
  | 43, h => dsimp only [jo] at h ⊢; exact jo3_mono (fun v w u r q => ⟨q.1, q.2.1, q.2.2.1, hk _ _ _ _ q.2.2.2⟩) h
  | n + 44, h => exact h.elim
/-! Many steps at once. -/
def jwp (G : jG) (f : Nat → Option jE) (stop : Nat → Bool) (K : jKt) (R : Option jV → jM → Prop) : Nat → jKt
  | 0 => K
  | n + 1 => fun pc lv st M => match stop pc with
    | true => K pc lv st M
    | false => match f pc with
      | some e => jo G e (jwp G f stop K R n) R pc lv st M
      | none => False
def jwq (G : jG) (f : Nat → Option jE) (stop : Nat → Bool) (K : jKt) (R : Option jV → jM → Prop) (n : Nat) : jKt := fun pc lv st M => match f pc with
  | some e => jo G e (jwp G f stop K R n) R pc lv st M
  | none => False
def jfok (i : jI) (f : Nat → Option jE) : Prop := ∃ o : Nat, (o ≠ 99 ∧ i.1.cls = jcn o) ∧ ∀ (pc : Nat) (e : jE), f pc = some e → jok o i pc e = true
theorem jwp_sound {G : jG} {i : jI} {mc ms : Nat} {P : Option jV → jM → Prop} {c0 s0 : Nat} {f : Nat → Option jE} {stop : Nat → Bool} (hf : jfok i f) (hc : c0 ≤ mc) (hs : s0 ≤ ms) : ∀ (n : Nat) (pc : Nat) (lv : List (Nat × jV)) (st : List jV) (M : jM), jwp G f stop (jJ G i mc ms P c0 s0) P n pc lv st M → jJ G i mc ms P c0 s0 pc lv st M
  | 0, _, _, _, _, h => h
  | n + 1, pc, lv, st, M, h => by
    unfold jwp at h
    cases hp : stop pc with
    | true => rw [hp] at h; exact h
    | false =>
      rw [hp] at h
      cases he : f pc with
      | none => rw [he] at h; exact h.elim
      | some e =>
        rw [he] at h
        exact jo_sound hf.choose_spec.1.1 hf.choose_spec.1.2 hc hs (hf.choose_spec.2 pc e he) (jo_mono (fun pc lv st M => jwp_sound hf hc hs n pc lv st M) h)
theorem jwq_sound {G : jG} {i : jI} {mc ms : Nat} {P : Option jV → jM → Prop} {c0 s0 : Nat} {f : Nat → Option jE} (stop : Nat → Bool) (n : Nat) (hf : jfok i f) (hc : c0 ≤ mc) (hs : s0 ≤ ms) {pc : Nat} {lv : List (Nat × jV)} {st : List jV} {M : jM} (h : jwq G f stop (jJ G i mc ms P c0 s0) P n pc lv st M) : jJ G i mc ms P c0 s0 pc lv st M := by
  unfold jwq at h
  cases he : f pc with
  | none => rw [he] at h; exact h.elim
  | some e =>
    rw [he] at h
    exact jo_sound hf.choose_spec.1.1 hf.choose_spec.1.2 hc hs (hf.choose_spec.2 pc e he) (jo_mono (fun pc lv st M => jwp_sound hf hc hs n pc lv st M) h)
theorem jo_0 (G : jG) (len : Nat) (x : Int) (a b c : Nat) (K : jKt) (R : Option jV → jM → Prop) (pc : Nat) (lv : List (Nat × jV)) (st : List jV) (M : jM) : jo G (0, len, x, a, b, c) K R pc lv st M = (K (pc + len) lv ((0, x) :: st) M) := rfl
theorem jo_1 (G : jG) (len : Nat) (x : Int) (a b c : Nat) (K : jKt) (R : Option jV → jM → Prop) (pc : Nat) (lv : List (Nat × jV)) (st : List jV) (M : jM) : jo G (1, len, x, a, b, c) K R pc lv st M = (jol (jlk lv a) fun v => v.1 = b ∧ (b = 2 → 0 ≤ v.2) ∧ K (pc + len) lv (v :: st) M) := rfl
theorem jo_2 (G : jG) (len : Nat) (x : Int) (a b c : Nat) (K : jKt) (R : Option jV → jM → Prop) (pc : Nat) (lv : List (Nat × jV)) (st : List jV) (M : jM) : jo G (2, len, x, a, b, c) K R pc lv st M = (jo1 st b fun v r => (b = 2 → 0 ≤ v) ∧ K (pc + len) (jst lv a (b, v)) r M) := rfl
theorem jo_3 (G : jG) (len : Nat) (x : Int) (a b c : Nat) (K : jKt) (R : Option jV → jM → Prop) (pc : Nat) (lv : List (Nat × jV)) (st : List jV) (M : jM) : jo G (3, len, x, a, b, c) K R pc lv st M = (jol (jlk lv a) fun v => v.1 = 0 ∧ K (pc + 3) (jst lv a (0, v.2 + x)) st M) := rfl
theorem jo_4 (G : jG) (len : Nat) (x : Int) (a b c : Nat) (K : jKt) (R : Option jV → jM → Prop) (pc : Nat) (lv : List (Nat × jV)) (st : List jV) (M : jM) : jo G (4, len, x, a, b, c) K R pc lv st M = (jo2 st 0 0 fun v w r => K (pc + 1) lv ((0, v + w) :: r) M) := rfl
theorem jo_5 (G : jG) (len : Nat) (x : Int) (a b c : Nat) (K : jKt) (R : Option jV → jM → Prop) (pc : Nat) (lv : List (Nat × jV)) (st : List jV) (M : jM) : jo G (5, len, x, a, b, c) K R pc lv st M = (jo2 st 0 0 fun v w r => K (pc + 1) lv ((0, v - w) :: r) M) := rfl
theorem jo_6 (G : jG) (len : Nat) (x : Int) (a b c : Nat) (K : jKt) (R : Option jV → jM → Prop) (pc : Nat) (lv : List (Nat × jV)) (st : List jV) (M : jM) : jo G (6, len, x, a, b, c) K R pc lv st M = (jo2 st 0 0 fun v w r => K (pc + 1) lv ((0, v * w) :: r) M) := rfl
theorem jo_7 (G : jG) (len : Nat) (x : Int) (a b c : Nat) (K : jKt) (R : Option jV → jM → Prop) (pc : Nat) (lv : List (Nat × jV)) (st : List jV) (M : jM) : jo G (7, len, x, a, b, c) K R pc lv st M = (jo2 st 0 0 fun v w r => jI32 v ∧ jI32 w ∧ w ≠ 0 ∧ K (pc + 1) lv ((0, v.tdiv w) :: r) M) := rfl
theorem jo_8 (G : jG) (len : Nat) (x : Int) (a b c : Nat) (K : jKt) (R : Option jV → jM → Prop) (pc : Nat) (lv : List (Nat × jV)) (st : List jV) (M : jM) : jo G (8, len, x, a, b, c) K R pc lv st M = (jo2 st 0 0 fun v w r => jI32 v ∧ jI32 w ∧ w ≠ 0 ∧ K (pc + 1) lv ((0, v.tmod w) :: r) M) := rfl
theorem jo_9 (G : jG) (len : Nat) (x : Int) (a b c : Nat) (K : jKt) (R : Option jV → jM → Prop) (pc : Nat) (lv : List (Nat × jV)) (st : List jV) (M : jM) : jo G (9, len, x, a, b, c) K R pc lv st M = (jo1 st 0 fun v r => K (pc + 1) lv ((0, -v) :: r) M) := rfl
theorem jo_10 (G : jG) (len : Nat) (x : Int) (a b c : Nat) (K : jKt) (R : Option jV → jM → Prop) (pc : Nat) (lv : List (Nat × jV)) (st : List jV) (M : jM) : jo G (10, len, x, a, b, c) K R pc lv st M = (jo2 st 1 1 fun v w r => K (pc + 1) lv ((1, v + w) :: r) M) := rfl
theorem jo_11 (G : jG) (len : Nat) (x : Int) (a b c : Nat) (K : jKt) (R : Option jV → jM → Prop) (pc : Nat) (lv : List (Nat × jV)) (st : List jV) (M : jM) : jo G (11, len, x, a, b, c) K R pc lv st M = (jo2 st 1 1 fun v w r => K (pc + 1) lv ((1, v - w) :: r) M) := rfl
theorem jo_12 (G : jG) (len : Nat) (x : Int) (a b c : Nat) (K : jKt) (R : Option jV → jM → Prop) (pc : Nat) (lv : List (Nat × jV)) (st : List jV) (M : jM) : jo G (12, len, x, a, b, c) K R pc lv st M = (jo2 st 1 1 fun v w r => K (pc + 1) lv ((1, v * w) :: r) M) := rfl
theorem jo_13 (G : jG) (len : Nat) (x : Int) (a b c : Nat) (K : jKt) (R : Option jV → jM → Prop) (pc : Nat) (lv : List (Nat × jV)) (st : List jV) (M : jM) : jo G (13, len, x, a, b, c) K R pc lv st M = (jo2 st 1 1 fun v w r => jI64 v ∧ jI64 w ∧ w ≠ 0 ∧ K (pc + 1) lv ((1, v.tdiv w) :: r) M) := rfl
theorem jo_14 (G : jG) (len : Nat) (x : Int) (a b c : Nat) (K : jKt) (R : Option jV → jM → Prop) (pc : Nat) (lv : List (Nat × jV)) (st : List jV) (M : jM) : jo G (14, len, x, a, b, c) K R pc lv st M = (jo2 st 1 1 fun v w r => jI64 v ∧ jI64 w ∧ w ≠ 0 ∧ K (pc + 1) lv ((1, v.tmod w) :: r) M) := rfl
theorem jo_15 (G : jG) (len : Nat) (x : Int) (a b c : Nat) (K : jKt) (R : Option jV → jM → Prop) (pc : Nat) (lv : List (Nat × jV)) (st : List jV) (M : jM) : jo G (15, len, x, a, b, c) K R pc lv st M = (jo1 st 1 fun v r => K (pc + 1) lv ((1, -v) :: r) M) := rfl
theorem jo_16 (G : jG) (len : Nat) (x : Int) (a b c : Nat) (K : jKt) (R : Option jV → jM → Prop) (pc : Nat) (lv : List (Nat × jV)) (st : List jV) (M : jM) : jo G (16, len, x, a, b, c) K R pc lv st M = (jo1 st 0 fun v r => jI32 v ∧ K (pc + 1) lv ((1, v) :: r) M) := rfl
theorem jo_17 (G : jG) (len : Nat) (x : Int) (a b c : Nat) (K : jKt) (R : Option jV → jM → Prop) (pc : Nat) (lv : List (Nat × jV)) (st : List jV) (M : jM) : jo G (17, len, x, a, b, c) K R pc lv st M = (jo1 st 1 fun v r => K (pc + 1) lv ((0, v) :: r) M) := rfl
theorem jo_18 (G : jG) (len : Nat) (x : Int) (a b c : Nat) (K : jKt) (R : Option jV → jM → Prop) (pc : Nat) (lv : List (Nat × jV)) (st : List jV) (M : jM) : jo G (18, len, x, a, b, c) K R pc lv st M = (jo1 st 0 fun v r => K (pc + 1) lv ((0, (Int32.ofInt v).toInt8.toInt) :: r) M) := rfl
theorem jo_19 (G : jG) (len : Nat) (x : Int) (a b c : Nat) (K : jKt) (R : Option jV → jM → Prop) (pc : Nat) (lv : List (Nat × jV)) (st : List jV) (M : jM) : jo G (19, len, x, a, b, c) K R pc lv st M = (jo1 st 0 fun v r => jI32 v ∧ (jcnd a v 0 → K b lv r M) ∧ (¬ jcnd a v 0 → K (pc + 3) lv r M)) := rfl
theorem jo_20 (G : jG) (len : Nat) (x : Int) (a b c : Nat) (K : jKt) (R : Option jV → jM → Prop) (pc : Nat) (lv : List (Nat × jV)) (st : List jV) (M : jM) : jo G (20, len, x, a, b, c) K R pc lv st M = (jo2 st 0 0 fun v w r => jI32 v ∧ jI32 w ∧ (jcnd a v w → K b lv r M) ∧ (¬ jcnd a v w → K (pc + 3) lv r M)) := rfl
theorem jo_21 (G : jG) (len : Nat) (x : Int) (a b c : Nat) (K : jKt) (R : Option jV → jM → Prop) (pc : Nat) (lv : List (Nat × jV)) (st : List jV) (M : jM) : jo G (21, len, x, a, b, c) K R pc lv st M = (K b lv st M) := rfl
theorem jo_22 (G : jG) (len : Nat) (x : Int) (a b c : Nat) (K : jKt) (R : Option jV → jM → Prop) (pc : Nat) (lv : List (Nat × jV)) (st : List jV) (M : jM) : jo G (22, len, x, a, b, c) K R pc lv st M = (jo2 st 1 1 fun v w r => jI64 v ∧ jI64 w ∧ (jcnd a v w → K b lv r M) ∧ (¬ jcnd a v w → K (pc + 4) lv r M)) := rfl
theorem jo_23 (G : jG) (len : Nat) (x : Int) (a b c : Nat) (K : jKt) (R : Option jV → jM → Prop) (pc : Nat) (lv : List (Nat × jV)) (st : List jV) (M : jM) : jo G (23, len, x, a, b, c) K R pc lv st M = (jo1 st 2 fun q r => jobj M q a ∧ K (pc + 3) lv (jfd (M.2.2.1 q.toNat) len b (M.2.2.2 q.toNat b) :: r) M) := rfl
theorem jo_24 (G : jG) (len : Nat) (x : Int) (a b c : Nat) (K : jKt) (R : Option jV → jM → Prop) (pc : Nat) (lv : List (Nat × jV)) (st : List jV) (M : jM) : jo G (24, len, x, a, b, c) K R pc lv st M = (jo2 st 2 (jtg len) fun q v r => jobj M q a ∧ (M.2.2.1 q.toNat).2.2.2 b = none ∧ (len = 3 → v = 0 ∨ v = 1) ∧ K (pc + 3) lv r (jset M q b v)) := rfl
theorem jo_25 (G : jG) (len : Nat) (x : Int) (a b c : Nat) (K : jKt) (R : Option jV → jM → Prop) (pc : Nat) (lv : List (Nat × jV)) (st : List jV) (M : jM) : jo G (25, len, x, a, b, c) K R pc lv st M = (jo2 st 2 0 fun q v r => jarr M q v a ∧ K (pc + 1) lv ((jtag a, jrd M q v.toNat a) :: r) M) := rfl
theorem jo_26 (G : jG) (len : Nat) (x : Int) (a b c : Nat) (K : jKt) (R : Option jV → jM → Prop) (pc : Nat) (lv : List (Nat × jV)) (st : List jV) (M : jM) : jo G (26, len, x, a, b, c) K R pc lv st M = (jo3 st 2 0 (jtag a) fun q v w r => jarr M q v a ∧ (a = 3 → -128 ≤ w ∧ w ≤ 127) ∧ (a = 4 → w = 0 ∨ w = 1) ∧ K (pc + 1) lv r (jset M q v.toNat w)) := rfl
theorem jo_27 (G : jG) (len : Nat) (x : Int) (a b c : Nat) (K : jKt) (R : Option jV → jM → Prop) (pc : Nat) (lv : List (Nat × jV)) (st : List jV) (M : jM) : jo G (27, len, x, a, b, c) K R pc lv st M = (jo1 st 2 fun q r => jptr M q ∧ ((M.2.2.1 q.toNat).1 = 1 ∨ (M.2.2.1 q.toNat).1 = 3) ∧ K (pc + 1) lv ((0, ((M.2.2.1 q.toNat).2.2.1 : Int)) :: r) M) := rfl
theorem jo_29 (G : jG) (len : Nat) (x : Int) (a b c : Nat) (K : jKt) (R : Option jV → jM → Prop) (pc : Nat) (lv : List (Nat × jV)) (st : List jV) (M : jM) : jo G (29, len, x, a, b, c) K R pc lv st M = (jsum (st.drop b) ≤ 8 ∧ b ≤ st.length ∧ jC G (jtm a) 0 0 M (st.take b).reverse (fun v M' => K (pc + 3) lv (v.toList ++ st.drop b) M')) := rfl
theorem jo_30 (G : jG) (len : Nat) (x : Int) (a b c : Nat) (K : jKt) (R : Option jV → jM → Prop) (pc : Nat) (lv : List (Nat × jV)) (st : List jV) (M : jM) : jo G (30, len, x, a, b, c) K R pc lv st M = (jsum (st.drop b) ≤ 8 ∧ b ≤ st.length ∧ jC G (jtm a) 0 0 M (st.take b).reverse (fun v M' => K (pc + 3) lv (v.toList ++ st.drop b) M')) := rfl
theorem jo_35 (G : jG) (len : Nat) (x : Int) (a b c : Nat) (K : jKt) (R : Option jV → jM → Prop) (pc : Nat) (lv : List (Nat × jV)) (st : List jV) (M : jM) : jo G (35, len, x, a, b, c) K R pc lv st M = (jo1 st 0 fun v r => jI32 v ∧ jsw v x (jtsw a).2 (fun t => K t lv r M) ∧ (v < x ∨ x + ((jtsw a).2.length : Int) ≤ v → K (jtsw a).1 lv r M)) := rfl
theorem jo_36 (G : jG) (len : Nat) (x : Int) (a b c : Nat) (K : jKt) (R : Option jV → jM → Prop) (pc : Nat) (lv : List (Nat × jV)) (st : List jV) (M : jM) : jo G (36, len, x, a, b, c) K R pc lv st M = (jo1 st 0 fun v r => jI32 v ∧ jsl v (jtsl a).2 (jtsl a).1 (fun t => K t lv r M)) := rfl
theorem jo_37 (G : jG) (len : Nat) (x : Int) (a b c : Nat) (K : jKt) (R : Option jV → jM → Prop) (pc : Nat) (lv : List (Nat × jV)) (st : List jV) (M : jM) : jo G (37, len, x, a, b, c) K R pc lv st M = (jo2 st 0 0 fun v w r => K (pc + 1) lv ((0, (Int32.ofInt v <<< (Int32.ofInt w &&& 31)).toInt) :: r) M) := rfl
theorem jo_38 (G : jG) (len : Nat) (x : Int) (a b c : Nat) (K : jKt) (R : Option jV → jM → Prop) (pc : Nat) (lv : List (Nat × jV)) (st : List jV) (M : jM) : jo G (38, len, x, a, b, c) K R pc lv st M = (jo2 st 0 0 fun v w r => K (pc + 1) lv ((0, (Int32.ofInt v >>> (Int32.ofInt w &&& 31)).toInt) :: r) M) := rfl
theorem jo_39 (G : jG) (len : Nat) (x : Int) (a b c : Nat) (K : jKt) (R : Option jV → jM → Prop) (pc : Nat) (lv : List (Nat × jV)) (st : List jV) (M : jM) : jo G (39, len, x, a, b, c) K R pc lv st M = (jo2 st 0 0 fun v w r => K (pc + 1) lv ((0, (Int32.ofInt v &&& Int32.ofInt w).toInt) :: r) M) := rfl
theorem jo_40 (G : jG) (len : Nat) (x : Int) (a b c : Nat) (K : jKt) (R : Option jV → jM → Prop) (pc : Nat) (lv : List (Nat × jV)) (st : List jV) (M : jM) : jo G (40, len, x, a, b, c) K R pc lv st M = (jo2 st 0 0 fun v w r => K (pc + 1) lv ((0, (Int32.ofInt v ||| Int32.ofInt w).toInt) :: r) M) := rfl
theorem jo_41 (G : jG) (len : Nat) (x : Int) (a b c : Nat) (K : jKt) (R : Option jV → jM → Prop) (pc : Nat) (lv : List (Nat × jV)) (st : List jV) (M : jM) : jo G (41, len, x, a, b, c) K R pc lv st M = (K (pc + len) lv ((1, x) :: st) M) := rfl
theorem jo_42 (G : jG) (len : Nat) (x : Int) (a b c : Nat) (K : jKt) (R : Option jV → jM → Prop) (pc : Nat) (lv : List (Nat × jV)) (st : List jV) (M : jM) : jo G (42, len, x, a, b, c) K R pc lv st M = (jo2 st 1 1 fun v w r => K (pc + 1) lv ((1, (Int64.ofInt v ^^^ Int64.ofInt w).toInt) :: r) M) := rfl
theorem jo_43 (G : jG) (len : Nat) (x : Int) (a b c : Nat) (K : jKt) (R : Option jV → jM → Prop) (pc : Nat) (lv : List (Nat × jV)) (st : List jV) (M : jM) : jo G (43, len, x, a, b, c) K R pc lv st M = (jo3 st 2 0 2 fun q v w r => jarr M q v a ∧ (M.2.2.1 q.toNat).2.2.2 v.toNat = none ∧ jobj M w b ∧ K (pc + 1) lv r (jset M q v.toNat w)) := rfl
theorem jo_31v (G : jG) (len : Nat) (x : Int) (b c : Nat) (K : jKt) (R : Option jV → jM → Prop) (pc : Nat) (lv : List (Nat × jV)) (M : jM) : jo G (31, len, x, 4, b, c) K R pc lv [] M = (R none M) := by simp [jo]
theorem jo_31i (G : jG) (len : Nat) (x : Int) (b c : Nat) (K : jKt) (R : Option jV → jM → Prop) (pc : Nat) (lv : List (Nat × jV)) (M : jM) (v : jV) : jo G (31, len, x, 0, b, c) K R pc lv [v] M = (v.1 = 0 ∧ True ∧ R (some v) M) := by simp [jo, jtg]
theorem jo_31l (G : jG) (len : Nat) (x : Int) (b c : Nat) (K : jKt) (R : Option jV → jM → Prop) (pc : Nat) (lv : List (Nat × jV)) (M : jM) (v : jV) : jo G (31, len, x, 1, b, c) K R pc lv [v] M = (v.1 = 1 ∧ True ∧ R (some v) M) := by simp [jo, jtg]
theorem jo_31a (G : jG) (len : Nat) (x : Int) (b c : Nat) (K : jKt) (R : Option jV → jM → Prop) (pc : Nat) (lv : List (Nat × jV)) (M : jM) (v : jV) : jo G (31, len, x, 2, b, c) K R pc lv [v] M = (v.1 = 2 ∧ (0 ≤ v.2) ∧ R (some v) M) := by simp [jo, jtg]
theorem jo_31z (G : jG) (len : Nat) (x : Int) (b c : Nat) (K : jKt) (R : Option jV → jM → Prop) (pc : Nat) (lv : List (Nat × jV)) (M : jM) (v : jV) : jo G (31, len, x, 3, b, c) K R pc lv [v] M = (v.1 = 0 ∧ (v.2 = 0 ∨ v.2 = 1) ∧ R (some v) M) := by simp [jo, jtg]
theorem jo_32 (G : jG) (len : Nat) (x : Int) (b c : Nat) (K : jKt) (R : Option jV → jM → Prop) (pc : Nat) (lv : List (Nat × jV)) (M : jM) (a : Nat) (v : jV) (r : List jV) : jo G (32, len, x, a, b, c) K R pc lv (v :: r) M = (v.1 ≠ 1 ∧ K (pc + 1) lv (v :: v :: r) M) := rfl
theorem jo_33 (G : jG) (len : Nat) (x : Int) (b c : Nat) (K : jKt) (R : Option jV → jM → Prop) (pc : Nat) (lv : List (Nat × jV)) (M : jM) (v w : jV) (r : List jV) : jo G (33, len, x, 0, b, c) K R pc lv (v :: w :: r) M = (v.1 ≠ 1 ∧ w.1 ≠ 1 ∧ K (pc + 1) lv (v :: w :: v :: w :: r) M) := rfl
theorem jo_34 (G : jG) (len : Nat) (x : Int) (b c : Nat) (K : jKt) (R : Option jV → jM → Prop) (pc : Nat) (lv : List (Nat × jV)) (M : jM) (a : Nat) (v : jV) (r : List jV) : jo G (34, len, x, a, b, c) K R pc lv (v :: r) M = (v.1 ≠ 1 ∧ K (pc + 1) lv r M) := rfl
def joc (G : jG) (a ci n : Nat) (K : List jV → jM → Prop) (M : jM) (l : List jV) (as : List jV) : Prop := match l with
  | q :: r => q.1 = 2 ∧ jobj M q.2 ci ∧ jsum r ≤ 8 ∧ n ≤ as.length ∧ jC G (jtm a) 0 0 M (q :: as) (fun v M' => K (v.toList ++ r) M')
  | [] => False
theorem joc_c (G : jG) (a ci n : Nat) (K : List jV → jM → Prop) (M : jM) (q : jV) (r : List jV) (as : List jV) : joc G a ci n K M (q :: r) as = (q.1 = 2 ∧ jobj M q.2 ci ∧ jsum r ≤ 8 ∧ n ≤ as.length ∧ jC G (jtm a) 0 0 M (q :: as) (fun v M' => K (v.toList ++ r) M')) := rfl
theorem jo_28 (G : jG) (len : Nat) (x : Int) (a b c : Nat) (K : jKt) (R : Option jV → jM → Prop) (pc : Nat) (lv : List (Nat × jV)) (st : List jV) (M : jM) : jo G (28, len, x, a, b, c) K R pc lv st M = joc G a len b (fun s M' => K (pc + 3) lv s M') M (st.drop b) (st.take b).reverse := by
  dsimp only [jo]
  cases st.drop b with
  | nil => rfl
  | cons q r =>
    rw [joc_c]
    congr 4
    simp
    omega
theorem jol_s (v : jV) (f : jV → Prop) : jol (some v) f = f v := rfl
theorem jo1_c (v : jV) (r : List jV) (t : Nat) (f : Int → List jV → Prop) : jo1 (v :: r) t f = (v.1 = t ∧ f v.2 r) := rfl
theorem jo2_c (y x : jV) (r : List jV) (t1 t2 : Nat) (f : Int → Int → List jV → Prop) : jo2 (y :: x :: r) t1 t2 f = (x.1 = t1 ∧ y.1 = t2 ∧ f x.2 y.2 r) := rfl
theorem jo3_c (z y x : jV) (r : List jV) (t1 t2 t3 : Nat) (f : Int → Int → Int → List jV → Prop) : jo3 (z :: y :: x :: r) t1 t2 t3 f = (x.1 = t1 ∧ y.1 = t2 ∧ z.1 = t3 ∧ f x.2 y.2 z.2 r) := rfl
theorem jlk_c (q : Nat × jV) (r : List (Nat × jV)) (n : Nat) : jlk (q :: r) n = if q.1 = n then some q.2 else jlk r n := rfl
theorem jins_c (n : Nat) (v : jV) (q : Nat × jV) (r : List (Nat × jV)) : jins n v (q :: r) = if q.1 < n then q :: jins n v r else (n, v) :: q :: r := rfl
theorem jins_n (n : Nat) (v : jV) : jins n v [] = [(n, v)] := rfl
theorem jdrop_c (n : Nat) (v : jV) (q : Nat × jV) (r : List (Nat × jV)) : jdrop n v (q :: r) = if q.1 = n ∨ (q.1 + 1 = n ∧ q.2.1 = 1) ∨ (v.1 = 1 ∧ q.1 = n + 1) then jdrop n v r else q :: jdrop n v r := rfl
theorem jdrop_n (n : Nat) (v : jV) : jdrop n v [] = [] := rfl
theorem jwp_0 (G : jG) (f : Nat → Option jE) (stop : Nat → Bool) (K : jKt) (R : Option jV → jM → Prop) (pc : Nat) (lv : List (Nat × jV)) (st : List jV) (M : jM) : jwp G f stop K R 0 pc lv st M = K pc lv st M := rfl
def jwx (G : jG) (o : Option jE) (K : jKt) (R : Option jV → jM → Prop) (pc : Nat) (lv : List (Nat × jV)) (st : List jV) (M : jM) : Prop := match o with
  | some e => jo G e K R pc lv st M
  | none => False
def jwb (s : Bool) (A B : Prop) : Prop := match s with
  | true => A
  | false => B
theorem jwx_s (G : jG) (e : jE) (K : jKt) (R : Option jV → jM → Prop) (pc : Nat) (lv : List (Nat × jV)) (st : List jV) (M : jM) : jwx G (some e) K R pc lv st M = jo G e K R pc lv st M := rfl
theorem jwb_t (A B : Prop) : jwb true A B = A := rfl
theorem jwb_f (A B : Prop) : jwb false A B = B := rfl
theorem jwp_s (G : jG) (f : Nat → Option jE) (stop : Nat → Bool) (K : jKt) (R : Option jV → jM → Prop) (n pc : Nat) (lv : List (Nat × jV)) (st : List jV) (M : jM) : jwp G f stop K R (n + 1) pc lv st M = jwb (stop pc) (K pc lv st M) (jwx G (f pc) (jwp G f stop K R n) R pc lv st M) := by
  show (match stop pc with | true => _ | false => _) = _
  cases stop pc with
  | true => rfl
  | false => cases h : f pc <;> rfl
theorem jwq_s (G : jG) (f : Nat → Option jE) (stop : Nat → Bool) (K : jKt) (R : Option jV → jM → Prop) (n pc : Nat) (lv : List (Nat × jV)) (st : List jV) (M : jM) : jwq G f stop K R n pc lv st M = jwx G (f pc) (jwp G f stop K R n) R pc lv st M := by
  show (match f pc with | some e => _ | none => _) = _
  cases f pc <;> rfl

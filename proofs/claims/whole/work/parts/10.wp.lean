theorem jo1_mono {st : List jV} {t : Nat} {f g : Int → List jV → Prop} (hf : ∀ v r, f v r → g v r) (h : jo1 st t f) : jo1 st t g := by
  match st, h with
  | v :: r, h => exact ⟨h.1, hf _ _ h.2⟩
theorem jo2_mono {st : List jV} {t1 t2 : Nat} {f g : Int → Int → List jV → Prop} (hf : ∀ v w r, f v w r → g v w r) (h : jo2 st t1 t2 f) : jo2 st t1 t2 g := by
  match st, h with
  | v :: w :: r, h => exact ⟨h.1, h.2.1, hf _ _ _ h.2.2⟩
theorem jo3_mono {st : List jV} {t1 t2 t3 : Nat} {f g : Int → Int → Int → List jV → Prop} (hf : ∀ v w u r, f v w u r → g v w u r) (h : jo3 st t1 t2 t3 f) : jo3 st t1 t2 t3 g := by
  match st, h with
  | v :: w :: u :: r, h => exact ⟨h.1, h.2.1, h.2.2.1, hf _ _ _ _ h.2.2.2⟩
theorem jsw_mono {x : Int} {k k' : Nat → Prop} (hk : ∀ t, k t → k' t) : ∀ {ts : List Nat} {lo : Int}, jsw x lo ts k → jsw x lo ts k'
  | [], _, _ => trivial
  | _ :: _, _, h => ⟨fun e => hk _ (h.1 e), jsw_mono hk h.2⟩
theorem jsl_mono {x : Int} {d : Nat} {k k' : Nat → Prop} (hk : ∀ t, k t → k' t) : ∀ {ps : List (Int × Nat)}, jsl x ps d k → jsl x ps d k'
  | [], h => hk _ h
  | _ :: _, h => ⟨fun e => hk _ (h.1 e), fun e => jsl_mono hk (h.2 e)⟩
theorem jo_mono {G : jG} {e : jE} {K K' : jKt} {R : Option jV → jM → Prop} {pc : Nat} {lv : List (Nat × jV)} {st : List jV} {M : jM} (hk : ∀ pc lv st M, K pc lv st M → K' pc lv st M) (h : jo G e K R pc lv st M) : jo G e K' R pc lv st M := by
  obtain ⟨op, len, x, a, b, c⟩ := e
  match op, h with
  | 0, h => exact hk _ _ _ _ h
  | 1, h => dsimp only [jo] at h ⊢; cases hv : jlk lv a with | none => (rw [hv] at h; exact h) | some v => (rw [hv] at h; exact ⟨h.1, h.2.1, hk _ _ _ _ h.2.2⟩)
  | 2, h => dsimp only [jo] at h ⊢; exact jo1_mono (fun v r q => ⟨q.1, hk _ _ _ _ q.2⟩) h
  | 3, h => dsimp only [jo] at h ⊢; cases hv : jlk lv a with | none => (rw [hv] at h; exact h) | some v => (rw [hv] at h; exact ⟨h.1, hk _ _ _ _ h.2⟩)
  | 4, h => dsimp only [jo] at h ⊢; exact jo2_mono (fun v w r q => hk _ _ _ _ q) h
  | 5, h => dsimp only [jo] at h ⊢; exact jo2_mono (fun v w r q => hk _ _ _ _ q) h
  | 6, h => dsimp only [jo] at h ⊢; exact jo2_mono (fun v w r q => hk _ _ _ _ q) h
  | 10, h => dsimp only [jo] at h ⊢; exact jo2_mono (fun v w r q => hk _ _ _ _ q) h
  | 11, h => dsimp only [jo] at h ⊢; exact jo2_mono (fun v w r q => hk _ _ _ _ q) h
  | 12, h => dsimp only [jo] at h ⊢; exact jo2_mono (fun v w r q => hk _ _ _ _ q) h
  | 37, h => dsimp only [jo] at h ⊢; exact jo2_mono (fun v w r q => hk _ _ _ _ q) h
  | 38, h => dsimp only [jo] at h ⊢; exact jo2_mono (fun v w r q => hk _ _ _ _ q) h
  | 39, h => dsimp only [jo] at h ⊢; exact jo2_mono (fun v w r q => hk _ _ _ _ q) h
  | 40, h => dsimp only [jo] at h ⊢; exact jo2_mono (fun v w r q => hk _ _ _ _ q) h
  | 42, h => dsimp only [jo] at h ⊢; exact jo2_mono (fun v w r q => hk _ _ _ _ q) h
  | 7, h => dsimp only [jo] at h ⊢; exact jo2_mono (fun v w r q => ⟨q.1, q.2.1, q.2.2.1, hk _ _ _ _ q.2.2.2⟩) h
  | 8, h => dsimp only [jo] at h ⊢; exact jo2_mono (fun v w r q => ⟨q.1, q.2.1, q.2.2.1, hk _ _ _ _ q.2.2.2⟩) h
  | 13, h => dsimp only [jo] at h ⊢; exact jo2_mono (fun v w r q => ⟨q.1, q.2.1, q.2.2.1, hk _ _ _ _ q.2.2.2⟩) h
  | 14, h => dsimp only [jo] at h ⊢; exact jo2_mono (fun v w r q => ⟨q.1, q.2.1, q.2.2.1, hk _ _ _ _ q.2.2.2⟩) h
  | 9, h => dsimp only [jo] at h ⊢; exact jo1_mono (fun v r q => hk _ _ _ _ q) h
  | 15, h => dsimp only [jo] at h ⊢; exact jo1_mono (fun v r q => hk _ _ _ _ q) h
  | 17, h => dsimp only [jo] at h ⊢; exact jo1_mono (fun v r q => hk _ _ _ _ q) h
  | 18, h => dsimp only [jo] at h ⊢; exact jo1_mono (fun v r q => hk _ _ _ _ q) h
  | 16, h => dsimp only [jo] at h ⊢; exact jo1_mono (fun v r q => ⟨q.1, hk _ _ _ _ q.2⟩) h
  | 19, h => dsimp only [jo] at h ⊢; exact jo1_mono (fun v r q => ⟨q.1, fun z => hk _ _ _ _ (q.2.1 z), fun z => hk _ _ _ _ (q.2.2 z)⟩) h
  | 20, h => dsimp only [jo] at h ⊢; exact jo2_mono (fun v w r q => ⟨q.1, q.2.1, fun z => hk _ _ _ _ (q.2.2.1 z), fun z => hk _ _ _ _ (q.2.2.2 z)⟩) h
  | 22, h => dsimp only [jo] at h ⊢; exact jo2_mono (fun v w r q => ⟨q.1, q.2.1, fun z => hk _ _ _ _ (q.2.2.1 z), fun z => hk _ _ _ _ (q.2.2.2 z)⟩) h
  | 21, h => exact hk _ _ _ _ h
  | 23, h => dsimp only [jo] at h ⊢; exact jo1_mono (fun v r q => ⟨q.1, hk _ _ _ _ q.2⟩) h
  | 24, h => dsimp only [jo] at h ⊢; exact jo2_mono (fun v w r q => ⟨q.1, q.2.1, q.2.2.1, hk _ _ _ _ q.2.2.2⟩) h
  | 25, h => dsimp only [jo] at h ⊢; exact jo2_mono (fun v w r q => ⟨q.1, hk _ _ _ _ q.2⟩) h
  | 26, h => dsimp only [jo] at h ⊢; exact jo3_mono (fun v w u r q => ⟨q.1, q.2.1, q.2.2.1, hk _ _ _ _ q.2.2.2⟩) h
  | 27, h => dsimp only [jo] at h ⊢; exact jo1_mono (fun v r q => ⟨q.1, q.2.1, hk _ _ _ _ q.2.2⟩) h
  | 28, h => dsimp only [jo] at h ⊢; cases hv : st.drop b with | nil => (rw [hv] at h; exact h) | cons v w => (rw [hv] at h; exact ⟨h.1, h.2.1, h.2.2.1, h.2.2.2.1, h.2.2.2.2.mono fun _ _ q => hk _ _ _ _ q⟩)
  | 29, h => exact ⟨h.1, h.2.1, h.2.2.mono fun _ _ q => hk _ _ _ _ q⟩
  | 30, h => exact ⟨h.1, h.2.1, h.2.2.mono fun _ _ q => hk _ _ _ _ q⟩
  | 31, h => exact h
  | 32, h => match st, h with | v :: r, h => exact ⟨h.1, hk _ _ _ _ h.2⟩
  | 33, h => match a, st, h with | 0, v :: w :: r, h => exact ⟨h.1, h.2.1, hk _ _ _ _ h.2.2⟩ | _ + 1, v :: r, h => exact ⟨h.1, hk _ _ _ _ h.2⟩
  | 34, h => match st, h with | v :: r, h => exact ⟨h.1, hk _ _ _ _ h.2⟩
  | 35, h => dsimp only [jo] at h ⊢; exact jo1_mono (fun v r q => ⟨q.1, jsw_mono (fun t => hk t _ _ _) q.2.1, fun z => hk _ _ _ _ (q.2.2 z)⟩) h
  | 36, h => dsimp only [jo] at h ⊢; exact jo1_mono (fun v r q => ⟨q.1, jsl_mono (fun t => hk t _ _ _) q.2⟩) h
  | 41, h => exact hk _ _ _ _ h
  | 43, h => dsimp only [jo] at h ⊢; exact jo3_mono (fun v w u r q => ⟨q.1, q.2.1, q.2.2.1, hk _ _ _ _ q.2.2.2⟩) h
  | n + 44, h => exact h.elim
/-! Many steps at once. -/
def jwp (G : jG) (f : Nat → Option jE) (stop : Nat → Bool) (K : jKt) (R : Option jV → jM → Prop) : Nat → jKt
  | 0 => K
  | n + 1 => fun pc lv st M => match stop pc with
    | true => K pc lv st M
    | false => match f pc with
      | some e => jo G e (jwp G f stop K R n) R pc lv st M
      | none => False
def jwq (G : jG) (f : Nat → Option jE) (stop : Nat → Bool) (K : jKt) (R : Option jV → jM → Prop) (n : Nat) : jKt := fun pc lv st M => match f pc with
  | some e => jo G e (jwp G f stop K R n) R pc lv st M
  | none => False
def jfok (i : jI) (f : Nat → Option jE) : Prop := ∃ o : Nat, (o ≠ 99 ∧ i.1.cls = jcn o) ∧ ∀ (pc : Nat) (e : jE), f pc = some e → jok o i pc e = true
theorem jwp_sound {G : jG} {i : jI} {mc ms : Nat} {P : Option jV → jM → Prop} {c0 s0 : Nat} {f : Nat → Option jE} {stop : Nat → Bool} (hf : jfok i f) (hc : c0 ≤ mc) (hs : s0 ≤ ms) : ∀ (n : Nat) (pc : Nat) (lv : List (Nat × jV)) (st : List jV) (M : jM), jwp G f stop (jJ G i mc ms P c0 s0) P n pc lv st M → jJ G i mc ms P c0 s0 pc lv st M
  | 0, _, _, _, _, h => h
  | n + 1, pc, lv, st, M, h => by
    unfold jwp at h
    cases hp : stop pc with
    | true => rw [hp] at h; exact h
    | false =>
      rw [hp] at h
      cases he : f pc with
      | none => rw [he] at h; exact h.elim
      | some e =>
        rw [he] at h
        exact jo_sound hf.choose_spec.1.1 hf.choose_spec.1.2 hc hs (hf.choose_spec.2 pc e he) (jo_mono (fun pc lv st M => jwp_sound hf hc hs n pc lv st M) h)
theorem jwq_sound {G : jG} {i : jI} {mc ms : Nat} {P : Option jV → jM → Prop} {c0 s0 : Nat} {f : Nat → Option jE} (stop : Nat → Bool) (n : Nat) (hf : jfok i f) (hc : c0 ≤ mc) (hs : s0 ≤ ms) {pc : Nat} {lv : List (Nat × jV)} {st : List jV} {M : jM} (h : jwq G f stop (jJ G i mc ms P c0 s0) P n pc lv st M) : jJ G i mc ms P c0 s0 pc lv st M := by
  unfold jwq at h
  cases he : f pc with
  | none => rw [he] at h; exact h.elim
  | some e =>
    rw [he] at h
    exact jo_sound hf.choose_spec.1.1 hf.choose_spec.1.2 hc hs (hf.choose_spec.2 pc e he) (jo_mono (fun pc lv st M => jwp_sound hf hc hs n pc lv st M) h)

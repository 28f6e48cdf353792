/-! Many steps at once, of a constructor or of the law. -/
section
variable {G : jG} {mc ms : Nat} {X : Nat × (Nat → Int)} {R : Option jV → jM → Prop} {K K' : xKt} {c s pc : Nat} {lv : List (Nat × jV)} {st : List jV} {M : jM}
theorem xo_mono {e : jE} (hk : ∀ c s pc lv st M, c ≤ mc → s ≤ ms → K c s pc lv st M → K' c s pc lv st M) (hc : c ≤ mc) (hs : s ≤ ms) (h : xo G mc ms X e K R c s pc lv st M) : xo G mc ms X e K' R c s pc lv st M := by
  obtain ⟨op, len, x, a, b, d⟩ := e
  by_cases c31 : op = 31
  · subst c31; exact h
  by_cases c64 : op = 64
  · subst c64
    dsimp only [xo] at h ⊢
    cases hv : jlk lv a with
    | none => rw [hv] at h; exact h
    | some v => rw [hv] at h; dsimp only [jol] at h ⊢; exact ⟨h.1, h.2.1, h.2.2.1, hk _ _ _ _ _ _ hc hs h.2.2.2⟩
  by_cases c65 : op = 65
  · subst c65; exact hk _ _ _ _ _ _ hc hs h
  by_cases c50 : op = 50
  · subst c50; exact ⟨h.1, h.2.1, h.2.2.1, hk _ _ _ _ _ _ h.2.1 h.2.2.1 h.2.2.2⟩
  by_cases c51 : op = 51
  · subst c51
    dsimp only [xo] at h ⊢
    exact jo1_mono (fun v r q => ⟨q.1, q.2.1, q.2.2.1, q.2.2.2.1, q.2.2.2.2.1, hk _ _ _ _ _ _ q.2.2.2.1 q.2.2.2.2.1 q.2.2.2.2.2⟩) h
  by_cases c52 : op = 52
  · subst c52
    dsimp only [xo] at h ⊢
    exact jo1_mono (fun v r q => ⟨q.1, q.2.1, q.2.2.1, q.2.2.2.1, q.2.2.2.2.1, hk _ _ _ _ _ _ q.2.2.2.1 q.2.2.2.2.1 q.2.2.2.2.2⟩) h
  by_cases c53 : op = 53
  · subst c53
    dsimp only [xo] at h ⊢
    unfold xoi at h ⊢
    cases hv : st.drop b with
    | nil => rw [hv] at h; exact h
    | cons v w => rw [hv] at h; exact ⟨h.1, h.2.1, h.2.2.1, h.2.2.2.1, h.2.2.2.2.1, h.2.2.2.2.2.1, h.2.2.2.2.2.2.mono fun M' q => hk _ _ _ _ _ _ h.2.2.2.2.1 h.2.2.2.2.2.1 q⟩
  by_cases c54 : op = 54
  · subst c54
    dsimp only [xo] at h ⊢
    exact jo1_mono (fun v r q => ⟨q.1, q.2.1, hk _ _ _ _ _ _ hc hs q.2.2⟩) h
  by_cases c55 : op = 55
  · subst c55
    dsimp only [xo] at h ⊢
    exact jo2_mono (fun v w r q => ⟨q.1, q.2.1, q.2.2.1, hk _ _ _ _ _ _ hc hs q.2.2.2⟩) h
  by_cases c56 : op = 56
  · subst c56
    dsimp only [xo] at h ⊢
    exact jo3_mono (fun v w u r q => ⟨q.1, q.2.1, q.2.2.1, hk _ _ _ _ _ _ hc hs q.2.2.2⟩) h
  by_cases c57 : op = 57
  · subst c57
    dsimp only [xo] at h ⊢
    exact jo2_mono (fun v w r q => ⟨q.1, q.2.1, q.2.2.1, hk _ _ _ _ _ _ hc hs q.2.2.2⟩) h
  by_cases c58 : op = 58
  · subst c58
    dsimp only [xo] at h ⊢
    exact jo1_mono (fun v r q => ⟨q.1, hk _ _ _ _ _ _ hc hs q.2⟩) h
  by_cases c59 : op = 59
  · subst c59
    dsimp only [xo] at h ⊢
    unfold joc at h ⊢
    cases hv : st.drop b with
    | nil => rw [hv] at h; exact h
    | cons v w => rw [hv] at h; exact ⟨h.1, h.2.1, h.2.2.1, h.2.2.2.1, h.2.2.2.2.mono fun _ _ q => hk _ _ _ _ _ _ hc hs q⟩
  by_cases c60 : op = 60
  · subst c60; exact ⟨h.1, h.2.1, h.2.2.mono fun _ _ q => hk _ _ _ _ _ _ hc hs q⟩
  have eo : ∀ K : xKt, xo G mc ms X (op, len, x, a, b, d) K R c s pc lv st M = jo G (op, len, x, a, b, d) (K c s) (fun _ _ => False) pc lv st M := by
    intro K
    unfold xo
    dsimp only
    split <;> first | rfl | omega
  rw [eo] at h ⊢
  exact jo_mono (fun pc lv st M q => hk _ _ _ _ _ _ hc hs q) h
end
def xwp (G : jG) (mc ms : Nat) (X : Nat × (Nat → Int)) (f : Nat → Option jE) (stop : Nat → Bool) (K : xKt) (R : Option jV → jM → Prop) : Nat → xKt
  | 0 => K
  | n + 1 => fun c s pc lv st M => match stop pc with
    | true => K c s pc lv st M
    | false => match f pc with
      | some e => xo G mc ms X e (xwp G mc ms X f stop K R n) R c s pc lv st M
      | none => False
def xwx (G : jG) (mc ms : Nat) (X : Nat × (Nat → Int)) (oe : Option jE) (K : xKt) (R : Option jV → jM → Prop) (c s pc : Nat) (lv : List (Nat × jV)) (st : List jV) (M : jM) : Prop := match oe with
  | some e => xo G mc ms X e K R c s pc lv st M
  | none => False
def xfok (xs : Nat → jE → Bool) (w : Bool) (i : jI) (f : Nat → Option jE) : Prop := ∃ o : Nat, (o ≠ 99 ∧ i.1.cls = jcn o) ∧ ∀ (pc : Nat) (e : jE), f pc = some e → xok xs w o i pc e = true
theorem xwp_sound {G : jG} {i : jI} {mc ms : Nat} {Φ : zP} {Q : zQ} {X : Nat × (Nat → Int)} {R : Option jV → jM → Prop} {xs : Nat → jE → Bool} {w : Bool} {f : Nat → Option jE} {stop : Nat → Bool} (hf : xfok xs w i f) (hH : xH G i mc ms Φ Q X R xs w) : ∀ (n : Nat) (c s pc : Nat) (lv : List (Nat × jV)) (st : List jV) (M : jM), c ≤ mc → s ≤ ms → xwp G mc ms X f stop (zJ G i mc ms Φ Q) R n c s pc lv st M → zJ G i mc ms Φ Q c s pc lv st M
  | 0, _, _, _, _, _, _, _, _, h => h
  | n + 1, c, s, pc, lv, st, M, hc, hs, h => by
    unfold xwp at h
    cases hp : stop pc with
    | true => rw [hp] at h; exact h
    | false =>
      rw [hp] at h
      cases he : f pc with
      | none => rw [he] at h; exact h.elim
      | some e =>
        rw [he] at h
        exact xo_sound hf.choose_spec.1.1 hf.choose_spec.1.2 hc hs hH (hf.choose_spec.2 pc e he) (xo_mono (fun c s pc lv st M hc hs => xwp_sound hf hH n c s pc lv st M hc hs) hc hs h)
theorem xJw {G : jG} {i : jI} {mc ms : Nat} {Φ : zP} {Q : zQ} {X : Nat × (Nat → Int)} {R : Option jV → jM → Prop} {xs : Nat → jE → Bool} {w : Bool} {f : Nat → Option jE} (hf : xfok xs w i f) (hH : xH G i mc ms Φ Q X R xs w) (stop : Nat → Bool) (n : Nat) {c s pc : Nat} {lv : List (Nat × jV)} {st : List jV} {M : jM} (hc : c ≤ mc) (hs : s ≤ ms) (h : xwx G mc ms X (f pc) (xwp G mc ms X f stop (zJ G i mc ms Φ Q) R n) R c s pc lv st M) : zJ G i mc ms Φ Q c s pc lv st M := by
  unfold xwx at h
  cases he : f pc with
  | none => rw [he] at h; exact h.elim
  | some e =>
    rw [he] at h
    exact xo_sound hf.choose_spec.1.1 hf.choose_spec.1.2 hc hs hH (hf.choose_spec.2 pc e he) (xo_mono (fun c s pc lv st M hc hs => xwp_sound hf hH n c s pc lv st M hc hs) hc hs h)
theorem xwx_s (G : jG) (mc ms : Nat) (X : Nat × (Nat → Int)) (e : jE) (K : xKt) (R : Option jV → jM → Prop) (c s pc : Nat) (lv : List (Nat × jV)) (st : List jV) (M : jM) : xwx G mc ms X (some e) K R c s pc lv st M = xo G mc ms X e K R c s pc lv st M := rfl
theorem xwp_s (G : jG) (mc ms : Nat) (X : Nat × (Nat → Int)) (f : Nat → Option jE) (stop : Nat → Bool) (K : xKt) (R : Option jV → jM → Prop) (n c s pc : Nat) (lv : List (Nat × jV)) (st : List jV) (M : jM) : xwp G mc ms X f stop K R (n + 1) c s pc lv st M = if stop pc = true then K c s pc lv st M else xwx G mc ms X (f pc) (xwp G mc ms X f stop K R n) R c s pc lv st M := by
  show (match stop pc with | true => _ | false => _) = _
  cases stop pc with
  | true => rfl
  | false => cases h : f pc <;> rfl
theorem xwp_sn (G : jG) (mc ms : Nat) (X : Nat × (Nat → Int)) (f : Nat → Option jE) (stop : Nat → Bool) (K : xKt) (R : Option jV → jM → Prop) (n c s pc : Nat) (lv : List (Nat × jV)) (M : jM) : xwp G mc ms X f stop K R (n + 1) c s pc lv [] M = if stop pc = true then K c s pc lv [] M else xwx G mc ms X (f pc) (xwp G mc ms X f stop K R n) R c s pc lv [] M := xwp_s ..
theorem xwp_sc (G : jG) (mc ms : Nat) (X : Nat × (Nat → Int)) (f : Nat → Option jE) (stop : Nat → Bool) (K : xKt) (R : Option jV → jM → Prop) (n c s pc : Nat) (lv : List (Nat × jV)) (v : jV) (r : List jV) (M : jM) : xwp G mc ms X f stop K R (n + 1) c s pc lv (v :: r) M = if stop pc = true then K c s pc lv (v :: r) M else xwx G mc ms X (f pc) (xwp G mc ms X f stop K R n) R c s pc lv (v :: r) M := xwp_s ..
theorem xwp_0 (G : jG) (mc ms : Nat) (X : Nat × (Nat → Int)) (f : Nat → Option jE) (stop : Nat → Bool) (K : xKt) (R : Option jV → jM → Prop) (c s pc : Nat) (lv : List (Nat × jV)) (st : List jV) (M : jM) : xwp G mc ms X f stop K R 0 c s pc lv st M = K c s pc lv st M := rfl
theorem xoi_c (G : jG) (mc ms a : Nat) (K : Nat → Nat → List jV → jM → Prop) (c s b : Nat) (M : jM) (q : jV) (r as : List jV) : xoi G mc ms a K c s b M (q :: r) as = (q.1 = 2 ∧ 0 ≤ q.2 ∧ jsum r ≤ 8 ∧ b ≤ as.length ∧ c + (zcs a).1 ≤ mc ∧ s + (zcs a).2 ≤ ms ∧ iC G (jtm a) (zcs a).1 (zcs a).2 M (q :: as) (fun M' => K (c + (zcs a).1) (s + (zcs a).2) r M')) := rfl
theorem xo_50 (G : jG) (mc ms : Nat) (X : Nat × (Nat → Int)) (len : Nat) (x : Int) (a b d : Nat) (K : xKt) (R : Option jV → jM → Prop) (c s pc : Nat) (lv : List (Nat × jV)) (st : List jV) (M : jM) : xo G mc ms X (50, len, x, a, b, d) K R c s pc lv st M = (M.1 = M.2.1 ∧ c + 1 ≤ mc ∧ s + len ≤ ms ∧ K (c + 1) (s + len) (pc + 3) lv ((2, (M.2.1 : Int)) :: st) (jnw M (0, a, 0, jno) (jdf a))) := rfl
theorem xo_51 (G : jG) (mc ms : Nat) (X : Nat × (Nat → Int)) (len : Nat) (x : Int) (a b d : Nat) (K : xKt) (R : Option jV → jM → Prop) (c s pc : Nat) (lv : List (Nat × jV)) (st : List jV) (M : jM) : xo G mc ms X (51, len, x, a, b, d) K R c s pc lv st M = (jo1 st 0 fun v r => 0 ≤ v ∧ v ≤ 100000 ∧ M.1 = M.2.1 ∧ c + 1 ≤ mc ∧ s + v.toNat ≤ ms ∧ K (c + 1) (s + v.toNat) (pc + 2) lv ((2, (M.2.1 : Int)) :: r) (jnw M (a, 0, v.toNat, jno) (fun _ => 0))) := rfl
theorem xo_52 (G : jG) (mc ms : Nat) (X : Nat × (Nat → Int)) (len : Nat) (x : Int) (a b d : Nat) (K : xKt) (R : Option jV → jM → Prop) (c s pc : Nat) (lv : List (Nat × jV)) (st : List jV) (M : jM) : xo G mc ms X (52, len, x, a, b, d) K R c s pc lv st M = (jo1 st 0 fun v r => 0 ≤ v ∧ v ≤ 100000 ∧ M.1 = M.2.1 ∧ c + 1 ≤ mc ∧ s + v.toNat ≤ ms ∧ K (c + 1) (s + v.toNat) (pc + 3) lv ((2, (M.2.1 : Int)) :: r) (jnw M (a, 0, v.toNat, jno) (fun _ => -1))) := rfl
theorem xo_53 (G : jG) (mc ms : Nat) (X : Nat × (Nat → Int)) (len : Nat) (x : Int) (a b d : Nat) (K : xKt) (R : Option jV → jM → Prop) (c s pc : Nat) (lv : List (Nat × jV)) (st : List jV) (M : jM) : xo G mc ms X (53, len, x, a, b, d) K R c s pc lv st M = (xoi G mc ms a (fun c' s' r M' => K c' s' (pc + 3) lv r M') c s b M (st.drop b) (st.take b).reverse) := rfl
theorem xo_54 (G : jG) (mc ms : Nat) (X : Nat × (Nat → Int)) (len : Nat) (x : Int) (a b d : Nat) (K : xKt) (R : Option jV → jM → Prop) (c s pc : Nat) (lv : List (Nat × jV)) (st : List jV) (M : jM) : xo G mc ms X (54, len, x, a, b, d) K R c s pc lv st M = (jo1 st 2 fun q r => 0 ≤ q ∧ jsum r ≤ 8 ∧ K c s (pc + 3) lv r M) := rfl
theorem xo_55 (G : jG) (mc ms : Nat) (X : Nat × (Nat → Int)) (len : Nat) (x : Int) (a b d : Nat) (K : xKt) (R : Option jV → jM → Prop) (c s pc : Nat) (lv : List (Nat × jV)) (st : List jV) (M : jM) : xo G mc ms X (55, len, x, a, b, d) K R c s pc lv st M = (jo2 st 2 (jtg len) fun q v r => jobj M q a ∧ (M.2.2.1 q.toNat).2.2.2 b = none ∧ (len = 3 → v = 0 ∨ v = 1) ∧ K c s (pc + 3) lv r (jset M q b v)) := rfl
theorem xo_56 (G : jG) (mc ms : Nat) (X : Nat × (Nat → Int)) (len : Nat) (x : Int) (a b d : Nat) (K : xKt) (R : Option jV → jM → Prop) (c s pc : Nat) (lv : List (Nat × jV)) (st : List jV) (M : jM) : xo G mc ms X (56, len, x, a, b, d) K R c s pc lv st M = (jo3 st 2 0 2 fun q v w r => jarr M q v a ∧ (M.2.2.1 q.toNat).2.2.2 v.toNat = none ∧ jobj M w b ∧ K c s (pc + 1) lv r (jset M q v.toNat w)) := rfl
theorem xo_57 (G : jG) (mc ms : Nat) (X : Nat × (Nat → Int)) (len : Nat) (x : Int) (a b d : Nat) (K : xKt) (R : Option jV → jM → Prop) (c s pc : Nat) (lv : List (Nat × jV)) (st : List jV) (M : jM) : xo G mc ms X (57, len, x, a, b, d) K R c s pc lv st M = (jo2 st 2 (jtg len) fun q v r => jobj M q a ∧ (M.2.2.1 q.toNat).2.2.2 b = none ∧ (len = 3 → v = 0 ∨ v = 1) ∧ K c s (pc + 3) lv r (jset M q b v)) := rfl
theorem xo_58 (G : jG) (mc ms : Nat) (X : Nat × (Nat → Int)) (len : Nat) (x : Int) (a b d : Nat) (K : xKt) (R : Option jV → jM → Prop) (c s pc : Nat) (lv : List (Nat × jV)) (st : List jV) (M : jM) : xo G mc ms X (58, len, x, a, b, d) K R c s pc lv st M = (jo1 st 2 fun q r => jobj M q a ∧ K c s (pc + 3) lv (jfd (M.2.2.1 q.toNat) len b (M.2.2.2 q.toNat b) :: r) M) := rfl
theorem xo_59 (G : jG) (mc ms : Nat) (X : Nat × (Nat → Int)) (len : Nat) (x : Int) (a b d : Nat) (K : xKt) (R : Option jV → jM → Prop) (c s pc : Nat) (lv : List (Nat × jV)) (st : List jV) (M : jM) : xo G mc ms X (59, len, x, a, b, d) K R c s pc lv st M = (joc G a len b (fun r M' => K c s (pc + 3) lv r M') M (st.drop b) (st.take b).reverse) := rfl
theorem xo_60 (G : jG) (mc ms : Nat) (X : Nat × (Nat → Int)) (len : Nat) (x : Int) (a b d : Nat) (K : xKt) (R : Option jV → jM → Prop) (c s pc : Nat) (lv : List (Nat × jV)) (st : List jV) (M : jM) : xo G mc ms X (60, len, x, a, b, d) K R c s pc lv st M = (jsum (st.drop b) ≤ 8 ∧ b ≤ st.length ∧ jC G (jtm a) 0 0 M (st.take b).reverse (fun v M' => K c s (pc + 3) lv (v.toList ++ st.drop b) M')) := rfl
theorem xo_64 (G : jG) (mc ms : Nat) (X : Nat × (Nat → Int)) (len : Nat) (x : Int) (a b d : Nat) (K : xKt) (R : Option jV → jM → Prop) (c s pc : Nat) (lv : List (Nat × jV)) (st : List jV) (M : jM) : xo G mc ms X (64, len, x, a, b, d) K R c s pc lv st M = (jol (jlk lv a) fun v => v.1 = 0 ∧ 0 ≤ v.2 + x ∧ v.2 + x < (X.1 : Int) ∧ K c s (pc + len) lv ((0, X.2 (v.2 + x).toNat) :: st) M) := rfl
theorem xo_65 (G : jG) (mc ms : Nat) (X : Nat × (Nat → Int)) (len : Nat) (x : Int) (a b d : Nat) (K : xKt) (R : Option jV → jM → Prop) (c s pc : Nat) (lv : List (Nat × jV)) (st : List jV) (M : jM) : xo G mc ms X (65, len, x, a, b, d) K R c s pc lv st M = (K c s (pc + 2) lv ((0, (X.1 : Int)) :: st) M) := rfl
theorem xo_0 (G : jG) (mc ms : Nat) (X : Nat × (Nat → Int)) (len : Nat) (x : Int) (a b d : Nat) (K : xKt) (R : Option jV → jM → Prop) (c s pc : Nat) (lv : List (Nat × jV)) (st : List jV) (M : jM) : xo G mc ms X (0, len, x, a, b, d) K R c s pc lv st M = jo G (0, len, x, a, b, d) (K c s) (fun _ _ => False) pc lv st M := rfl
theorem xo_1 (G : jG) (mc ms : Nat) (X : Nat × (Nat → Int)) (len : Nat) (x : Int) (a b d : Nat) (K : xKt) (R : Option jV → jM → Prop) (c s pc : Nat) (lv : List (Nat × jV)) (st : List jV) (M : jM) : xo G mc ms X (1, len, x, a, b, d) K R c s pc lv st M = jo G (1, len, x, a, b, d) (K c s) (fun _ _ => False) pc lv st M := rfl
theorem xo_2 (G : jG) (mc ms : Nat) (X : Nat × (Nat → Int)) (len : Nat) (x : Int) (a b d : Nat) (K : xKt) (R : Option jV → jM → Prop) (c s pc : Nat) (lv : List (Nat × jV)) (st : List jV) (M : jM) : xo G mc ms X (2, len, x, a, b, d) K R c s pc lv st M = jo G (2, len, x, a, b, d) (K c s) (fun _ _ => False) pc lv st M := rfl
theorem xo_3 (G : jG) (mc ms : Nat) (X : Nat × (Nat → Int)) (len : Nat) (x : Int) (a b d : Nat) (K : xKt) (R : Option jV → jM → Prop) (c s pc : Nat) (lv : List (Nat × jV)) (st : List jV) (M : jM) : xo G mc ms X (3, len, x, a, b, d) K R c s pc lv st M = jo G (3, len, x, a, b, d) (K c s) (fun _ _ => False) pc lv st M := rfl
theorem xo_4 (G : jG) (mc ms : Nat) (X : Nat × (Nat → Int)) (len : Nat) (x : Int) (a b d : Nat) (K : xKt) (R : Option jV → jM → Prop) (c s pc : Nat) (lv : List (Nat × jV)) (st : List jV) (M : jM) : xo G mc ms X (4, len, x, a, b, d) K R c s pc lv st M = jo G (4, len, x, a, b, d) (K c s) (fun _ _ => False) pc lv st M := rfl
theorem xo_5 (G : jG) (mc ms : Nat) (X : Nat × (Nat → Int)) (len : Nat) (x : Int) (a b d : Nat) (K : xKt) (R : Option jV → jM → Prop) (c s pc : Nat) (lv : List (Nat × jV)) (st : List jV) (M : jM) : xo G mc ms X (5, len, x, a, b, d) K R c s pc lv st M = jo G (5, len, x, a, b, d) (K c s) (fun _ _ => False) pc lv st M := rfl
theorem xo_6 (G : jG) (mc ms : Nat) (X : Nat × (Nat → Int)) (len : Nat) (x : Int) (a b d : Nat) (K : xKt) (R : Option jV → jM → Prop) (c s pc : Nat) (lv : List (Nat × jV)) (st : List jV) (M : jM) : xo G mc ms X (6, len, x, a, b, d) K R c s pc lv st M = jo G (6, len, x, a, b, d) (K c s) (fun _ _ => False) pc lv st M := rfl
theorem xo_7 (G : jG) (mc ms : Nat) (X : Nat × (Nat → Int)) (len : Nat) (x : Int) (a b d : Nat) (K : xKt) (R : Option jV → jM → Prop) (c s pc : Nat) (lv : List (Nat × jV)) (st : List jV) (M : jM) : xo G mc ms X (7, len, x, a, b, d) K R c s pc lv st M = jo G (7, len, x, a, b, d) (K c s) (fun _ _ => False) pc lv st M := rfl
theorem xo_8 (G : jG) (mc ms : Nat) (X : Nat × (Nat → Int)) (len : Nat) (x : Int) (a b d : Nat) (K : xKt) (R : Option jV → jM → Prop) (c s pc : Nat) (lv : List (Nat × jV)) (st : List jV) (M : jM) : xo G mc ms X (8, len, x, a, b, d) K R c s pc lv st M = jo G (8, len, x, a, b, d) (K c s) (fun _ _ => False) pc lv st M := rfl
theorem xo_9 (G : jG) (mc ms : Nat) (X : Nat × (Nat → Int)) (len : Nat) (x : Int) (a b d : Nat) (K : xKt) (R : Option jV → jM → Prop) (c s pc : Nat) (lv : List (Nat × jV)) (st : List jV) (M : jM) : xo G mc ms X (9, len, x, a, b, d) K R c s pc lv st M = jo G (9, len, x, a, b, d) (K c s) (fun _ _ => False) pc lv st M := rfl
theorem xo_10 (G : jG) (mc ms : Nat) (X : Nat × (Nat → Int)) (len : Nat) (x : Int) (a b d : Nat) (K : xKt) (R : Option jV → jM → Prop) (c s pc : Nat) (lv : List (Nat × jV)) (st : List jV) (M : jM) : xo G mc ms X (10, len, x, a, b, d) K R c s pc lv st M = jo G (10, len, x, a, b, d) (K c s) (fun _ _ => False) pc lv st M := rfl
theorem xo_11 (G : jG) (mc ms : Nat) (X : Nat × (Nat → Int)) (len : Nat) (x : Int) (a b d : Nat) (K : xKt) (R : Option jV → jM → Prop) (c s pc : Nat) (lv : List (Nat × jV)) (st : List jV) (M : jM) : xo G mc ms X (11, len, x, a, b, d) K R c s pc lv st M = jo G (11, len, x, a, b, d) (K c s) (fun _ _ => False) pc lv st M := rfl
theorem xo_12 (G : jG) (mc ms : Nat) (X : Nat × (Nat → Int)) (len : Nat) (x : Int) (a b d : Nat) (K : xKt) (R : Option jV → jM → Prop) (c s pc : Nat) (lv : List (Nat × jV)) (st : List jV) (M : jM) : xo G mc ms X (12, len, x, a, b, d) K R c s pc lv st M = jo G (12, len, x, a, b, d) (K c s) (fun _ _ => False) pc lv st M := rfl
theorem xo_13 (G : jG) (mc ms : Nat) (X : Nat × (Nat → Int)) (len : Nat) (x : Int) (a b d : Nat) (K : xKt) (R : Option jV → jM → Prop) (c s pc : Nat) (lv : List (Nat × jV)) (st : List jV) (M : jM) : xo G mc ms X (13, len, x, a, b, d) K R c s pc lv st M = jo G (13, len, x, a, b, d) (K c s) (fun _ _ => False) pc lv st M := rfl
theorem xo_14 (G : jG) (mc ms : Nat) (X : Nat × (Nat → Int)) (len : Nat) (x : Int) (a b d : Nat) (K : xKt) (R : Option jV → jM → Prop) (c s pc : Nat) (lv : List (Nat × jV)) (st : List jV) (M : jM) : xo G mc ms X (14, len, x, a, b, d) K R c s pc lv st M = jo G (14, len, x, a, b, d) (K c s) (fun _ _ => False) pc lv st M := rfl
theorem xo_15 (G : jG) (mc ms : Nat) (X : Nat × (Nat → Int)) (len : Nat) (x : Int) (a b d : Nat) (K : xKt) (R : Option jV → jM → Prop) (c s pc : Nat) (lv : List (Nat × jV)) (st : List jV) (M : jM) : xo G mc ms X (15, len, x, a, b, d) K R c s pc lv st M = jo G (15, len, x, a, b, d) (K c s) (fun _ _ => False) pc lv st M := rfl
theorem xo_16 (G : jG) (mc ms : Nat) (X : Nat × (Nat → Int)) (len : Nat) (x : Int) (a b d : Nat) (K : xKt) (R : Option jV → jM → Prop) (c s pc : Nat) (lv : List (Nat × jV)) (st : List jV) (M : jM) : xo G mc ms X (16, len, x, a, b, d) K R c s pc lv st M = jo G (16, len, x, a, b, d) (K c s) (fun _ _ => False) pc lv st M := rfl
theorem xo_17 (G : jG) (mc ms : Nat) (X : Nat × (Nat → Int)) (len : Nat) (x : Int) (a b d : Nat) (K : xKt) (R : Option jV → jM → Prop) (c s pc : Nat) (lv : List (Nat × jV)) (st : List jV) (M : jM) : xo G mc ms X (17, len, x, a, b, d) K R c s pc lv st M = jo G (17, len, x, a, b, d) (K c s) (fun _ _ => False) pc lv st M := rfl
theorem xo_18 (G : jG) (mc ms : Nat) (X : Nat × (Nat → Int)) (len : Nat) (x : Int) (a b d : Nat) (K : xKt) (R : Option jV → jM → Prop) (c s pc : Nat) (lv : List (Nat × jV)) (st : List jV) (M : jM) : xo G mc ms X (18, len, x, a, b, d) K R c s pc lv st M = jo G (18, len, x, a, b, d) (K c s) (fun _ _ => False) pc lv st M := rfl
theorem xo_19 (G : jG) (mc ms : Nat) (X : Nat × (Nat → Int)) (len : Nat) (x : Int) (a b d : Nat) (K : xKt) (R : Option jV → jM → Prop) (c s pc : Nat) (lv : List (Nat × jV)) (st : List jV) (M : jM) : xo G mc ms X (19, len, x, a, b, d) K R c s pc lv st M = jo G (19, len, x, a, b, d) (K c s) (fun _ _ => False) pc lv st M := rfl
theorem xo_20 (G : jG) (mc ms : Nat) (X : Nat × (Nat → Int)) (len : Nat) (x : Int) (a b d : Nat) (K : xKt) (R : Option jV → jM → Prop) (c s pc : Nat) (lv : List (Nat × jV)) (st : List jV) (M : jM) : xo G mc ms X (20, len, x, a, b, d) K R c s pc lv st M = jo G (20, len, x, a, b, d) (K c s) (fun _ _ => False) pc lv st M := rfl
theorem xo_21 (G : jG) (mc ms : Nat) (X : Nat × (Nat → Int)) (len : Nat) (x : Int) (a b d : Nat) (K : xKt) (R : Option jV → jM → Prop) (c s pc : Nat) (lv : List (Nat × jV)) (st : List jV) (M : jM) : xo G mc ms X (21, len, x, a, b, d) K R c s pc lv st M = jo G (21, len, x, a, b, d) (K c s) (fun _ _ => False) pc lv st M := rfl
theorem xo_22 (G : jG) (mc ms : Nat) (X : Nat × (Nat → Int)) (len : Nat) (x : Int) (a b d : Nat) (K : xKt) (R : Option jV → jM → Prop) (c s pc : Nat) (lv : List (Nat × jV)) (st : List jV) (M : jM) : xo G mc ms X (22, len, x, a, b, d) K R c s pc lv st M = jo G (22, len, x, a, b, d) (K c s) (fun _ _ => False) pc lv st M := rfl
theorem xo_23 (G : jG) (mc ms : Nat) (X : Nat × (Nat → Int)) (len : Nat) (x : Int) (a b d : Nat) (K : xKt) (R : Option jV → jM → Prop) (c s pc : Nat) (lv : List (Nat × jV)) (st : List jV) (M : jM) : xo G mc ms X (23, len, x, a, b, d) K R c s pc lv st M = jo G (23, len, x, a, b, d) (K c s) (fun _ _ => False) pc lv st M := rfl
theorem xo_24 (G : jG) (mc ms : Nat) (X : Nat × (Nat → Int)) (len : Nat) (x : Int) (a b d : Nat) (K : xKt) (R : Option jV → jM → Prop) (c s pc : Nat) (lv : List (Nat × jV)) (st : List jV) (M : jM) : xo G mc ms X (24, len, x, a, b, d) K R c s pc lv st M = jo G (24, len, x, a, b, d) (K c s) (fun _ _ => False) pc lv st M := rfl
theorem xo_25 (G : jG) (mc ms : Nat) (X : Nat × (Nat → Int)) (len : Nat) (x : Int) (a b d : Nat) (K : xKt) (R : Option jV → jM → Prop) (c s pc : Nat) (lv : List (Nat × jV)) (st : List jV) (M : jM) : xo G mc ms X (25, len, x, a, b, d) K R c s pc lv st M = jo G (25, len, x, a, b, d) (K c s) (fun _ _ => False) pc lv st M := rfl
theorem xo_26 (G : jG) (mc ms : Nat) (X : Nat × (Nat → Int)) (len : Nat) (x : Int) (a b d : Nat) (K : xKt) (R : Option jV → jM → Prop) (c s pc : Nat) (lv : List (Nat × jV)) (st : List jV) (M : jM) : xo G mc ms X (26, len, x, a, b, d) K R c s pc lv st M = jo G (26, len, x, a, b, d) (K c s) (fun _ _ => False) pc lv st M := rfl
theorem xo_27 (G : jG) (mc ms : Nat) (X : Nat × (Nat → Int)) (len : Nat) (x : Int) (a b d : Nat) (K : xKt) (R : Option jV → jM → Prop) (c s pc : Nat) (lv : List (Nat × jV)) (st : List jV) (M : jM) : xo G mc ms X (27, len, x, a, b, d) K R c s pc lv st M = jo G (27, len, x, a, b, d) (K c s) (fun _ _ => False) pc lv st M := rfl
theorem xo_28 (G : jG) (mc ms : Nat) (X : Nat × (Nat → Int)) (len : Nat) (x : Int) (a b d : Nat) (K : xKt) (R : Option jV → jM → Prop) (c s pc : Nat) (lv : List (Nat × jV)) (st : List jV) (M : jM) : xo G mc ms X (28, len, x, a, b, d) K R c s pc lv st M = jo G (28, len, x, a, b, d) (K c s) (fun _ _ => False) pc lv st M := rfl
theorem xo_29 (G : jG) (mc ms : Nat) (X : Nat × (Nat → Int)) (len : Nat) (x : Int) (a b d : Nat) (K : xKt) (R : Option jV → jM → Prop) (c s pc : Nat) (lv : List (Nat × jV)) (st : List jV) (M : jM) : xo G mc ms X (29, len, x, a, b, d) K R c s pc lv st M = jo G (29, len, x, a, b, d) (K c s) (fun _ _ => False) pc lv st M := rfl
theorem xo_30 (G : jG) (mc ms : Nat) (X : Nat × (Nat → Int)) (len : Nat) (x : Int) (a b d : Nat) (K : xKt) (R : Option jV → jM → Prop) (c s pc : Nat) (lv : List (Nat × jV)) (st : List jV) (M : jM) : xo G mc ms X (30, len, x, a, b, d) K R c s pc lv st M = jo G (30, len, x, a, b, d) (K c s) (fun _ _ => False) pc lv st M := rfl
theorem xo_32 (G : jG) (mc ms : Nat) (X : Nat × (Nat → Int)) (len : Nat) (x : Int) (a b d : Nat) (K : xKt) (R : Option jV → jM → Prop) (c s pc : Nat) (lv : List (Nat × jV)) (st : List jV) (M : jM) : xo G mc ms X (32, len, x, a, b, d) K R c s pc lv st M = jo G (32, len, x, a, b, d) (K c s) (fun _ _ => False) pc lv st M := rfl
theorem xo_33 (G : jG) (mc ms : Nat) (X : Nat × (Nat → Int)) (len : Nat) (x : Int) (a b d : Nat) (K : xKt) (R : Option jV → jM → Prop) (c s pc : Nat) (lv : List (Nat × jV)) (st : List jV) (M : jM) : xo G mc ms X (33, len, x, a, b, d) K R c s pc lv st M = jo G (33, len, x, a, b, d) (K c s) (fun _ _ => False) pc lv st M := rfl
theorem xo_34 (G : jG) (mc ms : Nat) (X : Nat × (Nat → Int)) (len : Nat) (x : Int) (a b d : Nat) (K : xKt) (R : Option jV → jM → Prop) (c s pc : Nat) (lv : List (Nat × jV)) (st : List jV) (M : jM) : xo G mc ms X (34, len, x, a, b, d) K R c s pc lv st M = jo G (34, len, x, a, b, d) (K c s) (fun _ _ => False) pc lv st M := rfl
theorem xo_35 (G : jG) (mc ms : Nat) (X : Nat × (Nat → Int)) (len : Nat) (x : Int) (a b d : Nat) (K : xKt) (R : Option jV → jM → Prop) (c s pc : Nat) (lv : List (Nat × jV)) (st : List jV) (M : jM) : xo G mc ms X (35, len, x, a, b, d) K R c s pc lv st M = jo G (35, len, x, a, b, d) (K c s) (fun _ _ => False) pc lv st M := rfl
theorem xo_36 (G : jG) (mc ms : Nat) (X : Nat × (Nat → Int)) (len : Nat) (x : Int) (a b d : Nat) (K : xKt) (R : Option jV → jM → Prop) (c s pc : Nat) (lv : List (Nat × jV)) (st : List jV) (M : jM) : xo G mc ms X (36, len, x, a, b, d) K R c s pc lv st M = jo G (36, len, x, a, b, d) (K c s) (fun _ _ => False) pc lv st M := rfl
theorem xo_37 (G : jG) (mc ms : Nat) (X : Nat × (Nat → Int)) (len : Nat) (x : Int) (a b d : Nat) (K : xKt) (R : Option jV → jM → Prop) (c s pc : Nat) (lv : List (Nat × jV)) (st : List jV) (M : jM) : xo G mc ms X (37, len, x, a, b, d) K R c s pc lv st M = jo G (37, len, x, a, b, d) (K c s) (fun _ _ => False) pc lv st M := rfl
theorem xo_38 (G : jG) (mc ms : Nat) (X : Nat × (Nat → Int)) (len : Nat) (x : Int) (a b d : Nat) (K : xKt) (R : Option jV → jM → Prop) (c s pc : Nat) (lv : List (Nat × jV)) (st : List jV) (M : jM) : xo G mc ms X (38, len, x, a, b, d) K R c s pc lv st M = jo G (38, len, x, a, b, d) (K c s) (fun _ _ => False) pc lv st M := rfl
theorem xo_39 (G : jG) (mc ms : Nat) (X : Nat × (Nat → Int)) (len : Nat) (x : Int) (a b d : Nat) (K : xKt) (R : Option jV → jM → Prop) (c s pc : Nat) (lv : List (Nat × jV)) (st : List jV) (M : jM) : xo G mc ms X (39, len, x, a, b, d) K R c s pc lv st M = jo G (39, len, x, a, b, d) (K c s) (fun _ _ => False) pc lv st M := rfl
theorem xo_40 (G : jG) (mc ms : Nat) (X : Nat × (Nat → Int)) (len : Nat) (x : Int) (a b d : Nat) (K : xKt) (R : Option jV → jM → Prop) (c s pc : Nat) (lv : List (Nat × jV)) (st : List jV) (M : jM) : xo G mc ms X (40, len, x, a, b, d) K R c s pc lv st M = jo G (40, len, x, a, b, d) (K c s) (fun _ _ => False) pc lv st M := rfl
theorem xo_41 (G : jG) (mc ms : Nat) (X : Nat × (Nat → Int)) (len : Nat) (x : Int) (a b d : Nat) (K : xKt) (R : Option jV → jM → Prop) (c s pc : Nat) (lv : List (Nat × jV)) (st : List jV) (M : jM) : xo G mc ms X (41, len, x, a, b, d) K R c s pc lv st M = jo G (41, len, x, a, b, d) (K c s) (fun _ _ => False) pc lv st M := rfl
theorem xo_42 (G : jG) (mc ms : Nat) (X : Nat × (Nat → Int)) (len : Nat) (x : Int) (a b d : Nat) (K : xKt) (R : Option jV → jM → Prop) (c s pc : Nat) (lv : List (Nat × jV)) (st : List jV) (M : jM) : xo G mc ms X (42, len, x, a, b, d) K R c s pc lv st M = jo G (42, len, x, a, b, d) (K c s) (fun _ _ => False) pc lv st M := rfl
theorem xo_43 (G : jG) (mc ms : Nat) (X : Nat × (Nat → Int)) (len : Nat) (x : Int) (a b d : Nat) (K : xKt) (R : Option jV → jM → Prop) (c s pc : Nat) (lv : List (Nat × jV)) (st : List jV) (M : jM) : xo G mc ms X (43, len, x, a, b, d) K R c s pc lv st M = jo G (43, len, x, a, b, d) (K c s) (fun _ _ => False) pc lv st M := rfl
theorem xo_31v (G : jG) (mc ms : Nat) (X : Nat × (Nat → Int)) (len : Nat) (x : Int) (b d : Nat) (K : xKt) (R : Option jV → jM → Prop) (c s pc : Nat) (lv : List (Nat × jV)) (M : jM) : xo G mc ms X (31, len, x, 4, b, d) K R c s pc lv [] M = R none M := by simp [xo]
theorem xo_31z (G : jG) (mc ms : Nat) (X : Nat × (Nat → Int)) (len : Nat) (x : Int) (b d : Nat) (K : xKt) (R : Option jV → jM → Prop) (c s pc : Nat) (lv : List (Nat × jV)) (M : jM) (v : jV) : xo G mc ms X (31, len, x, 3, b, d) K R c s pc lv [v] M = (v.1 = 0 ∧ R (some v) M) := by simp [xo, jtg]
/-- a table of a constructor's code -/
def xchk (xs : Nat → jE → Bool) (w : Bool) (o : Nat) (i : jI) : Nat → List (Option jE) → Bool
  | _, [] => true
  | pc, z :: r => (match z with | some e => xok xs w o i pc e | none => true) && xchk xs w o i (pc + 1) r
theorem xchk_at {xs : Nat → jE → Bool} {w : Bool} {o : Nat} {i : jI} : ∀ {t : List (Option jE)} {p : Nat}, xchk xs w o i p t = true → ∀ (n : Nat) (e : jE), t.getD n none = some e → xok xs w o i (p + n) e = true
  | [], _, _, n, e, h => by simp at h
  | z :: r, p, hc, 0, e, h => by
    simp at h
    subst h
    exact (jand hc).1
  | z :: r, p, hc, n + 1, e, h => by
    have := xchk_at (p := p + 1) (jand hc).2 n e (by simpa using h)
    rw [show p + (n + 1) = p + 1 + n by omega]
    exact this
def xchks (xs : Nat → jE → Bool) (w : Bool) (o : Nat) (i : jI) : Nat → List (List (Option jE)) → Bool
  | _, [] => true
  | p, r :: t => xchk xs w o i p r && xchks xs w o i (p + 16) t
theorem xchks_at {xs : Nat → jE → Bool} {w : Bool} {o : Nat} {i : jI} : ∀ {t : List (List (Option jE))} {p : Nat}, xchks xs w o i p t = true → ∀ (n m : Nat) (e : jE), (t.getD n []).getD m none = some e → xok xs w o i (p + 16 * n + m) e = true
  | [], _, _, n, m, e, h => by simp at h
  | r :: t, p, hc, 0, m, e, h => xchk_at (jand hc).1 m e (by simpa using h)
  | r :: t, p, hc, n + 1, m, e, h => by
    have := xchks_at (p := p + 16) (jand hc).2 n m e (by simpa using h)
    rw [show p + 16 * (n + 1) + m = p + 16 + 16 * n + m by omega]
    exact this
theorem xfok_of {xs : Nat → jE → Bool} {w : Bool} {i : jI} {t : List (List (Option jE))} (o : Nat) (h9 : o ≠ 99) (hi : i.1.cls = jcn o) (h : xchks xs w o i 0 t = true) : xfok xs w i (jget t) := ⟨o, ⟨h9, hi⟩, fun pc e he => by
  have := xchks_at h (pc / 16) (pc % 16) e he
  rwa [Nat.zero_add, Nat.div_add_mod] at this⟩
/-- a constructor's own end -/
def iS (i : jI) (pc : Nat) (e : jE) : Bool := decide (e.1 = 31) && decide (e.2.2.2.1 = 4) && decide (decode i.2.1 pc = .ok (.return_, 1)) && decide (i.2.2.2.1 = none)
theorem iH {G : jG} {i : jI} {mc ms : Nat} {P : jM → Prop} : xH G i mc ms iP (zmQ G (fun r M' => r = none ∧ P M') mc ms) (0, fun _ => 0) (fun r M' => r = none ∧ P M') (iS i) false := by
  refine ⟨fun _ _ _ _ _ _ h => h.2, fun _ _ _ _ _ _ _ h => h.1, fun n _ q hq => absurd hq List.not_mem_nil, fun e pc c0 s0 lv st M _ hx hc hs h => ?_⟩
  obtain ⟨op, len, x, a, b, d⟩ := e
  obtain ⟨hx, g4⟩ := jand hx
  obtain ⟨hx, g3⟩ := jand hx
  obtain ⟨g1, g2⟩ := jand hx
  have k1 : op = 31 := of_decide_eq_true g1
  have k2 : a = 4 := of_decide_eq_true g2
  subst k1
  subst k2
  dsimp only [xo] at h
  obtain ⟨h1, h2, h3⟩ := h
  subst h1
  exact zr_vret (of_decide_eq_true g3) (of_decide_eq_true g4) hc hs h3
theorem iCw {G : jG} {i : jI} {mc ms : Nat} {M : jM} {av : List jV} {P : jM → Prop} {f : Nat → Option jE} (hf : xfok (iS i) false i f) (hy : plainName i.1.cls = true) (hnm : i.1.name = "<init>") (stop : Nat → Bool) (n : Nat) (hn : jsum av ≤ i.2.2.1) (h : xwx G mc ms (0, fun _ => 0) (f 0) (xwp G mc ms (0, fun _ => 0) f stop (zJ G i mc ms iP (zmQ G (fun r M' => r = none ∧ P M') mc ms)) (fun r M' => r = none ∧ P M') n) (fun r M' => r = none ∧ P M') 0 0 0 (jargs 0 av) [] M) : iC G i mc ms M av P :=
  iC_of hy hnm hn (xJw hf iH stop n (Nat.zero_le _) (Nat.zero_le _) h)
theorem iJw {G : jG} {i : jI} {mc ms : Nat} {M : jM} {lv : List (Nat × jV)} {st : List jV} {P : jM → Prop} {f : Nat → Option jE} (hf : xfok (iS i) false i f) (stop : Nat → Bool) (n : Nat) {c s pc : Nat} (hc : c ≤ mc) (hs : s ≤ ms) (h : xwx G mc ms (0, fun _ => 0) (f pc) (xwp G mc ms (0, fun _ => 0) f stop (zJ G i mc ms iP (zmQ G (fun r M' => r = none ∧ P M') mc ms)) (fun r M' => r = none ∧ P M') n) (fun r M' => r = none ∧ P M') c s pc lv st M) : zJ G i mc ms iP (zmQ G (fun r M' => r = none ∧ P M') mc ms) c s pc lv st M :=
  xJw hf iH stop n hc hs h

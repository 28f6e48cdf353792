/-! What an instruction of a constructor, or of the law, asks (xo); rows beyond those of jo: 50 new, 51 newarray, 52 anewarray, 53 a constructor called, 54 Object's, 55 a final field, 56 into a row of references, 57 a field, 58 a field read, 59 a method called, 60 a static one, 64 an int of the script, 65 the script's length. -/
abbrev xKt : Type := Nat → Nat → jKt
/-- cells and slots that a constructor makes -/
def zcs (n : Nat) : Nat × Nat := match n with
  | 0 => (1236, 17410)
  | 1 => (147, 752)
  | 2 => (3, 72)
  | 5 => (5, 20)
  | 7 => (1, 11)
  | 8 => (60, 322)
  | 9 => (0, 0)
  | 10 => (432, 6825)
  | 11 => (6, 100)
  | 12 => (2, 48)
  | 13 => (4, 666)
  | 14 => (4, 254)
  | _ => (20, 16329)
def xoi (G : jG) (mc ms a : Nat) (K : Nat → Nat → List jV → jM → Prop) (c s b : Nat) (M : jM) (l as : List jV) : Prop := match l with
  | q :: r => q.1 = 2 ∧ 0 ≤ q.2 ∧ jsum r ≤ 8 ∧ b ≤ as.length ∧ c + (zcs a).1 ≤ mc ∧ s + (zcs a).2 ≤ ms ∧ iC G (jtm a) (zcs a).1 (zcs a).2 M (q :: as) (fun M' => K (c + (zcs a).1) (s + (zcs a).2) r M')
  | [] => False
def xo (G : jG) (mc ms : Nat) (X : Nat × (Nat → Int)) (e : jE) (K : xKt) (R : Option jV → jM → Prop) (c s pc : Nat) (lv : List (Nat × jV)) (st : List jV) (M : jM) : Prop := match e with
  | (op, len, x, a, b, d) => match op with
    | 50 => M.1 = M.2.1 ∧ c + 1 ≤ mc ∧ s + len ≤ ms ∧ K (c + 1) (s + len) (pc + 3) lv ((2, (M.2.1 : Int)) :: st) (jnw M (0, a, 0, jno) (jdf a))
    | 51 => jo1 st 0 fun v r => 0 ≤ v ∧ v ≤ 100000 ∧ M.1 = M.2.1 ∧ c + 1 ≤ mc ∧ s + v.toNat ≤ ms ∧ K (c + 1) (s + v.toNat) (pc + 2) lv ((2, (M.2.1 : Int)) :: r) (jnw M (a, 0, v.toNat, jno) (fun _ => 0))
    | 52 => jo1 st 0 fun v r => 0 ≤ v ∧ v ≤ 100000 ∧ M.1 = M.2.1 ∧ c + 1 ≤ mc ∧ s + v.toNat ≤ ms ∧ K (c + 1) (s + v.toNat) (pc + 3) lv ((2, (M.2.1 : Int)) :: r) (jnw M (a, 0, v.toNat, jno) (fun _ => -1))
    | 53 => xoi G mc ms a (fun c' s' r M' => K c' s' (pc + 3) lv r M') c s b M (st.drop b) (st.take b).reverse
    | 54 => jo1 st 2 fun q r => 0 ≤ q ∧ jsum r ≤ 8 ∧ K c s (pc + 3) lv r M
    | 55 => jo2 st 2 (jtg len) fun q v r => jobj M q a ∧ (M.2.2.1 q.toNat).2.2.2 b = none ∧ (len = 3 → v = 0 ∨ v = 1) ∧ K c s (pc + 3) lv r (jset M q b v)
    | 56 => jo3 st 2 0 2 fun q v w r => jarr M q v a ∧ (M.2.2.1 q.toNat).2.2.2 v.toNat = none ∧ jobj M w b ∧ K c s (pc + 1) lv r (jset M q v.toNat w)
    | 57 => jo2 st 2 (jtg len) fun q v r => jobj M q a ∧ (M.2.2.1 q.toNat).2.2.2 b = none ∧ (len = 3 → v = 0 ∨ v = 1) ∧ K c s (pc + 3) lv r (jset M q b v)
    | 58 => jo1 st 2 fun q r => jobj M q a ∧ K c s (pc + 3) lv (jfd (M.2.2.1 q.toNat) len b (M.2.2.2 q.toNat b) :: r) M
    | 59 => joc G a len b (fun r M' => K c s (pc + 3) lv r M') M (st.drop b) (st.take b).reverse
    | 60 => jsum (st.drop b) ≤ 8 ∧ b ≤ st.length ∧ jC G (jtm a) 0 0 M (st.take b).reverse (fun v M' => K c s (pc + 3) lv (v.toList ++ st.drop b) M')
    | 64 => jol (jlk lv a) fun v => v.1 = 0 ∧ 0 ≤ v.2 + x ∧ v.2 + x < (X.1 : Int) ∧ K c s (pc + len) lv ((0, X.2 (v.2 + x).toNat) :: st) M
    | 65 => K c s (pc + 2) lv ((0, (X.1 : Int)) :: st) M
    | 31 => match a with
      | 4 => st = [] ∧ R none M
      | _ => match st with
        | [v] => v.1 = jtg a ∧ R (some v) M
        | _ => False
    | _ => jo G e (K c s) (fun _ _ => False) pc lv st M
def xpl (n : Nat) : Nat × Nat × Nat := match n with
  | 0 => (1029, 1001, 1028)
  | 1 => (1037, 1002, 1036)
  | 2 => (1043, 1003, 1042)
  | 5 => (1087, 1004, 1086)
  | 7 => (1238, 1005, 1237)
  | 8 => (2102, 1010, 2101)
  | 9 => (2109, 1011, 2108)
  | 10 => (2163, 1012, 2162)
  | 11 => (2170, 1013, 2169)
  | 12 => (2176, 1014, 2175)
  | 13 => (3055, 1015, 3054)
  | 14 => (3085, 1016, 3084)
  | 155 => (6137, 1017, 6136)
  | _ => (0, 0, 0)
def xni (n : Nat) : Nat × Nat := match n with
  | 0 => (1084, 1004)
  | 1 => (2160, 1012)
  | 2 => (2099, 1010)
  | 3 => (1034, 1002)
  | 4 => (1040, 1003)
  | 5 => (2167, 1013)
  | 6 => (2106, 1011)
  | 7 => (1235, 1005)
  | 8 => (2173, 1014)
  | 9 => (3082, 1016)
  | 10 => (3052, 1015)
  | 11 => (1026, 1001)
  | 12 => (6134, 1017)
  | _ => (0, 0)
def xfl (i : jI) (x : Int) (a b d len : Nat) (fin : Bool) : Bool := match vwCl[a]? with
  | some r => jat d (.fieldLink i.1.cls x.toNat (r.2.1 b).1 (r.2.1 b).2.1 (r.2.1 b).2.2.1) && decide ((r.2.1 b).2.2.2 = fin) && (!fin || decide ((r.2.1 b).1 = i.1.cls)) && decide ((jtf a)[b]? = some len) && decide (len ≤ 3)
  | none => false
def xok (xs : Nat → jE → Bool) (w : Bool) (o : Nat) (i : jI) (pc : Nat) (e : jE) : Bool := match e with
  | (op, len, x, a, b, d) => match op with
    | 50 => match vwCl[a]? with
      | some r => decide (decode i.2.1 pc = .ok (.new x.toNat, 3)) && jat d (.classLink i.1.cls x.toNat r.1) && decide (r.2.2 = len) && jat (xni a).1 (.instantiable r.1 r.2.2) && jat (xni a).2 (.initialized r.1) && (jtf a).all (fun t => decide (t ≤ 3))
      | none => false
    | 51 => decide (decode i.2.1 pc = .ok (.newarray (zat a), 2)) && decide (1 ≤ a ∧ a ≤ 4) && jat d (.arrayClass (newarray.typeOf (zat a)))
    | 52 => decide (decode i.2.1 pc = .ok (.anewarray x.toNat, 3)) && decide (5 ≤ a ∧ a ≤ 7) && jat d (.classLink i.1.cls x.toNat (zcn a))
    | 53 => decide (decode i.2.1 pc = .ok (.invokespecial x.toNat, 3)) && jat d (.methodLink i.1.cls x.toNat (jtm a).1) && jroom i a && jat (xpl a).1 (.code (jtm a).1 (jtm a).2.1 (jtm a).2.2.1 (jtm a).2.2.2.1) && jat (xpl a).2.1 (.initialized (jtm a).1.cls) && jat (xpl a).2.2 (.instanceMethod (jtm a).1) && decide ((jtm a).1.cls ≠ "java/lang/invoke/MethodHandle" ∧ (jtm a).1.cls ≠ "java/lang/invoke/VarHandle" ∧ (parseMethodDescriptor (jtm a).1.desc).map (fun d => d.parameters.length) = some b) && decide ((jtm a).2.2.2.1 = none) && decide ((jtm a).1.name = "<init>")
    | 54 => decide (decode i.2.1 pc = .ok (.invokespecial x.toNat, 3)) && jat d (.methodLink i.1.cls x.toNat objectInit) && jat 1031 (.instanceMethod objectInit) && jat 1032 (.code objectInit ⟨#[0xb1]⟩ 1 none) && decide (1 ≤ i.2.2.2.2.1 ∧ 20 ≤ i.2.2.2.2.2)
    | 55 => decide (decode i.2.1 pc = .ok (.putfield x.toNat, 3)) && xfl i x a b d len true && !w
    | 56 => decide (decode i.2.1 pc = .ok (.aastore, 1)) && decide ((a, b) = (5, 0) ∨ (a, b) = (6, 5) ∨ (a, b) = (7, 6))
    | 57 => decide (decode i.2.1 pc = .ok (.putfield x.toNat, 3)) && xfl i x a b d len false
    | 58 => decide (decode i.2.1 pc = .ok (.getfield x.toNat, 3)) && (xfl i x a b d len true || xfl i x a b d len false)
    | 59 => decide (decode i.2.1 pc = .ok (.invokevirtual x.toNat, 3)) && jat d (.methodLink i.1.cls x.toNat (jtm a).1) && jroom i a && decide ((jmf a).1 = a ∧ (jtp a).2 = (0, b) ∧ (jtp a).1 = len)
    | 60 => decide (decode i.2.1 pc = .ok (.invokestatic x.toNat, 3)) && jat d (.methodLink i.1.cls x.toNat (jtm a).1) && jroom i a && decide ((jmf a).1 = a ∧ (jtp a).2 = (1, b))
    | 64 => xs pc e
    | 65 => xs pc e
    | 31 => xs pc e
    | _ => jok o i pc e && (match zst e with | some n => !w || decide (0 < n) | none => true)
theorem xfl_ok {i : jI} {x : Int} {a b d len : Nat} {fin : Bool} (h : xfl i x a b d len fin = true) : ∃ r, vwCl[a]? = some r ∧ Cond.fieldLink i.1.cls x.toNat (r.2.1 b).1 (r.2.1 b).2.1 (r.2.1 b).2.2.1 ∈ jtbl ∧ (r.2.1 b).2.2.2 = fin ∧ (fin = true → (r.2.1 b).1 = i.1.cls) ∧ (jtf a)[b]? = some len ∧ len ≤ 3 := by
  unfold xfl at h
  cases hr : vwCl[a]? with
  | none => rw [hr] at h; cases h
  | some r =>
    rw [hr] at h
    obtain ⟨h, h5⟩ := jand h
    obtain ⟨h, h4⟩ := jand h
    obtain ⟨h, h3⟩ := jand h
    obtain ⟨h1, h2⟩ := jand h
    refine ⟨r, rfl, jat_mem h1, of_decide_eq_true h2, fun w => ?_, of_decide_eq_true h4, of_decide_eq_true h5⟩
    rw [w] at h3
    simpa using h3
section
variable {G : jG} {i : jI} {mc ms : Nat} {Φ : zP} {Q : zQ} {X : Nat × (Nat → Int)} {R : Option jV → jM → Prop} {c0 s0 pc o : Nat} {lv : List (Nat × jV)} {st : List jV} {M : jM} {xs : Nat → jE → Bool} {w : Bool}
/-- what the method's own facts must give -/
def xH (G : jG) (i : jI) (mc ms : Nat) (Φ : zP) (Q : zQ) (X : Nat × (Nat → Int)) (R : Option jV → jM → Prop) (xs : Nat → jE → Bool) (w : Bool) : Prop :=
  (∀ p s m args meth c, Φ.1 p s m args meth c → iA s) ∧ (w = false → ∀ p s m args meth c, Φ.1 p s m args meth c → meth.name = "<init>") ∧ (∀ n, (w = true → 0 < n) → zE Φ.2 n) ∧
  ∀ (e : jE) (pc c0 s0 : Nat) (lv : List (Nat × jV)) (st : List jV) (M : jM), (e.1 = 31 ∨ e.1 = 64 ∨ e.1 = 65) → xs pc e = true → c0 ≤ mc → s0 ≤ ms → xo G mc ms X e (zJ G i mc ms Φ Q) R c0 s0 pc lv st M → zJ G i mc ms Φ Q c0 s0 pc lv st M
theorem xs_new {len a b d : Nat} {x : Int} (hok : xok xs w o i pc (50, len, x, a, b, d) = true) (h : xo G mc ms X (50, len, x, a, b, d) (zJ G i mc ms Φ Q) R c0 s0 pc lv st M) : zJ G i mc ms Φ Q c0 s0 pc lv st M := by
  dsimp only [xo] at h
  dsimp only [xok] at hok
  cases hr : vwCl[a]? with
  | none => rw [hr] at hok; cases hok
  | some r =>
    rw [hr] at hok
    obtain ⟨hok, g6⟩ := jand hok
    obtain ⟨hok, g5⟩ := jand hok
    obtain ⟨hok, g4⟩ := jand hok
    obtain ⟨hok, g3⟩ := jand hok
    obtain ⟨g1, g2⟩ := jand hok
    have g3 := of_decide_eq_true g3
    subst g3
    exact zr_new hr (fun t ht => of_decide_eq_true (List.all_eq_true.mp g6 t ht)) (jcls_all a r hr) (jat_mem g2) (jat_mem g4) (jat_mem g5) (of_decide_eq_true g1) h.1 h.2.1 h.2.2.1 h.2.2.2
theorem xs_init {len a b d : Nat} {x : Int} (hH : xH G i mc ms Φ Q X R xs w) (hok : xok xs w o i pc (53, len, x, a, b, d) = true) (h : xo G mc ms X (53, len, x, a, b, d) (zJ G i mc ms Φ Q) R c0 s0 pc lv st M) : zJ G i mc ms Φ Q c0 s0 pc lv st M := by
  dsimp only [xo] at h
  dsimp only [xok] at hok
  obtain ⟨hok, g9⟩ := jand hok
  obtain ⟨hok, g8⟩ := jand hok
  obtain ⟨hok, g7⟩ := jand hok
  obtain ⟨hok, g6⟩ := jand hok
  obtain ⟨hok, g5⟩ := jand hok
  obtain ⟨hok, g4⟩ := jand hok
  obtain ⟨hok, g3⟩ := jand hok
  obtain ⟨g1, g2⟩ := jand hok
  unfold xoi at h
  cases hq : st.drop b with
  | nil => rw [hq] at h; exact h.elim
  | cons q r =>
    rw [hq] at h
    obtain ⟨t, z⟩ := q
    obtain ⟨h1, h2, h3, h4, h5, h6, h7⟩ := h
    have h1 : t = 2 := h1
    subst h1
    have e1 : st = (st.take b) ++ (2, z) :: r := by rw [← hq, List.take_append_drop]
    have hlen : (st.take b).reverse.length = b := by
      have := h4
      rw [List.length_reverse] at this ⊢
      have := List.length_take_le b st
      omega
    have e2 : st = ((st.take b).reverse).reverse ++ (2, z) :: r := by rw [List.reverse_reverse]; exact e1
    rw [e2]
    have g3' := jand g3
    exact zr_init (as := (st.take b).reverse) (i' := jtm a) ⟨jat_mem g4, jat_mem g5, by rw [hlen]; exact of_decide_eq_true g7, of_decide_eq_true g3'.1, of_decide_eq_true g3'.2⟩ (of_decide_eq_true g8) (of_decide_eq_true g9) (jat_mem g2) (jat_mem g6) (of_decide_eq_true g1) h3 h2 h5 h6 hH.1 h7
theorem xs_callV {len a b d : Nat} {x : Int} (hc : c0 ≤ mc) (hs : s0 ≤ ms) (hok : xok xs w o i pc (59, len, x, a, b, d) = true) (h : xo G mc ms X (59, len, x, a, b, d) (zJ G i mc ms Φ Q) R c0 s0 pc lv st M) : zJ G i mc ms Φ Q c0 s0 pc lv st M := by
  dsimp only [xo] at h
  dsimp only [xok] at hok
  obtain ⟨hok, hb⟩ := jand hok
  obtain ⟨hok, hr⟩ := jand hok
  obtain ⟨hd, hl⟩ := jand hok
  have hb := of_decide_eq_true hb
  obtain ⟨m0, m1⟩ := jmf_ok a _ _ ⟨hb.1, hb.2.1⟩ (by decide)
  rw [hb.2.2] at m1
  obtain ⟨m1, m2, u, hu, m3⟩ := m1.1 rfl
  have hl := jat_mem hl
  unfold joc at h
  cases hq : st.drop b with
  | nil => rw [hq] at h; exact h.elim
  | cons q r =>
    rw [hq] at h
    obtain ⟨t, z⟩ := q
    obtain ⟨h1, h2, h3, h4, h5⟩ := h
    have h1 : t = 2 := h1
    subst h1
    have e1 : st = (st.take b).reverse.reverse ++ (2, z) :: r := by rw [List.reverse_reverse, ← hq, List.take_append_drop]
    have e2 : (st.take b).reverse.length = b := by
      have := h4
      rw [List.length_reverse] at this ⊢
      have := List.length_take_le b st
      omega
    obtain ⟨⟨g0, gN⟩, gL, gci⟩ := h2
    rw [e1]
    exact zr_callV (mc' := 0) (ms' := 0) hu m3 (e2.symm ▸ ⟨m0.1, m0.2.1, m0.2.2, of_decide_eq_true (jand hr).1, of_decide_eq_true (jand hr).2⟩) hl m1 m2 (of_decide_eq_true hd) h3 g0 gN gL gci hc hs h5
theorem xs_callS {len a b d : Nat} {x : Int} (hc : c0 ≤ mc) (hs : s0 ≤ ms) (hok : xok xs w o i pc (60, len, x, a, b, d) = true) (h : xo G mc ms X (60, len, x, a, b, d) (zJ G i mc ms Φ Q) R c0 s0 pc lv st M) : zJ G i mc ms Φ Q c0 s0 pc lv st M := by
  dsimp only [xo] at h
  dsimp only [xok] at hok
  obtain ⟨hok, hb⟩ := jand hok
  obtain ⟨hok, hr⟩ := jand hok
  obtain ⟨hd, hl⟩ := jand hok
  obtain ⟨m0, m1⟩ := jmf_ok a _ _ (of_decide_eq_true hb) (by decide)
  have m1 := m1.2 rfl
  have hl := jat_mem hl
  obtain ⟨h8, hlen, k⟩ := h
  have e1 : st = (st.take b).reverse.reverse ++ st.drop b := by rw [List.reverse_reverse, List.take_append_drop]
  have e2 : (st.take b).reverse.length = b := by simp; omega
  rw [e1]
  exact zr_callS (mc' := 0) (ms' := 0) (e2.symm ▸ ⟨m0.1, m0.2.1, m0.2.2, of_decide_eq_true (jand hr).1, of_decide_eq_true (jand hr).2⟩) hl m1 (of_decide_eq_true hd) h8 hc hs k
theorem xs_put {len a b d : Nat} {x : Int} (hok : xok xs w o i pc (57, len, x, a, b, d) = true) (h : xo G mc ms X (57, len, x, a, b, d) (zJ G i mc ms Φ Q) R c0 s0 pc lv st M) : zJ G i mc ms Φ Q c0 s0 pc lv st M := by
  dsimp only [xo] at h
  dsimp only [xok] at hok
  obtain ⟨g1, g2⟩ := jand hok
  obtain ⟨r, hr, f1, f2, -, f4, f5⟩ := xfl_ok g2
  obtain ⟨q, v, st', rfl, ⟨⟨j0, jN⟩, jL, jci⟩, h2, h3, k⟩ := jo2_inv h
  exact zr_put hr (jcls_all a r hr) f4 f2 f1 (of_decide_eq_true g1) j0 jN jL jci h2 h3 f5 k
theorem xs_putF {len a b d : Nat} {x : Int} (hH : xH G i mc ms Φ Q X R xs w) (hok : xok xs w o i pc (55, len, x, a, b, d) = true) (h : xo G mc ms X (55, len, x, a, b, d) (zJ G i mc ms Φ Q) R c0 s0 pc lv st M) : zJ G i mc ms Φ Q c0 s0 pc lv st M := by
  dsimp only [xo] at h
  dsimp only [xok] at hok
  obtain ⟨hok, g3⟩ := jand hok
  obtain ⟨g1, g2⟩ := jand hok
  obtain ⟨r, hr, f1, f2, f3, f4, f5⟩ := xfl_ok g2
  obtain ⟨q, v, st', rfl, ⟨⟨j0, jN⟩, jL, jci⟩, h2, h3, k⟩ := jo2_inv h
  have hw : w = false := by simpa using g3
  exact zr_putF hr (jcls_all a r hr) f4 f2 (f3 rfl) f1 (of_decide_eq_true g1) (hH.2.1 hw) j0 jN jL jci h2 h3 f5 k
theorem xs_get {len a b d : Nat} {x : Int} (hok : xok xs w o i pc (58, len, x, a, b, d) = true) (h : xo G mc ms X (58, len, x, a, b, d) (zJ G i mc ms Φ Q) R c0 s0 pc lv st M) : zJ G i mc ms Φ Q c0 s0 pc lv st M := by
  dsimp only [xo] at h
  dsimp only [xok] at hok
  obtain ⟨g1, g2⟩ := jand hok
  have : ∃ r, vwCl[a]? = some r ∧ Cond.fieldLink i.1.cls x.toNat (r.2.1 b).1 (r.2.1 b).2.1 (r.2.1 b).2.2.1 ∈ jtbl ∧ (jtf a)[b]? = some len := by
    rcases Bool.or_eq_true_iff.mp g2 with g | g
    · obtain ⟨r, hr, f1, f2, f3, f4, f5⟩ := xfl_ok g
      exact ⟨r, hr, f1, f4⟩
    · obtain ⟨r, hr, f1, f2, f3, f4, f5⟩ := xfl_ok g
      exact ⟨r, hr, f1, f4⟩
  obtain ⟨r, hr, f1, f4⟩ := this
  obtain ⟨q, st', rfl, ⟨⟨j0, jN⟩, jL, jci⟩, k⟩ := jo1_inv h
  exact zr_get hr (jcls_all a r hr) f4 f1 (of_decide_eq_true g1) j0 jN jL jci k
theorem xs_aast {len a b d : Nat} {x : Int} (hok : xok xs w o i pc (56, len, x, a, b, d) = true) (h : xo G mc ms X (56, len, x, a, b, d) (zJ G i mc ms Φ Q) R c0 s0 pc lv st M) : zJ G i mc ms Φ Q c0 s0 pc lv st M := by
  dsimp only [xo] at h
  dsimp only [xok] at hok
  obtain ⟨g1, g2⟩ := jand hok
  obtain ⟨q, v, u, st', rfl, ⟨⟨j0, jN⟩, jL, jx, jx2, jn⟩, h2, ⟨⟨y0, yN⟩, yL, yci⟩, k⟩ := jo3_inv h
  have g2 := of_decide_eq_true g2
  rcases g2 with g | g | g <;> cases g
  · exact zr_aast (n := 0) (r := (RX0, TX0, 6)) rfl rfl (of_decide_eq_true g1) j0 jN jL jx jx2 jn h2 y0 yN yL yci k
  · exact zr_aast (n := 1) (r := (RX5, TX5, 10)) rfl rfl (of_decide_eq_true g1) j0 jN jL jx jx2 jn h2 y0 yN yL yci k
  · exact zr_aast (n := 2) (r := (RX6, TX6, 2)) rfl rfl (of_decide_eq_true g1) j0 jN jL jx jx2 jn h2 y0 yN yL yci k
theorem jo31_F {len a b d : Nat} {x : Int} {K : jKt} (h : jo G (31, len, x, a, b, d) K (fun _ _ => False) pc lv st M) : False := by
  match a, st, h with
  | 4, _, h => exact h.2
  | 0, [], h => exact h
  | 0, [_], h => exact h.2.2.2
  | 0, _ :: _ :: _, h => exact h
  | 1, [], h => exact h
  | 1, [_], h => exact h.2.2.2
  | 1, _ :: _ :: _, h => exact h
  | 2, [], h => exact h
  | 2, [_], h => exact h.2.2.2
  | 2, _ :: _ :: _, h => exact h
  | 3, [], h => exact h
  | 3, [_], h => exact h.2.2.2
  | 3, _ :: _ :: _, h => exact h
  | _ + 5, [], h => exact h
  | _ + 5, [_], h => exact h.2.2.2
  | _ + 5, _ :: _ :: _, h => exact h
theorem xo_sound {e : jE} (h99 : o ≠ 99) (hi : i.1.cls = jcn o) (hc : c0 ≤ mc) (hs : s0 ≤ ms) (hH : xH G i mc ms Φ Q X R xs w) (hok : xok xs w o i pc e = true) (h : xo G mc ms X e (zJ G i mc ms Φ Q) R c0 s0 pc lv st M) : zJ G i mc ms Φ Q c0 s0 pc lv st M := by
  obtain ⟨op, len, x, a, b, d⟩ := e
  by_cases c31 : op = 31
  · subst c31; exact hH.2.2.2 _ _ _ _ _ _ _ (Or.inl rfl) hok hc hs h
  by_cases c64 : op = 64
  · subst c64; exact hH.2.2.2 _ _ _ _ _ _ _ (Or.inr (Or.inl rfl)) hok hc hs h
  by_cases c65 : op = 65
  · subst c65; exact hH.2.2.2 _ _ _ _ _ _ _ (Or.inr (Or.inr rfl)) hok hc hs h
  by_cases c50 : op = 50
  · subst c50; exact xs_new hok h
  by_cases c51 : op = 51
  · subst c51
    dsimp only [xo] at h
    dsimp only [xok] at hok
    obtain ⟨hok, g3⟩ := jand hok
    obtain ⟨g1, g2⟩ := jand hok
    obtain ⟨v, r, rfl, h0, h1, h2, h3, h4, k⟩ := jo1_inv h
    exact zr_newa (of_decide_eq_true g2) (jat_mem g3) (of_decide_eq_true g1) (by omega) (by omega) h2 h3 h4 k
  by_cases c52 : op = 52
  · subst c52
    dsimp only [xo] at h
    dsimp only [xok] at hok
    obtain ⟨hok, g3⟩ := jand hok
    obtain ⟨g1, g2⟩ := jand hok
    obtain ⟨v, r, rfl, h0, h1, h2, h3, h4, k⟩ := jo1_inv h
    exact zr_newq (of_decide_eq_true g2) (jat_mem g3) (of_decide_eq_true g1) (by omega) (by omega) h2 h3 h4 hH.1 k
  by_cases c53 : op = 53
  · subst c53; exact xs_init hH hok h
  by_cases c54 : op = 54
  · subst c54
    dsimp only [xo] at h
    dsimp only [xok] at hok
    obtain ⟨hok, g5⟩ := jand hok
    obtain ⟨hok, g4⟩ := jand hok
    obtain ⟨hok, g3⟩ := jand hok
    obtain ⟨g1, g2⟩ := jand hok
    obtain ⟨q, r, rfl, h0, h1, k⟩ := jo1_inv h
    have g5 := of_decide_eq_true g5
    exact zr_obj (jat_mem g2) (jat_mem g3) (jat_mem g4) (of_decide_eq_true g1) h0 h1 g5.1 g5.2 k
  by_cases c55 : op = 55
  · subst c55; exact xs_putF hH hok h
  by_cases c56 : op = 56
  · subst c56; exact xs_aast hok h
  by_cases c57 : op = 57
  · subst c57; exact xs_put hok h
  by_cases c58 : op = 58
  · subst c58; exact xs_get hok h
  by_cases c59 : op = 59
  · subst c59; exact xs_callV hc hs hok h
  by_cases c60 : op = 60
  · subst c60; exact xs_callS hc hs hok h
  have eo : xo G mc ms X (op, len, x, a, b, d) (zJ G i mc ms Φ Q) R c0 s0 pc lv st M = jo G (op, len, x, a, b, d) (zJ G i mc ms Φ Q c0 s0) (fun _ _ => False) pc lv st M := by
    unfold xo
    dsimp only
    split <;> first | rfl | omega
  have ek : xok xs w o i pc (op, len, x, a, b, d) = (jok o i pc (op, len, x, a, b, d) && (match zst (op, len, x, a, b, d) with | some n => !w || decide (0 < n) | none => true)) := by
    unfold xok
    dsimp only
    split <;> first | rfl | omega
  rw [eo] at h
  rw [ek] at hok
  obtain ⟨k1, k2⟩ := jand hok
  refine zo_sound h99 hi hc hs (fun n hn => hH.2.2.1 n (fun hw => ?_)) (fun e' h31 _ h' => ?_) k1 h
  · rw [hn, hw] at k2
    simpa using k2
  · obtain ⟨op', len', x', a', b', d'⟩ := e'
    have h31 : op' = 31 := h31
    subst h31
    exact (jo31_F h').elim
end

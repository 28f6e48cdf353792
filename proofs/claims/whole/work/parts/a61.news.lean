/-! New cells: constructors. -/
def iA (U : State) : Prop := va_AO RX0 U ∧ va_AO RX5 U ∧ va_AO RX6 U
theorem iA.moved {u U : State} (hvm : u.vm.Alike U.vm) (h : iA u) : iA U := ⟨h.1.moved hvm, h.2.1.moved hvm, h.2.2.moved hvm⟩
def iPre (G : jG) (M : jM) (av : List jV) : Array Value → State → Prop := va_Pc (av.map (jv G.2.2.1)) (fun U => jh G M U.heap ∧ jN G.2.2.1 U ∧ va_K G.2.1 vwCl (jtys G.2.2.2) U ∧ iA U)
/-- a constructor's contract -/
def iC (G : jG) (i : jI) (mc ms : Nat) (M : jM) (av : List jV) (P : jM → Prop) : Prop :=
  ∃ P0 : Option jV → jM → Prop, Met G.1 i.1 (Cond.code i.1 i.2.1 i.2.2.1 i.2.2.2.1 :: jtbl) (jRm i mc ms) (iPre G M av) (jQ G P0) mc ms (fun q => G.2.2.1 ≤ q) ∧ ∀ r M', P0 r M' → r = none ∧ P M'
theorem iC.mono {G : jG} {i : jI} {mc ms : Nat} {M : jM} {av : List jV} {P P' : jM → Prop} (h : iC G i mc ms M av P) (k : ∀ M', P M' → P' M') : iC G i mc ms M av P' := by
  obtain ⟨P0, h1, h2⟩ := h
  exact ⟨P0, h1, fun r M' q => ⟨(h2 r M' q).1, k M' (h2 r M' q).2⟩⟩
def iP : zP := (fun _ s _ _ meth _ => meth.name = "<init>" ∧ iA s, [])
def zmQ (G : jG) (P : Option jV → jM → Prop) (mc ms : Nat) : zQ := fun below args s => MQ below (jQ G P) args s mc ms (fun q => G.2.2.1 ≤ q)
theorem iC_of {G : jG} {i : jI} {mc ms : Nat} {M : jM} {av : List jV} {P : jM → Prop} (hy : plainName i.1.cls = true) (hnm : i.1.name = "<init>") (hn : jsum av ≤ i.2.2.1) (k : zJ G i mc ms iP (zmQ G (fun r M' => r = none ∧ P M') mc ms) 0 0 0 (jargs 0 av) [] M) : iC G i mc ms M av P := by
  refine ⟨_, ?_, fun _ _ h => h⟩
  refine Met.ofW (cc := i.2.1) (maxL := i.2.2.1) (ret := i.2.2.2.1) hy rfl ?_
  intro p e s m args below meth c s₁ B hml hv
  obtain ⟨rfl, hh, hN, hK, hA⟩ := hv
  have hts := atoms_spec (ws := Cond.code i.1 i.2.1 i.2.2.1 i.2.2.2.1 :: jtbl) B.pre
  have hl := lv_entry (av.map (jv G.2.2.1)) (n := i.2.2.1) (by rw [jsum_sl]; exact hn)
  rw [lg_entry_eq]
  rw [jargs_map] at hl
  refine k p e s m _ below meth c s.heap [] _ ⟨B.exec, B.bytes, hml, findClass_of_methodNamed B.named, fun w h => hts w (List.mem_cons_of_mem _ h), B.returns, B.notSynchronized, ?_, hN, hK⟩ ⟨(name_of_methodNamed B.named B.method).1.trans hnm, hA⟩ hh va_S.rf hl
  rw [hh.1]
  exact Nat.le_add_right _ _
/-- a cell more -/
def jnw (M : jM) (kd : jK) (f : Nat → Int) : jM := (M.1 + 1, M.2.1 + 1, (fun q => if q = M.2.1 then kd else M.2.2.1 q), (fun q => if q = M.2.1 then f else M.2.2.2 q))
def jdf (ci : Nat) (k : Nat) : Int := if (jtf ci).getD k 0 = 2 then -1 else 0
theorem jw_push (b : Nat) (ac : Nat → ClassId) (N : Nat) (L : Nat → jK) (S : Nat → Nat → Int) (kd : jK) (f : Nat → Int) : jw b ac (N + 1) (fun q => if q = N then kd else L q) (fun q => if q = N then f else S q) = jw b ac N L S ++ [(b + N, jc b ac kd f)] := by
  unfold jw
  rw [List.range_succ, List.map_append]
  congr 1
  · refine List.map_congr_left fun q hq => ?_
    have : q < N := List.mem_range.mp hq
    dsimp only
    rw [if_neg (by omega), if_neg (by omega)]
  · simp
section
variable {G : jG} {i : jI} {mc ms : Nat} {Φ : zP} {Q : zQ} {P : jM → Prop} {c0 s0 pc : Nat} {lv : List (Nat × jV)} {st : List jV} {M : jM}
theorem zr_vret (hd : decode i.2.1 pc = .ok (.return_, 1)) (hr : i.2.2.2.1 = none) (hc : c0 ≤ mc) (hs : s0 ≤ ms) (hP : P M) : zJ G i mc ms Φ (zmQ G (fun r M' => r = none ∧ P M') mc ms) c0 s0 pc lv [] M := by
  intro p e s m args below meth c H locs ls X F hh hS hl
  refine W.widen hc hs ?_
  exact W.vret X.1 X.2.1 (X.2.2.2.2.2.1.trans hr) (fun t ht hW => ⟨⟨none, M, rfl, ⟨rfl, hP⟩, by rw [ht]; exact hh⟩, hS.F ht⟩) hS.2.2 hd X.2.2.2.2.2.2.1
theorem va_at_new {b : Nat} {ac : Nat → ClassId} {D : va_G} {ci : Nat} {r : vw_C} {H : Heap} {a : Nat} (hr : vwCl[ci]? = some r) (ht3 : ∀ t ∈ jtf ci, t ≤ 3) (hc : jcls ci r) {args : Array Value} {s : State} (hts : ∀ w ∈ jtbl, w.before args s = true) (hKn : u_Kn s r.1 r.2.1 r.2.2 (D.1 ci) (D.2 ci)) {kC : Class} (hkC : s.vm.classes[D.1 ci]? = some kC) (e1 : H[a]? = some (blank (D.1 ci) kC)) : va_at D vwCl (a, jc b ac (0, ci, 0, jno) (jdf ci)) H := by
  obtain ⟨ty0, hty⟩ := hc.2.1
  rw [jc_0 rfl]
  refine ⟨r, hr, (u_born ty0 hts hc.1 hKn hkC e1 (fun k h => (hty k h).1)).to (fun k hk => ?_)⟩
  obtain ⟨-, ht0⟩ := hty k hk
  have hg := jfs_get (b := b) (c := ci) (sf := jno) (f := jdf ci) ht0
  have : vp_V (jfs b ci jno (jdf ci)) k = jfv b jno (jtc (ty0 k)) k (jdf ci k) := by
    unfold vp_V
    rw [List.getD_eq_getElem?_getD]
    rw [hg]
    rfl
  show defaultValue (ty0 k) = vp_V (jfs b ci jno (jdf ci)) k
  rw [this]
  have hd : jdf ci k = if jtc (ty0 k) = 2 then -1 else 0 := by
    unfold jdf
    rw [List.getD_eq_getElem?_getD, ht0]
    rfl
  rw [hd]
  have h3 := ht3 _ (List.mem_of_getElem? ht0)
  cases hy : ty0 k with
  | int => rfl
  | long => rfl
  | boolean => rfl
  | object n => rfl
  | array n => rfl
  | _ => rw [hy] at h3; exact absurd h3 (by decide)
theorem zr_new {ci index : Nat} {r : vw_C} (hr : vwCl[ci]? = some r) (ht3 : ∀ t ∈ jtf ci, t ≤ 3) (hc : jcls ci r) (hcl : Cond.classLink i.1.cls index r.1 ∈ jtbl) (hin : Cond.instantiable r.1 r.2.2 ∈ jtbl) (hini : Cond.initialized r.1 ∈ jtbl) (hd : decode i.2.1 pc = .ok (.new index, 3)) (hMN : M.1 = M.2.1) (hcm : c0 + 1 ≤ mc) (hsm : s0 + r.2.2 ≤ ms)
    (k : zJ G i mc ms Φ Q (c0 + 1) (s0 + r.2.2) (pc + 3) lv ((2, (M.2.1 : Int)) :: st) (jnw M (0, ci, 0, jno) (jdf ci))) : zJ G i mc ms Φ Q c0 s0 pc lv st M := by
  intro p e s m args below meth c H locs ls X F hh hS hl
  have hts := X.2.2.2.2.1
  have hK := X.2.2.2.2.2.2.2.2.2
  have hKn := hK.1 ci _ hr
  refine W.newcK X.1 X.2.1 X.2.2.2.1 (hts _ hcl) (hts _ hin) (hts _ hini) rfl hd hcm hsm hKn.2.1 rfl fun H1 kC hkC e1 z1 o1 => ?_
  have hsz : H.size = G.2.2.1 + M.2.1 := by rw [hh.1, hMN]
  have hk : ∀ (k : Nat) (x : Nat × va_E), (jw G.2.2.1 G.2.2.2 M.2.1 M.2.2.1 M.2.2.2)[k]? = some x → H1[x.1]? = H[x.1]? := fun k x hx => o1 x.1 ((hh.2.2 k x hx).lt)
  have K := k p e s m args below meth c H1 locs ls X F ⟨?_, ?_, ?_⟩ ⟨Nat.le_trans hS.1 (by omega), fun x h1 h2 => (o1 x (Nat.lt_of_lt_of_le h1 hS.1)).trans (hS.2.1 x h1 h2), hS.2.2⟩ hl
  · rw [List.map_cons, jv_ref _ (Int.natCast_nonneg _), Int.toNat_natCast, ← hsz] at K
    exact K
  · show H1.size = G.2.2.1 + (M.1 + 1)
    rw [z1, hsz, hMN]; omega
  · show M.2.1 + 1 ≤ M.1 + 1
    omega
  · show va_P G.2.1 vwCl (jw G.2.2.1 G.2.2.2 (M.2.1 + 1) (fun q => if q = M.2.1 then _ else M.2.2.1 q) (fun q => if q = M.2.1 then _ else M.2.2.2 q)) H1
    rw [jw_push]
    refine (hh.2.2.kept hk).app (fun k x hx => ?_)
    have hz : k < 1 := (List.getElem?_eq_some_iff.mp hx).1
    rw [show k = 0 by omega] at hx
    cases hx
    rw [← hsz]
    exact va_at_new hr ht3 hc hts hKn hkC e1
/-- new arrays of numbers: sort 1 int, 2 long, 3 byte, 4 boolean -/
def zat (k : Nat) : ArrayType := match k with
  | 1 => .int
  | 2 => .long
  | 3 => .byte
  | _ => .boolean
def zav (k n : Nat) : vp_A := match k with
  | 2 => (n, .inr (.inl (fun _ => 0)))
  | _ => (n, .inl (fun _ => 0))
theorem zr_newa {k : Nat} {x : Int} {n : Nat} (hk : 1 ≤ k ∧ k ≤ 4) (harr : Cond.arrayClass (newarray.typeOf (zat k)) ∈ jtbl) (hd : decode i.2.1 pc = .ok (.newarray (zat k), 2)) (hx : x = (n : Int)) (hn : n ≤ 100000) (hMN : M.1 = M.2.1) (hcm : c0 + 1 ≤ mc) (hsm : s0 + n ≤ ms)
    (kk : zJ G i mc ms Φ Q (c0 + 1) (s0 + n) (pc + 2) lv ((2, (M.2.1 : Int)) :: st) (jnw M (k, 0, n, jno) (fun _ => 0))) : zJ G i mc ms Φ Q c0 s0 pc lv ((0, x) :: st) M := by
  intro p e s m args below meth c H locs ls X F hh hS hl
  subst hx
  have hts := X.2.2.2.2.1
  have hK := X.2.2.2.2.2.2.2.2.2
  have hsz : H.size = G.2.2.1 + M.2.1 := by rw [hh.1, hMN]
  have e0 : (Int32.ofInt (n : Int)).toInt = (n : Int) := jI32_to ⟨by omega, by omega⟩
  have hN : (Int32.ofInt (n : Int)).toNatClampNeg = n := by
    show (Int32.ofInt (n : Int)).toInt.toNat = n
    rw [e0]; omega
  have hn0 : ¬ (Int32.ofInt (n : Int)) < 0 := by
    rw [Int32.lt_iff_toInt_lt, e0]
    have : (0 : Int32).toInt = 0 := rfl
    omega
  rw [List.map_cons, jv_0]
  have hby : n * componentBytes (newarray.typeOf (zat k)) ≤ 536870912 := by
    have : componentBytes (newarray.typeOf (zat k)) ≤ 8 := by
      rcases (show k = 1 ∨ k = 2 ∨ k = 3 ∨ k = 4 by omega) with q | q | q | q <;> subst q <;> decide
    have := Nat.mul_le_mul_left n this
    omega
  refine va_newaK X.1 X.2.1 (hts _ harr) rfl hd rfl hn0 hN hby hcm hsm rfl fun H1 cA e1 z1 o1 hAr hNm => ?_
  have hcA : jc G.2.2.1 G.2.2.2 (k, 0, n, jno) (fun _ => 0) = .inl (cA, zav k n) := by
    rcases (show k = 1 ∨ k = 2 ∨ k = 3 ∨ k = 4 by omega) with q | q | q | q <;> subst q
    · have := (hK.2 0 (G.2.2.2 0, .int) rfl).2
      rw [← Option.some.inj (this.symm.trans hNm)]; rfl
    · have := (hK.2 1 (G.2.2.2 1, .long) rfl).2
      rw [← Option.some.inj (this.symm.trans hNm)]; rfl
    · have := (hK.2 2 (G.2.2.2 2, .byte) rfl).2
      rw [← Option.some.inj (this.symm.trans hNm)]; rfl
    · have := (hK.2 3 (G.2.2.2 3, .boolean) rfl).2
      rw [← Option.some.inj (this.symm.trans hNm)]; rfl
  have hk' : ∀ (k : Nat) (x : Nat × va_E), (jw G.2.2.1 G.2.2.2 M.2.1 M.2.2.1 M.2.2.2)[k]? = some x → H1[x.1]? = H[x.1]? := fun k x hx => o1 x.1 ((hh.2.2 k x hx).lt)
  have K := kk p e s m args below meth c H1 locs ls X F ⟨?_, ?_, ?_⟩ ⟨Nat.le_trans hS.1 (by omega), fun x h1 h2 => (o1 x (Nat.lt_of_lt_of_le h1 hS.1)).trans (hS.2.1 x h1 h2), hS.2.2⟩ hl
  · rw [List.map_cons, jv_ref _ (Int.natCast_nonneg _), Int.toNat_natCast, ← hsz] at K
    exact K
  · show H1.size = G.2.2.1 + (M.1 + 1)
    rw [z1, hsz, hMN]; omega
  · show M.2.1 + 1 ≤ M.1 + 1
    omega
  · show va_P G.2.1 vwCl (jw G.2.2.1 G.2.2.2 (M.2.1 + 1) (fun q => if q = M.2.1 then _ else M.2.2.1 q) (fun q => if q = M.2.1 then _ else M.2.2.2 q)) H1
    rw [jw_push]
    refine (hh.2.2.kept hk').app (fun k9 x hx => ?_)
    have hz : k9 < 1 := (List.getElem?_eq_some_iff.mp hx).1
    rw [show k9 = 0 by omega] at hx
    cases hx
    rw [← hsz, hcA]
    show H1[H.size]? = _
    rw [e1]
    rcases (show k = 1 ∨ k = 2 ∨ k = 3 ∨ k = 4 by omega) with q | q | q | q <;> subst q <;> rfl
/-- new arrays of references: sort 5 Bounds, 6 Part, 7 Ratio -/
def zcn (k : Nat) : String := match k with
  | 5 => RX0
  | 6 => RX5
  | _ => RX6
theorem zr_newq {k index : Nat} {x : Int} {n : Nat} (hk : 5 ≤ k ∧ k ≤ 7) (hcl : Cond.classLink i.1.cls index (zcn k) ∈ jtbl) (hd : decode i.2.1 pc = .ok (.anewarray index, 3)) (hx : x = (n : Int)) (hn : n ≤ 100000) (hMN : M.1 = M.2.1) (hcm : c0 + 1 ≤ mc) (hsm : s0 + n ≤ ms) (hΦ : ∀ p s m args meth c, Φ.1 p s m args meth c → iA s)
    (kk : zJ G i mc ms Φ Q (c0 + 1) (s0 + n) (pc + 3) lv ((2, (M.2.1 : Int)) :: st) (jnw M (k, 0, n, jno) (fun _ => -1))) : zJ G i mc ms Φ Q c0 s0 pc lv ((0, x) :: st) M := by
  intro p e s m args below meth c H locs ls X F hh hS hl
  subst hx
  have hts := X.2.2.2.2.1
  have hK := X.2.2.2.2.2.2.2.2.2
  have hA := hΦ _ _ _ _ _ _ F
  have hsz : H.size = G.2.2.1 + M.2.1 := by rw [hh.1, hMN]
  have e0 : (Int32.ofInt (n : Int)).toInt = (n : Int) := jI32_to ⟨by omega, by omega⟩
  have hN : (Int32.ofInt (n : Int)).toNatClampNeg = n := by
    show (Int32.ofInt (n : Int)).toInt.toNat = n
    rw [e0]; omega
  have hn0 : ¬ (Int32.ofInt (n : Int)) < 0 := by
    rw [Int32.lt_iff_toInt_lt, e0]
    have : (0 : Int32).toInt = 0 := rfl
    omega
  rw [List.map_cons, jv_0]
  have hov : va_AO (zcn k) s := by
    rcases (show k = 5 ∨ k = 6 ∨ k = 7 by omega) with q | q | q <;> subst q
    · exact hA.1
    · exact hA.2.1
    · exact hA.2.2
  refine W.anew X.1 X.2.1 X.2.2.2.1 (hts _ hcl) (va_AO.use hov) rfl hd rfl hn0 (by rw [hN]; omega) hcm (by rw [hN]; exact hsm) fun cA kA comp f1 f2 f3 f4 => ?_
  rw [hN]
  generalize hH1 : H.push ({ cls := cA, slots := Array.replicate n .null, vm := .none } : Cell) = H1
  have z1 : H1.size = H.size + 1 := by rw [← hH1, Array.size_push]
  have e1 : H1[H.size]? = some (arrV cA n (fun _ => .null)) := by rw [← hH1, Array.getElem?_push_size, ← arrV_new]
  have o1 : ∀ q : Nat, q < H.size → H1[q]? = H[q]? := fun q hq => by rw [← hH1, Array.getElem?_push, if_neg (Nat.ne_of_lt hq)]
  have hcA : jc G.2.2.1 G.2.2.2 (k, 0, n, jno) (fun _ => -1) = .inl (cA, n, .inr (.inr (.inr (.inr (fun _ => none))))) := by
    rcases (show k = 5 ∨ k = 6 ∨ k = 7 by omega) with q | q | q <;> subst q
    · obtain ⟨_, _, -, -, -, this⟩ := (hK.2 4 (G.2.2.2 4, .object RX0) rfl).2
      rw [← Option.some.inj (this.symm.trans f1)]; rfl
    · obtain ⟨_, _, -, -, -, this⟩ := (hK.2 5 (G.2.2.2 5, .object RX5) rfl).2
      rw [← Option.some.inj (this.symm.trans f1)]; rfl
    · obtain ⟨_, _, -, -, -, this⟩ := (hK.2 6 (G.2.2.2 6, .object RX6) rfl).2
      rw [← Option.some.inj (this.symm.trans f1)]; rfl
  have hk' : ∀ (k : Nat) (x : Nat × va_E), (jw G.2.2.1 G.2.2.2 M.2.1 M.2.2.1 M.2.2.2)[k]? = some x → H1[x.1]? = H[x.1]? := fun k x hx => o1 x.1 ((hh.2.2 k x hx).lt)
  have K := kk p e s m args below meth c H1 locs ls X F ⟨?_, ?_, ?_⟩ ⟨Nat.le_trans hS.1 (by omega), fun x h1 h2 => (o1 x (Nat.lt_of_lt_of_le h1 hS.1)).trans (hS.2.1 x h1 h2), hS.2.2⟩ hl
  · rw [List.map_cons, jv_ref _ (Int.natCast_nonneg _), Int.toNat_natCast, ← hsz] at K
    exact K
  · show H1.size = G.2.2.1 + (M.1 + 1)
    rw [z1, hsz, hMN]; omega
  · show M.2.1 + 1 ≤ M.1 + 1
    omega
  · show va_P G.2.1 vwCl (jw G.2.2.1 G.2.2.2 (M.2.1 + 1) (fun q => if q = M.2.1 then _ else M.2.2.1 q) (fun q => if q = M.2.1 then _ else M.2.2.2 q)) H1
    rw [jw_push]
    refine (hh.2.2.kept hk').app (fun k9 x hx => ?_)
    have hz : k9 < 1 := (List.getElem?_eq_some_iff.mp hx).1
    rw [show k9 = 0 by omega] at hx
    cases hx
    rw [← hsz, hcA]
    show H1[H.size]? = _
    rw [e1]
    rfl
end

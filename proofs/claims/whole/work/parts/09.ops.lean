/-! What an instruction asks (jo), whether a row of a method's table is its code (jok), and that the one is right by the other. -/
abbrev jE : Type := Nat × Nat × Int × Nat × Nat × Nat
abbrev jKt : Type := Nat → List (Nat × jV) → List jV → jM → Prop
def jo1 (st : List jV) (t : Nat) (f : Int → List jV → Prop) : Prop := match st with
  | v :: r => v.1 = t ∧ f v.2 r
  | [] => False
def jo2 (st : List jV) (t1 t2 : Nat) (f : Int → Int → List jV → Prop) : Prop := match st with
  | y :: x :: r => x.1 = t1 ∧ y.1 = t2 ∧ f x.2 y.2 r
  | _ => False
def jo3 (st : List jV) (t1 t2 t3 : Nat) (f : Int → Int → Int → List jV → Prop) : Prop := match st with
  | z :: y :: x :: r => x.1 = t1 ∧ y.1 = t2 ∧ z.1 = t3 ∧ f x.2 y.2 z.2 r
  | _ => False
/-- a pointer to a cell of a kind -/
def jptr (M : jM) (q : Int) : Prop := 0 ≤ q ∧ q.toNat < M.2.1
def jobj (M : jM) (q : Int) (ci : Nat) : Prop := jptr M q ∧ (M.2.2.1 q.toNat).1 = 0 ∧ (M.2.2.1 q.toNat).2.1 = ci
def jarr (M : jM) (q x : Int) (sort : Nat) : Prop := jptr M q ∧ (M.2.2.1 q.toNat).1 = sort ∧ 0 ≤ x ∧ x < ((M.2.2.1 q.toNat).2.2.1 : Int) ∧ (M.2.2.1 q.toNat).2.2.1 ≤ 2147483647
def jset (M : jM) (q : Int) (k : Nat) (v : Int) : jM := (M.1, M.2.1, M.2.2.1, ju M.2.2.2 q.toNat k v)
def jtag (sort : Nat) : Nat := if sort = 2 then 1 else if sort < 5 then 0 else 2
def jrd (M : jM) (q : Int) (j : Nat) (sort : Nat) : Int := if sort < 5 then M.2.2.2 q.toNat j else jaq (M.2.2.1 q.toNat) j (M.2.2.2 q.toNat j)
/-- the places of a switch: at x, counted from lo on -/
def jsw (x lo : Int) (ts : List Nat) (k : Nat → Prop) : Prop := match ts with
  | [] => True
  | t :: r => (x = lo → k t) ∧ jsw x (lo + 1) r k
def jsl (x : Int) (ps : List (Int × Nat)) (d : Nat) (k : Nat → Prop) : Prop := match ps with
  | [] => k d
  | t :: r => (x = t.1 → k t.2) ∧ (x ≠ t.1 → jsl x r d k)
def jol (o : Option jV) (f : jV → Prop) : Prop := match o with
  | some v => f v
  | none => False
/-- what an instruction asks: K of what comes behind it, R of an answer -/
def jo (G : jG) (e : jE) (K : jKt) (R : Option jV → jM → Prop) (pc : Nat) (lv : List (Nat × jV)) (st : List jV) (M : jM) : Prop := match e with
  | (op, len, x, a, b, c) => match op with
    | 0 => K (pc + len) lv ((0, x) :: st) M
    | 1 => jol (jlk lv a) fun v => v.1 = b ∧ (b = 2 → 0 ≤ v.2) ∧ K (pc + len) lv (v :: st) M
    | 2 => jo1 st b fun v r => (b = 2 → 0 ≤ v) ∧ K (pc + len) (jst lv a (b, v)) r M
    | 3 => jol (jlk lv a) fun v => v.1 = 0 ∧ K (pc + 3) (jst lv a (0, v.2 + x)) st M
    | 4 => jo2 st 0 0 fun v w r => K (pc + 1) lv ((0, v + w) :: r) M
    | 5 => jo2 st 0 0 fun v w r => K (pc + 1) lv ((0, v - w) :: r) M
    | 6 => jo2 st 0 0 fun v w r => K (pc + 1) lv ((0, v * w) :: r) M
    | 7 => jo2 st 0 0 fun v w r => jI32 v ∧ jI32 w ∧ w ≠ 0 ∧ K (pc + 1) lv ((0, v.tdiv w) :: r) M
    | 8 => jo2 st 0 0 fun v w r => jI32 v ∧ jI32 w ∧ w ≠ 0 ∧ K (pc + 1) lv ((0, v.tmod w) :: r) M
    | 9 => jo1 st 0 fun v r => K (pc + 1) lv ((0, -v) :: r) M
    | 10 => jo2 st 1 1 fun v w r => K (pc + 1) lv ((1, v + w) :: r) M
    | 11 => jo2 st 1 1 fun v w r => K (pc + 1) lv ((1, v - w) :: r) M
    | 12 => jo2 st 1 1 fun v w r => K (pc + 1) lv ((1, v * w) :: r) M
    | 13 => jo2 st 1 1 fun v w r => jI64 v ∧ jI64 w ∧ w ≠ 0 ∧ K (pc + 1) lv ((1, v.tdiv w) :: r) M
    | 14 => jo2 st 1 1 fun v w r => jI64 v ∧ jI64 w ∧ w ≠ 0 ∧ K (pc + 1) lv ((1, v.tmod w) :: r) M
    | 15 => jo1 st 1 fun v r => K (pc + 1) lv ((1, -v) :: r) M
    | 16 => jo1 st 0 fun v r => jI32 v ∧ K (pc + 1) lv ((1, v) :: r) M
    | 17 => jo1 st 1 fun v r => K (pc + 1) lv ((0, v) :: r) M
    | 18 => jo1 st 0 fun v r => K (pc + 1) lv ((0, (Int32.ofInt v).toInt8.toInt) :: r) M
    | 19 => jo1 st 0 fun v r => jI32 v ∧ (jcnd a v 0 → K b lv r M) ∧ (¬ jcnd a v 0 → K (pc + 3) lv r M)
    | 20 => jo2 st 0 0 fun v w r => jI32 v ∧ jI32 w ∧ (jcnd a v w → K b lv r M) ∧ (¬ jcnd a v w → K (pc + 3) lv r M)
    | 21 => K b lv st M
    | 22 => jo2 st 1 1 fun v w r => jI64 v ∧ jI64 w ∧ (jcnd a v w → K b lv r M) ∧ (¬ jcnd a v w → K (pc + 4) lv r M)
    | 23 => jo1 st 2 fun q r => jobj M q a ∧ K (pc + 3) lv (jfd (M.2.2.1 q.toNat) len b (M.2.2.2 q.toNat b) :: r) M
    | 24 => jo2 st 2 (jtg len) fun q v r => jobj M q a ∧ (M.2.2.1 q.toNat).2.2.2 b = none ∧ (len = 3 → v = 0 ∨ v = 1) ∧ K (pc + 3) lv r (jset M q b v)
    | 25 => jo2 st 2 0 fun q v r => jarr M q v a ∧ K (pc + 1) lv ((jtag a, jrd M q v.toNat a) :: r) M
    | 26 => jo3 st 2 0 (jtag a) fun q v w r => jarr M q v a ∧ (a = 3 → -128 ≤ w ∧ w ≤ 127) ∧ (a = 4 → w = 0 ∨ w = 1) ∧ K (pc + 1) lv r (jset M q v.toNat w)
    | 27 => jo1 st 2 fun q r => jptr M q ∧ ((M.2.2.1 q.toNat).1 = 1 ∨ (M.2.2.1 q.toNat).1 = 3) ∧ K (pc + 1) lv ((0, ((M.2.2.1 q.toNat).2.2.1 : Int)) :: r) M
    | 28 => match st.drop b with
      | q :: r => q.1 = 2 ∧ jobj M q.2 len ∧ jsum r ≤ 8 ∧ b ≤ st.length ∧ jC G (jtm a) 0 0 M (q :: (st.take b).reverse) (fun v M' => K (pc + 3) lv (v.toList ++ r) M')
      | [] => False
    | 29 => jsum (st.drop b) ≤ 8 ∧ b ≤ st.length ∧ jC G (jtm a) 0 0 M (st.take b).reverse (fun v M' => K (pc + 3) lv (v.toList ++ st.drop b) M')
    | 30 => jsum (st.drop b) ≤ 8 ∧ b ≤ st.length ∧ jC G (jtm a) 0 0 M (st.take b).reverse (fun v M' => K (pc + 3) lv (v.toList ++ st.drop b) M')
    | 31 => match a with
      | 4 => st = [] ∧ R none M
      | _ => match st with
        | [v] => v.1 = jtg a ∧ (a = 3 → v.2 = 0 ∨ v.2 = 1) ∧ (a = 2 → 0 ≤ v.2) ∧ R (some v) M
        | _ => False
    | 32 => match st with
      | v :: r => v.1 ≠ 1 ∧ K (pc + 1) lv (v :: v :: r) M
      | [] => False
    | 33 => match a with
      | 0 => match st with
        | v :: w :: r => v.1 ≠ 1 ∧ w.1 ≠ 1 ∧ K (pc + 1) lv (v :: w :: v :: w :: r) M
        | _ => False
      | _ => match st with
        | v :: r => v.1 = 1 ∧ K (pc + 1) lv (v :: v :: r) M
        | _ => False
    | 34 => match st with
      | v :: r => v.1 ≠ 1 ∧ K (pc + 1) lv r M
      | [] => False
    | 35 => jo1 st 0 fun v r => jI32 v ∧ jsw v x (jtsw a).2 (fun t => K t lv r M) ∧ (v < x ∨ x + ((jtsw a).2.length : Int) ≤ v → K (jtsw a).1 lv r M)
    | 36 => jo1 st 0 fun v r => jI32 v ∧ jsl v (jtsl a).2 (jtsl a).1 (fun t => K t lv r M)
    | 37 => jo2 st 0 0 fun v w r => K (pc + 1) lv ((0, (Int32.ofInt v <<< (Int32.ofInt w &&& 31)).toInt) :: r) M
    | 38 => jo2 st 0 0 fun v w r => K (pc + 1) lv ((0, (Int32.ofInt v >>> (Int32.ofInt w &&& 31)).toInt) :: r) M
    | 39 => jo2 st 0 0 fun v w r => K (pc + 1) lv ((0, (Int32.ofInt v &&& Int32.ofInt w).toInt) :: r) M
    | 40 => jo2 st 0 0 fun v w r => K (pc + 1) lv ((0, (Int32.ofInt v ||| Int32.ofInt w).toInt) :: r) M
    | 41 => K (pc + len) lv ((1, x) :: st) M
    | 42 => jo2 st 1 1 fun v w r => K (pc + 1) lv ((1, (Int64.ofInt v ^^^ Int64.ofInt w).toInt) :: r) M
    | 43 => jo3 st 2 0 2 fun q v w r => jarr M q v a ∧ (M.2.2.1 q.toNat).2.2.2 v.toNat = none ∧ jobj M w b ∧ K (pc + 1) lv r (jset M q v.toNat w)
    | _ => False
def jofs (pc t : Nat) : Int := (t : Int) - (pc : Int)
def jroom (i : jI) (n : Nat) : Bool := decide ((jtm n).2.2.2.2.1 + 1 ≤ i.2.2.2.2.1) && decide (8 + ((jtm n).2.2.1 + 11) + (jtm n).2.2.2.2.2 ≤ i.2.2.2.2.2)
def jok (o : Nat) (i : jI) (pc : Nat) (e : jE) : Bool := match e with
  | (op, len, x, a, b, c) => match op with
    | 0 => match b with
      | 0 => decide (decode i.2.1 pc = .ok (.iconst x, 1)) && decide (len = 1)
      | 1 => decide (decode i.2.1 pc = .ok (.bipush x, 2)) && decide (len = 2) && decide ((Int8.ofInt x).toInt32 = Int32.ofInt x)
      | 2 => decide (decode i.2.1 pc = .ok (.sipush x, 3)) && decide (len = 3) && decide ((Int16.ofInt x).toInt32 = Int32.ofInt x)
      | 3 => decide (decode i.2.1 pc = .ok (.ldc a, 2)) && decide (len = 2) && jat c (.constant i.1.cls a (Int32.ofInt x))
      | _ => decide (decode i.2.1 pc = .ok (.ldc_w a, 3)) && decide (len = 3) && jat c (.constant i.1.cls a (Int32.ofInt x))
    | 1 => if h : a < 4 then decide (len = 1) && (match b with
        | 0 => decide (decode i.2.1 pc = .ok (.iload_n ⟨a, h⟩, 1))
        | 1 => decide (decode i.2.1 pc = .ok (.lload_n ⟨a, h⟩, 1))
        | 2 => decide (decode i.2.1 pc = .ok (.aload_n ⟨a, h⟩, 1))
        | _ => false)
      else decide (len = 2) && (match b with
        | 0 => decide (decode i.2.1 pc = .ok (.iload a, 2))
        | 1 => decide (decode i.2.1 pc = .ok (.lload a, 2))
        | 2 => decide (decode i.2.1 pc = .ok (.aload a, 2))
        | _ => false)
    | 2 => if h : a < 4 then decide (len = 1) && (match b with
        | 0 => decide (decode i.2.1 pc = .ok (.istore_n ⟨a, h⟩, 1)) && decide (a < i.2.2.1)
        | 1 => decide (decode i.2.1 pc = .ok (.lstore_n ⟨a, h⟩, 1)) && decide (a + 1 < i.2.2.1)
        | 2 => decide (decode i.2.1 pc = .ok (.astore_n ⟨a, h⟩, 1)) && decide (a < i.2.2.1)
        | _ => false)
      else decide (len = 2) && (match b with
        | 0 => decide (decode i.2.1 pc = .ok (.istore a, 2)) && decide (a < i.2.2.1)
        | 1 => decide (decode i.2.1 pc = .ok (.lstore a, 2)) && decide (a + 1 < i.2.2.1)
        | 2 => decide (decode i.2.1 pc = .ok (.astore a, 2)) && decide (a < i.2.2.1)
        | _ => false)
    | 3 => decide (decode i.2.1 pc = .ok (.iinc a x, 3)) && decide (a < i.2.2.1)
    | 4 => decide (decode i.2.1 pc = .ok (.iadd, 1))
    | 5 => decide (decode i.2.1 pc = .ok (.isub, 1))
    | 6 => decide (decode i.2.1 pc = .ok (.imul, 1))
    | 7 => decide (decode i.2.1 pc = .ok (.idiv, 1))
    | 8 => decide (decode i.2.1 pc = .ok (.irem, 1))
    | 9 => decide (decode i.2.1 pc = .ok (.ineg, 1))
    | 10 => decide (decode i.2.1 pc = .ok (.ladd, 1))
    | 11 => decide (decode i.2.1 pc = .ok (.lsub, 1))
    | 12 => decide (decode i.2.1 pc = .ok (.lmul, 1))
    | 13 => decide (decode i.2.1 pc = .ok (.ldiv, 1))
    | 14 => decide (decode i.2.1 pc = .ok (.lrem, 1))
    | 15 => decide (decode i.2.1 pc = .ok (.lneg, 1))
    | 16 => decide (decode i.2.1 pc = .ok (.i2l, 1))
    | 17 => decide (decode i.2.1 pc = .ok (.l2i, 1))
    | 18 => decide (decode i.2.1 pc = .ok (.i2b, 1))
    | 19 => match a with
      | 0 => decide (decode i.2.1 pc = .ok (.ifCond .eq (jofs pc b), 3))
      | 1 => decide (decode i.2.1 pc = .ok (.ifCond .ne (jofs pc b), 3))
      | 2 => decide (decode i.2.1 pc = .ok (.ifCond .lt (jofs pc b), 3))
      | 3 => decide (decode i.2.1 pc = .ok (.ifCond .ge (jofs pc b), 3))
      | 4 => decide (decode i.2.1 pc = .ok (.ifCond .gt (jofs pc b), 3))
      | _ => decide (decode i.2.1 pc = .ok (.ifCond .le (jofs pc b), 3))
    | 20 => match a with
      | 0 => decide (decode i.2.1 pc = .ok (.if_icmp .eq (jofs pc b), 3))
      | 1 => decide (decode i.2.1 pc = .ok (.if_icmp .ne (jofs pc b), 3))
      | 2 => decide (decode i.2.1 pc = .ok (.if_icmp .lt (jofs pc b), 3))
      | 3 => decide (decode i.2.1 pc = .ok (.if_icmp .ge (jofs pc b), 3))
      | 4 => decide (decode i.2.1 pc = .ok (.if_icmp .gt (jofs pc b), 3))
      | _ => decide (decode i.2.1 pc = .ok (.if_icmp .le (jofs pc b), 3))
    | 21 => decide (decode i.2.1 pc = .ok (.goto (jofs pc b), 3))
    | 22 => decide (decode i.2.1 pc = .ok (.lcmp, 1)) && (match a with
      | 0 => decide (decode i.2.1 (pc + 1) = .ok (.ifCond .eq (jofs (pc + 1) b), 3))
      | 1 => decide (decode i.2.1 (pc + 1) = .ok (.ifCond .ne (jofs (pc + 1) b), 3))
      | 2 => decide (decode i.2.1 (pc + 1) = .ok (.ifCond .lt (jofs (pc + 1) b), 3))
      | 3 => decide (decode i.2.1 (pc + 1) = .ok (.ifCond .ge (jofs (pc + 1) b), 3))
      | 4 => decide (decode i.2.1 (pc + 1) = .ok (.ifCond .gt (jofs (pc + 1) b), 3))
      | _ => decide (decode i.2.1 (pc + 1) = .ok (.ifCond .le (jofs (pc + 1) b), 3)))
    | 23 => decide (decode i.2.1 pc = .ok (.getfield x.toNat, 3)) && decide (jfl c = (o, x.toNat, a, b)) && decide ((jtf a)[b]? = some len)
    | 24 => decide (decode i.2.1 pc = .ok (.putfield x.toNat, 3)) && decide (jfl c = (o, x.toNat, a, b)) && decide ((jtf a)[b]? = some len) && (match vwCl[a]? with | some r => !(r.2.1 b).2.2.2 | none => false) && decide (len ≤ 3)
    | 25 => match a with
      | 1 => decide (decode i.2.1 pc = .ok (.iaload, 1))
      | 2 => decide (decode i.2.1 pc = .ok (.laload, 1))
      | 3 => decide (decode i.2.1 pc = .ok (.baload, 1))
      | 4 => decide (decode i.2.1 pc = .ok (.baload, 1))
      | 5 => decide (decode i.2.1 pc = .ok (.aaload, 1))
      | 6 => decide (decode i.2.1 pc = .ok (.aaload, 1))
      | 7 => decide (decode i.2.1 pc = .ok (.aaload, 1))
      | _ => false
    | 26 => match a with
      | 1 => decide (decode i.2.1 pc = .ok (.iastore, 1))
      | 2 => decide (decode i.2.1 pc = .ok (.lastore, 1))
      | 3 => decide (decode i.2.1 pc = .ok (.bastore, 1))
      | 4 => decide (decode i.2.1 pc = .ok (.bastore, 1))
      | _ => false
    | 27 => decide (decode i.2.1 pc = .ok (.arraylength, 1))
    | 28 => decide (decode i.2.1 pc = .ok (.invokevirtual x.toNat, 3)) && decide (jml c = (o, x.toNat, a)) && jroom i a && decide ((jmf a).1 = a ∧ (jtp a).2 = (0, b) ∧ (jtp a).1 = len)
    | 29 => decide (decode i.2.1 pc = .ok (.invokestatic x.toNat, 3)) && decide (jml c = (o, x.toNat, a)) && jroom i a && decide ((jmf a).1 = a ∧ (jtp a).2 = (1, b))
    | 30 => decide (decode i.2.1 pc = .ok (.invokestatic x.toNat, 3)) && decide (jnl c = (o, x.toNat, a)) && jroom i a && decide ((jmf a).1 = a ∧ (jtp a).2 = (1, b))
    | 31 => match a with
      | 0 => decide (decode i.2.1 pc = .ok (.ireturn, 1)) && decide (i.2.2.2.1 = some .int)
      | 1 => decide (decode i.2.1 pc = .ok (.lreturn, 1)) && decide (i.2.2.2.1 = some .long)
      | 2 => decide (decode i.2.1 pc = .ok (.areturn, 1)) && decide (i.2.2.2.1 = some (.object RX8))
      | 3 => decide (decode i.2.1 pc = .ok (.ireturn, 1)) && decide (i.2.2.2.1 = some .boolean)
      | 4 => decide (decode i.2.1 pc = .ok (.return_, 1)) && decide (i.2.2.2.1 = none)
      | _ => false
    | 32 => decide (decode i.2.1 pc = .ok (.dup, 1))
    | 33 => decide (decode i.2.1 pc = .ok (.dup2, 1))
    | 34 => decide (decode i.2.1 pc = .ok (.pop, 1))
    | 35 => decide (decode i.2.1 pc = .ok (.tableswitch (jofs pc (jtsw a).1) x (x + ((jtsw a).2.length : Int) - 1) ((jtsw a).2.map (jofs pc)).toArray, len))
    | 36 => decide (decode i.2.1 pc = .ok (.lookupswitch (jofs pc (jtsl a).1) ((jtsl a).2.map (fun q => (q.1, jofs pc q.2))).toArray, len)) && (((jtsl a).2.map (fun q => (q.1, jofs pc q.2))).zip (((jtsl a).2.map (fun q => (q.1, jofs pc q.2))).drop 1)).all (fun (a, next) => decide (a.1 < next.1))
    | 37 => decide (decode i.2.1 pc = .ok (.ishl, 1))
    | 38 => decide (decode i.2.1 pc = .ok (.ishr, 1))
    | 39 => decide (decode i.2.1 pc = .ok (.iand, 1))
    | 40 => decide (decode i.2.1 pc = .ok (.ior, 1))
    | 41 => match b with
      | 0 => if h : x.toNat < 2 then decide (decode i.2.1 pc = .ok (.lconst ⟨x.toNat, h⟩, 1)) && decide (len = 1) && decide (Int64.ofNat x.toNat = Int64.ofInt x) else false
      | _ => decide (decode i.2.1 pc = .ok (.ldc2_w a, 3)) && decide (len = 3) && jat c (.constantLong i.1.cls a (Int64.ofInt x))
    | 42 => decide (decode i.2.1 pc = .ok (.lxor, 1))
    | 43 => decide (decode i.2.1 pc = .ok (.aastore, 1)) && decide (a = 7) && decide (b = 6)
    | _ => false
theorem jo1_inv {st : List jV} {t : Nat} {f : Int → List jV → Prop} (h : jo1 st t f) : ∃ (v : Int) (r : List jV), st = (t, v) :: r ∧ f v r := by
  unfold jo1 at h
  match st, h with
  | (t', v) :: r, h => exact ⟨v, r, by rw [show t' = t from h.1], h.2⟩
theorem jo2_inv {st : List jV} {t1 t2 : Nat} {f : Int → Int → List jV → Prop} (h : jo2 st t1 t2 f) : ∃ (v w : Int) (r : List jV), st = (t2, w) :: (t1, v) :: r ∧ f v w r := by
  unfold jo2 at h
  match st, h with
  | (t', w) :: (t'', v) :: r, h => exact ⟨v, w, r, by rw [show t'' = t1 from h.1, show t' = t2 from h.2.1], h.2.2⟩
theorem jo3_inv {st : List jV} {t1 t2 t3 : Nat} {f : Int → Int → Int → List jV → Prop} (h : jo3 st t1 t2 t3 f) : ∃ (v w u : Int) (r : List jV), st = (t3, u) :: (t2, w) :: (t1, v) :: r ∧ f v w u r := by
  unfold jo3 at h
  match st, h with
  | (t', u) :: (t'', w) :: (t''', v) :: r, h => exact ⟨v, w, u, r, by rw [show t''' = t1 from h.1, show t'' = t2 from h.2.1, show t' = t3 from h.2.2.1], h.2.2.2⟩
theorem jofs_t (pc t : Nat) : (pc : Int) + jofs pc t = (t : Int) := by unfold jofs; omega
theorem jand {a b : Bool} (h : (a && b) = true) : a = true ∧ b = true := by simpa using h
theorem jgetD {l : List Nat} {b : Nat} (h : b < l.length) : l[b]? = some (l.getD b 0) := by
  simp [List.getD, List.getElem?_eq_getElem h]
section SOUND
variable {G : jG} {o : Nat} {i : jI} {mc ms : Nat} {P : Option jV → jM → Prop} {c0 s0 pc : Nat} {lv : List (Nat × jV)} {st : List jV} {M : jM}
theorem js_load {len a b : Nat} {x : Int} {c : Nat} (hok : jok o i pc (1, len, x, a, b, c) = true) (h : jo G (1, len, x, a, b, c) (jJ G i mc ms P c0 s0) P pc lv st M) : jJ G i mc ms P c0 s0 pc lv st M := by
  dsimp only [jo] at h
  cases hv : jlk lv a with
  | none => rw [hv] at h; exact h.elim
  | some v =>
    rw [hv] at h
    dsimp only [jol] at h
    obtain ⟨t, z⟩ := v
    obtain ⟨rfl, h2, h3⟩ := h
    simp only [jok] at hok
    by_cases ha : a < 4
    · rw [dif_pos ha] at hok
      obtain ⟨g1, hok2⟩ := jand hok
      have hl := of_decide_eq_true g1
      clear hok g1
      subst hl
      have hok := hok2
      match t, hok, hv, h2, h3 with
      | 0, hok, hv, h2, h3 => exact jr_iload_n (n := ⟨a, ha⟩) (of_decide_eq_true hok) hv h3
      | 1, hok, hv, h2, h3 => exact jr_lload_n (n := ⟨a, ha⟩) (of_decide_eq_true hok) hv h3
      | 2, hok, hv, h2, h3 => exact jr_aload_n (n := ⟨a, ha⟩) (of_decide_eq_true hok) hv (h2 rfl) h3
    · rw [dif_neg ha] at hok
      obtain ⟨g1, hok2⟩ := jand hok
      have hl := of_decide_eq_true g1
      clear hok g1
      subst hl
      have hok := hok2
      match t, hok, hv, h2, h3 with
      | 0, hok, hv, h2, h3 => exact jr_iload (of_decide_eq_true hok) hv h3
      | 1, hok, hv, h2, h3 => exact jr_lload (of_decide_eq_true hok) hv h3
      | 2, hok, hv, h2, h3 => exact jr_aload (of_decide_eq_true hok) hv (h2 rfl) h3
theorem js_store {len a b : Nat} {x : Int} {c : Nat} (hok : jok o i pc (2, len, x, a, b, c) = true) (h : jo G (2, len, x, a, b, c) (jJ G i mc ms P c0 s0) P pc lv st M) : jJ G i mc ms P c0 s0 pc lv st M := by
  dsimp only [jo] at h
  obtain ⟨v, r, rfl, h2, h3⟩ := jo1_inv h
  simp only [jok] at hok
  by_cases ha : a < 4
  · rw [dif_pos ha] at hok
    obtain ⟨g1, hok2⟩ := jand hok
    have hl := of_decide_eq_true g1
    clear hok g1
    subst hl
    have hok := hok2
    match b, hok, h2, h3 with
    | 0, hok, h2, h3 => exact jr_istore_n (n := ⟨a, ha⟩) (of_decide_eq_true (jand hok).1) (of_decide_eq_true (jand hok).2) h3
    | 1, hok, h2, h3 => exact jr_lstore_n (n := ⟨a, ha⟩) (of_decide_eq_true (jand hok).1) (of_decide_eq_true (jand hok).2) h3
    | 2, hok, h2, h3 => exact jr_astore_n (n := ⟨a, ha⟩) (of_decide_eq_true (jand hok).1) (of_decide_eq_true (jand hok).2) (h2 rfl) h3
  · rw [dif_neg ha] at hok
    obtain ⟨g1, hok2⟩ := jand hok
    have hl := of_decide_eq_true g1
    clear hok g1
    subst hl
    have hok := hok2
    match b, hok, h2, h3 with
    | 0, hok, h2, h3 => exact jr_istore (of_decide_eq_true (jand hok).1) (of_decide_eq_true (jand hok).2) h3
    | 1, hok, h2, h3 => exact jr_lstore (of_decide_eq_true (jand hok).1) (of_decide_eq_true (jand hok).2) h3
    | 2, hok, h2, h3 => exact jr_astore (of_decide_eq_true (jand hok).1) (of_decide_eq_true (jand hok).2) (h2 rfl) h3
theorem js_const {len a b : Nat} {x : Int} {c : Nat} (hok : jok o i pc (0, len, x, a, b, c) = true) (h : jo G (0, len, x, a, b, c) (jJ G i mc ms P c0 s0) P pc lv st M) : jJ G i mc ms P c0 s0 pc lv st M := by
  have h : jJ G i mc ms P c0 s0 (pc + len) lv ((0, x) :: st) M := h
  match b, hok with
  | 0, hok =>
    obtain ⟨h1, h2⟩ := jand hok
    have h2 := of_decide_eq_true h2
    subst h2
    exact jr_iconst (of_decide_eq_true h1) h
  | 1, hok =>
    obtain ⟨g1, h3⟩ := jand hok
    obtain ⟨h1, g2⟩ := jand g1
    have h2 := of_decide_eq_true g2
    clear hok g1 g2
    subst h2
    exact jr_bipush (of_decide_eq_true h1) (of_decide_eq_true h3) h
  | 2, hok =>
    obtain ⟨g1, h3⟩ := jand hok
    obtain ⟨h1, g2⟩ := jand g1
    have h2 := of_decide_eq_true g2
    clear hok g1 g2
    subst h2
    exact jr_sipush (of_decide_eq_true h1) (of_decide_eq_true h3) h
  | 3, hok =>
    obtain ⟨g1, h3⟩ := jand hok
    obtain ⟨h1, g2⟩ := jand g1
    have h2 := of_decide_eq_true g2
    clear hok g1 g2
    subst h2
    exact jr_ldc (jat_mem h3) (of_decide_eq_true h1) h
  | n + 4, hok =>
    obtain ⟨g1, h3⟩ := jand hok
    obtain ⟨h1, g2⟩ := jand g1
    have h2 := of_decide_eq_true g2
    clear hok g1 g2
    subst h2
    exact jr_ldcw (jat_mem h3) (of_decide_eq_true h1) h
theorem js_lconst {len a b : Nat} {x : Int} {c : Nat} (hok : jok o i pc (41, len, x, a, b, c) = true) (h : jo G (41, len, x, a, b, c) (jJ G i mc ms P c0 s0) P pc lv st M) : jJ G i mc ms P c0 s0 pc lv st M := by
  have h : jJ G i mc ms P c0 s0 (pc + len) lv ((1, x) :: st) M := h
  match b, hok with
  | 0, hok =>
    simp only [jok] at hok
    by_cases hx : x.toNat < 2
    · rw [dif_pos hx] at hok
      obtain ⟨g1, h3⟩ := jand hok
      obtain ⟨h1, g2⟩ := jand g1
      have h2 := of_decide_eq_true g2
      clear hok g1 g2
      subst h2
      exact jr_lconst (n := ⟨x.toNat, hx⟩) (of_decide_eq_true h1) (of_decide_eq_true h3) h
    · rw [dif_neg hx] at hok
      cases hok
  | n + 1, hok =>
    obtain ⟨g1, h3⟩ := jand hok
    obtain ⟨h1, g2⟩ := jand g1
    have h2 := of_decide_eq_true g2
    clear hok g1 g2
    subst h2
    exact jr_ldc2 (jat_mem h3) (of_decide_eq_true h1) h
theorem js_if {len a b : Nat} {x : Int} {c : Nat} (hok : jok o i pc (19, len, x, a, b, c) = true) (h : jo G (19, len, x, a, b, c) (jJ G i mc ms P c0 s0) P pc lv st M) : jJ G i mc ms P c0 s0 pc lv st M := by
  dsimp only [jo] at h
  obtain ⟨v, r, rfl, hv, kt, kf⟩ := jo1_inv h
  match a, hok, kt, kf with
  | 0, hok, kt, kf => exact jr_if_eq (of_decide_eq_true hok) (jofs_t pc b) hv kt kf
  | 1, hok, kt, kf => exact jr_if_ne (of_decide_eq_true hok) (jofs_t pc b) hv kt kf
  | 2, hok, kt, kf => exact jr_if_lt (of_decide_eq_true hok) (jofs_t pc b) hv kt kf
  | 3, hok, kt, kf => exact jr_if_ge (of_decide_eq_true hok) (jofs_t pc b) hv kt kf
  | 4, hok, kt, kf => exact jr_if_gt (of_decide_eq_true hok) (jofs_t pc b) hv kt kf
  | n + 5, hok, kt, kf => exact jr_if_le (of_decide_eq_true hok) (jofs_t pc b) hv kt kf
theorem js_icmp {len a b : Nat} {x : Int} {c : Nat} (hok : jok o i pc (20, len, x, a, b, c) = true) (h : jo G (20, len, x, a, b, c) (jJ G i mc ms P c0 s0) P pc lv st M) : jJ G i mc ms P c0 s0 pc lv st M := by
  dsimp only [jo] at h
  obtain ⟨v, w, r, rfl, hv, hw, kt, kf⟩ := jo2_inv h
  match a, hok, kt, kf with
  | 0, hok, kt, kf => exact jr_icmp_eq (of_decide_eq_true hok) (jofs_t pc b) hv hw kt kf
  | 1, hok, kt, kf => exact jr_icmp_ne (of_decide_eq_true hok) (jofs_t pc b) hv hw kt kf
  | 2, hok, kt, kf => exact jr_icmp_lt (of_decide_eq_true hok) (jofs_t pc b) hv hw kt kf
  | 3, hok, kt, kf => exact jr_icmp_ge (of_decide_eq_true hok) (jofs_t pc b) hv hw kt kf
  | 4, hok, kt, kf => exact jr_icmp_gt (of_decide_eq_true hok) (jofs_t pc b) hv hw kt kf
  | n + 5, hok, kt, kf => exact jr_icmp_le (of_decide_eq_true hok) (jofs_t pc b) hv hw kt kf
theorem js_lcmp {len a b : Nat} {x : Int} {c : Nat} (hok : jok o i pc (22, len, x, a, b, c) = true) (h : jo G (22, len, x, a, b, c) (jJ G i mc ms P c0 s0) P pc lv st M) : jJ G i mc ms P c0 s0 pc lv st M := by
  dsimp only [jo] at h
  obtain ⟨v, w, r, rfl, hv, hw, kt, kf⟩ := jo2_inv h
  obtain ⟨hok0, hok⟩ := jand hok
  match a, hok, kt, kf with
  | 0, hok, kt, kf => exact jr_lcmp_eq (of_decide_eq_true hok0) (of_decide_eq_true hok) (jofs_t (pc + 1) b) hv hw kt kf
  | 1, hok, kt, kf => exact jr_lcmp_ne (of_decide_eq_true hok0) (of_decide_eq_true hok) (jofs_t (pc + 1) b) hv hw kt kf
  | 2, hok, kt, kf => exact jr_lcmp_lt (of_decide_eq_true hok0) (of_decide_eq_true hok) (jofs_t (pc + 1) b) hv hw kt kf
  | 3, hok, kt, kf => exact jr_lcmp_ge (of_decide_eq_true hok0) (of_decide_eq_true hok) (jofs_t (pc + 1) b) hv hw kt kf
  | 4, hok, kt, kf => exact jr_lcmp_gt (of_decide_eq_true hok0) (of_decide_eq_true hok) (jofs_t (pc + 1) b) hv hw kt kf
  | n + 5, hok, kt, kf => exact jr_lcmp_le (of_decide_eq_true hok0) (of_decide_eq_true hok) (jofs_t (pc + 1) b) hv hw kt kf
theorem js_get {len a b : Nat} {x : Int} {c : Nat} (hi : i.1.cls = jcn o) (hok : jok o i pc (23, len, x, a, b, c) = true) (h : jo G (23, len, x, a, b, c) (jJ G i mc ms P c0 s0) P pc lv st M) : jJ G i mc ms P c0 s0 pc lv st M := by
  dsimp only [jo] at h
  obtain ⟨q, r, rfl, ⟨⟨h0, hN⟩, hL, hci⟩, k⟩ := jo1_inv h
  obtain ⟨hok, h2⟩ := jand hok
  obtain ⟨hd, h1⟩ := jand hok
  have h2 := of_decide_eq_true h2
  obtain ⟨u, hr, hw⟩ := jfl_ok c (of_decide_eq_true h1) (List.getElem?_eq_some_iff.mp h2).1
  rw [← hi] at hw
  exact jr_get hr (jcls_all a u hr) h2 hw (of_decide_eq_true hd) h0 hN hL hci k
theorem js_put {len a b : Nat} {x : Int} {c : Nat} (hi : i.1.cls = jcn o) (hok : jok o i pc (24, len, x, a, b, c) = true) (h : jo G (24, len, x, a, b, c) (jJ G i mc ms P c0 s0) P pc lv st M) : jJ G i mc ms P c0 s0 pc lv st M := by
  dsimp only [jo] at h
  obtain ⟨q, v, r, rfl, ⟨⟨h0, hN⟩, hL, hci⟩, hs, hz, k⟩ := jo2_inv h
  obtain ⟨hok, h4⟩ := jand hok
  obtain ⟨hok, h3⟩ := jand hok
  obtain ⟨hok, h2⟩ := jand hok
  obtain ⟨hd, h1⟩ := jand hok
  have h2 := of_decide_eq_true h2
  obtain ⟨u, hr, hw⟩ := jfl_ok c (of_decide_eq_true h1) (List.getElem?_eq_some_iff.mp h2).1
  rw [← hi] at hw
  rw [hr] at h3
  exact jr_put hr (jcls_all a u hr) h2 (by simpa using h3) hw (of_decide_eq_true hd) h0 hN hL hci hs hz (of_decide_eq_true h4) k
theorem js_ald {len a b : Nat} {x : Int} {c : Nat} (hok : jok o i pc (25, len, x, a, b, c) = true) (h : jo G (25, len, x, a, b, c) (jJ G i mc ms P c0 s0) P pc lv st M) : jJ G i mc ms P c0 s0 pc lv st M := by
  dsimp only [jo] at h
  obtain ⟨q, v, r, rfl, ⟨⟨h0, hN⟩, hL, hx, hx2, hn⟩, k⟩ := jo2_inv h
  match a, hok, hL, k with
  | 1, hok, hL, k => exact jr_iald (of_decide_eq_true hok) h0 hN hL hx hx2 hn k
  | 2, hok, hL, k => exact jr_lald (of_decide_eq_true hok) h0 hN hL hx hx2 hn k
  | 3, hok, hL, k => exact jr_bald (of_decide_eq_true hok) h0 hN hL hx hx2 hn k
  | 4, hok, hL, k => exact jr_zald (of_decide_eq_true hok) h0 hN hL hx hx2 hn k
  | 5, hok, hL, k => exact jr_aald (n := 0) (C := RX0) rfl (of_decide_eq_true hok) h0 hN hL hx hx2 hn k
  | 6, hok, hL, k => exact jr_aald (n := 1) (C := RX5) rfl (of_decide_eq_true hok) h0 hN hL hx hx2 hn k
  | 7, hok, hL, k => exact jr_aald (n := 2) (C := RX6) rfl (of_decide_eq_true hok) h0 hN hL hx hx2 hn k
theorem js_ast {len a b : Nat} {x : Int} {c : Nat} (hok : jok o i pc (26, len, x, a, b, c) = true) (h : jo G (26, len, x, a, b, c) (jJ G i mc ms P c0 s0) P pc lv st M) : jJ G i mc ms P c0 s0 pc lv st M := by
  dsimp only [jo] at h
  obtain ⟨q, v, w, r, rfl, ⟨⟨h0, hN⟩, hL, hx, hx2, hn⟩, h8, hz, k⟩ := jo3_inv h
  match a, hok, hL, h8, hz, k with
  | 1, hok, hL, h8, hz, k => exact jr_iast (of_decide_eq_true hok) h0 hN hL hx hx2 hn k
  | 2, hok, hL, h8, hz, k => exact jr_last (of_decide_eq_true hok) h0 hN hL hx hx2 hn k
  | 3, hok, hL, h8, hz, k => exact jr_bast (of_decide_eq_true hok) h0 hN hL hx hx2 hn (h8 rfl) k
  | 4, hok, hL, h8, hz, k => exact jr_zast (of_decide_eq_true hok) h0 hN hL hx hx2 hn (hz rfl) k
theorem js_callV {len a b : Nat} {x : Int} {c : Nat} (h99 : o ≠ 99) (hi : i.1.cls = jcn o) (hc : c0 ≤ mc) (hs : s0 ≤ ms) (hok : jok o i pc (28, len, x, a, b, c) = true) (h : jo G (28, len, x, a, b, c) (jJ G i mc ms P c0 s0) P pc lv st M) : jJ G i mc ms P c0 s0 pc lv st M := by
  obtain ⟨hok, hb⟩ := jand hok
  obtain ⟨hok, hr⟩ := jand hok
  obtain ⟨hd, hl⟩ := jand hok
  have hb := of_decide_eq_true hb
  obtain ⟨m0, m1⟩ := jmf_ok a _ _ ⟨hb.1, hb.2.1⟩ (by decide)
  rw [hb.2.2] at m1
  obtain ⟨m1, m2, u, hu, m3⟩ := m1.1 rfl
  have hl := (jml_ok c _ _ _ (of_decide_eq_true hl)).resolve_left h99
  rw [← hi] at hl
  dsimp only [jo] at h
  cases hq : st.drop b with
  | nil => rw [hq] at h; exact h.elim
  | cons q r =>
    rw [hq] at h
    obtain ⟨t, z⟩ := q
    obtain ⟨ht, ⟨⟨g0, gN⟩, gL, gci⟩, h8, hlen, k⟩ := h
    have ht : t = 2 := ht
    subst ht
    have e1 : st = (st.take b).reverse.reverse ++ (2, z) :: r := by rw [List.reverse_reverse, ← hq, List.take_append_drop]
    have e2 : (st.take b).reverse.length = b := by simp; omega
    rw [e1]
    exact jr_callV (mc' := 0) (ms' := 0) hu m3 (e2.symm ▸ ⟨m0.1, m0.2.1, m0.2.2, of_decide_eq_true (jand hr).1, of_decide_eq_true (jand hr).2⟩) hl m1 m2 (of_decide_eq_true hd) h8 g0 gN gL gci hc hs k
theorem js_callS {len a b : Nat} {x : Int} {c : Nat} (h99 : o ≠ 99) (hi : i.1.cls = jcn o) (hc : c0 ≤ mc) (hs : s0 ≤ ms) (hok : jok o i pc (29, len, x, a, b, c) = true) (h : jo G (29, len, x, a, b, c) (jJ G i mc ms P c0 s0) P pc lv st M) : jJ G i mc ms P c0 s0 pc lv st M := by
  obtain ⟨hok, hb⟩ := jand hok
  obtain ⟨hok, hr⟩ := jand hok
  obtain ⟨hd, hl⟩ := jand hok
  obtain ⟨m0, m1⟩ := jmf_ok a _ _ (of_decide_eq_true hb) (by decide)
  have m1 := m1.2 rfl
  have hl := (jml_ok c _ _ _ (of_decide_eq_true hl)).resolve_left h99
  rw [← hi] at hl
  obtain ⟨h8, hlen, k⟩ := h
  have e1 : st = (st.take b).reverse.reverse ++ st.drop b := by rw [List.reverse_reverse, List.take_append_drop]
  have e2 : (st.take b).reverse.length = b := by simp; omega
  rw [e1]
  exact jr_callS (mc' := 0) (ms' := 0) (e2.symm ▸ ⟨m0.1, m0.2.1, m0.2.2, of_decide_eq_true (jand hr).1, of_decide_eq_true (jand hr).2⟩) hl m1 (of_decide_eq_true hd) h8 hc hs k
theorem js_callN {len a b : Nat} {x : Int} {c : Nat} (h99 : o ≠ 99) (hi : i.1.cls = jcn o) (hc : c0 ≤ mc) (hs : s0 ≤ ms) (hok : jok o i pc (30, len, x, a, b, c) = true) (h : jo G (30, len, x, a, b, c) (jJ G i mc ms P c0 s0) P pc lv st M) : jJ G i mc ms P c0 s0 pc lv st M := by
  obtain ⟨hok, hb⟩ := jand hok
  obtain ⟨hok, hr⟩ := jand hok
  obtain ⟨hd, hl⟩ := jand hok
  obtain ⟨m0, m1⟩ := jmf_ok a _ _ (of_decide_eq_true hb) (by decide)
  have m1 := m1.2 rfl
  have hl := (jnl_ok c _ _ _ (of_decide_eq_true hl)).resolve_left h99
  rw [← hi] at hl
  obtain ⟨h8, hlen, k⟩ := h
  have e1 : st = (st.take b).reverse.reverse ++ st.drop b := by rw [List.reverse_reverse, List.take_append_drop]
  have e2 : (st.take b).reverse.length = b := by simp; omega
  rw [e1]
  exact jr_callSN (mc' := 0) (ms' := 0) (e2.symm ▸ ⟨m0.1, m0.2.1, m0.2.2, of_decide_eq_true (jand hr).1, of_decide_eq_true (jand hr).2⟩) hl m1 (of_decide_eq_true hd) h8 hc hs k
theorem js_ret {len a b : Nat} {x : Int} {c : Nat} (hc : c0 ≤ mc) (hs : s0 ≤ ms) (hok : jok o i pc (31, len, x, a, b, c) = true) (h : jo G (31, len, x, a, b, c) (jJ G i mc ms P c0 s0) P pc lv st M) : jJ G i mc ms P c0 s0 pc lv st M := by
  have key : a ≠ 4 → ∃ z : Int, st = [(jtg a, z)] ∧ (a = 3 → z = 0 ∨ z = 1) ∧ (a = 2 → 0 ≤ z) ∧ P (some (jtg a, z)) M := by
    intro ha
    unfold jo at h
    match a, ha, h with
    | 4, ha, _ => exact absurd rfl ha
    | 0, _, h | 1, _, h | 2, _, h | 3, _, h | n + 5, _, h =>
      match st, h with
      | [(t, z)], h =>
        obtain ⟨h1, h2, h3, h4⟩ := h
        have h1 := show t = _ from h1
        subst h1
        exact ⟨z, rfl, h2, h3, h4⟩
  match a, hok, h, key with
  | 0, hok, _, key =>
    obtain ⟨z, rfl, -, -, h4⟩ := key (by decide)
    exact jr_iret (of_decide_eq_true (jand hok).1) (of_decide_eq_true (jand hok).2) hc hs h4
  | 1, hok, _, key =>
    obtain ⟨z, rfl, -, -, h4⟩ := key (by decide)
    exact jr_lret (of_decide_eq_true (jand hok).1) (of_decide_eq_true (jand hok).2) hc hs h4
  | 2, hok, _, key =>
    obtain ⟨z, rfl, -, h3, h4⟩ := key (by decide)
    exact jr_aret (of_decide_eq_true (jand hok).1) (of_decide_eq_true (jand hok).2) (h3 rfl) hc hs h4
  | 3, hok, _, key =>
    obtain ⟨z, rfl, h2, -, h4⟩ := key (by decide)
    exact jr_zret (of_decide_eq_true (jand hok).1) (of_decide_eq_true (jand hok).2) (h2 rfl) hc hs h4
  | 4, hok, h, _ =>
    obtain ⟨rfl, h4⟩ := h
    exact jr_vret (of_decide_eq_true (jand hok).1) (of_decide_eq_true (jand hok).2) hc hs h4
theorem jsw_at {x : Int} {k : Nat → Prop} : ∀ {ts : List Nat} {lo : Int}, jsw x lo ts k → ∀ (n t : Nat), ts[n]? = some t → x = lo + (n : Int) → k t
  | [], _, _, n, t, h, _ => by simp at h
  | u :: r, lo, h, 0, t, ht, hx => by
    simp at ht
    subst ht
    exact h.1 (by omega)
  | u :: r, lo, h, n + 1, t, ht, hx => jsw_at (lo := lo + 1) h.2 n t (by simpa using ht) (by omega)
theorem js_tsw {len a b : Nat} {x : Int} {c : Nat} (hok : jok o i pc (35, len, x, a, b, c) = true) (h : jo G (35, len, x, a, b, c) (jJ G i mc ms P c0 s0) P pc lv st M) : jJ G i mc ms P c0 s0 pc lv st M := by
  dsimp only [jo] at h
  obtain ⟨v, r, rfl, hv, hsw, hdf⟩ := jo1_inv h
  have hd := of_decide_eq_true (show decide _ = true from hok)
  have hV := jI32_to hv
  intro p e s m args below meth cc H locs ls X hh hS hl
  by_cases hin : v < x ∨ x + ((jtsw a).2.length : Int) ≤ v
  · exact lv_tableOut X.1 X.2.1 hd (by rw [hV]; omega) (jofs_t pc _) (hdf hin p e s m args below meth cc H locs ls X hh hS hl)
  · have hlt : (v - x).toNat < (jtsw a).2.length := by omega
    have hg : (jtsw a).2[(v - x).toNat]? = some ((jtsw a).2[(v - x).toNat]) := List.getElem?_eq_getElem hlt
    refine lv_tableIn X.1 X.2.1 hd (by rw [hV]; omega) (by rw [hV]; omega) (off := jofs pc ((jtsw a).2[(v - x).toNat])) (by rw [hV]; simp [hg]) (jofs_t pc _) ?_
    exact jsw_at (x := v) (lo := x) hsw _ _ hg (by omega) p e s m args below meth cc H locs ls X hh hS hl
theorem jsl_at {pc : Nat} {x : Int} {d : Nat} {k : Nat → Prop} : ∀ {ps : List (Int × Nat)}, jsl x ps d k → ∃ t : Nat, Op.lookupswitch.offset (ps.map (fun q => (q.1, jofs pc q.2))) (jofs pc d) x = jofs pc t ∧ k t
  | [], h => ⟨d, by simp [Op.lookupswitch.offset], h⟩
  | u :: r, h => by
    by_cases hx : x = u.1
    · exact ⟨u.2, by simp [Op.lookupswitch.offset, hx], h.1 hx⟩
    · obtain ⟨t, h1, h2⟩ := jsl_at (pc := pc) (h.2 hx)
      refine ⟨t, ?_, h2⟩
      rw [← h1]
      simp only [List.map_cons, Op.lookupswitch.offset]
      rw [if_neg (by first | exact hx | exact Ne.symm hx)]
theorem js_lsw {len a b : Nat} {x : Int} {c : Nat} (hok : jok o i pc (36, len, x, a, b, c) = true) (h : jo G (36, len, x, a, b, c) (jJ G i mc ms P c0 s0) P pc lv st M) : jJ G i mc ms P c0 s0 pc lv st M := by
  dsimp only [jo] at h
  obtain ⟨v, r, rfl, hv, hsl⟩ := jo1_inv h
  obtain ⟨hd, hord⟩ := jand hok
  have hd := of_decide_eq_true hd
  have hV := jI32_to hv
  obtain ⟨t, h1, h2⟩ := jsl_at (pc := pc) hsl
  intro p e s m args below meth cc H locs ls X hh hS hl
  exact lv_lookup X.1 X.2.1 hd (by simpa using hord) (by rw [hV]; exact h1) (jofs_t pc t) (h2 p e s m args below meth cc H locs ls X hh hS hl)
theorem jo_sound {e : jE} (h99 : o ≠ 99) (hi : i.1.cls = jcn o) (hc : c0 ≤ mc) (hs : s0 ≤ ms) (hok : jok o i pc e = true) (h : jo G e (jJ G i mc ms P c0 s0) P pc lv st M) : jJ G i mc ms P c0 s0 pc lv st M := by
  obtain ⟨op, len, x, a, b, c⟩ := e
  match op, hok, h with
  | 0, hok, h => exact js_const hok h
  | 1, hok, h => exact js_load hok h
  | 2, hok, h => exact js_store hok h
  | 3, hok, h =>
    dsimp only [jo] at h
    cases hv : jlk lv a with
    | none => rw [hv] at h; exact h.elim
    | some v =>
      rw [hv] at h
      dsimp only [jol] at h
      obtain ⟨t, z⟩ := v
      obtain ⟨h1, h2⟩ := h
      have h1 : t = 0 := h1
      subst h1
      exact jr_iinc (of_decide_eq_true (jand hok).1) (of_decide_eq_true (jand hok).2) hv h2
  | 4, hok, h =>
    dsimp only [jo] at h
    obtain ⟨v, w, r, rfl, k⟩ := jo2_inv h
    exact jr_iadd (of_decide_eq_true hok) k
  | 5, hok, h =>
    dsimp only [jo] at h
    obtain ⟨v, w, r, rfl, k⟩ := jo2_inv h
    exact jr_isub (of_decide_eq_true hok) k
  | 6, hok, h =>
    dsimp only [jo] at h
    obtain ⟨v, w, r, rfl, k⟩ := jo2_inv h
    exact jr_imul (of_decide_eq_true hok) k
  | 7, hok, h =>
    dsimp only [jo] at h
    obtain ⟨v, w, r, rfl, h1, h2, h3, k⟩ := jo2_inv h
    exact jr_idiv (of_decide_eq_true hok) h1 h2 h3 k
  | 8, hok, h =>
    dsimp only [jo] at h
    obtain ⟨v, w, r, rfl, h1, h2, h3, k⟩ := jo2_inv h
    exact jr_irem (of_decide_eq_true hok) h1 h2 h3 k
  | 9, hok, h =>
    dsimp only [jo] at h
    obtain ⟨v, r, rfl, k⟩ := jo1_inv h
    exact jr_ineg (of_decide_eq_true hok) k
  | 10, hok, h =>
    dsimp only [jo] at h
    obtain ⟨v, w, r, rfl, k⟩ := jo2_inv h
    exact jr_ladd (of_decide_eq_true hok) k
  | 11, hok, h =>
    dsimp only [jo] at h
    obtain ⟨v, w, r, rfl, k⟩ := jo2_inv h
    exact jr_lsub (of_decide_eq_true hok) k
  | 12, hok, h =>
    dsimp only [jo] at h
    obtain ⟨v, w, r, rfl, k⟩ := jo2_inv h
    exact jr_lmul (of_decide_eq_true hok) k
  | 13, hok, h =>
    dsimp only [jo] at h
    obtain ⟨v, w, r, rfl, h1, h2, h3, k⟩ := jo2_inv h
    exact jr_ldiv (of_decide_eq_true hok) h1 h2 h3 k
  | 14, hok, h =>
    dsimp only [jo] at h
    obtain ⟨v, w, r, rfl, h1, h2, h3, k⟩ := jo2_inv h
    exact jr_lrem (of_decide_eq_true hok) h1 h2 h3 k
  | 15, hok, h =>
    dsimp only [jo] at h
    obtain ⟨v, r, rfl, k⟩ := jo1_inv h
    exact jr_lneg (of_decide_eq_true hok) k
  | 16, hok, h =>
    dsimp only [jo] at h
    obtain ⟨v, r, rfl, h1, k⟩ := jo1_inv h
    exact jr_i2l (of_decide_eq_true hok) h1 k
  | 17, hok, h =>
    dsimp only [jo] at h
    obtain ⟨v, r, rfl, k⟩ := jo1_inv h
    exact jr_l2i (of_decide_eq_true hok) k
  | 18, hok, h =>
    dsimp only [jo] at h
    obtain ⟨v, r, rfl, k⟩ := jo1_inv h
    exact jr_i2b (of_decide_eq_true hok) k
  | 19, hok, h => exact js_if hok h
  | 20, hok, h => exact js_icmp hok h
  | 21, hok, h => exact jr_goto (of_decide_eq_true hok) (jofs_t pc b) h
  | 22, hok, h => exact js_lcmp hok h
  | 23, hok, h => exact js_get hi hok h
  | 24, hok, h => exact js_put hi hok h
  | 25, hok, h => exact js_ald hok h
  | 26, hok, h => exact js_ast hok h
  | 27, hok, h =>
    dsimp only [jo] at h
    obtain ⟨q, r, rfl, ⟨h0, hN⟩, hL, k⟩ := jo1_inv h
    exact jr_alen (of_decide_eq_true hok) h0 hN hL k
  | 28, hok, h => exact js_callV h99 hi hc hs hok h
  | 29, hok, h => exact js_callS h99 hi hc hs hok h
  | 30, hok, h => exact js_callN h99 hi hc hs hok h
  | 31, hok, h => exact js_ret hc hs hok h
  | 32, hok, h =>
    match st, h with
    | v :: r, h => exact jr_dup (of_decide_eq_true hok) h.1 h.2
  | 33, hok, h =>
    match a, st, h with
    | 0, v :: w :: r, h => exact jr_dup2 (of_decide_eq_true hok) h.1 h.2.1 h.2.2
    | n + 1, v :: r, h => exact jr_dup2l (of_decide_eq_true hok) h.1 h.2
  | 34, hok, h =>
    match st, h with
    | v :: r, h => exact jr_pop (of_decide_eq_true hok) h.1 h.2
  | 35, hok, h => exact js_tsw hok h
  | 36, hok, h => exact js_lsw hok h
  | 37, hok, h =>
    dsimp only [jo] at h
    obtain ⟨v, w, r, rfl, k⟩ := jo2_inv h
    exact jr_ishl (of_decide_eq_true hok) k
  | 38, hok, h =>
    dsimp only [jo] at h
    obtain ⟨v, w, r, rfl, k⟩ := jo2_inv h
    exact jr_ishr (of_decide_eq_true hok) k
  | 39, hok, h =>
    dsimp only [jo] at h
    obtain ⟨v, w, r, rfl, k⟩ := jo2_inv h
    exact jr_iand (of_decide_eq_true hok) k
  | 40, hok, h =>
    dsimp only [jo] at h
    obtain ⟨v, w, r, rfl, k⟩ := jo2_inv h
    exact jr_ior (of_decide_eq_true hok) k
  | 41, hok, h => exact js_lconst hok h
  | 42, hok, h =>
    dsimp only [jo] at h
    obtain ⟨v, w, r, rfl, k⟩ := jo2_inv h
    exact jr_lxor (of_decide_eq_true hok) k
  | 43, hok, h =>
    dsimp only [jo] at h
    obtain ⟨q, v, w, r, rfl, ⟨⟨h0, hN⟩, hL, hx, hx2, hn⟩, hs', ⟨⟨g0, gN⟩, gL, gci⟩, k⟩ := jo3_inv h
    obtain ⟨hok, hb⟩ := jand hok
    obtain ⟨hd, ha⟩ := jand hok
    have ha := of_decide_eq_true ha
    have hb := of_decide_eq_true hb
    subst ha
    subst hb
    exact jr_aast (n := 2) (r := (RX6, TX6, 2)) rfl rfl (of_decide_eq_true hd) h0 hN hL hx hx2 hn hs' g0 gN gL gci k
  | n + 44, hok, h => exact h.elim
end SOUND

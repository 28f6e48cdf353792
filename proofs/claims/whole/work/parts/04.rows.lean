/-! Rows of jJ: one for each kind of instruction. -/
def jI32 (x : Int) : Prop := -2147483648 ≤ x ∧ x ≤ 2147483647
def jI64 (x : Int) : Prop := -9223372036854775808 ≤ x ∧ x ≤ 9223372036854775807
theorem jI32_to {x : Int} (h : jI32 x) : (Int32.ofInt x).toInt = x := Int32.toInt_ofInt_of_le (by have := h.1; omega) (by have := h.2; omega)
theorem jI64_to {x : Int} (h : jI64 x) : (Int64.ofInt x).toInt = x := Int64.toInt_ofInt_of_le (by have := h.1; omega) (by have := h.2; omega)
/-- comparisons: 0 =, 1 ≠, 2 <, 3 ≥, 4 >, 5 ≤ -/
def jcnd (c : Nat) (x y : Int) : Prop := match c with
  | 0 => x = y
  | 1 => x ≠ y
  | 2 => x < y
  | 3 => y ≤ x
  | 4 => y < x
  | _ => x ≤ y
section ROWS
variable {G : jG} {i : jI} {mc ms : Nat} {P : Option jV → jM → Prop} {c0 s0 pc : Nat} {lv : List (Nat × jV)} {st : List jV} {M : jM}
theorem jr_iconst {n : Int} (hd : decode i.2.1 pc = .ok (.iconst n, 1)) (k : jJ G i mc ms P c0 s0 (pc + 1) lv ((0, n) :: st) M) : jJ G i mc ms P c0 s0 pc lv st M := by
  intro p e s m args below meth c H locs ls X hh hS hl
  exact lv_iconst X.1 X.2.1 hd rfl (k p e s m args below meth c H locs ls X hh hS hl)
theorem jr_bipush {n : Int} (hd : decode i.2.1 pc = .ok (.bipush n, 2)) (hn : (Int8.ofInt n).toInt32 = Int32.ofInt n) (k : jJ G i mc ms P c0 s0 (pc + 2) lv ((0, n) :: st) M) : jJ G i mc ms P c0 s0 pc lv st M := by
  intro p e s m args below meth c H locs ls X hh hS hl
  exact lv_bipush X.1 X.2.1 hd hn (k p e s m args below meth c H locs ls X hh hS hl)
theorem jr_sipush {n : Int} (hd : decode i.2.1 pc = .ok (.sipush n, 3)) (hn : (Int16.ofInt n).toInt32 = Int32.ofInt n) (k : jJ G i mc ms P c0 s0 (pc + 3) lv ((0, n) :: st) M) : jJ G i mc ms P c0 s0 pc lv st M := by
  intro p e s m args below meth c H locs ls X hh hS hl
  exact lv_sipush X.1 X.2.1 hd hn (k p e s m args below meth c H locs ls X hh hS hl)
theorem jr_lconst {n : Fin 2} {v : Int} (hd : decode i.2.1 pc = .ok (.lconst n, 1)) (hn : Int64.ofNat (n : Nat) = Int64.ofInt v) (k : jJ G i mc ms P c0 s0 (pc + 1) lv ((1, v) :: st) M) : jJ G i mc ms P c0 s0 pc lv st M := by
  intro p e s m args below meth c H locs ls X hh hS hl
  exact lv_lconst X.1 X.2.1 hd hn (k p e s m args below meth c H locs ls X hh hS hl)
theorem jr_ldc {index : Nat} {n : Int} (hw : Cond.constant i.1.cls index (Int32.ofInt n) ∈ jtbl) (hd : decode i.2.1 pc = .ok (.ldc index, 2)) (k : jJ G i mc ms P c0 s0 (pc + 2) lv ((0, n) :: st) M) : jJ G i mc ms P c0 s0 pc lv st M := by
  intro p e s m args below meth c H locs ls X hh hS hl
  exact lv_ldc X.1 X.2.1 X.2.2.2.1 (X.2.2.2.2.1 _ hw) hd (k p e s m args below meth c H locs ls X hh hS hl)
theorem jr_ldcw {index : Nat} {n : Int} (hw : Cond.constant i.1.cls index (Int32.ofInt n) ∈ jtbl) (hd : decode i.2.1 pc = .ok (.ldc_w index, 3)) (k : jJ G i mc ms P c0 s0 (pc + 3) lv ((0, n) :: st) M) : jJ G i mc ms P c0 s0 pc lv st M := by
  intro p e s m args below meth c H locs ls X hh hS hl
  exact lv_ldcw X.1 X.2.1 X.2.2.2.1 (X.2.2.2.2.1 _ hw) hd (k p e s m args below meth c H locs ls X hh hS hl)
theorem jr_ldc2 {index : Nat} {n : Int} (hw : Cond.constantLong i.1.cls index (Int64.ofInt n) ∈ jtbl) (hd : decode i.2.1 pc = .ok (.ldc2_w index, 3)) (k : jJ G i mc ms P c0 s0 (pc + 3) lv ((1, n) :: st) M) : jJ G i mc ms P c0 s0 pc lv st M := by
  intro p e s m args below meth c H locs ls X hh hS hl
  exact lv_ldc2 X.1 X.2.1 X.2.2.2.1 (X.2.2.2.2.1 _ hw) hd (k p e s m args below meth c H locs ls X hh hS hl)
theorem jr_at {b : Nat} {ls : Array Slot} {nL n : Nat} {v : jV} (hl : lv_has ls nL (lv.map fun q => (q.1, jv b q.2))) (h : jlk lv n = some v) : ls[n]? = some (.val (jv b v)) :=
  hl.2.2 (n, jv b v) (List.mem_map.mpr ⟨(n, v), jlk_mem h, rfl⟩)
theorem jr_iload_n {n : Fin 4} {x : Int} (hd : decode i.2.1 pc = .ok (.iload_n n, 1)) (hv : jlk lv n = some (0, x)) (k : jJ G i mc ms P c0 s0 (pc + 1) lv ((0, x) :: st) M) : jJ G i mc ms P c0 s0 pc lv st M := by
  intro p e s m args below meth c H locs ls X hh hS hl
  exact lv_iload_n X.1 X.2.1 hd rfl (jr_at hl hv) (k p e s m args below meth c H locs ls X hh hS hl)
theorem jr_iload {n : Nat} {x : Int} (hd : decode i.2.1 pc = .ok (.iload n, 2)) (hv : jlk lv n = some (0, x)) (k : jJ G i mc ms P c0 s0 (pc + 2) lv ((0, x) :: st) M) : jJ G i mc ms P c0 s0 pc lv st M := by
  intro p e s m args below meth c H locs ls X hh hS hl
  exact lv_iload X.1 X.2.1 hd (jr_at hl hv) (k p e s m args below meth c H locs ls X hh hS hl)
theorem jr_lload_n {n : Fin 4} {x : Int} (hd : decode i.2.1 pc = .ok (.lload_n n, 1)) (hv : jlk lv n = some (1, x)) (k : jJ G i mc ms P c0 s0 (pc + 1) lv ((1, x) :: st) M) : jJ G i mc ms P c0 s0 pc lv st M := by
  intro p e s m args below meth c H locs ls X hh hS hl
  exact lv_lload_n X.1 X.2.1 hd rfl (jr_at hl hv) (k p e s m args below meth c H locs ls X hh hS hl)
theorem jr_lload {n : Nat} {x : Int} (hd : decode i.2.1 pc = .ok (.lload n, 2)) (hv : jlk lv n = some (1, x)) (k : jJ G i mc ms P c0 s0 (pc + 2) lv ((1, x) :: st) M) : jJ G i mc ms P c0 s0 pc lv st M := by
  intro p e s m args below meth c H locs ls X hh hS hl
  exact lv_lload X.1 X.2.1 hd (jr_at hl hv) (k p e s m args below meth c H locs ls X hh hS hl)
theorem jr_aload_n {n : Fin 4} {x : Int} (hd : decode i.2.1 pc = .ok (.aload_n n, 1)) (hv : jlk lv n = some (2, x)) (hx : 0 ≤ x) (k : jJ G i mc ms P c0 s0 (pc + 1) lv ((2, x) :: st) M) : jJ G i mc ms P c0 s0 pc lv st M := by
  intro p e s m args below meth c H locs ls X hh hS hl
  have ha := jr_at hl hv
  have hk := k p e s m args below meth c H locs ls X hh hS hl
  rw [List.map_cons] at hk
  rw [jv_ref _ hx] at ha hk
  exact lv_aload_n X.1 X.2.1 hd rfl ha hk
theorem jr_aload {n : Nat} {x : Int} (hd : decode i.2.1 pc = .ok (.aload n, 2)) (hv : jlk lv n = some (2, x)) (hx : 0 ≤ x) (k : jJ G i mc ms P c0 s0 (pc + 2) lv ((2, x) :: st) M) : jJ G i mc ms P c0 s0 pc lv st M := by
  intro p e s m args below meth c H locs ls X hh hS hl
  have ha := jr_at hl hv
  have hk := k p e s m args below meth c H locs ls X hh hS hl
  rw [List.map_cons] at hk
  rw [jv_ref _ hx] at ha hk
  exact lv_aload X.1 X.2.1 hd ha hk
theorem jr_istore_n {n : Fin 4} {x : Int} (hd : decode i.2.1 pc = .ok (.istore_n n, 1)) (hn : (n : Nat) < i.2.2.1) (k : jJ G i mc ms P c0 s0 (pc + 1) (jst lv n (0, x)) st M) : jJ G i mc ms P c0 s0 pc lv ((0, x) :: st) M := by
  intro p e s m args below meth c H locs ls X hh hS hl
  obtain ⟨ls', e', h'⟩ := jst_has (v := (0, x)) hl hn
  rw [jv_0] at e'
  have K := k p e s m args below meth c H locs ls' X hh hS h'
  have hexec := X.1
  have hb := X.2.1
  intro T hT Y
  obtain ⟨t, a, b⟩ := K T hT Y
  refine ⟨t, ?_, b⟩
  rw [List.map_cons, jv_0]
  jvm_step Y.here [Y.here.top, ↓top_set Y.here.top, hexec, hb, hd, e']
  exact a
theorem jr_istore {n : Nat} {x : Int} (hd : decode i.2.1 pc = .ok (.istore n, 2)) (hn : n < i.2.2.1) (k : jJ G i mc ms P c0 s0 (pc + 2) (jst lv n (0, x)) st M) : jJ G i mc ms P c0 s0 pc lv ((0, x) :: st) M := by
  intro p e s m args below meth c H locs ls X hh hS hl
  obtain ⟨ls', e', h'⟩ := jst_has (v := (0, x)) hl hn
  rw [jv_0] at e'
  have K := k p e s m args below meth c H locs ls' X hh hS h'
  have hexec := X.1
  have hb := X.2.1
  intro T hT Y
  obtain ⟨t, a, b⟩ := K T hT Y
  refine ⟨t, ?_, b⟩
  rw [List.map_cons, jv_0]
  jvm_step Y.here [Y.here.top, ↓top_set Y.here.top, hexec, hb, hd, e']
  exact a
theorem jr_lstore_n {n : Fin 4} {x : Int} (hd : decode i.2.1 pc = .ok (.lstore_n n, 1)) (hn : (n : Nat) + 1 < i.2.2.1) (k : jJ G i mc ms P c0 s0 (pc + 1) (jst lv n (1, x)) st M) : jJ G i mc ms P c0 s0 pc lv ((1, x) :: st) M := by
  intro p e s m args below meth c H locs ls X hh hS hl
  obtain ⟨ls', e', h'⟩ := jst_has (v := (1, x)) hl hn
  rw [jv_1] at e'
  have K := k p e s m args below meth c H locs ls' X hh hS h'
  have hexec := X.1
  have hb := X.2.1
  intro T hT Y
  obtain ⟨t, a, b⟩ := K T hT Y
  refine ⟨t, ?_, b⟩
  rw [List.map_cons, jv_1]
  jvm_step Y.here [Y.here.top, ↓top_set Y.here.top, hexec, hb, hd, e']
  exact a
theorem jr_lstore {n : Nat} {x : Int} (hd : decode i.2.1 pc = .ok (.lstore n, 2)) (hn : n + 1 < i.2.2.1) (k : jJ G i mc ms P c0 s0 (pc + 2) (jst lv n (1, x)) st M) : jJ G i mc ms P c0 s0 pc lv ((1, x) :: st) M := by
  intro p e s m args below meth c H locs ls X hh hS hl
  obtain ⟨ls', e', h'⟩ := jst_has (v := (1, x)) hl hn
  rw [jv_1] at e'
  have K := k p e s m args below meth c H locs ls' X hh hS h'
  have hexec := X.1
  have hb := X.2.1
  intro T hT Y
  obtain ⟨t, a, b⟩ := K T hT Y
  refine ⟨t, ?_, b⟩
  rw [List.map_cons, jv_1]
  jvm_step Y.here [Y.here.top, ↓top_set Y.here.top, hexec, hb, hd, e']
  exact a
theorem jr_astore_n {n : Fin 4} {x : Int} (hd : decode i.2.1 pc = .ok (.astore_n n, 1)) (hn : (n : Nat) < i.2.2.1) (hx : 0 ≤ x) (k : jJ G i mc ms P c0 s0 (pc + 1) (jst lv n (2, x)) st M) : jJ G i mc ms P c0 s0 pc lv ((2, x) :: st) M := by
  intro p e s m args below meth c H locs ls X hh hS hl
  obtain ⟨ls', e', h'⟩ := jst_has (v := (2, x)) hl hn
  rw [jv_ref _ hx] at e'
  have K := k p e s m args below meth c H locs ls' X hh hS h'
  have hexec := X.1
  have hb := X.2.1
  intro T hT Y
  obtain ⟨t, a, b⟩ := K T hT Y
  refine ⟨t, ?_, b⟩
  rw [List.map_cons, jv_ref _ hx]
  jvm_step Y.here [Y.here.top, ↓top_set Y.here.top, hexec, hb, hd, e', Value.isRef]
  exact a
theorem jr_astore {n : Nat} {x : Int} (hd : decode i.2.1 pc = .ok (.astore n, 2)) (hn : n < i.2.2.1) (hx : 0 ≤ x) (k : jJ G i mc ms P c0 s0 (pc + 2) (jst lv n (2, x)) st M) : jJ G i mc ms P c0 s0 pc lv ((2, x) :: st) M := by
  intro p e s m args below meth c H locs ls X hh hS hl
  obtain ⟨ls', e', h'⟩ := jst_has (v := (2, x)) hl hn
  rw [jv_ref _ hx] at e'
  have K := k p e s m args below meth c H locs ls' X hh hS h'
  have hexec := X.1
  have hb := X.2.1
  intro T hT Y
  obtain ⟨t, a, b⟩ := K T hT Y
  refine ⟨t, ?_, b⟩
  rw [List.map_cons, jv_ref _ hx]
  jvm_step Y.here [Y.here.top, ↓top_set Y.here.top, hexec, hb, hd, e', Value.isRef]
  exact a
theorem jr_iinc {n : Nat} {a x : Int} (hd : decode i.2.1 pc = .ok (.iinc n a, 3)) (hn : n < i.2.2.1) (hv : jlk lv n = some (0, x)) (k : jJ G i mc ms P c0 s0 (pc + 3) (jst lv n (0, x + a)) st M) : jJ G i mc ms P c0 s0 pc lv st M := by
  intro p e s m args below meth c H locs ls X hh hS hl
  obtain ⟨ls', e', h'⟩ := jst_has (v := (0, x + a)) hl hn
  rw [jv_0, Int32.ofInt_add] at e'
  have hg := jr_at hl hv
  rw [jv_0] at hg
  have K := k p e s m args below meth c H locs ls' X hh hS h'
  have hexec := X.1
  have hb := X.2.1
  intro T hT Y
  obtain ⟨t, a, b⟩ := K T hT Y
  refine ⟨t, ?_, b⟩
  jvm_step Y.here [Y.here.top, ↓top_set Y.here.top, hexec, hb, hd, hg, e']
  exact a
theorem jr_iadd {x y : Int} (hd : decode i.2.1 pc = .ok (.iadd, 1)) (k : jJ G i mc ms P c0 s0 (pc + 1) lv ((0, x + y) :: st) M) : jJ G i mc ms P c0 s0 pc lv ((0, y) :: (0, x) :: st) M := by
  intro p e s m args below meth c H locs ls X hh hS hl
  have K := k p e s m args below meth c H locs ls X hh hS hl
  rw [List.map_cons, jv_0, Int32.ofInt_add] at K
  exact lv_iadd X.1 X.2.1 hd K
theorem jr_isub {x y : Int} (hd : decode i.2.1 pc = .ok (.isub, 1)) (k : jJ G i mc ms P c0 s0 (pc + 1) lv ((0, x - y) :: st) M) : jJ G i mc ms P c0 s0 pc lv ((0, y) :: (0, x) :: st) M := by
  intro p e s m args below meth c H locs ls X hh hS hl
  have K := k p e s m args below meth c H locs ls X hh hS hl
  rw [List.map_cons, jv_0, Int32.ofInt_sub] at K
  exact lv_isub X.1 X.2.1 hd K
theorem jr_imul {x y : Int} (hd : decode i.2.1 pc = .ok (.imul, 1)) (k : jJ G i mc ms P c0 s0 (pc + 1) lv ((0, x * y) :: st) M) : jJ G i mc ms P c0 s0 pc lv ((0, y) :: (0, x) :: st) M := by
  intro p e s m args below meth c H locs ls X hh hS hl
  have K := k p e s m args below meth c H locs ls X hh hS hl
  rw [List.map_cons, jv_0, Int32.ofInt_mul] at K
  exact lv_imul X.1 X.2.1 hd K
theorem jr_idiv {x y : Int} (hd : decode i.2.1 pc = .ok (.idiv, 1)) (hx : jI32 x) (hy : jI32 y) (h0 : y ≠ 0) (k : jJ G i mc ms P c0 s0 (pc + 1) lv ((0, x.tdiv y) :: st) M) : jJ G i mc ms P c0 s0 pc lv ((0, y) :: (0, x) :: st) M := by
  intro p e s m args below meth c H locs ls X hh hS hl
  have K := k p e s m args below meth c H locs ls X hh hS hl
  rw [List.map_cons, jv_0, Int32.ofInt_tdiv (show Int32.minValue.toInt ≤ x from hx.1) (show x ≤ Int32.maxValue.toInt from hx.2) (show Int32.minValue.toInt ≤ y from hy.1) (show y ≤ Int32.maxValue.toInt from hy.2)] at K
  refine lv_idiv X.1 X.2.1 hd (fun z => h0 ?_) K
  have z2 := congrArg Int32.toInt z
  rw [jI32_to hy] at z2
  exact z2
theorem jr_irem {x y : Int} (hd : decode i.2.1 pc = .ok (.irem, 1)) (hx : jI32 x) (hy : jI32 y) (h0 : y ≠ 0) (k : jJ G i mc ms P c0 s0 (pc + 1) lv ((0, x.tmod y) :: st) M) : jJ G i mc ms P c0 s0 pc lv ((0, y) :: (0, x) :: st) M := by
  intro p e s m args below meth c H locs ls X hh hS hl
  have K := k p e s m args below meth c H locs ls X hh hS hl
  have e1 : x.tmod y = x - x.tdiv y * y := by rw [Int.tmod_def, Int.mul_comm]
  rw [List.map_cons, jv_0, e1, Int32.ofInt_sub, Int32.ofInt_mul, Int32.ofInt_tdiv (show Int32.minValue.toInt ≤ x from hx.1) (show x ≤ Int32.maxValue.toInt from hx.2) (show Int32.minValue.toInt ≤ y from hy.1) (show y ≤ Int32.maxValue.toInt from hy.2)] at K
  refine lv_irem X.1 X.2.1 hd (fun z => h0 ?_) K
  have z2 := congrArg Int32.toInt z
  rw [jI32_to hy] at z2
  exact z2
theorem jr_ineg {x : Int} (hd : decode i.2.1 pc = .ok (.ineg, 1)) (k : jJ G i mc ms P c0 s0 (pc + 1) lv ((0, -x) :: st) M) : jJ G i mc ms P c0 s0 pc lv ((0, x) :: st) M := by
  intro p e s m args below meth c H locs ls X hh hS hl
  have K := k p e s m args below meth c H locs ls X hh hS hl
  rw [List.map_cons, jv_0, Int32.ofInt_neg] at K
  exact lv_ineg X.1 X.2.1 hd K
theorem jr_ladd {x y : Int} (hd : decode i.2.1 pc = .ok (.ladd, 1)) (k : jJ G i mc ms P c0 s0 (pc + 1) lv ((1, x + y) :: st) M) : jJ G i mc ms P c0 s0 pc lv ((1, y) :: (1, x) :: st) M := by
  intro p e s m args below meth c H locs ls X hh hS hl
  have K := k p e s m args below meth c H locs ls X hh hS hl
  rw [List.map_cons, jv_1, Int64.ofInt_add] at K
  exact lv_ladd X.1 X.2.1 hd K
theorem jr_lsub {x y : Int} (hd : decode i.2.1 pc = .ok (.lsub, 1)) (k : jJ G i mc ms P c0 s0 (pc + 1) lv ((1, x - y) :: st) M) : jJ G i mc ms P c0 s0 pc lv ((1, y) :: (1, x) :: st) M := by
  intro p e s m args below meth c H locs ls X hh hS hl
  have K := k p e s m args below meth c H locs ls X hh hS hl
  rw [List.map_cons, jv_1, Int64.ofInt_sub] at K
  exact lv_lsub X.1 X.2.1 hd K
theorem jr_lmul {x y : Int} (hd : decode i.2.1 pc = .ok (.lmul, 1)) (k : jJ G i mc ms P c0 s0 (pc + 1) lv ((1, x * y) :: st) M) : jJ G i mc ms P c0 s0 pc lv ((1, y) :: (1, x) :: st) M := by
  intro p e s m args below meth c H locs ls X hh hS hl
  have K := k p e s m args below meth c H locs ls X hh hS hl
  rw [List.map_cons, jv_1, Int64.ofInt_mul] at K
  exact lv_lmul X.1 X.2.1 hd K
theorem jr_ldiv {x y : Int} (hd : decode i.2.1 pc = .ok (.ldiv, 1)) (hx : jI64 x) (hy : jI64 y) (h0 : y ≠ 0) (k : jJ G i mc ms P c0 s0 (pc + 1) lv ((1, x.tdiv y) :: st) M) : jJ G i mc ms P c0 s0 pc lv ((1, y) :: (1, x) :: st) M := by
  intro p e s m args below meth c H locs ls X hh hS hl
  have K := k p e s m args below meth c H locs ls X hh hS hl
  rw [List.map_cons, jv_1, Int64.ofInt_tdiv (show Int64.minValue.toInt ≤ x from hx.1) (show x ≤ Int64.maxValue.toInt from hx.2) (show Int64.minValue.toInt ≤ y from hy.1) (show y ≤ Int64.maxValue.toInt from hy.2)] at K
  refine lv_ldiv X.1 X.2.1 hd (fun z => h0 ?_) K
  have z2 := congrArg Int64.toInt z
  rw [jI64_to hy] at z2
  exact z2
theorem jr_lrem {x y : Int} (hd : decode i.2.1 pc = .ok (.lrem, 1)) (hx : jI64 x) (hy : jI64 y) (h0 : y ≠ 0) (k : jJ G i mc ms P c0 s0 (pc + 1) lv ((1, x.tmod y) :: st) M) : jJ G i mc ms P c0 s0 pc lv ((1, y) :: (1, x) :: st) M := by
  intro p e s m args below meth c H locs ls X hh hS hl
  have K := k p e s m args below meth c H locs ls X hh hS hl
  have e1 : x.tmod y = x - x.tdiv y * y := by rw [Int.tmod_def, Int.mul_comm]
  rw [List.map_cons, jv_1, e1, Int64.ofInt_sub, Int64.ofInt_mul, Int64.ofInt_tdiv (show Int64.minValue.toInt ≤ x from hx.1) (show x ≤ Int64.maxValue.toInt from hx.2) (show Int64.minValue.toInt ≤ y from hy.1) (show y ≤ Int64.maxValue.toInt from hy.2)] at K
  refine lv_lrem X.1 X.2.1 hd (fun z => h0 ?_) K
  have z2 := congrArg Int64.toInt z
  rw [jI64_to hy] at z2
  exact z2
theorem jr_lneg {x : Int} (hd : decode i.2.1 pc = .ok (.lneg, 1)) (k : jJ G i mc ms P c0 s0 (pc + 1) lv ((1, -x) :: st) M) : jJ G i mc ms P c0 s0 pc lv ((1, x) :: st) M := by
  intro p e s m args below meth c H locs ls X hh hS hl
  have K := k p e s m args below meth c H locs ls X hh hS hl
  rw [List.map_cons, jv_1, Int64.ofInt_neg] at K
  exact lv_lneg X.1 X.2.1 hd K
theorem jr_ishl {x y : Int} (hd : decode i.2.1 pc = .ok (.ishl, 1)) (k : jJ G i mc ms P c0 s0 (pc + 1) lv ((0, (Int32.ofInt x <<< (Int32.ofInt y &&& 31)).toInt) :: st) M) : jJ G i mc ms P c0 s0 pc lv ((0, y) :: (0, x) :: st) M := by
  intro p e s m args below meth c H locs ls X hh hS hl
  have K := k p e s m args below meth c H locs ls X hh hS hl
  rw [List.map_cons, jv_0, Int32.ofInt_toInt] at K
  exact lv_ishl X.1 X.2.1 hd K
theorem jr_ishr {x y : Int} (hd : decode i.2.1 pc = .ok (.ishr, 1)) (k : jJ G i mc ms P c0 s0 (pc + 1) lv ((0, (Int32.ofInt x >>> (Int32.ofInt y &&& 31)).toInt) :: st) M) : jJ G i mc ms P c0 s0 pc lv ((0, y) :: (0, x) :: st) M := by
  intro p e s m args below meth c H locs ls X hh hS hl
  have K := k p e s m args below meth c H locs ls X hh hS hl
  rw [List.map_cons, jv_0, Int32.ofInt_toInt] at K
  exact lv_ishr X.1 X.2.1 hd K
theorem jr_iand {x y : Int} (hd : decode i.2.1 pc = .ok (.iand, 1)) (k : jJ G i mc ms P c0 s0 (pc + 1) lv ((0, (Int32.ofInt x &&& Int32.ofInt y).toInt) :: st) M) : jJ G i mc ms P c0 s0 pc lv ((0, y) :: (0, x) :: st) M := by
  intro p e s m args below meth c H locs ls X hh hS hl
  have K := k p e s m args below meth c H locs ls X hh hS hl
  rw [List.map_cons, jv_0, Int32.ofInt_toInt] at K
  exact lv_iand X.1 X.2.1 hd K
theorem jr_ior {x y : Int} (hd : decode i.2.1 pc = .ok (.ior, 1)) (k : jJ G i mc ms P c0 s0 (pc + 1) lv ((0, (Int32.ofInt x ||| Int32.ofInt y).toInt) :: st) M) : jJ G i mc ms P c0 s0 pc lv ((0, y) :: (0, x) :: st) M := by
  intro p e s m args below meth c H locs ls X hh hS hl
  have K := k p e s m args below meth c H locs ls X hh hS hl
  rw [List.map_cons, jv_0, Int32.ofInt_toInt] at K
  exact lv_ior X.1 X.2.1 hd K
theorem jr_i2l {x : Int} (hd : decode i.2.1 pc = .ok (.i2l, 1)) (hx : jI32 x) (k : jJ G i mc ms P c0 s0 (pc + 1) lv ((1, x) :: st) M) : jJ G i mc ms P c0 s0 pc lv ((0, x) :: st) M := by
  intro p e s m args below meth c H locs ls X hh hS hl
  have K := k p e s m args below meth c H locs ls X hh hS hl
  rw [List.map_cons, jv_1] at K
  exact lv_i2l X.1 X.2.1 hd (Int32.toInt64_ofInt (show Int32.minValue.toInt ≤ x from hx.1) (show x ≤ Int32.maxValue.toInt from hx.2)) K
theorem jr_l2i {x : Int} (hd : decode i.2.1 pc = .ok (.l2i, 1)) (k : jJ G i mc ms P c0 s0 (pc + 1) lv ((0, x) :: st) M) : jJ G i mc ms P c0 s0 pc lv ((1, x) :: st) M := by
  intro p e s m args below meth c H locs ls X hh hS hl
  have K := k p e s m args below meth c H locs ls X hh hS hl
  rw [List.map_cons, jv_0] at K
  exact lv_l2i X.1 X.2.1 hd Int64.toInt32_ofInt K
theorem jr_i2b {x : Int} (hd : decode i.2.1 pc = .ok (.i2b, 1)) (k : jJ G i mc ms P c0 s0 (pc + 1) lv ((0, (Int32.ofInt x).toInt8.toInt) :: st) M) : jJ G i mc ms P c0 s0 pc lv ((0, x) :: st) M := by
  intro p e s m args below meth c H locs ls X hh hS hl
  have K := k p e s m args below meth c H locs ls X hh hS hl
  rw [List.map_cons, jv_0] at K
  exact lv_i2b X.1 X.2.1 hd rfl K
theorem jr_goto {off : Int} {tgt : Nat} (hd : decode i.2.1 pc = .ok (.goto off, 3)) (ht : (pc : Int) + off = (tgt : Int)) (k : jJ G i mc ms P c0 s0 tgt lv st M) : jJ G i mc ms P c0 s0 pc lv st M := by
  intro p e s m args below meth c H locs ls X hh hS hl
  exact lv_goto X.1 X.2.1 hd ht (k p e s m args below meth c H locs ls X hh hS hl)
theorem jr_dup {v : jV} (hd : decode i.2.1 pc = .ok (.dup, 1)) (hv : v.1 ≠ 1) (k : jJ G i mc ms P c0 s0 (pc + 1) lv (v :: v :: st) M) : jJ G i mc ms P c0 s0 pc lv (v :: st) M := by
  intro p e s m args below meth c H locs ls X hh hS hl
  exact lv_dup X.1 X.2.1 hd (by rw [jv_cat, if_neg hv]) (k p e s m args below meth c H locs ls X hh hS hl)
theorem jr_dup2 {v w : jV} (hd : decode i.2.1 pc = .ok (.dup2, 1)) (hv : v.1 ≠ 1) (hw : w.1 ≠ 1) (k : jJ G i mc ms P c0 s0 (pc + 1) lv (v :: w :: v :: w :: st) M) : jJ G i mc ms P c0 s0 pc lv (v :: w :: st) M := by
  intro p e s m args below meth c H locs ls X hh hS hl
  exact lv_dup2_11 X.1 X.2.1 hd (by rw [jv_cat, if_neg hv]) (by rw [jv_cat, if_neg hw]) (k p e s m args below meth c H locs ls X hh hS hl)
theorem jr_dup2l {v : jV} (hd : decode i.2.1 pc = .ok (.dup2, 1)) (hv : v.1 = 1) (k : jJ G i mc ms P c0 s0 (pc + 1) lv (v :: v :: st) M) : jJ G i mc ms P c0 s0 pc lv (v :: st) M := by
  intro p e s m args below meth c H locs ls X hh hS hl
  exact lv_dup2_2 X.1 X.2.1 hd (by rw [jv_cat, if_pos hv]) (k p e s m args below meth c H locs ls X hh hS hl)
theorem jr_pop {v : jV} (hd : decode i.2.1 pc = .ok (.pop, 1)) (hv : v.1 ≠ 1) (k : jJ G i mc ms P c0 s0 (pc + 1) lv st M) : jJ G i mc ms P c0 s0 pc lv (v :: st) M := by
  intro p e s m args below meth c H locs ls X hh hS hl
  exact lv_pop X.1 X.2.1 hd (by rw [jv_cat, if_neg hv]) (k p e s m args below meth c H locs ls X hh hS hl)
theorem jr_if_eq {x : Int} {off : Int} {tgt : Nat} (hd : decode i.2.1 pc = .ok (.ifCond .eq off, 3)) (ht : (pc : Int) + off = (tgt : Int)) (hx : jI32 x) (kt : x = 0 → jJ G i mc ms P c0 s0 tgt lv st M) (kf : ¬ x = 0 → jJ G i mc ms P c0 s0 (pc + 3) lv st M) : jJ G i mc ms P c0 s0 pc lv ((0, x) :: st) M := by
  intro p e s m args below meth c H locs ls X hh hS hl
  have h0 : (0 : Int32).toInt = 0 := rfl
  have hX := jI32_to hx
  refine lv_if_eq X.1 X.2.1 hd ht (fun q => kt ?_ p e s m args below meth c H locs ls X hh hS hl) (fun q => kf ?_ p e s m args below meth c H locs ls X hh hS hl)
  · simp only [Int32.lt_iff_toInt_lt, Int32.le_iff_toInt_le, ← Int32.toInt_inj, ne_eq, gt_iff_lt, ge_iff_le, h0, hX] at q ⊢
    omega
  · simp only [Int32.lt_iff_toInt_lt, Int32.le_iff_toInt_le, ← Int32.toInt_inj, ne_eq, gt_iff_lt, ge_iff_le, h0, hX] at q ⊢
    omega
theorem jr_icmp_eq {x y : Int} {off : Int} {tgt : Nat} (hd : decode i.2.1 pc = .ok (.if_icmp .eq off, 3)) (ht : (pc : Int) + off = (tgt : Int)) (hx : jI32 x) (hy : jI32 y) (kt : x = y → jJ G i mc ms P c0 s0 tgt lv st M) (kf : ¬ x = y → jJ G i mc ms P c0 s0 (pc + 3) lv st M) : jJ G i mc ms P c0 s0 pc lv ((0, y) :: (0, x) :: st) M := by
  intro p e s m args below meth c H locs ls X hh hS hl
  have hX := jI32_to hx
  have hY := jI32_to hy
  refine lv_icmp_eq X.1 X.2.1 hd ht (fun q => kt ?_ p e s m args below meth c H locs ls X hh hS hl) (fun q => kf ?_ p e s m args below meth c H locs ls X hh hS hl)
  · simp only [Int32.lt_iff_toInt_lt, Int32.le_iff_toInt_le, ← Int32.toInt_inj, ne_eq, gt_iff_lt, ge_iff_le, hX, hY] at q ⊢
    omega
  · simp only [Int32.lt_iff_toInt_lt, Int32.le_iff_toInt_le, ← Int32.toInt_inj, ne_eq, gt_iff_lt, ge_iff_le, hX, hY] at q ⊢
    omega
theorem jr_lcmp_eq {x y : Int} {off : Int} {tgt : Nat} (hd0 : decode i.2.1 pc = .ok (.lcmp, 1)) (hd : decode i.2.1 (pc + 1) = .ok (.ifCond .eq off, 3)) (ht : ((pc + 1 : Nat) : Int) + off = (tgt : Int)) (hx : jI64 x) (hy : jI64 y) (kt : x = y → jJ G i mc ms P c0 s0 tgt lv st M) (kf : ¬ x = y → jJ G i mc ms P c0 s0 (pc + 4) lv st M) : jJ G i mc ms P c0 s0 pc lv ((1, y) :: (1, x) :: st) M := by
  intro p e s m args below meth c H locs ls X hh hS hl
  have hX := jI64_to hx
  have hY := jI64_to hy
  refine W.lcmp X.1 X.2.1 hd0 ?_
  have hc : (x < y ∧ lg_cmp (Int64.ofInt x) (Int64.ofInt y) = -1) ∨ (x = y ∧ lg_cmp (Int64.ofInt x) (Int64.ofInt y) = 0) ∨ (y < x ∧ lg_cmp (Int64.ofInt x) (Int64.ofInt y) = 1) := by
    unfold lg_cmp
    rcases Int.lt_trichotomy x y with h | h | h
    · exact Or.inl ⟨h, by rw [if_neg (by rw [gt_iff_lt, Int64.lt_iff_toInt_lt, hX, hY]; omega), if_neg (by rw [← Int64.toInt_inj, hX, hY]; omega)]⟩
    · exact Or.inr (Or.inl ⟨h, by rw [if_neg (by rw [gt_iff_lt, Int64.lt_iff_toInt_lt, hX, hY]; omega), if_pos (by rw [← Int64.toInt_inj, hX, hY]; omega)]⟩)
    · exact Or.inr (Or.inr ⟨h, by rw [if_pos (by rw [gt_iff_lt, Int64.lt_iff_toInt_lt, hX, hY]; omega)]⟩)
  rcases hc with ⟨h, e1⟩ | ⟨h, e1⟩ | ⟨h, e1⟩ <;> rw [e1] <;>
    exact lv_if_eq X.1 X.2.1 hd ht (fun q => kt (by first | omega | exact absurd q (by decide)) p e s m args below meth c H locs ls X hh hS hl) (fun q => kf (by first | omega | exact absurd q (by decide)) p e s m args below meth c H locs ls X hh hS hl)
theorem jr_if_ne {x : Int} {off : Int} {tgt : Nat} (hd : decode i.2.1 pc = .ok (.ifCond .ne off, 3)) (ht : (pc : Int) + off = (tgt : Int)) (hx : jI32 x) (kt : x ≠ 0 → jJ G i mc ms P c0 s0 tgt lv st M) (kf : ¬ (x ≠ 0) → jJ G i mc ms P c0 s0 (pc + 3) lv st M) : jJ G i mc ms P c0 s0 pc lv ((0, x) :: st) M := by
  intro p e s m args below meth c H locs ls X hh hS hl
  have h0 : (0 : Int32).toInt = 0 := rfl
  have hX := jI32_to hx
  refine lv_if_ne X.1 X.2.1 hd ht (fun q => kt ?_ p e s m args below meth c H locs ls X hh hS hl) (fun q => kf ?_ p e s m args below meth c H locs ls X hh hS hl)
  · simp only [Int32.lt_iff_toInt_lt, Int32.le_iff_toInt_le, ← Int32.toInt_inj, ne_eq, gt_iff_lt, ge_iff_le, h0, hX] at q ⊢
    omega
  · simp only [Int32.lt_iff_toInt_lt, Int32.le_iff_toInt_le, ← Int32.toInt_inj, ne_eq, gt_iff_lt, ge_iff_le, h0, hX] at q ⊢
    omega
theorem jr_icmp_ne {x y : Int} {off : Int} {tgt : Nat} (hd : decode i.2.1 pc = .ok (.if_icmp .ne off, 3)) (ht : (pc : Int) + off = (tgt : Int)) (hx : jI32 x) (hy : jI32 y) (kt : x ≠ y → jJ G i mc ms P c0 s0 tgt lv st M) (kf : ¬ (x ≠ y) → jJ G i mc ms P c0 s0 (pc + 3) lv st M) : jJ G i mc ms P c0 s0 pc lv ((0, y) :: (0, x) :: st) M := by
  intro p e s m args below meth c H locs ls X hh hS hl
  have hX := jI32_to hx
  have hY := jI32_to hy
  refine lv_icmp_ne X.1 X.2.1 hd ht (fun q => kt ?_ p e s m args below meth c H locs ls X hh hS hl) (fun q => kf ?_ p e s m args below meth c H locs ls X hh hS hl)
  · simp only [Int32.lt_iff_toInt_lt, Int32.le_iff_toInt_le, ← Int32.toInt_inj, ne_eq, gt_iff_lt, ge_iff_le, hX, hY] at q ⊢
    omega
  · simp only [Int32.lt_iff_toInt_lt, Int32.le_iff_toInt_le, ← Int32.toInt_inj, ne_eq, gt_iff_lt, ge_iff_le, hX, hY] at q ⊢
    omega
theorem jr_lcmp_ne {x y : Int} {off : Int} {tgt : Nat} (hd0 : decode i.2.1 pc = .ok (.lcmp, 1)) (hd : decode i.2.1 (pc + 1) = .ok (.ifCond .ne off, 3)) (ht : ((pc + 1 : Nat) : Int) + off = (tgt : Int)) (hx : jI64 x) (hy : jI64 y) (kt : x ≠ y → jJ G i mc ms P c0 s0 tgt lv st M) (kf : ¬ (x ≠ y) → jJ G i mc ms P c0 s0 (pc + 4) lv st M) : jJ G i mc ms P c0 s0 pc lv ((1, y) :: (1, x) :: st) M := by
  intro p e s m args below meth c H locs ls X hh hS hl
  have hX := jI64_to hx
  have hY := jI64_to hy
  refine W.lcmp X.1 X.2.1 hd0 ?_
  have hc : (x < y ∧ lg_cmp (Int64.ofInt x) (Int64.ofInt y) = -1) ∨ (x = y ∧ lg_cmp (Int64.ofInt x) (Int64.ofInt y) = 0) ∨ (y < x ∧ lg_cmp (Int64.ofInt x) (Int64.ofInt y) = 1) := by
    unfold lg_cmp
    rcases Int.lt_trichotomy x y with h | h | h
    · exact Or.inl ⟨h, by rw [if_neg (by rw [gt_iff_lt, Int64.lt_iff_toInt_lt, hX, hY]; omega), if_neg (by rw [← Int64.toInt_inj, hX, hY]; omega)]⟩
    · exact Or.inr (Or.inl ⟨h, by rw [if_neg (by rw [gt_iff_lt, Int64.lt_iff_toInt_lt, hX, hY]; omega), if_pos (by rw [← Int64.toInt_inj, hX, hY]; omega)]⟩)
    · exact Or.inr (Or.inr ⟨h, by rw [if_pos (by rw [gt_iff_lt, Int64.lt_iff_toInt_lt, hX, hY]; omega)]⟩)
  rcases hc with ⟨h, e1⟩ | ⟨h, e1⟩ | ⟨h, e1⟩ <;> rw [e1] <;>
    exact lv_if_ne X.1 X.2.1 hd ht (fun q => kt (by first | omega | exact absurd q (by decide)) p e s m args below meth c H locs ls X hh hS hl) (fun q => kf (by first | omega | exact absurd q (by decide)) p e s m args below meth c H locs ls X hh hS hl)
theorem jr_if_lt {x : Int} {off : Int} {tgt : Nat} (hd : decode i.2.1 pc = .ok (.ifCond .lt off, 3)) (ht : (pc : Int) + off = (tgt : Int)) (hx : jI32 x) (kt : x < 0 → jJ G i mc ms P c0 s0 tgt lv st M) (kf : ¬ x < 0 → jJ G i mc ms P c0 s0 (pc + 3) lv st M) : jJ G i mc ms P c0 s0 pc lv ((0, x) :: st) M := by
  intro p e s m args below meth c H locs ls X hh hS hl
  have h0 : (0 : Int32).toInt = 0 := rfl
  have hX := jI32_to hx
  refine lv_if_lt X.1 X.2.1 hd ht (fun q => kt ?_ p e s m args below meth c H locs ls X hh hS hl) (fun q => kf ?_ p e s m args below meth c H locs ls X hh hS hl)
  · simp only [Int32.lt_iff_toInt_lt, Int32.le_iff_toInt_le, ← Int32.toInt_inj, ne_eq, gt_iff_lt, ge_iff_le, h0, hX] at q ⊢
    omega
  · simp only [Int32.lt_iff_toInt_lt, Int32.le_iff_toInt_le, ← Int32.toInt_inj, ne_eq, gt_iff_lt, ge_iff_le, h0, hX] at q ⊢
    omega
theorem jr_icmp_lt {x y : Int} {off : Int} {tgt : Nat} (hd : decode i.2.1 pc = .ok (.if_icmp .lt off, 3)) (ht : (pc : Int) + off = (tgt : Int)) (hx : jI32 x) (hy : jI32 y) (kt : x < y → jJ G i mc ms P c0 s0 tgt lv st M) (kf : ¬ x < y → jJ G i mc ms P c0 s0 (pc + 3) lv st M) : jJ G i mc ms P c0 s0 pc lv ((0, y) :: (0, x) :: st) M := by
  intro p e s m args below meth c H locs ls X hh hS hl
  have hX := jI32_to hx
  have hY := jI32_to hy
  refine lv_icmp_lt X.1 X.2.1 hd ht (fun q => kt ?_ p e s m args below meth c H locs ls X hh hS hl) (fun q => kf ?_ p e s m args below meth c H locs ls X hh hS hl)
  · simp only [Int32.lt_iff_toInt_lt, Int32.le_iff_toInt_le, ← Int32.toInt_inj, ne_eq, gt_iff_lt, ge_iff_le, hX, hY] at q ⊢
    omega
  · simp only [Int32.lt_iff_toInt_lt, Int32.le_iff_toInt_le, ← Int32.toInt_inj, ne_eq, gt_iff_lt, ge_iff_le, hX, hY] at q ⊢
    omega
theorem jr_lcmp_lt {x y : Int} {off : Int} {tgt : Nat} (hd0 : decode i.2.1 pc = .ok (.lcmp, 1)) (hd : decode i.2.1 (pc + 1) = .ok (.ifCond .lt off, 3)) (ht : ((pc + 1 : Nat) : Int) + off = (tgt : Int)) (hx : jI64 x) (hy : jI64 y) (kt : x < y → jJ G i mc ms P c0 s0 tgt lv st M) (kf : ¬ x < y → jJ G i mc ms P c0 s0 (pc + 4) lv st M) : jJ G i mc ms P c0 s0 pc lv ((1, y) :: (1, x) :: st) M := by
  intro p e s m args below meth c H locs ls X hh hS hl
  have hX := jI64_to hx
  have hY := jI64_to hy
  refine W.lcmp X.1 X.2.1 hd0 ?_
  have hc : (x < y ∧ lg_cmp (Int64.ofInt x) (Int64.ofInt y) = -1) ∨ (x = y ∧ lg_cmp (Int64.ofInt x) (Int64.ofInt y) = 0) ∨ (y < x ∧ lg_cmp (Int64.ofInt x) (Int64.ofInt y) = 1) := by
    unfold lg_cmp
    rcases Int.lt_trichotomy x y with h | h | h
    · exact Or.inl ⟨h, by rw [if_neg (by rw [gt_iff_lt, Int64.lt_iff_toInt_lt, hX, hY]; omega), if_neg (by rw [← Int64.toInt_inj, hX, hY]; omega)]⟩
    · exact Or.inr (Or.inl ⟨h, by rw [if_neg (by rw [gt_iff_lt, Int64.lt_iff_toInt_lt, hX, hY]; omega), if_pos (by rw [← Int64.toInt_inj, hX, hY]; omega)]⟩)
    · exact Or.inr (Or.inr ⟨h, by rw [if_pos (by rw [gt_iff_lt, Int64.lt_iff_toInt_lt, hX, hY]; omega)]⟩)
  rcases hc with ⟨h, e1⟩ | ⟨h, e1⟩ | ⟨h, e1⟩ <;> rw [e1] <;>
    exact lv_if_lt X.1 X.2.1 hd ht (fun q => kt (by first | omega | exact absurd q (by decide)) p e s m args below meth c H locs ls X hh hS hl) (fun q => kf (by first | omega | exact absurd q (by decide)) p e s m args below meth c H locs ls X hh hS hl)
theorem jr_if_ge {x : Int} {off : Int} {tgt : Nat} (hd : decode i.2.1 pc = .ok (.ifCond .ge off, 3)) (ht : (pc : Int) + off = (tgt : Int)) (hx : jI32 x) (kt : 0 ≤ x → jJ G i mc ms P c0 s0 tgt lv st M) (kf : ¬ 0 ≤ x → jJ G i mc ms P c0 s0 (pc + 3) lv st M) : jJ G i mc ms P c0 s0 pc lv ((0, x) :: st) M := by
  intro p e s m args below meth c H locs ls X hh hS hl
  have h0 : (0 : Int32).toInt = 0 := rfl
  have hX := jI32_to hx
  refine lv_if_ge X.1 X.2.1 hd ht (fun q => kt ?_ p e s m args below meth c H locs ls X hh hS hl) (fun q => kf ?_ p e s m args below meth c H locs ls X hh hS hl)
  · simp only [Int32.lt_iff_toInt_lt, Int32.le_iff_toInt_le, ← Int32.toInt_inj, ne_eq, gt_iff_lt, ge_iff_le, h0, hX] at q ⊢
    omega
  · simp only [Int32.lt_iff_toInt_lt, Int32.le_iff_toInt_le, ← Int32.toInt_inj, ne_eq, gt_iff_lt, ge_iff_le, h0, hX] at q ⊢
    omega
theorem jr_icmp_ge {x y : Int} {off : Int} {tgt : Nat} (hd : decode i.2.1 pc = .ok (.if_icmp .ge off, 3)) (ht : (pc : Int) + off = (tgt : Int)) (hx : jI32 x) (hy : jI32 y) (kt : y ≤ x → jJ G i mc ms P c0 s0 tgt lv st M) (kf : ¬ y ≤ x → jJ G i mc ms P c0 s0 (pc + 3) lv st M) : jJ G i mc ms P c0 s0 pc lv ((0, y) :: (0, x) :: st) M := by
  intro p e s m args below meth c H locs ls X hh hS hl
  have hX := jI32_to hx
  have hY := jI32_to hy
  refine lv_icmp_ge X.1 X.2.1 hd ht (fun q => kt ?_ p e s m args below meth c H locs ls X hh hS hl) (fun q => kf ?_ p e s m args below meth c H locs ls X hh hS hl)
  · simp only [Int32.lt_iff_toInt_lt, Int32.le_iff_toInt_le, ← Int32.toInt_inj, ne_eq, gt_iff_lt, ge_iff_le, hX, hY] at q ⊢
    omega
  · simp only [Int32.lt_iff_toInt_lt, Int32.le_iff_toInt_le, ← Int32.toInt_inj, ne_eq, gt_iff_lt, ge_iff_le, hX, hY] at q ⊢
    omega
theorem jr_lcmp_ge {x y : Int} {off : Int} {tgt : Nat} (hd0 : decode i.2.1 pc = .ok (.lcmp, 1)) (hd : decode i.2.1 (pc + 1) = .ok (.ifCond .ge off, 3)) (ht : ((pc + 1 : Nat) : Int) + off = (tgt : Int)) (hx : jI64 x) (hy : jI64 y) (kt : y ≤ x → jJ G i mc ms P c0 s0 tgt lv st M) (kf : ¬ y ≤ x → jJ G i mc ms P c0 s0 (pc + 4) lv st M) : jJ G i mc ms P c0 s0 pc lv ((1, y) :: (1, x) :: st) M := by
  intro p e s m args below meth c H locs ls X hh hS hl
  have hX := jI64_to hx
  have hY := jI64_to hy
  refine W.lcmp X.1 X.2.1 hd0 ?_
  have hc : (x < y ∧ lg_cmp (Int64.ofInt x) (Int64.ofInt y) = -1) ∨ (x = y ∧ lg_cmp (Int64.ofInt x) (Int64.ofInt y) = 0) ∨ (y < x ∧ lg_cmp (Int64.ofInt x) (Int64.ofInt y) = 1) := by
    unfold lg_cmp
    rcases Int.lt_trichotomy x y with h | h | h
    · exact Or.inl ⟨h, by rw [if_neg (by rw [gt_iff_lt, Int64.lt_iff_toInt_lt, hX, hY]; omega), if_neg (by rw [← Int64.toInt_inj, hX, hY]; omega)]⟩
    · exact Or.inr (Or.inl ⟨h, by rw [if_neg (by rw [gt_iff_lt, Int64.lt_iff_toInt_lt, hX, hY]; omega), if_pos (by rw [← Int64.toInt_inj, hX, hY]; omega)]⟩)
    · exact Or.inr (Or.inr ⟨h, by rw [if_pos (by rw [gt_iff_lt, Int64.lt_iff_toInt_lt, hX, hY]; omega)]⟩)
  rcases hc with ⟨h, e1⟩ | ⟨h, e1⟩ | ⟨h, e1⟩ <;> rw [e1] <;>
    exact lv_if_ge X.1 X.2.1 hd ht (fun q => kt (by first | omega | exact absurd q (by decide)) p e s m args below meth c H locs ls X hh hS hl) (fun q => kf (by first | omega | exact absurd q (by decide)) p e s m args below meth c H locs ls X hh hS hl)
theorem jr_if_gt {x : Int} {off : Int} {tgt : Nat} (hd : decode i.2.1 pc = .ok (.ifCond .gt off, 3)) (ht : (pc : Int) + off = (tgt : Int)) (hx : jI32 x) (kt : 0 < x → jJ G i mc ms P c0 s0 tgt lv st M) (kf : ¬ 0 < x → jJ G i mc ms P c0 s0 (pc + 3) lv st M) : jJ G i mc ms P c0 s0 pc lv ((0, x) :: st) M := by
  intro p e s m args below meth c H locs ls X hh hS hl
  have h0 : (0 : Int32).toInt = 0 := rfl
  have hX := jI32_to hx
  refine lv_if_gt X.1 X.2.1 hd ht (fun q => kt ?_ p e s m args below meth c H locs ls X hh hS hl) (fun q => kf ?_ p e s m args below meth c H locs ls X hh hS hl)
  · simp only [Int32.lt_iff_toInt_lt, Int32.le_iff_toInt_le, ← Int32.toInt_inj, ne_eq, gt_iff_lt, ge_iff_le, h0, hX] at q ⊢
    omega
  · simp only [Int32.lt_iff_toInt_lt, Int32.le_iff_toInt_le, ← Int32.toInt_inj, ne_eq, gt_iff_lt, ge_iff_le, h0, hX] at q ⊢
    omega
theorem jr_icmp_gt {x y : Int} {off : Int} {tgt : Nat} (hd : decode i.2.1 pc = .ok (.if_icmp .gt off, 3)) (ht : (pc : Int) + off = (tgt : Int)) (hx : jI32 x) (hy : jI32 y) (kt : y < x → jJ G i mc ms P c0 s0 tgt lv st M) (kf : ¬ y < x → jJ G i mc ms P c0 s0 (pc + 3) lv st M) : jJ G i mc ms P c0 s0 pc lv ((0, y) :: (0, x) :: st) M := by
  intro p e s m args below meth c H locs ls X hh hS hl
  have hX := jI32_to hx
  have hY := jI32_to hy
  refine lv_icmp_gt X.1 X.2.1 hd ht (fun q => kt ?_ p e s m args below meth c H locs ls X hh hS hl) (fun q => kf ?_ p e s m args below meth c H locs ls X hh hS hl)
  · simp only [Int32.lt_iff_toInt_lt, Int32.le_iff_toInt_le, ← Int32.toInt_inj, ne_eq, gt_iff_lt, ge_iff_le, hX, hY] at q ⊢
    omega
  · simp only [Int32.lt_iff_toInt_lt, Int32.le_iff_toInt_le, ← Int32.toInt_inj, ne_eq, gt_iff_lt, ge_iff_le, hX, hY] at q ⊢
    omega
theorem jr_lcmp_gt {x y : Int} {off : Int} {tgt : Nat} (hd0 : decode i.2.1 pc = .ok (.lcmp, 1)) (hd : decode i.2.1 (pc + 1) = .ok (.ifCond .gt off, 3)) (ht : ((pc + 1 : Nat) : Int) + off = (tgt : Int)) (hx : jI64 x) (hy : jI64 y) (kt : y < x → jJ G i mc ms P c0 s0 tgt lv st M) (kf : ¬ y < x → jJ G i mc ms P c0 s0 (pc + 4) lv st M) : jJ G i mc ms P c0 s0 pc lv ((1, y) :: (1, x) :: st) M := by
  intro p e s m args below meth c H locs ls X hh hS hl
  have hX := jI64_to hx
  have hY := jI64_to hy
  refine W.lcmp X.1 X.2.1 hd0 ?_
  have hc : (x < y ∧ lg_cmp (Int64.ofInt x) (Int64.ofInt y) = -1) ∨ (x = y ∧ lg_cmp (Int64.ofInt x) (Int64.ofInt y) = 0) ∨ (y < x ∧ lg_cmp (Int64.ofInt x) (Int64.ofInt y) = 1) := by
    unfold lg_cmp
    rcases Int.lt_trichotomy x y with h | h | h
    · exact Or.inl ⟨h, by rw [if_neg (by rw [gt_iff_lt, Int64.lt_iff_toInt_lt, hX, hY]; omega), if_neg (by rw [← Int64.toInt_inj, hX, hY]; omega)]⟩
    · exact Or.inr (Or.inl ⟨h, by rw [if_neg (by rw [gt_iff_lt, Int64.lt_iff_toInt_lt, hX, hY]; omega), if_pos (by rw [← Int64.toInt_inj, hX, hY]; omega)]⟩)
    · exact Or.inr (Or.inr ⟨h, by rw [if_pos (by rw [gt_iff_lt, Int64.lt_iff_toInt_lt, hX, hY]; omega)]⟩)
  rcases hc with ⟨h, e1⟩ | ⟨h, e1⟩ | ⟨h, e1⟩ <;> rw [e1] <;>
    exact lv_if_gt X.1 X.2.1 hd ht (fun q => kt (by first | omega | exact absurd q (by decide)) p e s m args below meth c H locs ls X hh hS hl) (fun q => kf (by first | omega | exact absurd q (by decide)) p e s m args below meth c H locs ls X hh hS hl)
theorem jr_if_le {x : Int} {off : Int} {tgt : Nat} (hd : decode i.2.1 pc = .ok (.ifCond .le off, 3)) (ht : (pc : Int) + off = (tgt : Int)) (hx : jI32 x) (kt : x ≤ 0 → jJ G i mc ms P c0 s0 tgt lv st M) (kf : ¬ x ≤ 0 → jJ G i mc ms P c0 s0 (pc + 3) lv st M) : jJ G i mc ms P c0 s0 pc lv ((0, x) :: st) M := by
  intro p e s m args below meth c H locs ls X hh hS hl
  have h0 : (0 : Int32).toInt = 0 := rfl
  have hX := jI32_to hx
  refine lv_if_le X.1 X.2.1 hd ht (fun q => kt ?_ p e s m args below meth c H locs ls X hh hS hl) (fun q => kf ?_ p e s m args below meth c H locs ls X hh hS hl)
  · simp only [Int32.lt_iff_toInt_lt, Int32.le_iff_toInt_le, ← Int32.toInt_inj, ne_eq, gt_iff_lt, ge_iff_le, h0, hX] at q ⊢
    omega
  · simp only [Int32.lt_iff_toInt_lt, Int32.le_iff_toInt_le, ← Int32.toInt_inj, ne_eq, gt_iff_lt, ge_iff_le, h0, hX] at q ⊢
    omega
theorem jr_icmp_le {x y : Int} {off : Int} {tgt : Nat} (hd : decode i.2.1 pc = .ok (.if_icmp .le off, 3)) (ht : (pc : Int) + off = (tgt : Int)) (hx : jI32 x) (hy : jI32 y) (kt : x ≤ y → jJ G i mc ms P c0 s0 tgt lv st M) (kf : ¬ x ≤ y → jJ G i mc ms P c0 s0 (pc + 3) lv st M) : jJ G i mc ms P c0 s0 pc lv ((0, y) :: (0, x) :: st) M := by
  intro p e s m args below meth c H locs ls X hh hS hl
  have hX := jI32_to hx
  have hY := jI32_to hy
  refine lv_icmp_le X.1 X.2.1 hd ht (fun q => kt ?_ p e s m args below meth c H locs ls X hh hS hl) (fun q => kf ?_ p e s m args below meth c H locs ls X hh hS hl)
  · simp only [Int32.lt_iff_toInt_lt, Int32.le_iff_toInt_le, ← Int32.toInt_inj, ne_eq, gt_iff_lt, ge_iff_le, hX, hY] at q ⊢
    omega
  · simp only [Int32.lt_iff_toInt_lt, Int32.le_iff_toInt_le, ← Int32.toInt_inj, ne_eq, gt_iff_lt, ge_iff_le, hX, hY] at q ⊢
    omega
theorem jr_lcmp_le {x y : Int} {off : Int} {tgt : Nat} (hd0 : decode i.2.1 pc = .ok (.lcmp, 1)) (hd : decode i.2.1 (pc + 1) = .ok (.ifCond .le off, 3)) (ht : ((pc + 1 : Nat) : Int) + off = (tgt : Int)) (hx : jI64 x) (hy : jI64 y) (kt : x ≤ y → jJ G i mc ms P c0 s0 tgt lv st M) (kf : ¬ x ≤ y → jJ G i mc ms P c0 s0 (pc + 4) lv st M) : jJ G i mc ms P c0 s0 pc lv ((1, y) :: (1, x) :: st) M := by
  intro p e s m args below meth c H locs ls X hh hS hl
  have hX := jI64_to hx
  have hY := jI64_to hy
  refine W.lcmp X.1 X.2.1 hd0 ?_
  have hc : (x < y ∧ lg_cmp (Int64.ofInt x) (Int64.ofInt y) = -1) ∨ (x = y ∧ lg_cmp (Int64.ofInt x) (Int64.ofInt y) = 0) ∨ (y < x ∧ lg_cmp (Int64.ofInt x) (Int64.ofInt y) = 1) := by
    unfold lg_cmp
    rcases Int.lt_trichotomy x y with h | h | h
    · exact Or.inl ⟨h, by rw [if_neg (by rw [gt_iff_lt, Int64.lt_iff_toInt_lt, hX, hY]; omega), if_neg (by rw [← Int64.toInt_inj, hX, hY]; omega)]⟩
    · exact Or.inr (Or.inl ⟨h, by rw [if_neg (by rw [gt_iff_lt, Int64.lt_iff_toInt_lt, hX, hY]; omega), if_pos (by rw [← Int64.toInt_inj, hX, hY]; omega)]⟩)
    · exact Or.inr (Or.inr ⟨h, by rw [if_pos (by rw [gt_iff_lt, Int64.lt_iff_toInt_lt, hX, hY]; omega)]⟩)
  rcases hc with ⟨h, e1⟩ | ⟨h, e1⟩ | ⟨h, e1⟩ <;> rw [e1] <;>
    exact lv_if_le X.1 X.2.1 hd ht (fun q => kt (by first | omega | exact absurd q (by decide)) p e s m args below meth c H locs ls X hh hS hl) (fun q => kf (by first | omega | exact absurd q (by decide)) p e s m args below meth c H locs ls X hh hS hl)
end ROWS

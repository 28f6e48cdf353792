/-! A judgement as jJ, with a fact of its own about method and start (Φ), and any end (Q). By program out of parts 04 to 07 and 09. -/
/-- the fact, and locals that stay -/
abbrev zP : Type := (Program → State → MethodId → Array Value → Method → Code → Prop) × List (Nat × Value)
abbrev zQ : Type := List Frame → Array Value → State → State → Prop
def zJ (G : jG) (i : jI) (mc ms : Nat) (Φ : zP) (Q : zQ) (c0 s0 : Nat) (pc : Nat) (lv : List (Nat × jV)) (st : List jV) (M : jM) : Prop :=
  ∀ (p : Program) (e : Env) (s : State) (m : MethodId) (args : Array Value) (below : List Frame) (meth : Method) (c : Code) (H : Heap) (locs : List Loc) (ls : Array Slot),
    jX G i p s m args meth c → Φ.1 p s m args meth c → jh G M H → va_S (fun q => G.2.2.1 ≤ q) s.heap H locs → lv_has ls i.2.2.1 (Φ.2 ++ lv.map fun q => (q.1, jv G.2.2.1 q.2)) →
    W p G.1 e (jRm i mc ms) s m args below meth c H locs c0 s0 (Q below args s) (F0 m pc ls (st.map (jv G.2.2.1)))
theorem zJ.sub {G : jG} {i : jI} {mc ms : Nat} {Φ : zP} {Q : zQ} {c0 s0 pc : Nat} {lv lv' : List (Nat × jV)} {st : List jV} {M : jM} (k : zJ G i mc ms Φ Q c0 s0 pc lv' st M) (h : ∀ q ∈ lv', q ∈ lv) : zJ G i mc ms Φ Q c0 s0 pc lv st M := by
  intro p e s m args below meth c H locs ls X F hh hS hl
  refine k p e s m args below meth c H locs ls X F hh hS ⟨hl.1, hl.2.1, fun q hq => ?_⟩
  rcases List.mem_append.mp hq with hq | hq
  · exact hl.2.2 _ (List.mem_append_left _ hq)
  · obtain ⟨r, hr, rfl⟩ := List.mem_map.mp hq
    exact hl.2.2 _ (List.mem_append_right _ (List.mem_map.mpr ⟨r, h r hr, rfl⟩))
def zE (E : List (Nat × Value)) (n : Nat) : Prop := ∀ q ∈ E, q.1 < n ∧ q.2.category = 1
def zst (e : jE) : Option Nat := if e.1 = 2 ∨ e.1 = 3 then some e.2.2.2.1 else none
theorem zr_at {E : List (Nat × Value)} {lv : List (Nat × jV)} {b : Nat} {ls : Array Slot} {nL n : Nat} {v : jV} (hl : lv_has ls nL (E ++ lv.map fun q => (q.1, jv b q.2))) (h : jlk lv n = some v) : ls[n]? = some (.val (jv b v)) :=
  hl.2.2 (n, jv b v) (List.mem_append_right _ (List.mem_map.mpr ⟨(n, v), jlk_mem h, rfl⟩))
theorem zst_has {E : List (Nat × Value)} {b : Nat} {ls : Array Slot} {nL n : Nat} {lv : List (Nat × jV)} {v : jV} (hE : zE E n) (h : lv_has ls nL (E ++ lv.map fun q => (q.1, jv b q.2))) (hn : n + (if v.1 = 1 then 1 else 0) < nL) :
    ∃ ls', storeLocals ls n (jv b v) = some ls' ∧ lv_has ls' nL (E ++ (jst lv n v).map fun q => (q.1, jv b q.2)) := by
  by_cases hv : v.1 = 1
  · rw [if_pos hv] at hn
    obtain ⟨ls', h1, h2⟩ := lv_store2 (v := jv b v) h hn (by rw [jv_cat, if_pos hv])
    refine ⟨ls', h1, h2.1, h2.2.1, fun q hq => h2.2.2 q ?_⟩
    rcases List.mem_append.mp hq with hq | hq
    · obtain ⟨w1, w2⟩ := hE q hq
      refine List.mem_cons_of_mem _ (List.mem_filter.mpr ⟨List.mem_append_left _ hq, ?_⟩)
      simp only [Bool.and_eq_true, Bool.not_eq_true', beq_eq_false_iff_ne, ne_eq, Bool.and_eq_false_iff, w2]
      exact ⟨by omega, by omega, Or.inr (by decide)⟩
    · obtain ⟨r, hr, rfl⟩ := List.mem_map.mp hq
      rcases jins_mem hr with rfl | hr
      · exact List.mem_cons_self
      · obtain ⟨g1, g2⟩ := jdrop_mem hr
        refine List.mem_cons_of_mem _ (List.mem_filter.mpr ⟨List.mem_append_right _ (List.mem_map.mpr ⟨r, g1, rfl⟩), ?_⟩)
        simp only [not_or, not_and] at g2
        simp only [Bool.and_eq_true, Bool.not_eq_true', beq_eq_false_iff_ne, ne_eq, Bool.and_eq_false_iff, jv_cat]
        refine ⟨g2.1, fun z => g2.2.2 hv z, ?_⟩
        by_cases hz : r.1 + 1 = n
        · exact Or.inr (by rw [if_neg (g2.2.1 hz)]; decide)
        · exact Or.inl hz
  · rw [if_neg hv] at hn
    obtain ⟨ls', h1, h2⟩ := lv_store1 (v := jv b v) h hn (by rw [jv_cat, if_neg hv])
    refine ⟨ls', h1, h2.1, h2.2.1, fun q hq => h2.2.2 q ?_⟩
    rcases List.mem_append.mp hq with hq | hq
    · obtain ⟨w1, w2⟩ := hE q hq
      refine List.mem_cons_of_mem _ (List.mem_filter.mpr ⟨List.mem_append_left _ hq, ?_⟩)
      simp only [Bool.and_eq_true, Bool.not_eq_true', beq_eq_false_iff_ne, ne_eq, Bool.and_eq_false_iff, w2]
      exact ⟨by omega, Or.inr (by decide)⟩
    · obtain ⟨r, hr, rfl⟩ := List.mem_map.mp hq
      rcases jins_mem hr with rfl | hr
      · exact List.mem_cons_self
      · obtain ⟨g1, g2⟩ := jdrop_mem hr
        refine List.mem_cons_of_mem _ (List.mem_filter.mpr ⟨List.mem_append_right _ (List.mem_map.mpr ⟨r, g1, rfl⟩), ?_⟩)
        simp only [not_or, not_and] at g2
        simp only [Bool.and_eq_true, Bool.not_eq_true', beq_eq_false_iff_ne, ne_eq, Bool.and_eq_false_iff, jv_cat]
        refine ⟨g2.1, ?_⟩
        by_cases hz : r.1 + 1 = n
        · exact Or.inr (by rw [if_neg (g2.2.1 hz)]; decide)
        · exact Or.inl hz
section
variable {G : jG} {i : jI} {mc ms : Nat} {Φ : zP} {Q : zQ} {R : Option jV → jM → Prop} {c0 s0 pc : Nat} {lv : List (Nat × jV)} {st : List jV} {M : jM}
theorem zr_iconst {n : Int} (hd : decode i.2.1 pc = .ok (.iconst n, 1)) (k : zJ G i mc ms Φ Q c0 s0 (pc + 1) lv ((0, n) :: st) M) : zJ G i mc ms Φ Q c0 s0 pc lv st M := by
  intro p e s m args below meth c H locs ls X F hh hS hl
  exact lv_iconst X.1 X.2.1 hd rfl (k p e s m args below meth c H locs ls X F hh hS hl)
theorem zr_bipush {n : Int} (hd : decode i.2.1 pc = .ok (.bipush n, 2)) (hn : (Int8.ofInt n).toInt32 = Int32.ofInt n) (k : zJ G i mc ms Φ Q c0 s0 (pc + 2) lv ((0, n) :: st) M) : zJ G i mc ms Φ Q c0 s0 pc lv st M := by
  intro p e s m args below meth c H locs ls X F hh hS hl
  exact lv_bipush X.1 X.2.1 hd hn (k p e s m args below meth c H locs ls X F hh hS hl)
theorem zr_sipush {n : Int} (hd : decode i.2.1 pc = .ok (.sipush n, 3)) (hn : (Int16.ofInt n).toInt32 = Int32.ofInt n) (k : zJ G i mc ms Φ Q c0 s0 (pc + 3) lv ((0, n) :: st) M) : zJ G i mc ms Φ Q c0 s0 pc lv st M := by
  intro p e s m args below meth c H locs ls X F hh hS hl
  exact lv_sipush X.1 X.2.1 hd hn (k p e s m args below meth c H locs ls X F hh hS hl)
theorem zr_lconst {n : Fin 2} {v : Int} (hd : decode i.2.1 pc = .ok (.lconst n, 1)) (hn : Int64.ofNat (n : Nat) = Int64.ofInt v) (k : zJ G i mc ms Φ Q c0 s0 (pc + 1) lv ((1, v) :: st) M) : zJ G i mc ms Φ Q c0 s0 pc lv st M := by
  intro p e s m args below meth c H locs ls X F hh hS hl
  exact lv_lconst X.1 X.2.1 hd hn (k p e s m args below meth c H locs ls X F hh hS hl)
theorem zr_ldc {index : Nat} {n : Int} (hw : Cond.constant i.1.cls index (Int32.ofInt n) ∈ jtbl) (hd : decode i.2.1 pc = .ok (.ldc index, 2)) (k : zJ G i mc ms Φ Q c0 s0 (pc + 2) lv ((0, n) :: st) M) : zJ G i mc ms Φ Q c0 s0 pc lv st M := by
  intro p e s m args below meth c H locs ls X F hh hS hl
  exact lv_ldc X.1 X.2.1 X.2.2.2.1 (X.2.2.2.2.1 _ hw) hd (k p e s m args below meth c H locs ls X F hh hS hl)
theorem zr_ldcw {index : Nat} {n : Int} (hw : Cond.constant i.1.cls index (Int32.ofInt n) ∈ jtbl) (hd : decode i.2.1 pc = .ok (.ldc_w index, 3)) (k : zJ G i mc ms Φ Q c0 s0 (pc + 3) lv ((0, n) :: st) M) : zJ G i mc ms Φ Q c0 s0 pc lv st M := by
  intro p e s m args below meth c H locs ls X F hh hS hl
  exact lv_ldcw X.1 X.2.1 X.2.2.2.1 (X.2.2.2.2.1 _ hw) hd (k p e s m args below meth c H locs ls X F hh hS hl)
theorem zr_ldc2 {index : Nat} {n : Int} (hw : Cond.constantLong i.1.cls index (Int64.ofInt n) ∈ jtbl) (hd : decode i.2.1 pc = .ok (.ldc2_w index, 3)) (k : zJ G i mc ms Φ Q c0 s0 (pc + 3) lv ((1, n) :: st) M) : zJ G i mc ms Φ Q c0 s0 pc lv st M := by
  intro p e s m args below meth c H locs ls X F hh hS hl
  exact lv_ldc2 X.1 X.2.1 X.2.2.2.1 (X.2.2.2.2.1 _ hw) hd (k p e s m args below meth c H locs ls X F hh hS hl)
theorem zr_iload_n {n : Fin 4} {x : Int} (hd : decode i.2.1 pc = .ok (.iload_n n, 1)) (hv : jlk lv n = some (0, x)) (k : zJ G i mc ms Φ Q c0 s0 (pc + 1) lv ((0, x) :: st) M) : zJ G i mc ms Φ Q c0 s0 pc lv st M := by
  intro p e s m args below meth c H locs ls X F hh hS hl
  exact lv_iload_n X.1 X.2.1 hd rfl (zr_at hl hv) (k p e s m args below meth c H locs ls X F hh hS hl)
theorem zr_iload {n : Nat} {x : Int} (hd : decode i.2.1 pc = .ok (.iload n, 2)) (hv : jlk lv n = some (0, x)) (k : zJ G i mc ms Φ Q c0 s0 (pc + 2) lv ((0, x) :: st) M) : zJ G i mc ms Φ Q c0 s0 pc lv st M := by
  intro p e s m args below meth c H locs ls X F hh hS hl
  exact lv_iload X.1 X.2.1 hd (zr_at hl hv) (k p e s m args below meth c H locs ls X F hh hS hl)
theorem zr_lload_n {n : Fin 4} {x : Int} (hd : decode i.2.1 pc = .ok (.lload_n n, 1)) (hv : jlk lv n = some (1, x)) (k : zJ G i mc ms Φ Q c0 s0 (pc + 1) lv ((1, x) :: st) M) : zJ G i mc ms Φ Q c0 s0 pc lv st M := by
  intro p e s m args below meth c H locs ls X F hh hS hl
  exact lv_lload_n X.1 X.2.1 hd rfl (zr_at hl hv) (k p e s m args below meth c H locs ls X F hh hS hl)
theorem zr_lload {n : Nat} {x : Int} (hd : decode i.2.1 pc = .ok (.lload n, 2)) (hv : jlk lv n = some (1, x)) (k : zJ G i mc ms Φ Q c0 s0 (pc + 2) lv ((1, x) :: st) M) : zJ G i mc ms Φ Q c0 s0 pc lv st M := by
  intro p e s m args below meth c H locs ls X F hh hS hl
  exact lv_lload X.1 X.2.1 hd (zr_at hl hv) (k p e s m args below meth c H locs ls X F hh hS hl)
theorem zr_aload_n {n : Fin 4} {x : Int} (hd : decode i.2.1 pc = .ok (.aload_n n, 1)) (hv : jlk lv n = some (2, x)) (hx : 0 ≤ x) (k : zJ G i mc ms Φ Q c0 s0 (pc + 1) lv ((2, x) :: st) M) : zJ G i mc ms Φ Q c0 s0 pc lv st M := by
  intro p e s m args below meth c H locs ls X F hh hS hl
  have ha := zr_at hl hv
  have hk := k p e s m args below meth c H locs ls X F hh hS hl
  rw [List.map_cons] at hk
  rw [jv_ref _ hx] at ha hk
  exact lv_aload_n X.1 X.2.1 hd rfl ha hk
theorem zr_aload {n : Nat} {x : Int} (hd : decode i.2.1 pc = .ok (.aload n, 2)) (hv : jlk lv n = some (2, x)) (hx : 0 ≤ x) (k : zJ G i mc ms Φ Q c0 s0 (pc + 2) lv ((2, x) :: st) M) : zJ G i mc ms Φ Q c0 s0 pc lv st M := by
  intro p e s m args below meth c H locs ls X F hh hS hl
  have ha := zr_at hl hv
  have hk := k p e s m args below meth c H locs ls X F hh hS hl
  rw [List.map_cons] at hk
  rw [jv_ref _ hx] at ha hk
  exact lv_aload X.1 X.2.1 hd ha hk
theorem zr_istore_n {n : Fin 4} {x : Int} (hd : decode i.2.1 pc = .ok (.istore_n n, 1)) (hn : (n : Nat) < i.2.2.1) (hE : zE Φ.2 (n : Nat)) (k : zJ G i mc ms Φ Q c0 s0 (pc + 1) (jst lv n (0, x)) st M) : zJ G i mc ms Φ Q c0 s0 pc lv ((0, x) :: st) M := by
  intro p e s m args below meth c H locs ls X F hh hS hl
  obtain ⟨ls', e', h'⟩ := zst_has (v := (0, x)) hE hl hn
  rw [jv_0] at e'
  have K := k p e s m args below meth c H locs ls' X F hh hS h'
  have hexec := X.1
  have hb := X.2.1
  intro T hT Y
  obtain ⟨t, a, b⟩ := K T hT Y
  refine ⟨t, ?_, b⟩
  rw [List.map_cons, jv_0]
  jvm_step Y.here [Y.here.top, ↓top_set Y.here.top, hexec, hb, hd, e']
  exact a
theorem zr_istore {n : Nat} {x : Int} (hd : decode i.2.1 pc = .ok (.istore n, 2)) (hn : n < i.2.2.1) (hE : zE Φ.2 (n : Nat)) (k : zJ G i mc ms Φ Q c0 s0 (pc + 2) (jst lv n (0, x)) st M) : zJ G i mc ms Φ Q c0 s0 pc lv ((0, x) :: st) M := by
  intro p e s m args below meth c H locs ls X F hh hS hl
  obtain ⟨ls', e', h'⟩ := zst_has (v := (0, x)) hE hl hn
  rw [jv_0] at e'
  have K := k p e s m args below meth c H locs ls' X F hh hS h'
  have hexec := X.1
  have hb := X.2.1
  intro T hT Y
  obtain ⟨t, a, b⟩ := K T hT Y
  refine ⟨t, ?_, b⟩
  rw [List.map_cons, jv_0]
  jvm_step Y.here [Y.here.top, ↓top_set Y.here.top, hexec, hb, hd, e']
  exact a
theorem zr_lstore_n {n : Fin 4} {x : Int} (hd : decode i.2.1 pc = .ok (.lstore_n n, 1)) (hn : (n : Nat) + 1 < i.2.2.1) (hE : zE Φ.2 (n : Nat)) (k : zJ G i mc ms Φ Q c0 s0 (pc + 1) (jst lv n (1, x)) st M) : zJ G i mc ms Φ Q c0 s0 pc lv ((1, x) :: st) M := by
  intro p e s m args below meth c H locs ls X F hh hS hl
  obtain ⟨ls', e', h'⟩ := zst_has (v := (1, x)) hE hl hn
  rw [jv_1] at e'
  have K := k p e s m args below meth c H locs ls' X F hh hS h'
  have hexec := X.1
  have hb := X.2.1
  intro T hT Y
  obtain ⟨t, a, b⟩ := K T hT Y
  refine ⟨t, ?_, b⟩
  rw [List.map_cons, jv_1]
  jvm_step Y.here [Y.here.top, ↓top_set Y.here.top, hexec, hb, hd, e']
  exact a
theorem zr_lstore {n : Nat} {x : Int} (hd : decode i.2.1 pc = .ok (.lstore n, 2)) (hn : n + 1 < i.2.2.1) (hE : zE Φ.2 (n : Nat)) (k : zJ G i mc ms Φ Q c0 s0 (pc + 2) (jst lv n (1, x)) st M) : zJ G i mc ms Φ Q c0 s0 pc lv ((1, x) :: st) M := by
  intro p e s m args below meth c H locs ls X F hh hS hl
  obtain ⟨ls', e', h'⟩ := zst_has (v := (1, x)) hE hl hn
  rw [jv_1] at e'
  have K := k p e s m args below meth c H locs ls' X F hh hS h'
  have hexec := X.1
  have hb := X.2.1
  intro T hT Y
  obtain ⟨t, a, b⟩ := K T hT Y
  refine ⟨t, ?_, b⟩
  rw [List.map_cons, jv_1]
  jvm_step Y.here [Y.here.top, ↓top_set Y.here.top, hexec, hb, hd, e']
  exact a
theorem zr_astore_n {n : Fin 4} {x : Int} (hd : decode i.2.1 pc = .ok (.astore_n n, 1)) (hn : (n : Nat) < i.2.2.1) (hx : 0 ≤ x) (hE : zE Φ.2 (n : Nat)) (k : zJ G i mc ms Φ Q c0 s0 (pc + 1) (jst lv n (2, x)) st M) : zJ G i mc ms Φ Q c0 s0 pc lv ((2, x) :: st) M := by
  intro p e s m args below meth c H locs ls X F hh hS hl
  obtain ⟨ls', e', h'⟩ := zst_has (v := (2, x)) hE hl hn
  rw [jv_ref _ hx] at e'
  have K := k p e s m args below meth c H locs ls' X F hh hS h'
  have hexec := X.1
  have hb := X.2.1
  intro T hT Y
  obtain ⟨t, a, b⟩ := K T hT Y
  refine ⟨t, ?_, b⟩
  rw [List.map_cons, jv_ref _ hx]
  jvm_step Y.here [Y.here.top, ↓top_set Y.here.top, hexec, hb, hd, e', Value.isRef]
  exact a
theorem zr_astore {n : Nat} {x : Int} (hd : decode i.2.1 pc = .ok (.astore n, 2)) (hn : n < i.2.2.1) (hx : 0 ≤ x) (hE : zE Φ.2 (n : Nat)) (k : zJ G i mc ms Φ Q c0 s0 (pc + 2) (jst lv n (2, x)) st M) : zJ G i mc ms Φ Q c0 s0 pc lv ((2, x) :: st) M := by
  intro p e s m args below meth c H locs ls X F hh hS hl
  obtain ⟨ls', e', h'⟩ := zst_has (v := (2, x)) hE hl hn
  rw [jv_ref _ hx] at e'
  have K := k p e s m args below meth c H locs ls' X F hh hS h'
  have hexec := X.1
  have hb := X.2.1
  intro T hT Y
  obtain ⟨t, a, b⟩ := K T hT Y
  refine ⟨t, ?_, b⟩
  rw [List.map_cons, jv_ref _ hx]
  jvm_step Y.here [Y.here.top, ↓top_set Y.here.top, hexec, hb, hd, e', Value.isRef]
  exact a
theorem zr_iinc {n : Nat} {a x : Int} (hd : decode i.2.1 pc = .ok (.iinc n a, 3)) (hn : n < i.2.2.1) (hv : jlk lv n = some (0, x)) (hE : zE Φ.2 (n : Nat)) (k : zJ G i mc ms Φ Q c0 s0 (pc + 3) (jst lv n (0, x + a)) st M) : zJ G i mc ms Φ Q c0 s0 pc lv st M := by
  intro p e s m args below meth c H locs ls X F hh hS hl
  obtain ⟨ls', e', h'⟩ := zst_has (v := (0, x + a)) hE hl hn
  rw [jv_0, Int32.ofInt_add] at e'
  have hg := zr_at hl hv
  rw [jv_0] at hg
  have K := k p e s m args below meth c H locs ls' X F hh hS h'
  have hexec := X.1
  have hb := X.2.1
  intro T hT Y
  obtain ⟨t, a, b⟩ := K T hT Y
  refine ⟨t, ?_, b⟩
  jvm_step Y.here [Y.here.top, ↓top_set Y.here.top, hexec, hb, hd, hg, e']
  exact a
theorem zr_iadd {x y : Int} (hd : decode i.2.1 pc = .ok (.iadd, 1)) (k : zJ G i mc ms Φ Q c0 s0 (pc + 1) lv ((0, x + y) :: st) M) : zJ G i mc ms Φ Q c0 s0 pc lv ((0, y) :: (0, x) :: st) M := by
  intro p e s m args below meth c H locs ls X F hh hS hl
  have K := k p e s m args below meth c H locs ls X F hh hS hl
  rw [List.map_cons, jv_0, Int32.ofInt_add] at K
  exact lv_iadd X.1 X.2.1 hd K
theorem zr_isub {x y : Int} (hd : decode i.2.1 pc = .ok (.isub, 1)) (k : zJ G i mc ms Φ Q c0 s0 (pc + 1) lv ((0, x - y) :: st) M) : zJ G i mc ms Φ Q c0 s0 pc lv ((0, y) :: (0, x) :: st) M := by
  intro p e s m args below meth c H locs ls X F hh hS hl
  have K := k p e s m args below meth c H locs ls X F hh hS hl
  rw [List.map_cons, jv_0, Int32.ofInt_sub] at K
  exact lv_isub X.1 X.2.1 hd K
theorem zr_imul {x y : Int} (hd : decode i.2.1 pc = .ok (.imul, 1)) (k : zJ G i mc ms Φ Q c0 s0 (pc + 1) lv ((0, x * y) :: st) M) : zJ G i mc ms Φ Q c0 s0 pc lv ((0, y) :: (0, x) :: st) M := by
  intro p e s m args below meth c H locs ls X F hh hS hl
  have K := k p e s m args below meth c H locs ls X F hh hS hl
  rw [List.map_cons, jv_0, Int32.ofInt_mul] at K
  exact lv_imul X.1 X.2.1 hd K
theorem zr_idiv {x y : Int} (hd : decode i.2.1 pc = .ok (.idiv, 1)) (hx : jI32 x) (hy : jI32 y) (h0 : y ≠ 0) (k : zJ G i mc ms Φ Q c0 s0 (pc + 1) lv ((0, x.tdiv y) :: st) M) : zJ G i mc ms Φ Q c0 s0 pc lv ((0, y) :: (0, x) :: st) M := by
  intro p e s m args below meth c H locs ls X F hh hS hl
  have K := k p e s m args below meth c H locs ls X F hh hS hl
  rw [List.map_cons, jv_0, Int32.ofInt_tdiv (show Int32.minValue.toInt ≤ x from hx.1) (show x ≤ Int32.maxValue.toInt from hx.2) (show Int32.minValue.toInt ≤ y from hy.1) (show y ≤ Int32.maxValue.toInt from hy.2)] at K
  refine lv_idiv X.1 X.2.1 hd (fun z => h0 ?_) K
  have z2 := congrArg Int32.toInt z
  rw [jI32_to hy] at z2
  exact z2
theorem zr_irem {x y : Int} (hd : decode i.2.1 pc = .ok (.irem, 1)) (hx : jI32 x) (hy : jI32 y) (h0 : y ≠ 0) (k : zJ G i mc ms Φ Q c0 s0 (pc + 1) lv ((0, x.tmod y) :: st) M) : zJ G i mc ms Φ Q c0 s0 pc lv ((0, y) :: (0, x) :: st) M := by
  intro p e s m args below meth c H locs ls X F hh hS hl
  have K := k p e s m args below meth c H locs ls X F hh hS hl
  have e1 : x.tmod y = x - x.tdiv y * y := by rw [Int.tmod_def, Int.mul_comm]
  rw [List.map_cons, jv_0, e1, Int32.ofInt_sub, Int32.ofInt_mul, Int32.ofInt_tdiv (show Int32.minValue.toInt ≤ x from hx.1) (show x ≤ Int32.maxValue.toInt from hx.2) (show Int32.minValue.toInt ≤ y from hy.1) (show y ≤ Int32.maxValue.toInt from hy.2)] at K
  refine lv_irem X.1 X.2.1 hd (fun z => h0 ?_) K
  have z2 := congrArg Int32.toInt z
  rw [jI32_to hy] at z2
  exact z2
theorem zr_ineg {x : Int} (hd : decode i.2.1 pc = .ok (.ineg, 1)) (k : zJ G i mc ms Φ Q c0 s0 (pc + 1) lv ((0, -x) :: st) M) : zJ G i mc ms Φ Q c0 s0 pc lv ((0, x) :: st) M := by
  intro p e s m args below meth c H locs ls X F hh hS hl
  have K := k p e s m args below meth c H locs ls X F hh hS hl
  rw [List.map_cons, jv_0, Int32.ofInt_neg] at K
  exact lv_ineg X.1 X.2.1 hd K
theorem zr_ladd {x y : Int} (hd : decode i.2.1 pc = .ok (.ladd, 1)) (k : zJ G i mc ms Φ Q c0 s0 (pc + 1) lv ((1, x + y) :: st) M) : zJ G i mc ms Φ Q c0 s0 pc lv ((1, y) :: (1, x) :: st) M := by
  intro p e s m args below meth c H locs ls X F hh hS hl
  have K := k p e s m args below meth c H locs ls X F hh hS hl
  rw [List.map_cons, jv_1, Int64.ofInt_add] at K
  exact lv_ladd X.1 X.2.1 hd K
theorem zr_lsub {x y : Int} (hd : decode i.2.1 pc = .ok (.lsub, 1)) (k : zJ G i mc ms Φ Q c0 s0 (pc + 1) lv ((1, x - y) :: st) M) : zJ G i mc ms Φ Q c0 s0 pc lv ((1, y) :: (1, x) :: st) M := by
  intro p e s m args below meth c H locs ls X F hh hS hl
  have K := k p e s m args below meth c H locs ls X F hh hS hl
  rw [List.map_cons, jv_1, Int64.ofInt_sub] at K
  exact lv_lsub X.1 X.2.1 hd K
theorem zr_lmul {x y : Int} (hd : decode i.2.1 pc = .ok (.lmul, 1)) (k : zJ G i mc ms Φ Q c0 s0 (pc + 1) lv ((1, x * y) :: st) M) : zJ G i mc ms Φ Q c0 s0 pc lv ((1, y) :: (1, x) :: st) M := by
  intro p e s m args below meth c H locs ls X F hh hS hl
  have K := k p e s m args below meth c H locs ls X F hh hS hl
  rw [List.map_cons, jv_1, Int64.ofInt_mul] at K
  exact lv_lmul X.1 X.2.1 hd K
theorem zr_ldiv {x y : Int} (hd : decode i.2.1 pc = .ok (.ldiv, 1)) (hx : jI64 x) (hy : jI64 y) (h0 : y ≠ 0) (k : zJ G i mc ms Φ Q c0 s0 (pc + 1) lv ((1, x.tdiv y) :: st) M) : zJ G i mc ms Φ Q c0 s0 pc lv ((1, y) :: (1, x) :: st) M := by
  intro p e s m args below meth c H locs ls X F hh hS hl
  have K := k p e s m args below meth c H locs ls X F hh hS hl
  rw [List.map_cons, jv_1, Int64.ofInt_tdiv (show Int64.minValue.toInt ≤ x from hx.1) (show x ≤ Int64.maxValue.toInt from hx.2) (show Int64.minValue.toInt ≤ y from hy.1) (show y ≤ Int64.maxValue.toInt from hy.2)] at K
  refine lv_ldiv X.1 X.2.1 hd (fun z => h0 ?_) K
  have z2 := congrArg Int64.toInt z
  rw [jI64_to hy] at z2
  exact z2
theorem zr_lrem {x y : Int} (hd : decode i.2.1 pc = .ok (.lrem, 1)) (hx : jI64 x) (hy : jI64 y) (h0 : y ≠ 0) (k : zJ G i mc ms Φ Q c0 s0 (pc + 1) lv ((1, x.tmod y) :: st) M) : zJ G i mc ms Φ Q c0 s0 pc lv ((1, y) :: (1, x) :: st) M := by
  intro p e s m args below meth c H locs ls X F hh hS hl
  have K := k p e s m args below meth c H locs ls X F hh hS hl
  have e1 : x.tmod y = x - x.tdiv y * y := by rw [Int.tmod_def, Int.mul_comm]
  rw [List.map_cons, jv_1, e1, Int64.ofInt_sub, Int64.ofInt_mul, Int64.ofInt_tdiv (show Int64.minValue.toInt ≤ x from hx.1) (show x ≤ Int64.maxValue.toInt from hx.2) (show Int64.minValue.toInt ≤ y from hy.1) (show y ≤ Int64.maxValue.toInt from hy.2)] at K
  refine lv_lrem X.1 X.2.1 hd (fun z => h0 ?_) K
  have z2 := congrArg Int64.toInt z
  rw [jI64_to hy] at z2
  exact z2
theorem zr_lneg {x : Int} (hd : decode i.2.1 pc = .ok (.lneg, 1)) (k : zJ G i mc ms Φ Q c0 s0 (pc + 1) lv ((1, -x) :: st) M) : zJ G i mc ms Φ Q c0 s0 pc lv ((1, x) :: st) M := by
  intro p e s m args below meth c H locs ls X F hh hS hl
  have K := k p e s m args below meth c H locs ls X F hh hS hl
  rw [List.map_cons, jv_1, Int64.ofInt_neg] at K
  exact lv_lneg X.1 X.2.1 hd K
theorem zr_ishl {x y : Int} (hd : decode i.2.1 pc = .ok (.ishl, 1)) (k : zJ G i mc ms Φ Q c0 s0 (pc + 1) lv ((0, (Int32.ofInt x <<< (Int32.ofInt y &&& 31)).toInt) :: st) M) : zJ G i mc ms Φ Q c0 s0 pc lv ((0, y) :: (0, x) :: st) M := by
  intro p e s m args below meth c H locs ls X F hh hS hl
  have K := k p e s m args below meth c H locs ls X F hh hS hl
  rw [List.map_cons, jv_0, Int32.ofInt_toInt] at K
  exact lv_ishl X.1 X.2.1 hd K
theorem zr_ishr {x y : Int} (hd : decode i.2.1 pc = .ok (.ishr, 1)) (k : zJ G i mc ms Φ Q c0 s0 (pc + 1) lv ((0, (Int32.ofInt x >>> (Int32.ofInt y &&& 31)).toInt) :: st) M) : zJ G i mc ms Φ Q c0 s0 pc lv ((0, y) :: (0, x) :: st) M := by
  intro p e s m args below meth c H locs ls X F hh hS hl
  have K := k p e s m args below meth c H locs ls X F hh hS hl
  rw [List.map_cons, jv_0, Int32.ofInt_toInt] at K
  exact lv_ishr X.1 X.2.1 hd K
theorem zr_iand {x y : Int} (hd : decode i.2.1 pc = .ok (.iand, 1)) (k : zJ G i mc ms Φ Q c0 s0 (pc + 1) lv ((0, (Int32.ofInt x &&& Int32.ofInt y).toInt) :: st) M) : zJ G i mc ms Φ Q c0 s0 pc lv ((0, y) :: (0, x) :: st) M := by
  intro p e s m args below meth c H locs ls X F hh hS hl
  have K := k p e s m args below meth c H locs ls X F hh hS hl
  rw [List.map_cons, jv_0, Int32.ofInt_toInt] at K
  exact lv_iand X.1 X.2.1 hd K
theorem zr_ior {x y : Int} (hd : decode i.2.1 pc = .ok (.ior, 1)) (k : zJ G i mc ms Φ Q c0 s0 (pc + 1) lv ((0, (Int32.ofInt x ||| Int32.ofInt y).toInt) :: st) M) : zJ G i mc ms Φ Q c0 s0 pc lv ((0, y) :: (0, x) :: st) M := by
  intro p e s m args below meth c H locs ls X F hh hS hl
  have K := k p e s m args below meth c H locs ls X F hh hS hl
  rw [List.map_cons, jv_0, Int32.ofInt_toInt] at K
  exact lv_ior X.1 X.2.1 hd K
theorem zr_i2l {x : Int} (hd : decode i.2.1 pc = .ok (.i2l, 1)) (hx : jI32 x) (k : zJ G i mc ms Φ Q c0 s0 (pc + 1) lv ((1, x) :: st) M) : zJ G i mc ms Φ Q c0 s0 pc lv ((0, x) :: st) M := by
  intro p e s m args below meth c H locs ls X F hh hS hl
  have K := k p e s m args below meth c H locs ls X F hh hS hl
  rw [List.map_cons, jv_1] at K
  exact lv_i2l X.1 X.2.1 hd (Int32.toInt64_ofInt (show Int32.minValue.toInt ≤ x from hx.1) (show x ≤ Int32.maxValue.toInt from hx.2)) K
theorem zr_l2i {x : Int} (hd : decode i.2.1 pc = .ok (.l2i, 1)) (k : zJ G i mc ms Φ Q c0 s0 (pc + 1) lv ((0, x) :: st) M) : zJ G i mc ms Φ Q c0 s0 pc lv ((1, x) :: st) M := by
  intro p e s m args below meth c H locs ls X F hh hS hl
  have K := k p e s m args below meth c H locs ls X F hh hS hl
  rw [List.map_cons, jv_0] at K
  exact lv_l2i X.1 X.2.1 hd Int64.toInt32_ofInt K
theorem zr_i2b {x : Int} (hd : decode i.2.1 pc = .ok (.i2b, 1)) (k : zJ G i mc ms Φ Q c0 s0 (pc + 1) lv ((0, (Int32.ofInt x).toInt8.toInt) :: st) M) : zJ G i mc ms Φ Q c0 s0 pc lv ((0, x) :: st) M := by
  intro p e s m args below meth c H locs ls X F hh hS hl
  have K := k p e s m args below meth c H locs ls X F hh hS hl
  rw [List.map_cons, jv_0] at K
  exact lv_i2b X.1 X.2.1 hd rfl K
theorem zr_goto {off : Int} {tgt : Nat} (hd : decode i.2.1 pc = .ok (.goto off, 3)) (ht : (pc : Int) + off = (tgt : Int)) (k : zJ G i mc ms Φ Q c0 s0 tgt lv st M) : zJ G i mc ms Φ Q c0 s0 pc lv st M := by
  intro p e s m args below meth c H locs ls X F hh hS hl
  exact lv_goto X.1 X.2.1 hd ht (k p e s m args below meth c H locs ls X F hh hS hl)
theorem zr_dup {v : jV} (hd : decode i.2.1 pc = .ok (.dup, 1)) (hv : v.1 ≠ 1) (k : zJ G i mc ms Φ Q c0 s0 (pc + 1) lv (v :: v :: st) M) : zJ G i mc ms Φ Q c0 s0 pc lv (v :: st) M := by
  intro p e s m args below meth c H locs ls X F hh hS hl
  exact lv_dup X.1 X.2.1 hd (by rw [jv_cat, if_neg hv]) (k p e s m args below meth c H locs ls X F hh hS hl)
theorem zr_dup2 {v w : jV} (hd : decode i.2.1 pc = .ok (.dup2, 1)) (hv : v.1 ≠ 1) (hw : w.1 ≠ 1) (k : zJ G i mc ms Φ Q c0 s0 (pc + 1) lv (v :: w :: v :: w :: st) M) : zJ G i mc ms Φ Q c0 s0 pc lv (v :: w :: st) M := by
  intro p e s m args below meth c H locs ls X F hh hS hl
  exact lv_dup2_11 X.1 X.2.1 hd (by rw [jv_cat, if_neg hv]) (by rw [jv_cat, if_neg hw]) (k p e s m args below meth c H locs ls X F hh hS hl)
theorem zr_dup2l {v : jV} (hd : decode i.2.1 pc = .ok (.dup2, 1)) (hv : v.1 = 1) (k : zJ G i mc ms Φ Q c0 s0 (pc + 1) lv (v :: v :: st) M) : zJ G i mc ms Φ Q c0 s0 pc lv (v :: st) M := by
  intro p e s m args below meth c H locs ls X F hh hS hl
  exact lv_dup2_2 X.1 X.2.1 hd (by rw [jv_cat, if_pos hv]) (k p e s m args below meth c H locs ls X F hh hS hl)
theorem zr_pop {v : jV} (hd : decode i.2.1 pc = .ok (.pop, 1)) (hv : v.1 ≠ 1) (k : zJ G i mc ms Φ Q c0 s0 (pc + 1) lv st M) : zJ G i mc ms Φ Q c0 s0 pc lv (v :: st) M := by
  intro p e s m args below meth c H locs ls X F hh hS hl
  exact lv_pop X.1 X.2.1 hd (by rw [jv_cat, if_neg hv]) (k p e s m args below meth c H locs ls X F hh hS hl)
theorem zr_if_eq {x : Int} {off : Int} {tgt : Nat} (hd : decode i.2.1 pc = .ok (.ifCond .eq off, 3)) (ht : (pc : Int) + off = (tgt : Int)) (hx : jI32 x) (kt : x = 0 → zJ G i mc ms Φ Q c0 s0 tgt lv st M) (kf : ¬ x = 0 → zJ G i mc ms Φ Q c0 s0 (pc + 3) lv st M) : zJ G i mc ms Φ Q c0 s0 pc lv ((0, x) :: st) M := by
  intro p e s m args below meth c H locs ls X F hh hS hl
  have h0 : (0 : Int32).toInt = 0 := rfl
  have hX := jI32_to hx
  refine lv_if_eq X.1 X.2.1 hd ht (fun q => kt ?_ p e s m args below meth c H locs ls X F hh hS hl) (fun q => kf ?_ p e s m args below meth c H locs ls X F hh hS hl)
  · simp only [Int32.lt_iff_toInt_lt, Int32.le_iff_toInt_le, ← Int32.toInt_inj, ne_eq, gt_iff_lt, ge_iff_le, h0, hX] at q ⊢
    omega
  · simp only [Int32.lt_iff_toInt_lt, Int32.le_iff_toInt_le, ← Int32.toInt_inj, ne_eq, gt_iff_lt, ge_iff_le, h0, hX] at q ⊢
    omega
theorem zr_icmp_eq {x y : Int} {off : Int} {tgt : Nat} (hd : decode i.2.1 pc = .ok (.if_icmp .eq off, 3)) (ht : (pc : Int) + off = (tgt : Int)) (hx : jI32 x) (hy : jI32 y) (kt : x = y → zJ G i mc ms Φ Q c0 s0 tgt lv st M) (kf : ¬ x = y → zJ G i mc ms Φ Q c0 s0 (pc + 3) lv st M) : zJ G i mc ms Φ Q c0 s0 pc lv ((0, y) :: (0, x) :: st) M := by
  intro p e s m args below meth c H locs ls X F hh hS hl
  have hX := jI32_to hx
  have hY := jI32_to hy
  refine lv_icmp_eq X.1 X.2.1 hd ht (fun q => kt ?_ p e s m args below meth c H locs ls X F hh hS hl) (fun q => kf ?_ p e s m args below meth c H locs ls X F hh hS hl)
  · simp only [Int32.lt_iff_toInt_lt, Int32.le_iff_toInt_le, ← Int32.toInt_inj, ne_eq, gt_iff_lt, ge_iff_le, hX, hY] at q ⊢
    omega
  · simp only [Int32.lt_iff_toInt_lt, Int32.le_iff_toInt_le, ← Int32.toInt_inj, ne_eq, gt_iff_lt, ge_iff_le, hX, hY] at q ⊢
    omega
theorem zr_lcmp_eq {x y : Int} {off : Int} {tgt : Nat} (hd0 : decode i.2.1 pc = .ok (.lcmp, 1)) (hd : decode i.2.1 (pc + 1) = .ok (.ifCond .eq off, 3)) (ht : ((pc + 1 : Nat) : Int) + off = (tgt : Int)) (hx : jI64 x) (hy : jI64 y) (kt : x = y → zJ G i mc ms Φ Q c0 s0 tgt lv st M) (kf : ¬ x = y → zJ G i mc ms Φ Q c0 s0 (pc + 4) lv st M) : zJ G i mc ms Φ Q c0 s0 pc lv ((1, y) :: (1, x) :: st) M := by
  intro p e s m args below meth c H locs ls X F hh hS hl
  have hX := jI64_to hx
  have hY := jI64_to hy
  refine W.lcmp X.1 X.2.1 hd0 ?_
  have hc : (x < y ∧ lg_cmp (Int64.ofInt x) (Int64.ofInt y) = -1) ∨ (x = y ∧ lg_cmp (Int64.ofInt x) (Int64.ofInt y) = 0) ∨ (y < x ∧ lg_cmp (Int64.ofInt x) (Int64.ofInt y) = 1) := by
    unfold lg_cmp
    rcases Int.lt_trichotomy x y with h | h | h
    · exact Or.inl ⟨h, by rw [if_neg (by rw [gt_iff_lt, Int64.lt_iff_toInt_lt, hX, hY]; omega), if_neg (by rw [← Int64.toInt_inj, hX, hY]; omega)]⟩
    · exact Or.inr (Or.inl ⟨h, by rw [if_neg (by rw [gt_iff_lt, Int64.lt_iff_toInt_lt, hX, hY]; omega), if_pos (by rw [← Int64.toInt_inj, hX, hY]; omega)]⟩)
    · exact Or.inr (Or.inr ⟨h, by rw [if_pos (by rw [gt_iff_lt, Int64.lt_iff_toInt_lt, hX, hY]; omega)]⟩)
  rcases hc with ⟨h, e1⟩ | ⟨h, e1⟩ | ⟨h, e1⟩ <;> rw [e1] <;>
    exact lv_if_eq X.1 X.2.1 hd ht (fun q => kt (by first | omega | exact absurd q (by decide)) p e s m args below meth c H locs ls X F hh hS hl) (fun q => kf (by first | omega | exact absurd q (by decide)) p e s m args below meth c H locs ls X F hh hS hl)
theorem zr_if_ne {x : Int} {off : Int} {tgt : Nat} (hd : decode i.2.1 pc = .ok (.ifCond .ne off, 3)) (ht : (pc : Int) + off = (tgt : Int)) (hx : jI32 x) (kt : x ≠ 0 → zJ G i mc ms Φ Q c0 s0 tgt lv st M) (kf : ¬ (x ≠ 0) → zJ G i mc ms Φ Q c0 s0 (pc + 3) lv st M) : zJ G i mc ms Φ Q c0 s0 pc lv ((0, x) :: st) M := by
  intro p e s m args below meth c H locs ls X F hh hS hl
  have h0 : (0 : Int32).toInt = 0 := rfl
  have hX := jI32_to hx
  refine lv_if_ne X.1 X.2.1 hd ht (fun q => kt ?_ p e s m args below meth c H locs ls X F hh hS hl) (fun q => kf ?_ p e s m args below meth c H locs ls X F hh hS hl)
  · simp only [Int32.lt_iff_toInt_lt, Int32.le_iff_toInt_le, ← Int32.toInt_inj, ne_eq, gt_iff_lt, ge_iff_le, h0, hX] at q ⊢
    omega
  · simp only [Int32.lt_iff_toInt_lt, Int32.le_iff_toInt_le, ← Int32.toInt_inj, ne_eq, gt_iff_lt, ge_iff_le, h0, hX] at q ⊢
    omega
theorem zr_icmp_ne {x y : Int} {off : Int} {tgt : Nat} (hd : decode i.2.1 pc = .ok (.if_icmp .ne off, 3)) (ht : (pc : Int) + off = (tgt : Int)) (hx : jI32 x) (hy : jI32 y) (kt : x ≠ y → zJ G i mc ms Φ Q c0 s0 tgt lv st M) (kf : ¬ (x ≠ y) → zJ G i mc ms Φ Q c0 s0 (pc + 3) lv st M) : zJ G i mc ms Φ Q c0 s0 pc lv ((0, y) :: (0, x) :: st) M := by
  intro p e s m args below meth c H locs ls X F hh hS hl
  have hX := jI32_to hx
  have hY := jI32_to hy
  refine lv_icmp_ne X.1 X.2.1 hd ht (fun q => kt ?_ p e s m args below meth c H locs ls X F hh hS hl) (fun q => kf ?_ p e s m args below meth c H locs ls X F hh hS hl)
  · simp only [Int32.lt_iff_toInt_lt, Int32.le_iff_toInt_le, ← Int32.toInt_inj, ne_eq, gt_iff_lt, ge_iff_le, hX, hY] at q ⊢
    omega
  · simp only [Int32.lt_iff_toInt_lt, Int32.le_iff_toInt_le, ← Int32.toInt_inj, ne_eq, gt_iff_lt, ge_iff_le, hX, hY] at q ⊢
    omega
theorem zr_lcmp_ne {x y : Int} {off : Int} {tgt : Nat} (hd0 : decode i.2.1 pc = .ok (.lcmp, 1)) (hd : decode i.2.1 (pc + 1) = .ok (.ifCond .ne off, 3)) (ht : ((pc + 1 : Nat) : Int) + off = (tgt : Int)) (hx : jI64 x) (hy : jI64 y) (kt : x ≠ y → zJ G i mc ms Φ Q c0 s0 tgt lv st M) (kf : ¬ (x ≠ y) → zJ G i mc ms Φ Q c0 s0 (pc + 4) lv st M) : zJ G i mc ms Φ Q c0 s0 pc lv ((1, y) :: (1, x) :: st) M := by
  intro p e s m args below meth c H locs ls X F hh hS hl
  have hX := jI64_to hx
  have hY := jI64_to hy
  refine W.lcmp X.1 X.2.1 hd0 ?_
  have hc : (x < y ∧ lg_cmp (Int64.ofInt x) (Int64.ofInt y) = -1) ∨ (x = y ∧ lg_cmp (Int64.ofInt x) (Int64.ofInt y) = 0) ∨ (y < x ∧ lg_cmp (Int64.ofInt x) (Int64.ofInt y) = 1) := by
    unfold lg_cmp
    rcases Int.lt_trichotomy x y with h | h | h
    · exact Or.inl ⟨h, by rw [if_neg (by rw [gt_iff_lt, Int64.lt_iff_toInt_lt, hX, hY]; omega), if_neg (by rw [← Int64.toInt_inj, hX, hY]; omega)]⟩
    · exact Or.inr (Or.inl ⟨h, by rw [if_neg (by rw [gt_iff_lt, Int64.lt_iff_toInt_lt, hX, hY]; omega), if_pos (by rw [← Int64.toInt_inj, hX, hY]; omega)]⟩)
    · exact Or.inr (Or.inr ⟨h, by rw [if_pos (by rw [gt_iff_lt, Int64.lt_iff_toInt_lt, hX, hY]; omega)]⟩)
  rcases hc with ⟨h, e1⟩ | ⟨h, e1⟩ | ⟨h, e1⟩ <;> rw [e1] <;>
    exact lv_if_ne X.1 X.2.1 hd ht (fun q => kt (by first | omega | exact absurd q (by decide)) p e s m args below meth c H locs ls X F hh hS hl) (fun q => kf (by first | omega | exact absurd q (by decide)) p e s m args below meth c H locs ls X F hh hS hl)
theorem zr_if_lt {x : Int} {off : Int} {tgt : Nat} (hd : decode i.2.1 pc = .ok (.ifCond .lt off, 3)) (ht : (pc : Int) + off = (tgt : Int)) (hx : jI32 x) (kt : x < 0 → zJ G i mc ms Φ Q c0 s0 tgt lv st M) (kf : ¬ x < 0 → zJ G i mc ms Φ Q c0 s0 (pc + 3) lv st M) : zJ G i mc ms Φ Q c0 s0 pc lv ((0, x) :: st) M := by
  intro p e s m args below meth c H locs ls X F hh hS hl
  have h0 : (0 : Int32).toInt = 0 := rfl
  have hX := jI32_to hx
  refine lv_if_lt X.1 X.2.1 hd ht (fun q => kt ?_ p e s m args below meth c H locs ls X F hh hS hl) (fun q => kf ?_ p e s m args below meth c H locs ls X F hh hS hl)
  · simp only [Int32.lt_iff_toInt_lt, Int32.le_iff_toInt_le, ← Int32.toInt_inj, ne_eq, gt_iff_lt, ge_iff_le, h0, hX] at q ⊢
    omega
  · simp only [Int32.lt_iff_toInt_lt, Int32.le_iff_toInt_le, ← Int32.toInt_inj, ne_eq, gt_iff_lt, ge_iff_le, h0, hX] at q ⊢
    omega
theorem zr_icmp_lt {x y : Int} {off : Int} {tgt : Nat} (hd : decode i.2.1 pc = .ok (.if_icmp .lt off, 3)) (ht : (pc : Int) + off = (tgt : Int)) (hx : jI32 x) (hy : jI32 y) (kt : x < y → zJ G i mc ms Φ Q c0 s0 tgt lv st M) (kf : ¬ x < y → zJ G i mc ms Φ Q c0 s0 (pc + 3) lv st M) : zJ G i mc ms Φ Q c0 s0 pc lv ((0, y) :: (0, x) :: st) M := by
  intro p e s m args below meth c H locs ls X F hh hS hl
  have hX := jI32_to hx
  have hY := jI32_to hy
  refine lv_icmp_lt X.1 X.2.1 hd ht (fun q => kt ?_ p e s m args below meth c H locs ls X F hh hS hl) (fun q => kf ?_ p e s m args below meth c H locs ls X F hh hS hl)
  · simp only [Int32.lt_iff_toInt_lt, Int32.le_iff_toInt_le, ← Int32.toInt_inj, ne_eq, gt_iff_lt, ge_iff_le, hX, hY] at q ⊢
    omega
  · simp only [Int32.lt_iff_toInt_lt, Int32.le_iff_toInt_le, ← Int32.toInt_inj, ne_eq, gt_iff_lt, ge_iff_le, hX, hY] at q ⊢
    omega
theorem zr_lcmp_lt {x y : Int} {off : Int} {tgt : Nat} (hd0 : decode i.2.1 pc = .ok (.lcmp, 1)) (hd : decode i.2.1 (pc + 1) = .ok (.ifCond .lt off, 3)) (ht : ((pc + 1 : Nat) : Int) + off = (tgt : Int)) (hx : jI64 x) (hy : jI64 y) (kt : x < y → zJ G i mc ms Φ Q c0 s0 tgt lv st M) (kf : ¬ x < y → zJ G i mc ms Φ Q c0 s0 (pc + 4) lv st M) : zJ G i mc ms Φ Q c0 s0 pc lv ((1, y) :: (1, x) :: st) M := by
  intro p e s m args below meth c H locs ls X F hh hS hl
  have hX := jI64_to hx
  have hY := jI64_to hy
  refine W.lcmp X.1 X.2.1 hd0 ?_
  have hc : (x < y ∧ lg_cmp (Int64.ofInt x) (Int64.ofInt y) = -1) ∨ (x = y ∧ lg_cmp (Int64.ofInt x) (Int64.ofInt y) = 0) ∨ (y < x ∧ lg_cmp (Int64.ofInt x) (Int64.ofInt y) = 1) := by
    unfold lg_cmp
    rcases Int.lt_trichotomy x y with h | h | h
    · exact Or.inl ⟨h, by rw [if_neg (by rw [gt_iff_lt, Int64.lt_iff_toInt_lt, hX, hY]; omega), if_neg (by rw [← Int64.toInt_inj, hX, hY]; omega)]⟩
    · exact Or.inr (Or.inl ⟨h, by rw [if_neg (by rw [gt_iff_lt, Int64.lt_iff_toInt_lt, hX, hY]; omega), if_pos (by rw [← Int64.toInt_inj, hX, hY]; omega)]⟩)
    · exact Or.inr (Or.inr ⟨h, by rw [if_pos (by rw [gt_iff_lt, Int64.lt_iff_toInt_lt, hX, hY]; omega)]⟩)
  rcases hc with ⟨h, e1⟩ | ⟨h, e1⟩ | ⟨h, e1⟩ <;> rw [e1] <;>
    exact lv_if_lt X.1 X.2.1 hd ht (fun q => kt (by first | omega | exact absurd q (by decide)) p e s m args below meth c H locs ls X F hh hS hl) (fun q => kf (by first | omega | exact absurd q (by decide)) p e s m args below meth c H locs ls X F hh hS hl)
theorem zr_if_ge {x : Int} {off : Int} {tgt : Nat} (hd : decode i.2.1 pc = .ok (.ifCond .ge off, 3)) (ht : (pc : Int) + off = (tgt : Int)) (hx : jI32 x) (kt : 0 ≤ x → zJ G i mc ms Φ Q c0 s0 tgt lv st M) (kf : ¬ 0 ≤ x → zJ G i mc ms Φ Q c0 s0 (pc + 3) lv st M) : zJ G i mc ms Φ Q c0 s0 pc lv ((0, x) :: st) M := by
  intro p e s m args below meth c H locs ls X F hh hS hl
  have h0 : (0 : Int32).toInt = 0 := rfl
  have hX := jI32_to hx
  refine lv_if_ge X.1 X.2.1 hd ht (fun q => kt ?_ p e s m args below meth c H locs ls X F hh hS hl) (fun q => kf ?_ p e s m args below meth c H locs ls X F hh hS hl)
  · simp only [Int32.lt_iff_toInt_lt, Int32.le_iff_toInt_le, ← Int32.toInt_inj, ne_eq, gt_iff_lt, ge_iff_le, h0, hX] at q ⊢
    omega
  · simp only [Int32.lt_iff_toInt_lt, Int32.le_iff_toInt_le, ← Int32.toInt_inj, ne_eq, gt_iff_lt, ge_iff_le, h0, hX] at q ⊢
    omega
theorem zr_icmp_ge {x y : Int} {off : Int} {tgt : Nat} (hd : decode i.2.1 pc = .ok (.if_icmp .ge off, 3)) (ht : (pc : Int) + off = (tgt : Int)) (hx : jI32 x) (hy : jI32 y) (kt : y ≤ x → zJ G i mc ms Φ Q c0 s0 tgt lv st M) (kf : ¬ y ≤ x → zJ G i mc ms Φ Q c0 s0 (pc + 3) lv st M) : zJ G i mc ms Φ Q c0 s0 pc lv ((0, y) :: (0, x) :: st) M := by
  intro p e s m args below meth c H locs ls X F hh hS hl
  have hX := jI32_to hx
  have hY := jI32_to hy
  refine lv_icmp_ge X.1 X.2.1 hd ht (fun q => kt ?_ p e s m args below meth c H locs ls X F hh hS hl) (fun q => kf ?_ p e s m args below meth c H locs ls X F hh hS hl)
  · simp only [Int32.lt_iff_toInt_lt, Int32.le_iff_toInt_le, ← Int32.toInt_inj, ne_eq, gt_iff_lt, ge_iff_le, hX, hY] at q ⊢
    omega
  · simp only [Int32.lt_iff_toInt_lt, Int32.le_iff_toInt_le, ← Int32.toInt_inj, ne_eq, gt_iff_lt, ge_iff_le, hX, hY] at q ⊢
    omega
theorem zr_lcmp_ge {x y : Int} {off : Int} {tgt : Nat} (hd0 : decode i.2.1 pc = .ok (.lcmp, 1)) (hd : decode i.2.1 (pc + 1) = .ok (.ifCond .ge off, 3)) (ht : ((pc + 1 : Nat) : Int) + off = (tgt : Int)) (hx : jI64 x) (hy : jI64 y) (kt : y ≤ x → zJ G i mc ms Φ Q c0 s0 tgt lv st M) (kf : ¬ y ≤ x → zJ G i mc ms Φ Q c0 s0 (pc + 4) lv st M) : zJ G i mc ms Φ Q c0 s0 pc lv ((1, y) :: (1, x) :: st) M := by
  intro p e s m args below meth c H locs ls X F hh hS hl
  have hX := jI64_to hx
  have hY := jI64_to hy
  refine W.lcmp X.1 X.2.1 hd0 ?_
  have hc : (x < y ∧ lg_cmp (Int64.ofInt x) (Int64.ofInt y) = -1) ∨ (x = y ∧ lg_cmp (Int64.ofInt x) (Int64.ofInt y) = 0) ∨ (y < x ∧ lg_cmp (Int64.ofInt x) (Int64.ofInt y) = 1) := by
    unfold lg_cmp
    rcases Int.lt_trichotomy x y with h | h | h
    · exact Or.inl ⟨h, by rw [if_neg (by rw [gt_iff_lt, Int64.lt_iff_toInt_lt, hX, hY]; omega), if_neg (by rw [← Int64.toInt_inj, hX, hY]; omega)]⟩
    · exact Or.inr (Or.inl ⟨h, by rw [if_neg (by rw [gt_iff_lt, Int64.lt_iff_toInt_lt, hX, hY]; omega), if_pos (by rw [← Int64.toInt_inj, hX, hY]; omega)]⟩)
    · exact Or.inr (Or.inr ⟨h, by rw [if_pos (by rw [gt_iff_lt, Int64.lt_iff_toInt_lt, hX, hY]; omega)]⟩)
  rcases hc with ⟨h, e1⟩ | ⟨h, e1⟩ | ⟨h, e1⟩ <;> rw [e1] <;>
    exact lv_if_ge X.1 X.2.1 hd ht (fun q => kt (by first | omega | exact absurd q (by decide)) p e s m args below meth c H locs ls X F hh hS hl) (fun q => kf (by first | omega | exact absurd q (by decide)) p e s m args below meth c H locs ls X F hh hS hl)
theorem zr_if_gt {x : Int} {off : Int} {tgt : Nat} (hd : decode i.2.1 pc = .ok (.ifCond .gt off, 3)) (ht : (pc : Int) + off = (tgt : Int)) (hx : jI32 x) (kt : 0 < x → zJ G i mc ms Φ Q c0 s0 tgt lv st M) (kf : ¬ 0 < x → zJ G i mc ms Φ Q c0 s0 (pc + 3) lv st M) : zJ G i mc ms Φ Q c0 s0 pc lv ((0, x) :: st) M := by
  intro p e s m args below meth c H locs ls X F hh hS hl
  have h0 : (0 : Int32).toInt = 0 := rfl
  have hX := jI32_to hx
  refine lv_if_gt X.1 X.2.1 hd ht (fun q => kt ?_ p e s m args below meth c H locs ls X F hh hS hl) (fun q => kf ?_ p e s m args below meth c H locs ls X F hh hS hl)
  · simp only [Int32.lt_iff_toInt_lt, Int32.le_iff_toInt_le, ← Int32.toInt_inj, ne_eq, gt_iff_lt, ge_iff_le, h0, hX] at q ⊢
    omega
  · simp only [Int32.lt_iff_toInt_lt, Int32.le_iff_toInt_le, ← Int32.toInt_inj, ne_eq, gt_iff_lt, ge_iff_le, h0, hX] at q ⊢
    omega
theorem zr_icmp_gt {x y : Int} {off : Int} {tgt : Nat} (hd : decode i.2.1 pc = .ok (.if_icmp .gt off, 3)) (ht : (pc : Int) + off = (tgt : Int)) (hx : jI32 x) (hy : jI32 y) (kt : y < x → zJ G i mc ms Φ Q c0 s0 tgt lv st M) (kf : ¬ y < x → zJ G i mc ms Φ Q c0 s0 (pc + 3) lv st M) : zJ G i mc ms Φ Q c0 s0 pc lv ((0, y) :: (0, x) :: st) M := by
  intro p e s m args below meth c H locs ls X F hh hS hl
  have hX := jI32_to hx
  have hY := jI32_to hy
  refine lv_icmp_gt X.1 X.2.1 hd ht (fun q => kt ?_ p e s m args below meth c H locs ls X F hh hS hl) (fun q => kf ?_ p e s m args below meth c H locs ls X F hh hS hl)
  · simp only [Int32.lt_iff_toInt_lt, Int32.le_iff_toInt_le, ← Int32.toInt_inj, ne_eq, gt_iff_lt, ge_iff_le, hX, hY] at q ⊢
    omega
  · simp only [Int32.lt_iff_toInt_lt, Int32.le_iff_toInt_le, ← Int32.toInt_inj, ne_eq, gt_iff_lt, ge_iff_le, hX, hY] at q ⊢
    omega
theorem zr_lcmp_gt {x y : Int} {off : Int} {tgt : Nat} (hd0 : decode i.2.1 pc = .ok (.lcmp, 1)) (hd : decode i.2.1 (pc + 1) = .ok (.ifCond .gt off, 3)) (ht : ((pc + 1 : Nat) : Int) + off = (tgt : Int)) (hx : jI64 x) (hy : jI64 y) (kt : y < x → zJ G i mc ms Φ Q c0 s0 tgt lv st M) (kf : ¬ y < x → zJ G i mc ms Φ Q c0 s0 (pc + 4) lv st M) : zJ G i mc ms Φ Q c0 s0 pc lv ((1, y) :: (1, x) :: st) M := by
  intro p e s m args below meth c H locs ls X F hh hS hl
  have hX := jI64_to hx
  have hY := jI64_to hy
  refine W.lcmp X.1 X.2.1 hd0 ?_
  have hc : (x < y ∧ lg_cmp (Int64.ofInt x) (Int64.ofInt y) = -1) ∨ (x = y ∧ lg_cmp (Int64.ofInt x) (Int64.ofInt y) = 0) ∨ (y < x ∧ lg_cmp (Int64.ofInt x) (Int64.ofInt y) = 1) := by
    unfold lg_cmp
    rcases Int.lt_trichotomy x y with h | h | h
    · exact Or.inl ⟨h, by rw [if_neg (by rw [gt_iff_lt, Int64.lt_iff_toInt_lt, hX, hY]; omega), if_neg (by rw [← Int64.toInt_inj, hX, hY]; omega)]⟩
    · exact Or.inr (Or.inl ⟨h, by rw [if_neg (by rw [gt_iff_lt, Int64.lt_iff_toInt_lt, hX, hY]; omega), if_pos (by rw [← Int64.toInt_inj, hX, hY]; omega)]⟩)
    · exact Or.inr (Or.inr ⟨h, by rw [if_pos (by rw [gt_iff_lt, Int64.lt_iff_toInt_lt, hX, hY]; omega)]⟩)
  rcases hc with ⟨h, e1⟩ | ⟨h, e1⟩ | ⟨h, e1⟩ <;> rw [e1] <;>
    exact lv_if_gt X.1 X.2.1 hd ht (fun q => kt (by first | omega | exact absurd q (by decide)) p e s m args below meth c H locs ls X F hh hS hl) (fun q => kf (by first | omega | exact absurd q (by decide)) p e s m args below meth c H locs ls X F hh hS hl)
theorem zr_if_le {x : Int} {off : Int} {tgt : Nat} (hd : decode i.2.1 pc = .ok (.ifCond .le off, 3)) (ht : (pc : Int) + off = (tgt : Int)) (hx : jI32 x) (kt : x ≤ 0 → zJ G i mc ms Φ Q c0 s0 tgt lv st M) (kf : ¬ x ≤ 0 → zJ G i mc ms Φ Q c0 s0 (pc + 3) lv st M) : zJ G i mc ms Φ Q c0 s0 pc lv ((0, x) :: st) M := by
  intro p e s m args below meth c H locs ls X F hh hS hl
  have h0 : (0 : Int32).toInt = 0 := rfl
  have hX := jI32_to hx
  refine lv_if_le X.1 X.2.1 hd ht (fun q => kt ?_ p e s m args below meth c H locs ls X F hh hS hl) (fun q => kf ?_ p e s m args below meth c H locs ls X F hh hS hl)
  · simp only [Int32.lt_iff_toInt_lt, Int32.le_iff_toInt_le, ← Int32.toInt_inj, ne_eq, gt_iff_lt, ge_iff_le, h0, hX] at q ⊢
    omega
  · simp only [Int32.lt_iff_toInt_lt, Int32.le_iff_toInt_le, ← Int32.toInt_inj, ne_eq, gt_iff_lt, ge_iff_le, h0, hX] at q ⊢
    omega
theorem zr_icmp_le {x y : Int} {off : Int} {tgt : Nat} (hd : decode i.2.1 pc = .ok (.if_icmp .le off, 3)) (ht : (pc : Int) + off = (tgt : Int)) (hx : jI32 x) (hy : jI32 y) (kt : x ≤ y → zJ G i mc ms Φ Q c0 s0 tgt lv st M) (kf : ¬ x ≤ y → zJ G i mc ms Φ Q c0 s0 (pc + 3) lv st M) : zJ G i mc ms Φ Q c0 s0 pc lv ((0, y) :: (0, x) :: st) M := by
  intro p e s m args below meth c H locs ls X F hh hS hl
  have hX := jI32_to hx
  have hY := jI32_to hy
  refine lv_icmp_le X.1 X.2.1 hd ht (fun q => kt ?_ p e s m args below meth c H locs ls X F hh hS hl) (fun q => kf ?_ p e s m args below meth c H locs ls X F hh hS hl)
  · simp only [Int32.lt_iff_toInt_lt, Int32.le_iff_toInt_le, ← Int32.toInt_inj, ne_eq, gt_iff_lt, ge_iff_le, hX, hY] at q ⊢
    omega
  · simp only [Int32.lt_iff_toInt_lt, Int32.le_iff_toInt_le, ← Int32.toInt_inj, ne_eq, gt_iff_lt, ge_iff_le, hX, hY] at q ⊢
    omega
theorem zr_lcmp_le {x y : Int} {off : Int} {tgt : Nat} (hd0 : decode i.2.1 pc = .ok (.lcmp, 1)) (hd : decode i.2.1 (pc + 1) = .ok (.ifCond .le off, 3)) (ht : ((pc + 1 : Nat) : Int) + off = (tgt : Int)) (hx : jI64 x) (hy : jI64 y) (kt : x ≤ y → zJ G i mc ms Φ Q c0 s0 tgt lv st M) (kf : ¬ x ≤ y → zJ G i mc ms Φ Q c0 s0 (pc + 4) lv st M) : zJ G i mc ms Φ Q c0 s0 pc lv ((1, y) :: (1, x) :: st) M := by
  intro p e s m args below meth c H locs ls X F hh hS hl
  have hX := jI64_to hx
  have hY := jI64_to hy
  refine W.lcmp X.1 X.2.1 hd0 ?_
  have hc : (x < y ∧ lg_cmp (Int64.ofInt x) (Int64.ofInt y) = -1) ∨ (x = y ∧ lg_cmp (Int64.ofInt x) (Int64.ofInt y) = 0) ∨ (y < x ∧ lg_cmp (Int64.ofInt x) (Int64.ofInt y) = 1) := by
    unfold lg_cmp
    rcases Int.lt_trichotomy x y with h | h | h
    · exact Or.inl ⟨h, by rw [if_neg (by rw [gt_iff_lt, Int64.lt_iff_toInt_lt, hX, hY]; omega), if_neg (by rw [← Int64.toInt_inj, hX, hY]; omega)]⟩
    · exact Or.inr (Or.inl ⟨h, by rw [if_neg (by rw [gt_iff_lt, Int64.lt_iff_toInt_lt, hX, hY]; omega), if_pos (by rw [← Int64.toInt_inj, hX, hY]; omega)]⟩)
    · exact Or.inr (Or.inr ⟨h, by rw [if_pos (by rw [gt_iff_lt, Int64.lt_iff_toInt_lt, hX, hY]; omega)]⟩)
  rcases hc with ⟨h, e1⟩ | ⟨h, e1⟩ | ⟨h, e1⟩ <;> rw [e1] <;>
    exact lv_if_le X.1 X.2.1 hd ht (fun q => kt (by first | omega | exact absurd q (by decide)) p e s m args below meth c H locs ls X F hh hS hl) (fun q => kf (by first | omega | exact absurd q (by decide)) p e s m args below meth c H locs ls X F hh hS hl)
end
section
variable {G : jG} {i : jI} {mc ms : Nat} {Φ : zP} {Q : zQ} {R : Option jV → jM → Prop} {c0 s0 pc : Nat} {lv : List (Nat × jV)} {st : List jV} {M : jM}
theorem zr_get {ci k t index : Nat} {q : Int} {r : vw_C} (hr : vwCl[ci]? = some r) (hc : jcls ci r) (ht : (jtf ci)[k]? = some t) (hw : Cond.fieldLink i.1.cls index (r.2.1 k).1 (r.2.1 k).2.1 (r.2.1 k).2.2.1 ∈ jtbl) (hd : decode i.2.1 pc = .ok (.getfield index, 3))
    (h0 : 0 ≤ q) (hN : q.toNat < M.2.1) (hL : (M.2.2.1 q.toNat).1 = 0) (hci : (M.2.2.1 q.toNat).2.1 = ci) (kk : zJ G i mc ms Φ Q c0 s0 (pc + 3) lv (jfd (M.2.2.1 q.toNat) t k (M.2.2.2 q.toNat k) :: st) M) : zJ G i mc ms Φ Q c0 s0 pc lv ((2, q) :: st) M := by
  intro p e s m args below meth c H locs ls X F hh hS hl
  have K := kk p e s m args below meth c H locs ls X F hh hS hl
  rw [List.map_cons, jfd_v] at K
  rw [List.map_cons, jv_ref _ h0]
  have hg := jw_get (b := G.2.2.1) (ac := G.2.2.2) (L := M.2.2.1) (S := M.2.2.2) hN
  rw [jc_0 hL, hci] at hg
  have hk : k < r.2.2 := by rw [← hc.2.2.2]; exact (List.getElem?_eq_some_iff.mp ht).1
  exact va_get (C := r.1) (T := r.2.1) (N := r.2.2) X.1 X.2.1 X.2.2.2.2.1 hc.1 X.2.2.2.1 X.2.2.2.2.2.2.2.2.2 hh.2.2 q.toNat hg hr k hk (X.2.2.2.2.1 _ hw) (fun _ h => h) (jfs_get ht) hd K
theorem zr_put {ci k t index : Nat} {q x : Int} {r : vw_C} (hr : vwCl[ci]? = some r) (hc : jcls ci r) (ht : (jtf ci)[k]? = some t) (hfin : (r.2.1 k).2.2.2 = false) (hw : Cond.fieldLink i.1.cls index (r.2.1 k).1 (r.2.1 k).2.1 (r.2.1 k).2.2.1 ∈ jtbl) (hd : decode i.2.1 pc = .ok (.putfield index, 3))
    (h0 : 0 ≤ q) (hN : q.toNat < M.2.1) (hL : (M.2.2.1 q.toNat).1 = 0) (hci : (M.2.2.1 q.toNat).2.1 = ci) (hs : (M.2.2.1 q.toNat).2.2.2 k = none) (hz : t = 3 → x = 0 ∨ x = 1) (ht9 : t ≤ 3) (kk : zJ G i mc ms Φ Q c0 s0 (pc + 3) lv st (M.1, M.2.1, M.2.2.1, ju M.2.2.2 q.toNat k x)) : zJ G i mc ms Φ Q c0 s0 pc lv ((jtg t, x) :: (2, q) :: st) M := by
  intro p e s m args below meth c H locs ls X F hh hS hl
  rw [List.map_cons, List.map_cons, jv_ref _ h0]
  have hg := jw_get (b := G.2.2.1) (ac := G.2.2.2) (L := M.2.2.1) (S := M.2.2.2) hN
  rw [jc_0 hL, hci] at hg
  have hk : k < r.2.2 := by rw [← hc.2.2.2]; exact (List.getElem?_eq_some_iff.mp ht).1
  obtain ⟨ty0, hty⟩ := hc.2.1
  obtain ⟨hd9, ht0⟩ := hty k hk
  have htt : t = jtc (ty0 k) := Option.some.inj (ht.symm.trans ht0)
  have hnf : narrow (ty0 k) (jv G.2.2.1 (jtg t, x)) = jv G.2.2.1 (jtg t, x) ∧ fits (ty0 k) (jv G.2.2.1 (jtg t, x)) = true := by
    rw [htt]
    cases hy : ty0 k with
    | int => exact ⟨rfl, rfl⟩
    | long => exact ⟨rfl, rfl⟩
    | boolean =>
      rcases hz (by rw [htt, hy]; rfl) with rfl | rfl
      · exact ⟨rfl, rfl⟩
      · exact ⟨rfl, rfl⟩
    | object n =>
      have : jv G.2.2.1 (jtg (jtc (.object n)), x) = va_rf (jr G.2.2.1 x) := rfl
      rw [this]
      unfold jr
      split <;> exact ⟨rfl, rfl⟩
    | array n =>
      have : jv G.2.2.1 (jtg (jtc (.array n)), x) = va_rf (jr G.2.2.1 x) := rfl
      rw [this]
      unfold jr
      split <;> exact ⟨rfl, rfl⟩
    | _ => rw [htt, hy] at ht9; exact absurd ht9 (by decide)
  have hD := jw_D G.2.2.1 G.2.2.2 M.2.1 M.2.2.1 M.2.2.2
  have hts := X.2.2.2.2.1
  have hap := va_apart (own := i.1.cls) hts hc.1 ty0 (fun k h => (hty k h).1) hc.2.2.1 X.2.2.2.2.2.2.2.2.2 hr
  obtain ⟨r', h1, cell, q1, q2, q3, q4⟩ := hh.2.2 q.toNat _ hg
  have hr' : r' = r := Option.some.inj (h1.symm.trans hr)
  subst hr'
  obtain ⟨hSl, hfc, kC, hkC, hkind⟩ := X.2.2.2.2.2.2.2.2.2.1 ci _ hr
  obtain ⟨cf, kf, fi, f, hi, hsl⟩ := hSl k hk
  have hlay := hts _ (hc.1 _ (u_in_lay hk))
  unfold u_lay at hlay
  rw [if_neg (by rw [hfin]; decide)] at hlay
  have hst := (u_facts hfc hkC (u_lays hts hc.1 hk) hi).1
  have h6 := u_store hfc hkC hkind hlay hi hd9 hnf.1 hnf.2
  refine W.putK X.1 X.2.1 (f := f) ⟨X.2.2.2.1, hts _ hw, ⟨_, _, _, hi⟩, hst⟩ (by rw [q2]; exact h6) q1 q3 (by rw [hsl]; exact k2_hasslot (q4 k hk)) rfl rfl hd fun H' e1 e2 e3 => ?_
  rw [hsl] at e1 ⊢
  have hP1 := hh.2.2.set hD hg (e := .inr (ci, (jfs G.2.2.1 ci (M.2.2.1 q.toNat).2.2.2 (M.2.2.2 q.toNat)).set k (jv G.2.2.1 (jtg t, x)))) ⟨_, hr, t_OB.to (V := updV (vp_V (jfs G.2.2.1 ci (M.2.2.1 q.toNat).2.2.2 (M.2.2.2 q.toNat))) k (jv G.2.2.1 (jtg t, x))) ⟨_, e1, q2, q3, t_set q4 hap hk _⟩ (fun j _ => vp_updV_set (by rw [jfs_len]; exact (List.getElem?_eq_some_iff.mp ht).1) _ j)⟩ e3
  refine kk p e s m args below meth c H' _ ls X F ⟨by rw [← hh.1]; exact e2, hh.2.1, ?_⟩ (hS.put e2 e3 (Nat.le_add_right _ _)) hl
  rw [jfs_set ht hs, ← hci, ← jc_0 (ac := G.2.2.2) hL, jw_set] at hP1
  show va_P _ _ (jw _ _ _ _ (ju _ _ _ _)) _
  rw [ju_row]
  exact hP1
end
section
variable {G : jG} {i : jI} {mc ms : Nat} {Φ : zP} {Q : zQ} {R : Option jV → jM → Prop} {c0 s0 pc : Nat} {lv : List (Nat × jV)} {st : List jV} {M : jM}
theorem zr_iald {q x : Int} (hd : decode i.2.1 pc = .ok (.iaload, 1)) (h0 : 0 ≤ q) (hN : q.toNat < M.2.1) (hL : (M.2.2.1 q.toNat).1 = 1) (hx : 0 ≤ x) (hx2 : x < ((M.2.2.1 q.toNat).2.2.1 : Int)) (hn : (M.2.2.1 q.toNat).2.2.1 ≤ 2147483647) (kk : zJ G i mc ms Φ Q c0 s0 (pc + 1) lv ((0, M.2.2.2 q.toNat x.toNat) :: st) M) : zJ G i mc ms Φ Q c0 s0 pc lv ((0, x) :: (2, q) :: st) M := by
  intro p e s m args below meth c H locs ls X F hh hS hl
  have K := kk p e s m args below meth c H locs ls X F hh hS hl
  rw [List.map_cons, List.map_cons, jv_ref _ h0, jv_0]
  have hg := jw_get (b := G.2.2.1) (ac := G.2.2.2) (L := M.2.2.1) (S := M.2.2.2) hN
  rw [jc_1 hL] at hg
  obtain ⟨-, e2, hin⟩ := jidx hx hx2 hn
  refine va_iald X.1 X.2.1 X.2.2.2.2.2.2.2.2.2 hh.2.2 q.toNat 0 hg rfl hin hd ?_
  rw [e2]
  exact K
theorem zr_lald {q x : Int} (hd : decode i.2.1 pc = .ok (.laload, 1)) (h0 : 0 ≤ q) (hN : q.toNat < M.2.1) (hL : (M.2.2.1 q.toNat).1 = 2) (hx : 0 ≤ x) (hx2 : x < ((M.2.2.1 q.toNat).2.2.1 : Int)) (hn : (M.2.2.1 q.toNat).2.2.1 ≤ 2147483647) (kk : zJ G i mc ms Φ Q c0 s0 (pc + 1) lv ((1, M.2.2.2 q.toNat x.toNat) :: st) M) : zJ G i mc ms Φ Q c0 s0 pc lv ((0, x) :: (2, q) :: st) M := by
  intro p e s m args below meth c H locs ls X F hh hS hl
  have K := kk p e s m args below meth c H locs ls X F hh hS hl
  rw [List.map_cons, List.map_cons, jv_ref _ h0, jv_0]
  have hg := jw_get (b := G.2.2.1) (ac := G.2.2.2) (L := M.2.2.1) (S := M.2.2.2) hN
  rw [jc_2 hL] at hg
  obtain ⟨-, e2, hin⟩ := jidx hx hx2 hn
  refine va_lald X.1 X.2.1 X.2.2.2.2.2.2.2.2.2 hh.2.2 q.toNat 1 hg rfl hin hd ?_
  rw [e2]
  exact K
theorem zr_bald {q x : Int} (hd : decode i.2.1 pc = .ok (.baload, 1)) (h0 : 0 ≤ q) (hN : q.toNat < M.2.1) (hL : (M.2.2.1 q.toNat).1 = 3) (hx : 0 ≤ x) (hx2 : x < ((M.2.2.1 q.toNat).2.2.1 : Int)) (hn : (M.2.2.1 q.toNat).2.2.1 ≤ 2147483647) (kk : zJ G i mc ms Φ Q c0 s0 (pc + 1) lv ((0, M.2.2.2 q.toNat x.toNat) :: st) M) : zJ G i mc ms Φ Q c0 s0 pc lv ((0, x) :: (2, q) :: st) M := by
  intro p e s m args below meth c H locs ls X F hh hS hl
  have K := kk p e s m args below meth c H locs ls X F hh hS hl
  rw [List.map_cons, List.map_cons, jv_ref _ h0, jv_0]
  have hg := jw_get (b := G.2.2.1) (ac := G.2.2.2) (L := M.2.2.1) (S := M.2.2.2) hN
  rw [jc_3 hL] at hg
  obtain ⟨-, e2, hin⟩ := jidx hx hx2 hn
  refine va_bald X.1 X.2.1 X.2.2.2.2.2.2.2.2.2 hh.2.2 q.toNat 2 hg rfl hin hd ?_
  rw [e2]
  exact K
theorem zr_zald {q x : Int} (hd : decode i.2.1 pc = .ok (.baload, 1)) (h0 : 0 ≤ q) (hN : q.toNat < M.2.1) (hL : (M.2.2.1 q.toNat).1 = 4) (hx : 0 ≤ x) (hx2 : x < ((M.2.2.1 q.toNat).2.2.1 : Int)) (hn : (M.2.2.1 q.toNat).2.2.1 ≤ 2147483647) (kk : zJ G i mc ms Φ Q c0 s0 (pc + 1) lv ((0, M.2.2.2 q.toNat x.toNat) :: st) M) : zJ G i mc ms Φ Q c0 s0 pc lv ((0, x) :: (2, q) :: st) M := by
  intro p e s m args below meth c H locs ls X F hh hS hl
  have K := kk p e s m args below meth c H locs ls X F hh hS hl
  rw [List.map_cons, List.map_cons, jv_ref _ h0, jv_0]
  have hg := jw_get (b := G.2.2.1) (ac := G.2.2.2) (L := M.2.2.1) (S := M.2.2.2) hN
  rw [jc_4 hL] at hg
  obtain ⟨-, e2, hin⟩ := jidx hx hx2 hn
  refine va_zald X.1 X.2.1 X.2.2.2.2.2.2.2.2.2 hh.2.2 q.toNat 3 hg rfl hin hd ?_
  rw [e2]
  exact K
theorem zr_aald {q x : Int} {n : Nat} {C : String} (hC : (jtys G.2.2.2)[n + 4]? = some (G.2.2.2 (n + 4), .object C)) (hd : decode i.2.1 pc = .ok (.aaload, 1)) (h0 : 0 ≤ q) (hN : q.toNat < M.2.1) (hL : (M.2.2.1 q.toNat).1 = n + 5) (hx : 0 ≤ x) (hx2 : x < ((M.2.2.1 q.toNat).2.2.1 : Int)) (hn : (M.2.2.1 q.toNat).2.2.1 ≤ 2147483647) (kk : zJ G i mc ms Φ Q c0 s0 (pc + 1) lv ((2, jaq (M.2.2.1 q.toNat) x.toNat (M.2.2.2 q.toNat x.toNat)) :: st) M) : zJ G i mc ms Φ Q c0 s0 pc lv ((0, x) :: (2, q) :: st) M := by
  intro p e s m args below meth c H locs ls X F hh hS hl
  have K := kk p e s m args below meth c H locs ls X F hh hS hl
  rw [List.map_cons, List.map_cons, jv_ref _ h0, jv_0]
  have hg := jw_get (b := G.2.2.1) (ac := G.2.2.2) (L := M.2.2.1) (S := M.2.2.2) hN
  rw [jc_5 hL] at hg
  obtain ⟨-, e2, hin⟩ := jidx hx hx2 hn
  refine va_aldq X.1 X.2.1 X.2.2.2.2.2.2.2.2.2 hh.2.2 q.toNat (n + 4) hg hC hin hd ?_
  rw [e2]
  rw [List.map_cons, jaq_v] at K
  exact K
theorem zr_alen {q : Int} (hd : decode i.2.1 pc = .ok (.arraylength, 1)) (h0 : 0 ≤ q) (hN : q.toNat < M.2.1) (hL : (M.2.2.1 q.toNat).1 = 1 ∨ (M.2.2.1 q.toNat).1 = 3) (kk : zJ G i mc ms Φ Q c0 s0 (pc + 1) lv ((0, ((M.2.2.1 q.toNat).2.2.1 : Int)) :: st) M) : zJ G i mc ms Φ Q c0 s0 pc lv ((2, q) :: st) M := by
  intro p e s m args below meth c H locs ls X F hh hS hl
  have K := kk p e s m args below meth c H locs ls X F hh hS hl
  rw [List.map_cons, jv_ref _ h0]
  have hg := jw_get (b := G.2.2.1) (ac := G.2.2.2) (L := M.2.2.1) (S := M.2.2.2) hN
  rw [List.map_cons, jv_0] at K
  rcases hL with hL | hL
  · rw [jc_1 hL] at hg
    exact va_alen X.1 X.2.1 X.2.2.2.2.2.2.2.2.2 hh.2.2 q.toNat 0 hg rfl (Int32.ofInt_eq_ofNat.symm) hd K
  · rw [jc_3 hL] at hg
    exact va_alen X.1 X.2.1 X.2.2.2.2.2.2.2.2.2 hh.2.2 q.toNat 2 hg rfl (Int32.ofInt_eq_ofNat.symm) hd K
theorem zr_iast {q x y : Int} (hd : decode i.2.1 pc = .ok (.iastore, 1)) (h0 : 0 ≤ q) (hN : q.toNat < M.2.1) (hL : (M.2.2.1 q.toNat).1 = 1) (hx : 0 ≤ x) (hx2 : x < ((M.2.2.1 q.toNat).2.2.1 : Int)) (hn : (M.2.2.1 q.toNat).2.2.1 ≤ 2147483647) (kk : zJ G i mc ms Φ Q c0 s0 (pc + 1) lv st (M.1, M.2.1, M.2.2.1, ju M.2.2.2 q.toNat x.toNat y)) : zJ G i mc ms Φ Q c0 s0 pc lv ((0, y) :: (0, x) :: (2, q) :: st) M := by
  intro p e s m args below meth c H locs ls X F hh hS hl
  rw [List.map_cons, List.map_cons, List.map_cons, jv_ref _ h0, jv_0, jv_0]
  have hD := jw_D G.2.2.1 G.2.2.2 M.2.1 M.2.2.1 M.2.2.2
  have hg := jw_get (b := G.2.2.1) (ac := G.2.2.2) (L := M.2.2.1) (S := M.2.2.2) hN
  rw [jc_1 hL] at hg
  obtain ⟨-, e2, hin⟩ := jidx hx hx2 hn
  refine W.iast X.1 X.2.1 (hh.2.2 q.toNat _ hg) ((X.2.2.2.2.2.2.2.2.2.2 0 _ rfl).1 _ (fun j => .int (Int32.ofInt (M.2.2.2 q.toNat j)))) (fun z => by cases z) (by show ¬ (_ ∨ (arrV _ _ _).slots.size ≤ _); rw [arrV_size]; exact hin) rfl rfl hd fun H1 e1 z oq => ?_
  have hP1 := hh.2.2.set hD hg (e := jc G.2.2.1 G.2.2.2 (M.2.2.1 q.toNat) (fun j => if j = x.toNat then y else M.2.2.2 q.toNat j)) (H1 := H1) (by
    rw [jc_1 hL]
    show H1[_]? = some (vp_cell _ _)
    rw [e1]
    rw [vp_cell_i, vp_cell_i, arrV_store]
    congr 2
    funext j
    rw [e2]
    by_cases hj : j = x.toNat <;> simp [updV, hj]) oq
  refine kk p e s m args below meth c H1 _ ls X F ⟨by rw [← hh.1]; exact z, hh.2.1, ?_⟩ (hS.put z oq (Nat.le_add_right _ _)) hl
  rw [jw_set] at hP1
  show va_P _ _ (jw _ _ _ _ (ju _ _ _ _)) _
  rw [ju_row]
  exact hP1
theorem zr_last {q x y : Int} (hd : decode i.2.1 pc = .ok (.lastore, 1)) (h0 : 0 ≤ q) (hN : q.toNat < M.2.1) (hL : (M.2.2.1 q.toNat).1 = 2) (hx : 0 ≤ x) (hx2 : x < ((M.2.2.1 q.toNat).2.2.1 : Int)) (hn : (M.2.2.1 q.toNat).2.2.1 ≤ 2147483647) (kk : zJ G i mc ms Φ Q c0 s0 (pc + 1) lv st (M.1, M.2.1, M.2.2.1, ju M.2.2.2 q.toNat x.toNat y)) : zJ G i mc ms Φ Q c0 s0 pc lv ((1, y) :: (0, x) :: (2, q) :: st) M := by
  intro p e s m args below meth c H locs ls X F hh hS hl
  rw [List.map_cons, List.map_cons, List.map_cons, jv_ref _ h0, jv_0, jv_1]
  have hD := jw_D G.2.2.1 G.2.2.2 M.2.1 M.2.2.1 M.2.2.2
  have hg := jw_get (b := G.2.2.1) (ac := G.2.2.2) (L := M.2.2.1) (S := M.2.2.2) hN
  rw [jc_2 hL] at hg
  obtain ⟨-, e2, hin⟩ := jidx hx hx2 hn
  refine W.last X.1 X.2.1 (hh.2.2 q.toNat _ hg) ((X.2.2.2.2.2.2.2.2.2.2 1 _ rfl).1 _ (fun j => .long (Int64.ofInt (M.2.2.2 q.toNat j)))) (fun z => by cases z) (by show ¬ (_ ∨ (arrV _ _ _).slots.size ≤ _); rw [arrV_size]; exact hin) rfl rfl hd fun H1 e1 z oq => ?_
  have hP1 := hh.2.2.set hD hg (e := jc G.2.2.1 G.2.2.2 (M.2.2.1 q.toNat) (fun j => if j = x.toNat then y else M.2.2.2 q.toNat j)) (H1 := H1) (by
    rw [jc_2 hL]
    show H1[_]? = some (vp_cell _ _)
    rw [e1]
    rw [vp_cell_l, vp_cell_l, arrV_store]
    congr 2
    funext j
    rw [e2]
    by_cases hj : j = x.toNat <;> simp [updV, hj]) oq
  refine kk p e s m args below meth c H1 _ ls X F ⟨by rw [← hh.1]; exact z, hh.2.1, ?_⟩ (hS.put z oq (Nat.le_add_right _ _)) hl
  rw [jw_set] at hP1
  show va_P _ _ (jw _ _ _ _ (ju _ _ _ _)) _
  rw [ju_row]
  exact hP1
theorem zr_bast {q x y : Int} (hd : decode i.2.1 pc = .ok (.bastore, 1)) (h0 : 0 ≤ q) (hN : q.toNat < M.2.1) (hL : (M.2.2.1 q.toNat).1 = 3) (hx : 0 ≤ x) (hx2 : x < ((M.2.2.1 q.toNat).2.2.1 : Int)) (hn : (M.2.2.1 q.toNat).2.2.1 ≤ 2147483647) (hb8 : -128 ≤ y ∧ y ≤ 127) (kk : zJ G i mc ms Φ Q c0 s0 (pc + 1) lv st (M.1, M.2.1, M.2.2.1, ju M.2.2.2 q.toNat x.toNat y)) : zJ G i mc ms Φ Q c0 s0 pc lv ((0, y) :: (0, x) :: (2, q) :: st) M := by
  intro p e s m args below meth c H locs ls X F hh hS hl
  rw [List.map_cons, List.map_cons, List.map_cons, jv_ref _ h0, jv_0, jv_0]
  have hD := jw_D G.2.2.1 G.2.2.2 M.2.1 M.2.2.1 M.2.2.2
  have hg := jw_get (b := G.2.2.1) (ac := G.2.2.2) (L := M.2.2.1) (S := M.2.2.2) hN
  rw [jc_3 hL] at hg
  obtain ⟨-, e2, hin⟩ := jidx hx hx2 hn
  refine W.bast X.1 X.2.1 (hh.2.2 q.toNat _ hg) ((X.2.2.2.2.2.2.2.2.2.2 2 _ rfl).1 _ (fun j => .int (Int32.ofInt (M.2.2.2 q.toNat j)))) (fun z => by cases z) (by show ¬ (_ ∨ (arrV _ _ _).slots.size ≤ _); rw [arrV_size]; exact hin) rfl rfl hd fun H1 e1 z oq => ?_
  have hP1 := hh.2.2.set hD hg (e := jc G.2.2.1 G.2.2.2 (M.2.2.1 q.toNat) (fun j => if j = x.toNat then y else M.2.2.2 q.toNat j)) (H1 := H1) (by
    rw [jc_3 hL]
    show H1[_]? = some (vp_cell _ _)
    rw [e1]
    rw [vp_cell_i, vp_cell_i, arrV_store]
    congr 2
    funext j
    rw [e2]
    by_cases hj : j = x.toNat
    · subst hj
      simp only [updV, if_pos]
      exact congrArg Value.int (jbyte hb8)
    · simp [updV, hj]) oq
  refine kk p e s m args below meth c H1 _ ls X F ⟨by rw [← hh.1]; exact z, hh.2.1, ?_⟩ (hS.put z oq (Nat.le_add_right _ _)) hl
  rw [jw_set] at hP1
  show va_P _ _ (jw _ _ _ _ (ju _ _ _ _)) _
  rw [ju_row]
  exact hP1
theorem zr_zast {q x y : Int} (hd : decode i.2.1 pc = .ok (.bastore, 1)) (h0 : 0 ≤ q) (hN : q.toNat < M.2.1) (hL : (M.2.2.1 q.toNat).1 = 4) (hx : 0 ≤ x) (hx2 : x < ((M.2.2.1 q.toNat).2.2.1 : Int)) (hn : (M.2.2.1 q.toNat).2.2.1 ≤ 2147483647) (hz : y = 0 ∨ y = 1) (kk : zJ G i mc ms Φ Q c0 s0 (pc + 1) lv st (M.1, M.2.1, M.2.2.1, ju M.2.2.2 q.toNat x.toNat y)) : zJ G i mc ms Φ Q c0 s0 pc lv ((0, y) :: (0, x) :: (2, q) :: st) M := by
  intro p e s m args below meth c H locs ls X F hh hS hl
  rw [List.map_cons, List.map_cons, List.map_cons, jv_ref _ h0, jv_0, jv_0]
  have hD := jw_D G.2.2.1 G.2.2.2 M.2.1 M.2.2.1 M.2.2.2
  have hg := jw_get (b := G.2.2.1) (ac := G.2.2.2) (L := M.2.2.1) (S := M.2.2.2) hN
  rw [jc_4 hL] at hg
  obtain ⟨-, e2, hin⟩ := jidx hx hx2 hn
  refine W.zast X.1 X.2.1 (hh.2.2 q.toNat _ hg) ((X.2.2.2.2.2.2.2.2.2.2 3 _ rfl).1 _ (fun j => .int (Int32.ofInt (M.2.2.2 q.toNat j)))) (fun z => by cases z) (by show ¬ (_ ∨ (arrV _ _ _).slots.size ≤ _); rw [arrV_size]; exact hin) rfl rfl hd fun H1 e1 z oq => ?_
  have hP1 := hh.2.2.set hD hg (e := jc G.2.2.1 G.2.2.2 (M.2.2.1 q.toNat) (fun j => if j = x.toNat then y else M.2.2.2 q.toNat j)) (H1 := H1) (by
    rw [jc_4 hL]
    show H1[_]? = some (vp_cell _ _)
    rw [e1]
    rw [vp_cell_i, vp_cell_i, arrV_store]
    congr 2
    funext j
    rw [e2]
    by_cases hj : j = x.toNat
    · subst hj
      rcases hz with rfl | rfl <;> simp only [updV, if_pos] <;> rfl
    · simp [updV, hj]) oq
  refine kk p e s m args below meth c H1 _ ls X F ⟨by rw [← hh.1]; exact z, hh.2.1, ?_⟩ (hS.put z oq (Nat.le_add_right _ _)) hl
  rw [jw_set] at hP1
  show va_P _ _ (jw _ _ _ _ (ju _ _ _ _)) _
  rw [ju_row]
  exact hP1
theorem zr_aast {q x y : Int} {n ci : Nat} {r : vw_C} (hC : (jtys G.2.2.2)[n + 4]? = some (G.2.2.2 (n + 4), .object r.1)) (hr : vwCl[ci]? = some r) (hd : decode i.2.1 pc = .ok (.aastore, 1)) (h0 : 0 ≤ q) (hN : q.toNat < M.2.1) (hL : (M.2.2.1 q.toNat).1 = n + 5) (hx : 0 ≤ x) (hx2 : x < ((M.2.2.1 q.toNat).2.2.1 : Int)) (hn : (M.2.2.1 q.toNat).2.2.1 ≤ 2147483647) (hs : (M.2.2.1 q.toNat).2.2.2 x.toNat = none) (hy0 : 0 ≤ y) (hyN : y.toNat < M.2.1) (hyL : (M.2.2.1 y.toNat).1 = 0) (hyc : (M.2.2.1 y.toNat).2.1 = ci) (kk : zJ G i mc ms Φ Q c0 s0 (pc + 1) lv st (M.1, M.2.1, M.2.2.1, ju M.2.2.2 q.toNat x.toNat y)) : zJ G i mc ms Φ Q c0 s0 pc lv ((2, y) :: (0, x) :: (2, q) :: st) M := by
  intro p e s m args below meth c H locs ls X F hh hS hl
  rw [List.map_cons, List.map_cons, List.map_cons, jv_ref _ h0, jv_0, jv_ref _ hy0]
  have hD := jw_D G.2.2.1 G.2.2.2 M.2.1 M.2.2.1 M.2.2.2
  have hg := jw_get (b := G.2.2.1) (ac := G.2.2.2) (L := M.2.2.1) (S := M.2.2.2) hN
  rw [jc_5 hL] at hg
  have hg2 := jw_get (b := G.2.2.1) (ac := G.2.2.2) (L := M.2.2.1) (S := M.2.2.2) hyN
  rw [jc_0 hyL, hyc] at hg2
  obtain ⟨e0, e2, hin⟩ := jidx hx hx2 hn
  have hK := X.2.2.2.2.2.2.2.2.2
  obtain ⟨r', hr', cellV, g1, g2, g3, -⟩ := hh.2.2 y.toNat _ hg2
  have hcls := (hK.1 ci r hr).2
  obtain ⟨kA, comp, k1, k2, k3, -⟩ := (hK.2 (n + 4) _ hC).2
  have hcomp : comp = G.2.1.1 ci := Option.some.inj (k3.symm.trans hcls.1)
  subst hcomp
  obtain ⟨kC, hkC, -⟩ := hcls.2
  have hneg : ¬ Int32.ofInt x < 0 := fun z => hin (Or.inl z)
  have hlt : (Int32.ofInt x).toNatClampNeg < (M.2.2.1 q.toNat).2.2.1 := Nat.not_le.mp fun z => hin (Or.inr z)
  refine W.aast X.1 X.2.1 (hh.2.2 q.toNat _ hg) (fun z h => by cases h) (fun h => by cases h) k1 k2 rfl hkC ⟨hneg, by show _ < (arrV _ _ _).slots.size; rw [arrV_size]; exact hlt⟩ g1 (fun z h => by rw [g3] at h; cases h) (by rw [g2]; exact hkC) (by rw [g2]; exact va_assign hcls) rfl rfl hd fun H1 e1 z oq => ?_
  have hP1 := hh.2.2.set hD hg (e := jc G.2.2.1 G.2.2.2 (M.2.2.1 q.toNat) (fun j => if j = x.toNat then y else M.2.2.2 q.toNat j)) (H1 := H1) (by
    rw [jc_5 hL]
    show H1[_]? = some (vp_cell _ _)
    rw [e1]
    rw [vp_cell_q, vp_cell_q, arrV_store]
    congr 2
    funext j
    rw [e2]
    by_cases hj : j = x.toNat
    · subst hj
      simp only [updV, if_pos, jarq, hs, jr_nat _ hy0]
      rfl
    · simp [updV, hj, jarq]) oq
  refine kk p e s m args below meth c H1 _ ls X F ⟨by rw [← hh.1]; exact z, hh.2.1, ?_⟩ (hS.put z oq (Nat.le_add_right _ _)) hl
  rw [jw_set] at hP1
  show va_P _ _ (jw _ _ _ _ (ju _ _ _ _)) _
  rw [ju_row]
  exact hP1
theorem zr_lxor {x y : Int} (hd : decode i.2.1 pc = .ok (.lxor, 1)) (k : zJ G i mc ms Φ Q c0 s0 (pc + 1) lv ((1, (Int64.ofInt x ^^^ Int64.ofInt y).toInt) :: st) M) : zJ G i mc ms Φ Q c0 s0 pc lv ((1, y) :: (1, x) :: st) M := by
  intro p e s m args below meth c H locs ls X F hh hS hl
  have K := k p e s m args below meth c H locs ls X F hh hS hl
  rw [List.map_cons, jv_1, Int64.ofInt_toInt] at K
  exact lv_lxor X.1 X.2.1 hd K
end
section
variable {G : jG} {i : jI} {mc ms : Nat} {Φ : zP} {Q : zQ} {R : Option jV → jM → Prop} {c0 s0 pc : Nat} {lv : List (Nat × jV)} {st : List jV} {M : jM}
theorem zrun {mc' ms' : Nat} {P0 : Option jV → jM → Prop} {p : Program} {e : Env} {s : State} {m : MethodId} {args a : Array Value} {below : List Frame} {meth : Method} {c : Code} {H : Heap} {locs : List Loc} {ls : Array Slot} {st0 : List Value}
    (k : ∀ r M', P0 r M' → zJ G i mc ms Φ Q (c0 + mc') (s0 + ms') (pc + 3) lv (r.toList ++ st) M') (X : jX G i p s m args meth c) (F : Φ.1 p s m args meth c) (hS : va_S (fun q => G.2.2.1 ≤ q) s.heap H locs) (hl : lv_has ls i.2.2.1 (Φ.2 ++ lv.map fun q => (q.1, jv G.2.2.1 q.2)))
    (hr : va_Run p G.1 e (jRm i mc ms) s m args below meth c H locs c0 s0 mc' ms' (F0 m pc ls st0) (st.map (jv G.2.2.1)) (jQ G P0 a) (fun q => G.2.2.1 ≤ q)) :
    W p G.1 e (jRm i mc ms) s m args below meth c H locs c0 s0 (Q below args s) (F0 m pc ls st0) := by
  intro T hT Y
  obtain ⟨v, st₀, t, T', L, h0, X', hL, e1, e2, ⟨⟨r, M', hv, hp, hh'⟩, hz, hk⟩, stp⟩ := hr T hT Y
  have hv' : v = r.map (jv G.2.2.1) := by injection hv
  rw [h0] at hz hk
  have hS' : va_S (fun q => G.2.2.1 ≤ q) s.heap T'.heap (locs ++ L) := by
    refine ⟨Nat.le_trans hS.1 (by rw [e1]; exact hz), fun q h1 h2 => ?_, fun q hq => ?_⟩
    · rw [e1, hk q (Nat.lt_of_lt_of_le h1 hS.1) h2]
      exact hS.2.1 q h1 h2
    · rcases List.mem_append.mp hq with h | h
      · exact hS.2.2 q h
      · exact hL q h
  obtain ⟨t2, a1, b1⟩ := k r M' hp p e s m args below meth c T'.heap (locs ++ L) ls X F (by rw [e1]; exact hh') hS' hl T' rfl X'
  refine ⟨t2, stp t2 ?_, b1⟩
  rw [hv']
  have : (Option.map (jv G.2.2.1) r).toList ++ List.map (jv G.2.2.1) st = List.map (jv G.2.2.1) (r.toList ++ st) := by
    cases r <;> simp
  rw [this]
  exact a1
theorem zr_callV {i' : jI} {q : Int} {as : List jV} {ci index mc' ms' : Nat} {r : vw_C} (hr : vwCl[ci]? = some r) (hrc : r.1 = i'.1.cls) (hok : jcok i i' as.length) (hlink : Cond.methodLink i.1.cls index i'.1 ∈ jtbl) (hinst : Cond.instanceMethod i'.1 ∈ jtbl) (hsel : Cond.selects i'.1.cls i'.1 i'.1 ∈ jtbl) (hd : decode i.2.1 pc = .ok (.invokevirtual index, 3))
    (h8 : jsum st ≤ 8) (h0 : 0 ≤ q) (hN : q.toNat < M.2.1) (hL : (M.2.2.1 q.toNat).1 = 0) (hci : (M.2.2.1 q.toNat).2.1 = ci) (hmc : c0 + mc' ≤ mc) (hms : s0 + ms' ≤ ms)
    (k : jC G i' mc' ms' M ((2, q) :: as) (fun r M' => zJ G i mc ms Φ Q (c0 + mc') (s0 + ms') (pc + 3) lv (r.toList ++ st) M')) : zJ G i mc ms Φ Q c0 s0 pc lv (as.reverse ++ (2, q) :: st) M := by
  intro p e s m args below meth c H locs ls X F hh hS hl
  obtain ⟨P0, hM, hP0⟩ := k
  have hts := X.2.2.2.2.1
  refine zrun hP0 X F hS hl (a := (Value.ref (G.2.2.1 + q.toNat) :: as.map (jv G.2.2.1)).toArray) ?_
  have hg := jw_get (b := G.2.2.1) (ac := G.2.2.2) (L := M.2.2.1) (S := M.2.2.2) hN
  rw [jc_0 hL, hci] at hg
  refine va_runV (C := i'.1.cls) (As := as.map (jv G.2.2.1)) (n := as.length) (ret := i'.2.2.2.1) (bytes := i'.2.1) (maxL := i'.2.2.1) (index := index) (b := G.2.2.1 + q.toNat) (rest := st.map (jv G.2.2.1)) ⟨X.1, X.2.1, X.2.2.1, X.2.2.2.1, hts⟩ hM
    ⟨callB_of as.length hts (jgoodIn hok.1) rfl rfl rfl (hts _ hok.2.1) (hts _ hlink) hok.2.2.1 ⟨hok.2.2.2.1, hok.2.2.2.2⟩, hts _ hinst, hts _ hsel⟩
    ⟨jPre_blind, by rw [← hrc]; exact va_recv X.2.2.2.2.2.2.2.2.2 hh.2.2 hr hg, fun U hU hW => ⟨by rw [List.map_cons, jv_ref _ h0], by rw [hU]; exact hh, X.2.2.2.2.2.2.2.2.1.go hS hU hW, va_K.moved hW.alike X.2.2.2.2.2.2.2.2.2⟩⟩
    rfl (by simp) hl.1 (by rw [List.map_append, List.map_cons, jv_ref _ h0, List.map_reverse]) (lv_room (by rw [jsum_cat]; exact h8)) hd ⟨hmc, hms⟩
theorem zr_callS {i' : jI} {as : List jV} {index mc' ms' : Nat} (hok : jcok i i' as.length) (hlink : Cond.methodLink i.1.cls index i'.1 ∈ jtbl) (hst : Cond.static i'.1 ∈ jtbl) (hd : decode i.2.1 pc = .ok (.invokestatic index, 3))
    (h8 : jsum st ≤ 8) (hmc : c0 + mc' ≤ mc) (hms : s0 + ms' ≤ ms)
    (k : jC G i' mc' ms' M as (fun r M' => zJ G i mc ms Φ Q (c0 + mc') (s0 + ms') (pc + 3) lv (r.toList ++ st) M')) : zJ G i mc ms Φ Q c0 s0 pc lv (as.reverse ++ st) M := by
  intro p e s m args below meth c H locs ls X F hh hS hl
  obtain ⟨P0, hM, hP0⟩ := k
  have hts := X.2.2.2.2.1
  refine zrun hP0 X F hS hl (a := (as.map (jv G.2.2.1)).toArray) ?_
  exact va_runS (As := as.map (jv G.2.2.1)) (n := as.length) (ret := i'.2.2.2.1) (bytes := i'.2.1) (maxL := i'.2.2.1) (index := index) (rest := st.map (jv G.2.2.1)) ⟨X.1, X.2.1, X.2.2.1, X.2.2.2.1, hts⟩ hM
    ⟨callB_of as.length hts (jgoodIn hok.1) rfl rfl rfl (hts _ hok.2.1) (hts _ hlink) hok.2.2.1 ⟨hok.2.2.2.1, hok.2.2.2.2⟩, hts _ hst⟩
    ⟨jPre_blind, fun U hU hW => ⟨rfl, by rw [hU]; exact hh, X.2.2.2.2.2.2.2.2.1.go hS hU hW, va_K.moved hW.alike X.2.2.2.2.2.2.2.2.2⟩⟩
    rfl (by simp) hl.1 (by rw [List.map_append, List.map_reverse]) (lv_room (by rw [jsum_cat]; exact h8)) hd ⟨hmc, hms⟩
theorem zr_callSN {i' : jI} {as : List jV} {index mc' ms' : Nat} {host : String} (hok : jcok i i' as.length) (hlink : Cond.methodLinkNest i.1.cls index i'.1 host ∈ jnest) (hst : Cond.static i'.1 ∈ jtbl) (hd : decode i.2.1 pc = .ok (.invokestatic index, 3))
    (h8 : jsum st ≤ 8) (hmc : c0 + mc' ≤ mc) (hms : s0 + ms' ≤ ms)
    (k : jC G i' mc' ms' M as (fun r M' => zJ G i mc ms Φ Q (c0 + mc') (s0 + ms') (pc + 3) lv (r.toList ++ st) M')) : zJ G i mc ms Φ Q c0 s0 pc lv (as.reverse ++ st) M := by
  intro p e s m args below meth c H locs ls X F hh hS hl
  obtain ⟨P0, hM, hP0⟩ := k
  have hts := X.2.2.2.2.1
  refine zrun hP0 X F hS hl (a := (as.map (jv G.2.2.1)).toArray) ?_
  refine va_runSN (As := as.map (jv G.2.2.1)) (n := as.length) (ret := i'.2.2.2.1) (bytes := i'.2.1) (maxL := i'.2.2.1) (index := index) (host := host) (rest := st.map (jv G.2.2.1)) ⟨X.1, X.2.1, X.2.2.1, X.2.2.2.1, hts⟩ hM
    ⟨va_cnB as.length hts (jgoodIn hok.1) rfl rfl rfl ?_ (hts _ hok.2.1) hok.2.2.1 ⟨hok.2.2.2.1, hok.2.2.2.2⟩, hts _ hst, trivial⟩
    ⟨jPre_blind, fun U hU hW => ⟨rfl, by rw [hU]; exact hh, X.2.2.2.2.2.2.2.2.1.go hS hU hW, va_K.moved hW.alike X.2.2.2.2.2.2.2.2.2⟩⟩
    rfl (by simp) hl.1 (by rw [List.map_append, List.map_reverse]) (lv_room (by rw [jsum_cat]; exact h8)) hd ⟨hmc, hms⟩
  exact X.2.2.2.2.2.2.2.2.1.1 _ hlink
end
section
variable {G : jG} {o : Nat} {i : jI} {mc ms : Nat} {Φ : zP} {Q : zQ} {R : Option jV → jM → Prop} {c0 s0 pc : Nat} {lv : List (Nat × jV)} {st : List jV} {M : jM}
theorem zs_load {len a b : Nat} {x : Int} {c : Nat} (hok : jok o i pc (1, len, x, a, b, c) = true) (h : jo G (1, len, x, a, b, c) (zJ G i mc ms Φ Q c0 s0) R pc lv st M) : zJ G i mc ms Φ Q c0 s0 pc lv st M := by
  dsimp only [jo] at h
  cases hv : jlk lv a with
  | none => rw [hv] at h; exact h.elim
  | some v =>
    rw [hv] at h
    dsimp only [jol] at h
    obtain ⟨t, z⟩ := v
    obtain ⟨rfl, h2, h3⟩ := h
    simp only [jok] at hok
    by_cases ha : a < 4
    · rw [dif_pos ha] at hok
      obtain ⟨g1, hok2⟩ := jand hok
      have hl := of_decide_eq_true g1
      clear hok g1
      subst hl
      have hok := hok2
      match t, hok, hv, h2, h3 with
      | 0, hok, hv, h2, h3 => exact zr_iload_n (n := ⟨a, ha⟩) (of_decide_eq_true hok) hv h3
      | 1, hok, hv, h2, h3 => exact zr_lload_n (n := ⟨a, ha⟩) (of_decide_eq_true hok) hv h3
      | 2, hok, hv, h2, h3 => exact zr_aload_n (n := ⟨a, ha⟩) (of_decide_eq_true hok) hv (h2 rfl) h3
    · rw [dif_neg ha] at hok
      obtain ⟨g1, hok2⟩ := jand hok
      have hl := of_decide_eq_true g1
      clear hok g1
      subst hl
      have hok := hok2
      match t, hok, hv, h2, h3 with
      | 0, hok, hv, h2, h3 => exact zr_iload (of_decide_eq_true hok) hv h3
      | 1, hok, hv, h2, h3 => exact zr_lload (of_decide_eq_true hok) hv h3
      | 2, hok, hv, h2, h3 => exact zr_aload (of_decide_eq_true hok) hv (h2 rfl) h3
theorem zs_store {len a b : Nat} {x : Int} {c : Nat} (hE : zE Φ.2 a) (hok : jok o i pc (2, len, x, a, b, c) = true) (h : jo G (2, len, x, a, b, c) (zJ G i mc ms Φ Q c0 s0) R pc lv st M) : zJ G i mc ms Φ Q c0 s0 pc lv st M := by
  dsimp only [jo] at h
  obtain ⟨v, r, rfl, h2, h3⟩ := jo1_inv h
  simp only [jok] at hok
  by_cases ha : a < 4
  · rw [dif_pos ha] at hok
    obtain ⟨g1, hok2⟩ := jand hok
    have hl := of_decide_eq_true g1
    clear hok g1
    subst hl
    have hok := hok2
    match b, hok, h2, h3 with
    | 0, hok, h2, h3 => exact zr_istore_n (n := ⟨a, ha⟩) (of_decide_eq_true (jand hok).1) (of_decide_eq_true (jand hok).2) hE h3
    | 1, hok, h2, h3 => exact zr_lstore_n (n := ⟨a, ha⟩) (of_decide_eq_true (jand hok).1) (of_decide_eq_true (jand hok).2) hE h3
    | 2, hok, h2, h3 => exact zr_astore_n (n := ⟨a, ha⟩) (of_decide_eq_true (jand hok).1) (of_decide_eq_true (jand hok).2) (h2 rfl) hE h3
  · rw [dif_neg ha] at hok
    obtain ⟨g1, hok2⟩ := jand hok
    have hl := of_decide_eq_true g1
    clear hok g1
    subst hl
    have hok := hok2
    match b, hok, h2, h3 with
    | 0, hok, h2, h3 => exact zr_istore (of_decide_eq_true (jand hok).1) (of_decide_eq_true (jand hok).2) hE h3
    | 1, hok, h2, h3 => exact zr_lstore (of_decide_eq_true (jand hok).1) (of_decide_eq_true (jand hok).2) hE h3
    | 2, hok, h2, h3 => exact zr_astore (of_decide_eq_true (jand hok).1) (of_decide_eq_true (jand hok).2) (h2 rfl) hE h3
theorem zs_const {len a b : Nat} {x : Int} {c : Nat} (hok : jok o i pc (0, len, x, a, b, c) = true) (h : jo G (0, len, x, a, b, c) (zJ G i mc ms Φ Q c0 s0) R pc lv st M) : zJ G i mc ms Φ Q c0 s0 pc lv st M := by
  have h : zJ G i mc ms Φ Q c0 s0 (pc + len) lv ((0, x) :: st) M := h
  match b, hok with
  | 0, hok =>
    obtain ⟨h1, h2⟩ := jand hok
    have h2 := of_decide_eq_true h2
    subst h2
    exact zr_iconst (of_decide_eq_true h1) h
  | 1, hok =>
    obtain ⟨g1, h3⟩ := jand hok
    obtain ⟨h1, g2⟩ := jand g1
    have h2 := of_decide_eq_true g2
    clear hok g1 g2
    subst h2
    exact zr_bipush (of_decide_eq_true h1) (of_decide_eq_true h3) h
  | 2, hok =>
    obtain ⟨g1, h3⟩ := jand hok
    obtain ⟨h1, g2⟩ := jand g1
    have h2 := of_decide_eq_true g2
    clear hok g1 g2
    subst h2
    exact zr_sipush (of_decide_eq_true h1) (of_decide_eq_true h3) h
  | 3, hok =>
    obtain ⟨g1, h3⟩ := jand hok
    obtain ⟨h1, g2⟩ := jand g1
    have h2 := of_decide_eq_true g2
    clear hok g1 g2
    subst h2
    exact zr_ldc (jat_mem h3) (of_decide_eq_true h1) h
  | n + 4, hok =>
    obtain ⟨g1, h3⟩ := jand hok
    obtain ⟨h1, g2⟩ := jand g1
    have h2 := of_decide_eq_true g2
    clear hok g1 g2
    subst h2
    exact zr_ldcw (jat_mem h3) (of_decide_eq_true h1) h
theorem zs_lconst {len a b : Nat} {x : Int} {c : Nat} (hok : jok o i pc (41, len, x, a, b, c) = true) (h : jo G (41, len, x, a, b, c) (zJ G i mc ms Φ Q c0 s0) R pc lv st M) : zJ G i mc ms Φ Q c0 s0 pc lv st M := by
  have h : zJ G i mc ms Φ Q c0 s0 (pc + len) lv ((1, x) :: st) M := h
  match b, hok with
  | 0, hok =>
    simp only [jok] at hok
    by_cases hx : x.toNat < 2
    · rw [dif_pos hx] at hok
      obtain ⟨g1, h3⟩ := jand hok
      obtain ⟨h1, g2⟩ := jand g1
      have h2 := of_decide_eq_true g2
      clear hok g1 g2
      subst h2
      exact zr_lconst (n := ⟨x.toNat, hx⟩) (of_decide_eq_true h1) (of_decide_eq_true h3) h
    · rw [dif_neg hx] at hok
      cases hok
  | n + 1, hok =>
    obtain ⟨g1, h3⟩ := jand hok
    obtain ⟨h1, g2⟩ := jand g1
    have h2 := of_decide_eq_true g2
    clear hok g1 g2
    subst h2
    exact zr_ldc2 (jat_mem h3) (of_decide_eq_true h1) h
theorem zs_if {len a b : Nat} {x : Int} {c : Nat} (hok : jok o i pc (19, len, x, a, b, c) = true) (h : jo G (19, len, x, a, b, c) (zJ G i mc ms Φ Q c0 s0) R pc lv st M) : zJ G i mc ms Φ Q c0 s0 pc lv st M := by
  dsimp only [jo] at h
  obtain ⟨v, r, rfl, hv, kt, kf⟩ := jo1_inv h
  match a, hok, kt, kf with
  | 0, hok, kt, kf => exact zr_if_eq (of_decide_eq_true hok) (jofs_t pc b) hv kt kf
  | 1, hok, kt, kf => exact zr_if_ne (of_decide_eq_true hok) (jofs_t pc b) hv kt kf
  | 2, hok, kt, kf => exact zr_if_lt (of_decide_eq_true hok) (jofs_t pc b) hv kt kf
  | 3, hok, kt, kf => exact zr_if_ge (of_decide_eq_true hok) (jofs_t pc b) hv kt kf
  | 4, hok, kt, kf => exact zr_if_gt (of_decide_eq_true hok) (jofs_t pc b) hv kt kf
  | n + 5, hok, kt, kf => exact zr_if_le (of_decide_eq_true hok) (jofs_t pc b) hv kt kf
theorem zs_icmp {len a b : Nat} {x : Int} {c : Nat} (hok : jok o i pc (20, len, x, a, b, c) = true) (h : jo G (20, len, x, a, b, c) (zJ G i mc ms Φ Q c0 s0) R pc lv st M) : zJ G i mc ms Φ Q c0 s0 pc lv st M := by
  dsimp only [jo] at h
  obtain ⟨v, w, r, rfl, hv, hw, kt, kf⟩ := jo2_inv h
  match a, hok, kt, kf with
  | 0, hok, kt, kf => exact zr_icmp_eq (of_decide_eq_true hok) (jofs_t pc b) hv hw kt kf
  | 1, hok, kt, kf => exact zr_icmp_ne (of_decide_eq_true hok) (jofs_t pc b) hv hw kt kf
  | 2, hok, kt, kf => exact zr_icmp_lt (of_decide_eq_true hok) (jofs_t pc b) hv hw kt kf
  | 3, hok, kt, kf => exact zr_icmp_ge (of_decide_eq_true hok) (jofs_t pc b) hv hw kt kf
  | 4, hok, kt, kf => exact zr_icmp_gt (of_decide_eq_true hok) (jofs_t pc b) hv hw kt kf
  | n + 5, hok, kt, kf => exact zr_icmp_le (of_decide_eq_true hok) (jofs_t pc b) hv hw kt kf
theorem zs_lcmp {len a b : Nat} {x : Int} {c : Nat} (hok : jok o i pc (22, len, x, a, b, c) = true) (h : jo G (22, len, x, a, b, c) (zJ G i mc ms Φ Q c0 s0) R pc lv st M) : zJ G i mc ms Φ Q c0 s0 pc lv st M := by
  dsimp only [jo] at h
  obtain ⟨v, w, r, rfl, hv, hw, kt, kf⟩ := jo2_inv h
  obtain ⟨hok0, hok⟩ := jand hok
  match a, hok, kt, kf with
  | 0, hok, kt, kf => exact zr_lcmp_eq (of_decide_eq_true hok0) (of_decide_eq_true hok) (jofs_t (pc + 1) b) hv hw kt kf
  | 1, hok, kt, kf => exact zr_lcmp_ne (of_decide_eq_true hok0) (of_decide_eq_true hok) (jofs_t (pc + 1) b) hv hw kt kf
  | 2, hok, kt, kf => exact zr_lcmp_lt (of_decide_eq_true hok0) (of_decide_eq_true hok) (jofs_t (pc + 1) b) hv hw kt kf
  | 3, hok, kt, kf => exact zr_lcmp_ge (of_decide_eq_true hok0) (of_decide_eq_true hok) (jofs_t (pc + 1) b) hv hw kt kf
  | 4, hok, kt, kf => exact zr_lcmp_gt (of_decide_eq_true hok0) (of_decide_eq_true hok) (jofs_t (pc + 1) b) hv hw kt kf
  | n + 5, hok, kt, kf => exact zr_lcmp_le (of_decide_eq_true hok0) (of_decide_eq_true hok) (jofs_t (pc + 1) b) hv hw kt kf
theorem zs_get {len a b : Nat} {x : Int} {c : Nat} (hi : i.1.cls = jcn o) (hok : jok o i pc (23, len, x, a, b, c) = true) (h : jo G (23, len, x, a, b, c) (zJ G i mc ms Φ Q c0 s0) R pc lv st M) : zJ G i mc ms Φ Q c0 s0 pc lv st M := by
  dsimp only [jo] at h
  obtain ⟨q, r, rfl, ⟨⟨h0, hN⟩, hL, hci⟩, k⟩ := jo1_inv h
  obtain ⟨hok, h2⟩ := jand hok
  obtain ⟨hd, h1⟩ := jand hok
  have h2 := of_decide_eq_true h2
  obtain ⟨u, hr, hw⟩ := jfl_ok c (of_decide_eq_true h1) (List.getElem?_eq_some_iff.mp h2).1
  rw [← hi] at hw
  exact zr_get hr (jcls_all a u hr) h2 hw (of_decide_eq_true hd) h0 hN hL hci k
theorem zs_put {len a b : Nat} {x : Int} {c : Nat} (hi : i.1.cls = jcn o) (hok : jok o i pc (24, len, x, a, b, c) = true) (h : jo G (24, len, x, a, b, c) (zJ G i mc ms Φ Q c0 s0) R pc lv st M) : zJ G i mc ms Φ Q c0 s0 pc lv st M := by
  dsimp only [jo] at h
  obtain ⟨q, v, r, rfl, ⟨⟨h0, hN⟩, hL, hci⟩, hs, hz, k⟩ := jo2_inv h
  obtain ⟨hok, h4⟩ := jand hok
  obtain ⟨hok, h3⟩ := jand hok
  obtain ⟨hok, h2⟩ := jand hok
  obtain ⟨hd, h1⟩ := jand hok
  have h2 := of_decide_eq_true h2
  obtain ⟨u, hr, hw⟩ := jfl_ok c (of_decide_eq_true h1) (List.getElem?_eq_some_iff.mp h2).1
  rw [← hi] at hw
  rw [hr] at h3
  exact zr_put hr (jcls_all a u hr) h2 (by simpa using h3) hw (of_decide_eq_true hd) h0 hN hL hci hs hz (of_decide_eq_true h4) k
theorem zs_ald {len a b : Nat} {x : Int} {c : Nat} (hok : jok o i pc (25, len, x, a, b, c) = true) (h : jo G (25, len, x, a, b, c) (zJ G i mc ms Φ Q c0 s0) R pc lv st M) : zJ G i mc ms Φ Q c0 s0 pc lv st M := by
  dsimp only [jo] at h
  obtain ⟨q, v, r, rfl, ⟨⟨h0, hN⟩, hL, hx, hx2, hn⟩, k⟩ := jo2_inv h
  match a, hok, hL, k with
  | 1, hok, hL, k => exact zr_iald (of_decide_eq_true hok) h0 hN hL hx hx2 hn k
  | 2, hok, hL, k => exact zr_lald (of_decide_eq_true hok) h0 hN hL hx hx2 hn k
  | 3, hok, hL, k => exact zr_bald (of_decide_eq_true hok) h0 hN hL hx hx2 hn k
  | 4, hok, hL, k => exact zr_zald (of_decide_eq_true hok) h0 hN hL hx hx2 hn k
  | 5, hok, hL, k => exact zr_aald (n := 0) (C := RX0) rfl (of_decide_eq_true hok) h0 hN hL hx hx2 hn k
  | 6, hok, hL, k => exact zr_aald (n := 1) (C := RX5) rfl (of_decide_eq_true hok) h0 hN hL hx hx2 hn k
  | 7, hok, hL, k => exact zr_aald (n := 2) (C := RX6) rfl (of_decide_eq_true hok) h0 hN hL hx hx2 hn k
theorem zs_ast {len a b : Nat} {x : Int} {c : Nat} (hok : jok o i pc (26, len, x, a, b, c) = true) (h : jo G (26, len, x, a, b, c) (zJ G i mc ms Φ Q c0 s0) R pc lv st M) : zJ G i mc ms Φ Q c0 s0 pc lv st M := by
  dsimp only [jo] at h
  obtain ⟨q, v, w, r, rfl, ⟨⟨h0, hN⟩, hL, hx, hx2, hn⟩, h8, hz, k⟩ := jo3_inv h
  match a, hok, hL, h8, hz, k with
  | 1, hok, hL, h8, hz, k => exact zr_iast (of_decide_eq_true hok) h0 hN hL hx hx2 hn k
  | 2, hok, hL, h8, hz, k => exact zr_last (of_decide_eq_true hok) h0 hN hL hx hx2 hn k
  | 3, hok, hL, h8, hz, k => exact zr_bast (of_decide_eq_true hok) h0 hN hL hx hx2 hn (h8 rfl) k
  | 4, hok, hL, h8, hz, k => exact zr_zast (of_decide_eq_true hok) h0 hN hL hx hx2 hn (hz rfl) k
theorem zs_callV {len a b : Nat} {x : Int} {c : Nat} (h99 : o ≠ 99) (hi : i.1.cls = jcn o) (hc : c0 ≤ mc) (hs : s0 ≤ ms) (hok : jok o i pc (28, len, x, a, b, c) = true) (h : jo G (28, len, x, a, b, c) (zJ G i mc ms Φ Q c0 s0) R pc lv st M) : zJ G i mc ms Φ Q c0 s0 pc lv st M := by
  obtain ⟨hok, hb⟩ := jand hok
  obtain ⟨hok, hr⟩ := jand hok
  obtain ⟨hd, hl⟩ := jand hok
  have hb := of_decide_eq_true hb
  obtain ⟨m0, m1⟩ := jmf_ok a _ _ ⟨hb.1, hb.2.1⟩ (by decide)
  rw [hb.2.2] at m1
  obtain ⟨m1, m2, u, hu, m3⟩ := m1.1 rfl
  have hl := (jml_ok c _ _ _ (of_decide_eq_true hl)).resolve_left h99
  rw [← hi] at hl
  dsimp only [jo] at h
  cases hq : st.drop b with
  | nil => rw [hq] at h; exact h.elim
  | cons q r =>
    rw [hq] at h
    obtain ⟨t, z⟩ := q
    obtain ⟨ht, ⟨⟨g0, gN⟩, gL, gci⟩, h8, hlen, k⟩ := h
    have ht : t = 2 := ht
    subst ht
    have e1 : st = (st.take b).reverse.reverse ++ (2, z) :: r := by rw [List.reverse_reverse, ← hq, List.take_append_drop]
    have e2 : (st.take b).reverse.length = b := by simp; omega
    rw [e1]
    exact zr_callV (mc' := 0) (ms' := 0) hu m3 (e2.symm ▸ ⟨m0.1, m0.2.1, m0.2.2, of_decide_eq_true (jand hr).1, of_decide_eq_true (jand hr).2⟩) hl m1 m2 (of_decide_eq_true hd) h8 g0 gN gL gci hc hs k
theorem zs_callS {len a b : Nat} {x : Int} {c : Nat} (h99 : o ≠ 99) (hi : i.1.cls = jcn o) (hc : c0 ≤ mc) (hs : s0 ≤ ms) (hok : jok o i pc (29, len, x, a, b, c) = true) (h : jo G (29, len, x, a, b, c) (zJ G i mc ms Φ Q c0 s0) R pc lv st M) : zJ G i mc ms Φ Q c0 s0 pc lv st M := by
  obtain ⟨hok, hb⟩ := jand hok
  obtain ⟨hok, hr⟩ := jand hok
  obtain ⟨hd, hl⟩ := jand hok
  obtain ⟨m0, m1⟩ := jmf_ok a _ _ (of_decide_eq_true hb) (by decide)
  have m1 := m1.2 rfl
  have hl := (jml_ok c _ _ _ (of_decide_eq_true hl)).resolve_left h99
  rw [← hi] at hl
  obtain ⟨h8, hlen, k⟩ := h
  have e1 : st = (st.take b).reverse.reverse ++ st.drop b := by rw [List.reverse_reverse, List.take_append_drop]
  have e2 : (st.take b).reverse.length = b := by simp; omega
  rw [e1]
  exact zr_callS (mc' := 0) (ms' := 0) (e2.symm ▸ ⟨m0.1, m0.2.1, m0.2.2, of_decide_eq_true (jand hr).1, of_decide_eq_true (jand hr).2⟩) hl m1 (of_decide_eq_true hd) h8 hc hs k
theorem zs_callN {len a b : Nat} {x : Int} {c : Nat} (h99 : o ≠ 99) (hi : i.1.cls = jcn o) (hc : c0 ≤ mc) (hs : s0 ≤ ms) (hok : jok o i pc (30, len, x, a, b, c) = true) (h : jo G (30, len, x, a, b, c) (zJ G i mc ms Φ Q c0 s0) R pc lv st M) : zJ G i mc ms Φ Q c0 s0 pc lv st M := by
  obtain ⟨hok, hb⟩ := jand hok
  obtain ⟨hok, hr⟩ := jand hok
  obtain ⟨hd, hl⟩ := jand hok
  obtain ⟨m0, m1⟩ := jmf_ok a _ _ (of_decide_eq_true hb) (by decide)
  have m1 := m1.2 rfl
  have hl := (jnl_ok c _ _ _ (of_decide_eq_true hl)).resolve_left h99
  rw [← hi] at hl
  obtain ⟨h8, hlen, k⟩ := h
  have e1 : st = (st.take b).reverse.reverse ++ st.drop b := by rw [List.reverse_reverse, List.take_append_drop]
  have e2 : (st.take b).reverse.length = b := by simp; omega
  rw [e1]
  exact zr_callSN (mc' := 0) (ms' := 0) (e2.symm ▸ ⟨m0.1, m0.2.1, m0.2.2, of_decide_eq_true (jand hr).1, of_decide_eq_true (jand hr).2⟩) hl m1 (of_decide_eq_true hd) h8 hc hs k
theorem zs_tsw {len a b : Nat} {x : Int} {c : Nat} (hok : jok o i pc (35, len, x, a, b, c) = true) (h : jo G (35, len, x, a, b, c) (zJ G i mc ms Φ Q c0 s0) R pc lv st M) : zJ G i mc ms Φ Q c0 s0 pc lv st M := by
  dsimp only [jo] at h
  obtain ⟨v, r, rfl, hv, hsw, hdf⟩ := jo1_inv h
  have hd := of_decide_eq_true (show decide _ = true from hok)
  have hV := jI32_to hv
  intro p e s m args below meth cc H locs ls X F hh hS hl
  by_cases hin : v < x ∨ x + ((jtsw a).2.length : Int) ≤ v
  · exact lv_tableOut X.1 X.2.1 hd (by rw [hV]; omega) (jofs_t pc _) (hdf hin p e s m args below meth cc H locs ls X F hh hS hl)
  · have hlt : (v - x).toNat < (jtsw a).2.length := by omega
    have hg : (jtsw a).2[(v - x).toNat]? = some ((jtsw a).2[(v - x).toNat]) := List.getElem?_eq_getElem hlt
    refine lv_tableIn X.1 X.2.1 hd (by rw [hV]; omega) (by rw [hV]; omega) (off := jofs pc ((jtsw a).2[(v - x).toNat])) (by rw [hV]; simp [hg]) (jofs_t pc _) ?_
    exact jsw_at (x := v) (lo := x) hsw _ _ hg (by omega) p e s m args below meth cc H locs ls X F hh hS hl
theorem zs_lsw {len a b : Nat} {x : Int} {c : Nat} (hok : jok o i pc (36, len, x, a, b, c) = true) (h : jo G (36, len, x, a, b, c) (zJ G i mc ms Φ Q c0 s0) R pc lv st M) : zJ G i mc ms Φ Q c0 s0 pc lv st M := by
  dsimp only [jo] at h
  obtain ⟨v, r, rfl, hv, hsl⟩ := jo1_inv h
  obtain ⟨hd, hord⟩ := jand hok
  have hd := of_decide_eq_true hd
  have hV := jI32_to hv
  obtain ⟨t, h1, h2⟩ := jsl_at (pc := pc) hsl
  intro p e s m args below meth cc H locs ls X F hh hS hl
  exact lv_lookup X.1 X.2.1 hd (by simpa using hord) (by rw [hV]; exact h1) (jofs_t pc t) (h2 p e s m args below meth cc H locs ls X F hh hS hl)
theorem zo_sound {e : jE} (h99 : o ≠ 99) (hi : i.1.cls = jcn o) (hc : c0 ≤ mc) (hs : s0 ≤ ms) (hE : ∀ n, zst e = some n → zE Φ.2 n) (hR : ∀ e : jE, e.1 = 31 → jok o i pc e = true → jo G e (zJ G i mc ms Φ Q c0 s0) R pc lv st M → zJ G i mc ms Φ Q c0 s0 pc lv st M) (hok : jok o i pc e = true) (h : jo G e (zJ G i mc ms Φ Q c0 s0) R pc lv st M) : zJ G i mc ms Φ Q c0 s0 pc lv st M := by
  obtain ⟨op, len, x, a, b, c⟩ := e
  match op, hok, h with
  | 0, hok, h => exact zs_const hok h
  | 1, hok, h => exact zs_load hok h
  | 2, hok, h => exact zs_store (hE a rfl) hok h
  | 3, hok, h =>
    dsimp only [jo] at h
    cases hv : jlk lv a with
    | none => rw [hv] at h; exact h.elim
    | some v =>
      rw [hv] at h
      dsimp only [jol] at h
      obtain ⟨t, z⟩ := v
      obtain ⟨h1, h2⟩ := h
      have h1 : t = 0 := h1
      subst h1
      exact zr_iinc (of_decide_eq_true (jand hok).1) (of_decide_eq_true (jand hok).2) hv (hE a rfl) h2
  | 4, hok, h =>
    dsimp only [jo] at h
    obtain ⟨v, w, r, rfl, k⟩ := jo2_inv h
    exact zr_iadd (of_decide_eq_true hok) k
  | 5, hok, h =>
    dsimp only [jo] at h
    obtain ⟨v, w, r, rfl, k⟩ := jo2_inv h
    exact zr_isub (of_decide_eq_true hok) k
  | 6, hok, h =>
    dsimp only [jo] at h
    obtain ⟨v, w, r, rfl, k⟩ := jo2_inv h
    exact zr_imul (of_decide_eq_true hok) k
  | 7, hok, h =>
    dsimp only [jo] at h
    obtain ⟨v, w, r, rfl, h1, h2, h3, k⟩ := jo2_inv h
    exact zr_idiv (of_decide_eq_true hok) h1 h2 h3 k
  | 8, hok, h =>
    dsimp only [jo] at h
    obtain ⟨v, w, r, rfl, h1, h2, h3, k⟩ := jo2_inv h
    exact zr_irem (of_decide_eq_true hok) h1 h2 h3 k
  | 9, hok, h =>
    dsimp only [jo] at h
    obtain ⟨v, r, rfl, k⟩ := jo1_inv h
    exact zr_ineg (of_decide_eq_true hok) k
  | 10, hok, h =>
    dsimp only [jo] at h
    obtain ⟨v, w, r, rfl, k⟩ := jo2_inv h
    exact zr_ladd (of_decide_eq_true hok) k
  | 11, hok, h =>
    dsimp only [jo] at h
    obtain ⟨v, w, r, rfl, k⟩ := jo2_inv h
    exact zr_lsub (of_decide_eq_true hok) k
  | 12, hok, h =>
    dsimp only [jo] at h
    obtain ⟨v, w, r, rfl, k⟩ := jo2_inv h
    exact zr_lmul (of_decide_eq_true hok) k
  | 13, hok, h =>
    dsimp only [jo] at h
    obtain ⟨v, w, r, rfl, h1, h2, h3, k⟩ := jo2_inv h
    exact zr_ldiv (of_decide_eq_true hok) h1 h2 h3 k
  | 14, hok, h =>
    dsimp only [jo] at h
    obtain ⟨v, w, r, rfl, h1, h2, h3, k⟩ := jo2_inv h
    exact zr_lrem (of_decide_eq_true hok) h1 h2 h3 k
  | 15, hok, h =>
    dsimp only [jo] at h
    obtain ⟨v, r, rfl, k⟩ := jo1_inv h
    exact zr_lneg (of_decide_eq_true hok) k
  | 16, hok, h =>
    dsimp only [jo] at h
    obtain ⟨v, r, rfl, h1, k⟩ := jo1_inv h
    exact zr_i2l (of_decide_eq_true hok) h1 k
  | 17, hok, h =>
    dsimp only [jo] at h
    obtain ⟨v, r, rfl, k⟩ := jo1_inv h
    exact zr_l2i (of_decide_eq_true hok) k
  | 18, hok, h =>
    dsimp only [jo] at h
    obtain ⟨v, r, rfl, k⟩ := jo1_inv h
    exact zr_i2b (of_decide_eq_true hok) k
  | 19, hok, h => exact zs_if hok h
  | 20, hok, h => exact zs_icmp hok h
  | 21, hok, h => exact zr_goto (of_decide_eq_true hok) (jofs_t pc b) h
  | 22, hok, h => exact zs_lcmp hok h
  | 23, hok, h => exact zs_get hi hok h
  | 24, hok, h => exact zs_put hi hok h
  | 25, hok, h => exact zs_ald hok h
  | 26, hok, h => exact zs_ast hok h
  | 27, hok, h =>
    dsimp only [jo] at h
    obtain ⟨q, r, rfl, ⟨h0, hN⟩, hL, k⟩ := jo1_inv h
    exact zr_alen (of_decide_eq_true hok) h0 hN hL k
  | 28, hok, h => exact zs_callV h99 hi hc hs hok h
  | 29, hok, h => exact zs_callS h99 hi hc hs hok h
  | 30, hok, h => exact zs_callN h99 hi hc hs hok h
  | 31, hok, h => exact hR _ rfl hok h
  | 32, hok, h =>
    match st, h with
    | v :: r, h => exact zr_dup (of_decide_eq_true hok) h.1 h.2
  | 33, hok, h =>
    match a, st, h with
    | 0, v :: w :: r, h => exact zr_dup2 (of_decide_eq_true hok) h.1 h.2.1 h.2.2
    | n + 1, v :: r, h => exact zr_dup2l (of_decide_eq_true hok) h.1 h.2
  | 34, hok, h =>
    match st, h with
    | v :: r, h => exact zr_pop (of_decide_eq_true hok) h.1 h.2
  | 35, hok, h => exact zs_tsw hok h
  | 36, hok, h => exact zs_lsw hok h
  | 37, hok, h =>
    dsimp only [jo] at h
    obtain ⟨v, w, r, rfl, k⟩ := jo2_inv h
    exact zr_ishl (of_decide_eq_true hok) k
  | 38, hok, h =>
    dsimp only [jo] at h
    obtain ⟨v, w, r, rfl, k⟩ := jo2_inv h
    exact zr_ishr (of_decide_eq_true hok) k
  | 39, hok, h =>
    dsimp only [jo] at h
    obtain ⟨v, w, r, rfl, k⟩ := jo2_inv h
    exact zr_iand (of_decide_eq_true hok) k
  | 40, hok, h =>
    dsimp only [jo] at h
    obtain ⟨v, w, r, rfl, k⟩ := jo2_inv h
    exact zr_ior (of_decide_eq_true hok) k
  | 41, hok, h => exact zs_lconst hok h
  | 42, hok, h =>
    dsimp only [jo] at h
    obtain ⟨v, w, r, rfl, k⟩ := jo2_inv h
    exact zr_lxor (of_decide_eq_true hok) k
  | 43, hok, h =>
    dsimp only [jo] at h
    obtain ⟨q, v, w, r, rfl, ⟨⟨h0, hN⟩, hL, hx, hx2, hn⟩, hs', ⟨⟨g0, gN⟩, gL, gci⟩, k⟩ := jo3_inv h
    obtain ⟨hok, hb⟩ := jand hok
    obtain ⟨hd, ha⟩ := jand hok
    have ha := of_decide_eq_true ha
    have hb := of_decide_eq_true hb
    subst ha
    subst hb
    exact zr_aast (n := 2) (r := (RX6, TX6, 2)) rfl rfl (of_decide_eq_true hd) h0 hN hL hx hx2 hn hs' g0 gN gL gci k
  | n + 44, hok, h => exact h.elim
end

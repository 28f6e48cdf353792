/-! The judgement jJ: a method, at a place of its code, comes to its end with P; jC: a method called so comes back with P. -/
def jtys (ac : Nat → ClassId) : List (ClassId × FieldType) := [(ac 0, .int), (ac 1, .long), (ac 2, .byte), (ac 3, .boolean), (ac 4, .object RX0), (ac 5, .object RX5), (ac 6, .object RX6)]
/-- the tables' words that a callee may ask for too; those on nest mates go beside them -/
def jtbl : List Cond := lw_tbl.filter goodWord
def jnest : List Cond := [.methodLinkNest RX1 217 yX11_bit RX11, .methodLinkNest RX9 43 yX11_isWithin RX11]
def jNw (U : State) : Prop := ∀ w ∈ jnest, va_Nw w U
theorem jNw.warm {s U : State} (hW : s.WarmedH U.vm) (h : jNw s) : jNw U := by
  intro w hw
  simp only [jnest, List.mem_cons, List.not_mem_nil, or_false] at hw
  rcases hw with rfl | rfl
  · exact va_Nw.warmM hW (h _ (by simp [jnest]))
  · exact va_Nw.warmM hW (h _ (by simp [jnest]))
def lgT : List Int := [109, 111, 100, 101, 32, 107, 101, 101, 112, 32, 104, 97, 114, 109, 32, 101, 100, 103, 101, 32, 119, 104, 101, 110, 32, 112, 117, 116, 32, 97, 100, 100, 32, 115, 116, 97, 114, 116, 32, 109, 111, 115, 116, 32, 120, 32, 121, 32]
def tx1 : String := "mode keep harm edge when put add start most x y "
def lgB : List Int32 := lgT.map Int32.ofInt
def jZ (b : Nat) (s : State) : Prop := ∃ a v m1 m2 : Nat, vk_S 1 [48] [lgB] (fun _ => a) (fun _ => v) (fun q => b ≤ q) s s.heap ∧ vk_R RX7 15 tx1 a s ∧ vk_R RX12 128 tx1 a s ∧ va_Z "java/lang/String" "COMPACT_STRINGS" "Z" (.int 1) (fun q => b ≤ q) s s.heap ∧ va_Zq "jdk/internal/util/Preconditions" "SIOOBE_FORMATTER" "Ljava/util/function/BiFunction;" (fun q => b ≤ q) s s.heap ∧ vk_R RX11 142 "no such MODE" m1 s ∧ vk_R RX11 175 "no such what" m2 s ∧ vx_Zq Bundle.tN "UNASSIGNED_STACK" Bundle.steD (fun q => b ≤ q) s s.heap ∧ vx_Zq Bundle.tN "SUPPRESSED_SENTINEL" Bundle.listD (fun q => b ≤ q) s s.heap ∧ va_Nc "java/util/NoSuchElementException" "java/lang/IndexOutOfBoundsException" s
theorem jZ.go {b : Nat} {s U : State} {H : Heap} {locs : List Loc} (h : jZ b s) (hS : va_S (fun q => b ≤ q) s.heap H locs) (hU : U.heap = H) (hW : s.WarmedH U.vm) : jZ b U := by
  obtain ⟨a, v, m1, m2, h1, h2, h3, h4, h5, h6, h7, h8, h9, h10⟩ := h
  subst hU
  exact ⟨a, v, m1, m2, (h1.kept hS.2.1).moved hW.alike, h2.warm hW, h3.warm hW, (h4.kept hS.2.1).moved hW.alike, (h5.kept hS.2.1).moved hW.alike, h6.warm hW, h7.warm hW, (h8.kept hS.2.1).moved hW.alike, (h9.kept hS.2.1).moved hW.alike, h10.moved hW.alike⟩
theorem jZ.blind {b : Nat} {U : State} {g : JFrame} {mk : MethodId} {a : Array Value} (h : jZ b U) : jZ b (U.calling g mk a) := by
  obtain ⟨a, v, m1, m2, h1, h2, h3, h4, h5, h6, h7, h8, h9, h10⟩ := h
  exact ⟨a, v, m1, m2, h1, h2.same rfl, h3.same rfl, h4, h5, h6.same rfl, h7.same rfl, h8, h9, h10⟩
def jN (b : Nat) (U : State) : Prop := jNw U ∧ jZ b U
theorem jN.go {b : Nat} {s U : State} {H : Heap} {locs : List Loc} (h : jN b s) (hS : va_S (fun q => b ≤ q) s.heap H locs) (hU : U.heap = H) (hW : s.WarmedH U.vm) : jN b U := ⟨h.1.warm hW, h.2.go hS hU hW⟩
def jX (G : jG) (i : jI) (p : Program) (s : State) (m : MethodId) (args : Array Value) (meth : Method) (c : Code) : Prop :=
  p.tables.exec = Jvm.exec ∧ c.code = i.2.1 ∧ c.maxLocals = i.2.2.1 ∧ s.vm.findClass i.1.cls = some m.cls ∧ (∀ w ∈ jtbl, w.before args s = true) ∧ meth.sig.returnType = i.2.2.2.1 ∧ meth.locks = false ∧ G.2.2.1 ≤ s.heap.size ∧ jN G.2.2.1 s ∧ va_K G.2.1 vwCl (jtys G.2.2.2) s
def jRm (i : jI) (mc ms : Nat) : Room := { frames := i.2.2.2.2.1, cells := mc, slots := ms, locals := i.2.2.2.2.2 }
def jh (G : jG) (M : jM) (H : Heap) : Prop := H.size = G.2.2.1 + M.1 ∧ M.2.1 ≤ M.1 ∧ va_P G.2.1 vwCl (jw G.2.2.1 G.2.2.2 M.2.1 M.2.2.1 M.2.2.2) H
def jQ (G : jG) (P : Option jV → jM → Prop) : Array Value → State → Outcome → State → Prop := fun _ st o t =>
  (∃ (r : Option jV) (M : jM), o = .returned (r.map (jv G.2.2.1)) ∧ P r M ∧ jh G M t.heap) ∧ va_F (fun q => G.2.2.1 ≤ q) st t
def jPre (G : jG) (M : jM) (av : List jV) : Array Value → State → Prop := va_Pc (av.map (jv G.2.2.1)) (fun U => jh G M U.heap ∧ jN G.2.2.1 U ∧ va_K G.2.1 vwCl (jtys G.2.2.2) U)
def jC (G : jG) (i : jI) (mc ms : Nat) (M : jM) (av : List jV) (P : Option jV → jM → Prop) : Prop :=
  ∃ P0 : Option jV → jM → Prop, Met G.1 i.1 (Cond.code i.1 i.2.1 i.2.2.1 i.2.2.2.1 :: jtbl) (jRm i mc ms) (jPre G M av) (jQ G P0) mc ms (fun q => G.2.2.1 ≤ q) ∧ ∀ r M', P0 r M' → P r M'
theorem jC.mono {G : jG} {i : jI} {mc ms : Nat} {M : jM} {av : List jV} {P P' : Option jV → jM → Prop} (h : jC G i mc ms M av P) (k : ∀ r M', P r M' → P' r M') : jC G i mc ms M av P' := by
  obtain ⟨P0, h1, h2⟩ := h
  exact ⟨P0, h1, fun r M' q => k r M' (h2 r M' q)⟩
def jJ (G : jG) (i : jI) (mc ms : Nat) (P : Option jV → jM → Prop) (c0 s0 : Nat) (pc : Nat) (lv : List (Nat × jV)) (st : List jV) (M : jM) : Prop :=
  ∀ (p : Program) (e : Env) (s : State) (m : MethodId) (args : Array Value) (below : List Frame) (meth : Method) (c : Code) (H : Heap) (locs : List Loc) (ls : Array Slot),
    jX G i p s m args meth c → jh G M H → va_S (fun q => G.2.2.1 ≤ q) s.heap H locs → lv_has ls i.2.2.1 (lv.map fun q => (q.1, jv G.2.2.1 q.2)) →
    W p G.1 e (jRm i mc ms) s m args below meth c H locs c0 s0 (MQ below (jQ G P) args s mc ms (fun q => G.2.2.1 ≤ q)) (F0 m pc ls (st.map (jv G.2.2.1)))
/-- the locals at the entry -/
def jargs : Nat → List jV → List (Nat × jV)
  | _, [] => []
  | n, v :: vs => (n, v) :: jargs (if v.1 = 1 then n + 2 else n + 1) vs
theorem jv_cat (b : Nat) (v : jV) : (jv b v).category = if v.1 = 1 then 2 else 1 := by
  obtain ⟨t, x⟩ := v
  match t with
  | 0 => rfl
  | 1 => rfl
  | t + 2 =>
    rw [if_neg (by simp)]
    show (va_rf (jr b x)).category = 1
    unfold jr
    split <;> rfl
theorem jargs_map (b : Nat) : ∀ (av : List jV) (n : Nat), lv_args n (av.map (jv b)) = (jargs n av).map (fun q => (q.1, jv b q.2))
  | [], _ => rfl
  | v :: vs, n => by
    simp only [List.map_cons, lv_args, jargs]
    rw [jargs_map b vs]
    congr 2
    rw [jv_cat]
    by_cases h : v.1 = 1
    · simp [h]
    · simp [h]
def jsum : List jV → Nat
  | [] => 0
  | v :: vs => (if v.1 = 1 then 2 else 1) + jsum vs
theorem jsum_sl (b : Nat) : ∀ av : List jV, (lg_sl (av.map (jv b))).length = jsum av
  | [] => rfl
  | v :: vs => by
    have ih := jsum_sl b vs
    unfold lg_sl at ih ⊢
    simp only [List.map_cons, List.flatMap_cons, List.length_append, jsum, ih, jv_cat]
    by_cases h : v.1 = 1 <;> simp [h]
theorem jsum_cat (b : Nat) : ∀ st : List jV, ((st.map (jv b)).map fun v => v.category).sum = jsum st
  | [] => rfl
  | v :: vs => by
    have ih := jsum_cat b vs
    simp only [List.map_cons, List.sum_cons, ih, jsum, jv_cat]
/-- a call out of a walk from the entry -/
theorem jC_of {G : jG} {i : jI} {mc ms : Nat} {M : jM} {av : List jV} {P : Option jV → jM → Prop} (hy : plainName i.1.cls = true) (hn : jsum av ≤ i.2.2.1) (k : jJ G i mc ms P 0 0 0 (jargs 0 av) [] M) : jC G i mc ms M av P := by
  refine ⟨P, ?_, fun _ _ h => h⟩
  refine Met.ofW (cc := i.2.1) (maxL := i.2.2.1) (ret := i.2.2.2.1) hy rfl ?_
  intro p e s m args below meth c s₁ B hml hv
  obtain ⟨rfl, hh, hN, hK⟩ := hv
  have hts := atoms_spec (ws := Cond.code i.1 i.2.1 i.2.2.1 i.2.2.2.1 :: jtbl) B.pre
  have hl := lv_entry (av.map (jv G.2.2.1)) (n := i.2.2.1) (by rw [jsum_sl]; exact hn)
  rw [lg_entry_eq]
  rw [jargs_map] at hl
  refine k p e s m _ below meth c s.heap [] _ ⟨B.exec, B.bytes, hml, findClass_of_methodNamed B.named, fun w h => hts w (List.mem_cons_of_mem _ h), B.returns, B.notSynchronized, ?_, hN, hK⟩ hh va_S.rf hl
  rw [hh.1]
  exact Nat.le_add_right _ _
/-- fewer locals listed -/
theorem jJ.sub {G : jG} {i : jI} {mc ms : Nat} {P : Option jV → jM → Prop} {c0 s0 pc : Nat} {lv lv' : List (Nat × jV)} {st : List jV} {M : jM} (k : jJ G i mc ms P c0 s0 pc lv' st M) (h : ∀ q ∈ lv', q ∈ lv) : jJ G i mc ms P c0 s0 pc lv st M := by
  intro p e s m args below meth c H locs ls X hh hS hl
  refine k p e s m args below meth c H locs ls X hh hS ⟨hl.1, hl.2.1, fun q hq => ?_⟩
  obtain ⟨r, hr, rfl⟩ := List.mem_map.mp hq
  exact hl.2.2 _ (List.mem_map.mpr ⟨r, h r hr, rfl⟩)
def jlk : List (Nat × jV) → Nat → Option jV
  | [], _ => none
  | q :: r, n => if q.1 = n then some q.2 else jlk r n
theorem jlk_mem {n : Nat} {v : jV} : ∀ {lv : List (Nat × jV)}, jlk lv n = some v → (n, v) ∈ lv
  | [], h => by cases h
  | q :: r, h => by
    unfold jlk at h
    by_cases hq : q.1 = n
    · rw [if_pos hq] at h
      cases h
      subst hq
      exact List.mem_cons_self
    · rw [if_neg hq] at h
      exact List.mem_cons_of_mem _ (jlk_mem h)
def jins (n : Nat) (v : jV) : List (Nat × jV) → List (Nat × jV)
  | [] => [(n, v)]
  | q :: r => if q.1 < n then q :: jins n v r else (n, v) :: q :: r
theorem jins_mem {n : Nat} {v : jV} {q : Nat × jV} : ∀ {lv : List (Nat × jV)}, q ∈ jins n v lv → q = (n, v) ∨ q ∈ lv
  | [], h => by simp [jins] at h; exact Or.inl h
  | x :: r, h => by
    unfold jins at h
    split at h
    · rcases List.mem_cons.mp h with h | h
      · exact Or.inr (by rw [h]; exact List.mem_cons_self)
      · rcases jins_mem h with h | h
        · exact Or.inl h
        · exact Or.inr (List.mem_cons_of_mem _ h)
    · rcases List.mem_cons.mp h with h | h
      · exact Or.inl h
      · exact Or.inr h
def jdrop (n : Nat) (v : jV) : List (Nat × jV) → List (Nat × jV)
  | [] => []
  | q :: r => if q.1 = n ∨ (q.1 + 1 = n ∧ q.2.1 = 1) ∨ (v.1 = 1 ∧ q.1 = n + 1) then jdrop n v r else q :: jdrop n v r
theorem jdrop_mem {n : Nat} {v : jV} {q : Nat × jV} : ∀ {lv : List (Nat × jV)}, q ∈ jdrop n v lv → q ∈ lv ∧ ¬ (q.1 = n ∨ (q.1 + 1 = n ∧ q.2.1 = 1) ∨ (v.1 = 1 ∧ q.1 = n + 1))
  | [], h => by cases h
  | x :: r, h => by
    unfold jdrop at h
    split at h
    · exact ⟨List.mem_cons_of_mem _ (jdrop_mem h).1, (jdrop_mem h).2⟩
    · rename_i hx
      rcases List.mem_cons.mp h with h | h
      · subst h
        exact ⟨List.mem_cons_self, hx⟩
      · exact ⟨List.mem_cons_of_mem _ (jdrop_mem h).1, (jdrop_mem h).2⟩
/-- storing into a local -/
def jst (lv : List (Nat × jV)) (n : Nat) (v : jV) : List (Nat × jV) := jins n v (jdrop n v lv)
theorem jst_has {b : Nat} {ls : Array Slot} {nL n : Nat} {lv : List (Nat × jV)} {v : jV} (h : lv_has ls nL (lv.map fun q => (q.1, jv b q.2))) (hn : n + (if v.1 = 1 then 1 else 0) < nL) :
    ∃ ls', storeLocals ls n (jv b v) = some ls' ∧ lv_has ls' nL ((jst lv n v).map fun q => (q.1, jv b q.2)) := by
  by_cases hv : v.1 = 1
  · rw [if_pos hv] at hn
    obtain ⟨ls', h1, h2⟩ := lv_store2 (v := jv b v) h hn (by rw [jv_cat, if_pos hv])
    refine ⟨ls', h1, h2.1, h2.2.1, fun q hq => h2.2.2 q ?_⟩
    obtain ⟨r, hr, rfl⟩ := List.mem_map.mp hq
    rcases jins_mem hr with rfl | hr
    · exact List.mem_cons_self
    · obtain ⟨g1, g2⟩ := jdrop_mem hr
      refine List.mem_cons_of_mem _ (List.mem_filter.mpr ⟨List.mem_map.mpr ⟨r, g1, rfl⟩, ?_⟩)
      simp only [not_or, not_and] at g2
      simp only [Bool.and_eq_true, Bool.not_eq_true', beq_eq_false_iff_ne, ne_eq, Bool.and_eq_false_iff, jv_cat]
      refine ⟨g2.1, fun z => g2.2.2 hv z, ?_⟩
      by_cases hz : r.1 + 1 = n
      · exact Or.inr (by rw [if_neg (g2.2.1 hz)]; decide)
      · exact Or.inl hz
  · rw [if_neg hv] at hn
    obtain ⟨ls', h1, h2⟩ := lv_store1 (v := jv b v) h hn (by rw [jv_cat, if_neg hv])
    refine ⟨ls', h1, h2.1, h2.2.1, fun q hq => h2.2.2 q ?_⟩
    obtain ⟨r, hr, rfl⟩ := List.mem_map.mp hq
    rcases jins_mem hr with rfl | hr
    · exact List.mem_cons_self
    · obtain ⟨g1, g2⟩ := jdrop_mem hr
      refine List.mem_cons_of_mem _ (List.mem_filter.mpr ⟨List.mem_map.mpr ⟨r, g1, rfl⟩, ?_⟩)
      simp only [not_or, not_and] at g2
      simp only [Bool.and_eq_true, Bool.not_eq_true', beq_eq_false_iff_ne, ne_eq, Bool.and_eq_false_iff, jv_cat]
      refine ⟨g2.1, ?_⟩
      by_cases hz : r.1 + 1 = n
      · exact Or.inr (by rw [if_neg (g2.2.1 hz)]; decide)
      · exact Or.inl hz

/-! Rows of jJ that read and write the memory, return, and call. -/
def jtc (ty : FieldType) : Nat := match ty with
  | .int => 0
  | .long => 1
  | .boolean => 3
  | .object _ => 2
  | .array _ => 2
  | _ => 9
/-- a field's value as a number -/
def jfd (kd : jK) (t k : Nat) (x : Int) : jV := match kd.2.2.2 k with
  | some r => (2, (r : Int))
  | none => (jtg t, x)
theorem jfd_v (b : Nat) (kd : jK) (t k : Nat) (x : Int) : jv b (jfd kd t k x) = jfv b kd.2.2.2 t k x := by
  unfold jfd jfv
  cases kd.2.2.2 k with
  | some r => exact (jv_ref _ (Int.natCast_nonneg r)).trans (by rw [Int.toNat_natCast])
  | none => rfl
theorem jc_0 {b : Nat} {ac : Nat → ClassId} {kd : jK} {f : Nat → Int} (h : kd.1 = 0) : jc b ac kd f = .inr (kd.2.1, jfs b kd.2.1 kd.2.2.2 f) := by
  unfold jc
  rw [h]
theorem jc_1 {b : Nat} {ac : Nat → ClassId} {kd : jK} {f : Nat → Int} (h : kd.1 = 1) : jc b ac kd f = .inl (ac 0, kd.2.2.1, .inl (fun j => Int32.ofInt (f j))) := by
  unfold jc
  rw [h]
theorem jc_2 {b : Nat} {ac : Nat → ClassId} {kd : jK} {f : Nat → Int} (h : kd.1 = 2) : jc b ac kd f = .inl (ac 1, kd.2.2.1, .inr (.inl (fun j => Int64.ofInt (f j)))) := by
  unfold jc
  rw [h]
theorem jc_3 {b : Nat} {ac : Nat → ClassId} {kd : jK} {f : Nat → Int} (h : kd.1 = 3) : jc b ac kd f = .inl (ac 2, kd.2.2.1, .inl (fun j => Int32.ofInt (f j))) := by
  unfold jc
  rw [h]
theorem jc_4 {b : Nat} {ac : Nat → ClassId} {kd : jK} {f : Nat → Int} (h : kd.1 = 4) : jc b ac kd f = .inl (ac 3, kd.2.2.1, .inl (fun j => Int32.ofInt (f j))) := by
  unfold jc
  rw [h]
theorem jc_5 {b : Nat} {ac : Nat → ClassId} {kd : jK} {f : Nat → Int} {n : Nat} (h : kd.1 = n + 5) : jc b ac kd f = .inl (ac (n + 4), kd.2.2.1, .inr (.inr (.inr (.inr (jarq b kd.2.2.2 f))))) := by
  unfold jc
  rw [h]
/-- what the tables say of the classes -/
def jcls (ci : Nat) (r : vw_C) : Prop := (∀ w ∈ u_ws r.1 r.2.1 r.2.2, w ∈ jtbl) ∧ (∃ ty0 : Nat → FieldType, ∀ k, k < r.2.2 → parseFieldDescriptor (r.2.1 k).2.2.1 = some (ty0 k) ∧ (jtf ci)[k]? = some (jtc (ty0 k))) ∧ (∀ a, a < r.2.2 → ∀ b, b < r.2.2 → a ≠ b → (r.2.1 a).2.1 ≠ (r.2.1 b).2.1) ∧ (jtf ci).length = r.2.2
section ROWS
variable {G : jG} {i : jI} {mc ms : Nat} {P : Option jV → jM → Prop} {c0 s0 pc : Nat} {lv : List (Nat × jV)} {st : List jV} {M : jM}
theorem jr_get {ci k t index : Nat} {q : Int} {r : vw_C} (hr : vwCl[ci]? = some r) (hc : jcls ci r) (ht : (jtf ci)[k]? = some t) (hw : Cond.fieldLink i.1.cls index (r.2.1 k).1 (r.2.1 k).2.1 (r.2.1 k).2.2.1 ∈ jtbl) (hd : decode i.2.1 pc = .ok (.getfield index, 3))
    (h0 : 0 ≤ q) (hN : q.toNat < M.2.1) (hL : (M.2.2.1 q.toNat).1 = 0) (hci : (M.2.2.1 q.toNat).2.1 = ci) (kk : jJ G i mc ms P c0 s0 (pc + 3) lv (jfd (M.2.2.1 q.toNat) t k (M.2.2.2 q.toNat k) :: st) M) : jJ G i mc ms P c0 s0 pc lv ((2, q) :: st) M := by
  intro p e s m args below meth c H locs ls X hh hS hl
  have K := kk p e s m args below meth c H locs ls X hh hS hl
  rw [List.map_cons, jfd_v] at K
  rw [List.map_cons, jv_ref _ h0]
  have hg := jw_get (b := G.2.2.1) (ac := G.2.2.2) (L := M.2.2.1) (S := M.2.2.2) hN
  rw [jc_0 hL, hci] at hg
  have hk : k < r.2.2 := by rw [← hc.2.2.2]; exact (List.getElem?_eq_some_iff.mp ht).1
  exact va_get (C := r.1) (T := r.2.1) (N := r.2.2) X.1 X.2.1 X.2.2.2.2.1 hc.1 X.2.2.2.1 X.2.2.2.2.2.2.2.2.2 hh.2.2 q.toNat hg hr k hk (X.2.2.2.2.1 _ hw) (fun _ h => h) (jfs_get ht) hd K
theorem jr_put {ci k t index : Nat} {q x : Int} {r : vw_C} (hr : vwCl[ci]? = some r) (hc : jcls ci r) (ht : (jtf ci)[k]? = some t) (hfin : (r.2.1 k).2.2.2 = false) (hw : Cond.fieldLink i.1.cls index (r.2.1 k).1 (r.2.1 k).2.1 (r.2.1 k).2.2.1 ∈ jtbl) (hd : decode i.2.1 pc = .ok (.putfield index, 3))
    (h0 : 0 ≤ q) (hN : q.toNat < M.2.1) (hL : (M.2.2.1 q.toNat).1 = 0) (hci : (M.2.2.1 q.toNat).2.1 = ci) (hs : (M.2.2.1 q.toNat).2.2.2 k = none) (hz : t = 3 → x = 0 ∨ x = 1) (ht9 : t ≤ 3) (kk : jJ G i mc ms P c0 s0 (pc + 3) lv st (M.1, M.2.1, M.2.2.1, ju M.2.2.2 q.toNat k x)) : jJ G i mc ms P c0 s0 pc lv ((jtg t, x) :: (2, q) :: st) M := by
  intro p e s m args below meth c H locs ls X hh hS hl
  rw [List.map_cons, List.map_cons, jv_ref _ h0]
  have hg := jw_get (b := G.2.2.1) (ac := G.2.2.2) (L := M.2.2.1) (S := M.2.2.2) hN
  rw [jc_0 hL, hci] at hg
  have hk : k < r.2.2 := by rw [← hc.2.2.2]; exact (List.getElem?_eq_some_iff.mp ht).1
  obtain ⟨ty0, hty⟩ := hc.2.1
  obtain ⟨hd9, ht0⟩ := hty k hk
  have htt : t = jtc (ty0 k) := Option.some.inj (ht.symm.trans ht0)
  have hnf : narrow (ty0 k) (jv G.2.2.1 (jtg t, x)) = jv G.2.2.1 (jtg t, x) ∧ fits (ty0 k) (jv G.2.2.1 (jtg t, x)) = true := by
    rw [htt]
    cases hy : ty0 k with
    | int => exact ⟨rfl, rfl⟩
    | long => exact ⟨rfl, rfl⟩
    | boolean =>
      rcases hz (by rw [htt, hy]; rfl) with rfl | rfl
      · exact ⟨rfl, rfl⟩
      · exact ⟨rfl, rfl⟩
    | object n =>
      have : jv G.2.2.1 (jtg (jtc (.object n)), x) = va_rf (jr G.2.2.1 x) := rfl
      rw [this]
      unfold jr
      split <;> exact ⟨rfl, rfl⟩
    | array n =>
      have : jv G.2.2.1 (jtg (jtc (.array n)), x) = va_rf (jr G.2.2.1 x) := rfl
      rw [this]
      unfold jr
      split <;> exact ⟨rfl, rfl⟩
    | _ => rw [htt, hy] at ht9; exact absurd ht9 (by decide)
  have hD := jw_D G.2.2.1 G.2.2.2 M.2.1 M.2.2.1 M.2.2.2
  have hts := X.2.2.2.2.1
  have hap := va_apart (own := i.1.cls) hts hc.1 ty0 (fun k h => (hty k h).1) hc.2.2.1 X.2.2.2.2.2.2.2.2.2 hr
  obtain ⟨r', h1, cell, q1, q2, q3, q4⟩ := hh.2.2 q.toNat _ hg
  have hr' : r' = r := Option.some.inj (h1.symm.trans hr)
  subst hr'
  obtain ⟨hSl, hfc, kC, hkC, hkind⟩ := X.2.2.2.2.2.2.2.2.2.1 ci _ hr
  obtain ⟨cf, kf, fi, f, hi, hsl⟩ := hSl k hk
  have hlay := hts _ (hc.1 _ (u_in_lay hk))
  unfold u_lay at hlay
  rw [if_neg (by rw [hfin]; decide)] at hlay
  have hst := (u_facts hfc hkC (u_lays hts hc.1 hk) hi).1
  have h6 := u_store hfc hkC hkind hlay hi hd9 hnf.1 hnf.2
  refine W.putK X.1 X.2.1 (f := f) ⟨X.2.2.2.1, hts _ hw, ⟨_, _, _, hi⟩, hst⟩ (by rw [q2]; exact h6) q1 q3 (by rw [hsl]; exact k2_hasslot (q4 k hk)) rfl rfl hd fun H' e1 e2 e3 => ?_
  rw [hsl] at e1 ⊢
  have hP1 := hh.2.2.set hD hg (e := .inr (ci, (jfs G.2.2.1 ci (M.2.2.1 q.toNat).2.2.2 (M.2.2.2 q.toNat)).set k (jv G.2.2.1 (jtg t, x)))) ⟨_, hr, t_OB.to (V := updV (vp_V (jfs G.2.2.1 ci (M.2.2.1 q.toNat).2.2.2 (M.2.2.2 q.toNat))) k (jv G.2.2.1 (jtg t, x))) ⟨_, e1, q2, q3, t_set q4 hap hk _⟩ (fun j _ => vp_updV_set (by rw [jfs_len]; exact (List.getElem?_eq_some_iff.mp ht).1) _ j)⟩ e3
  refine kk p e s m args below meth c H' _ ls X ⟨by rw [← hh.1]; exact e2, hh.2.1, ?_⟩ (hS.put e2 e3 (Nat.le_add_right _ _)) hl
  rw [jfs_set ht hs, ← hci, ← jc_0 (ac := G.2.2.2) hL, jw_set] at hP1
  show va_P _ _ (jw _ _ _ _ (ju _ _ _ _)) _
  rw [ju_row]
  exact hP1
end ROWS

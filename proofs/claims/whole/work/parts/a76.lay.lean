/-! Kinds of new cells become those of the layout. -/
def lyb (kd kd' : jK) (f : Nat → Int) : Bool := decide (kd.1 = kd'.1) && decide (kd.2.1 = kd'.2.1) && decide (kd.2.2.1 = kd'.2.2.1) && (List.range (if kd.1 = 0 then (jtf kd.2.1).length else if kd.1 < 5 then 0 else kd.2.2.1)).all (fun k => decide (kd.2.2.2 k = none) && match kd'.2.2.2 k with
  | none => true
  | some r => decide (f k = (r : Int)) && (decide (kd.1 ≠ 0) || decide ((jtf kd.2.1).getD k 0 = 2)))
theorem lyb_at {kd kd' : jK} {f : Nat → Int} (h : lyb kd kd' f = true) {k : Nat} (hk : k < if kd.1 = 0 then (jtf kd.2.1).length else if kd.1 < 5 then 0 else kd.2.2.1) : kd.2.2.2 k = none ∧ ∀ r, kd'.2.2.2 k = some r → f k = (r : Int) ∧ (kd.1 = 0 → (jtf kd.2.1).getD k 0 = 2) := by
  have h4 := List.all_eq_true.mp (jand h).2 k (List.mem_range.mpr hk)
  obtain ⟨a1, a2⟩ := jand h4
  refine ⟨of_decide_eq_true a1, fun r hr => ?_⟩
  rw [hr] at a2
  obtain ⟨c1, c2⟩ := jand a2
  refine ⟨of_decide_eq_true c1, fun h0 => ?_⟩
  rcases Bool.or_eq_true_iff.mp c2 with d | d
  · exact absurd h0 (of_decide_eq_true d)
  · exact of_decide_eq_true d
theorem va_lay {D : va_G} {cl : List vw_C} {a b : Nat} {ac : Nat → ClassId} {kd kd' : jK} {f : Nat → Int} {H : Heap} (h : lyb kd kd' f = true) (hv : va_at D cl (a, jc b ac kd f) H) : va_at D cl (a, jc b ac kd' f) H := by
  have hk := @lyb_at kd kd' f h
  obtain ⟨t, c, n, sf⟩ := kd
  obtain ⟨t', c', n', sf'⟩ := kd'
  obtain ⟨h, -⟩ := jand h
  obtain ⟨h, h3⟩ := jand h
  obtain ⟨h1, h2⟩ := jand h
  have e1 : t = t' := of_decide_eq_true h1
  have e2 : c = c' := of_decide_eq_true h2
  have e3 : n = n' := of_decide_eq_true h3
  subst e1
  subst e2
  subst e3
  match t with
  | 0 =>
    have e : jfs b c sf f = jfs b c sf' f := by
      unfold jfs
      refine List.ext_getElem (by simp) fun k k1 k2 => ?_
      have k3 : k < (jtf c).length := by simpa using k1
      obtain ⟨m1, m2⟩ := hk (k := k) k3
      rw [List.getElem_mapIdx, List.getElem_mapIdx]
      have m1 : sf k = none := m1
      unfold jfv
      rw [m1]
      cases hs : sf' k with
      | none => rfl
      | some r =>
        obtain ⟨p1, p2⟩ := m2 r hs
        have p2 := p2 rfl
        have p3 : (jtf c)[k] = 2 := by
          rw [List.getD_eq_getElem?_getD, List.getElem?_eq_getElem k3] at p2
          exact p2
        dsimp only
        rw [p3, p1]
        show jv b (2, (r : Int)) = _
        rw [jv_ref b (Int.natCast_nonneg _), Int.toNat_natCast]
    show va_at D cl (a, .inr (c, jfs b c sf' f)) H
    rw [← e]
    exact hv
  | 1 => exact hv
  | 2 => exact hv
  | 3 => exact hv
  | 4 => exact hv
  | m + 5 =>
    have e : ∀ k, k < n → jarq b sf f k = jarq b sf' f k := fun k hkn => by
      obtain ⟨m1, m2⟩ := hk (k := k) (by rw [if_neg (by omega), if_neg (by omega)]; exact hkn)
      have m1 : sf k = none := m1
      unfold jarq
      rw [m1]
      cases hs : sf' k with
      | none => rfl
      | some r =>
        obtain ⟨p1, p2⟩ := m2 r hs
        dsimp only
        rw [p1, jr_nat b (Int.natCast_nonneg _), Int.toNat_natCast]
    have hv : H[a]? = some (arrV (ac (m + 4)) n (fun j => va_rf (jarq b sf f j))) := hv
    show H[a]? = some (arrV (ac (m + 4)) n (fun j => va_rf (jarq b sf' f j)))
    rw [hv]
    have : (fun j : Fin n => va_rf (jarq b sf f j.val)) = (fun j : Fin n => va_rf (jarq b sf' f j.val)) := funext fun j => by rw [e j.val j.isLt]
    unfold arrV
    rw [this]
theorem jh_lay {G : jG} {n' n : Nat} {L L' : Nat → jK} {S : jS} {H : Heap} (h : ∀ q, q < n → lyb (L q) (L' q) (S q) = true) (hh : jh G (n', n, L, S) H) : jh G (n', n, L', S) H := by
  refine ⟨hh.1, hh.2.1, fun k q hq => ?_⟩
  obtain ⟨h1, rfl⟩ := jw_of hq
  exact va_lay (h k h1) (hh.2.2 k _ (jw_get h1))
theorem jC_lay {G : jG} {i : jI} {mc ms n' n : Nat} {L L' : Nat → jK} {S : jS} {av : List jV} {P : Option jV → jM → Prop} (h : ∀ q, q < n → lyb (L q) (L' q) (S q) = true) (hc : jC G i mc ms (n', n, L', S) av P) : jC G i mc ms (n', n, L, S) av P := by
  obtain ⟨P0, h1, h2⟩ := hc
  exact ⟨P0, fun p e k1 k2 k3 s m args below k4 k5 hp k6 => h1 p e k1 k2 k3 s m args below k4 k5 ⟨hp.1, jh_lay h hp.2.1, hp.2.2⟩ k6, h2⟩
def dCel (q : Nat) : jK × (Nat → Int) := if q < 1237 then dAll 0 q else dRef RB (q - RB)
set_option maxRecDepth 100000 in
theorem lyb_all : (List.range 1258).all (fun q => lyb (dCel q).1 (LAY q) (dCel q).2) = true := by decide +kernel
section
variable {G : jG} {L L0 : Nat → jK} {S S0 : jS}
/-- both objects new: every cell as the layout has it -/
theorem lay_all {L1 : Nat → jK} {S1 : jS} (h1 : bk 0 1237 (dAll 0) L0 S0 L S) (h2 : bk 1237 21 (dRef RB) L S L1 S1) : ∀ q, q < 1258 → L1 q = (dCel q).1 ∧ S1 q = (dCel q).2 ∧ lyb (L1 q) (LAY q) (S1 q) = true := by
  intro q hq
  have h : L1 q = (dCel q).1 ∧ S1 q = (dCel q).2 := by
    unfold dCel
    by_cases e : q < 1237
    · rw [if_pos e]
      have a := h2.1 q e
      have b := h1.2 q e
      rw [Nat.zero_add] at b
      exact ⟨a.1.trans b.1, a.2.trans b.2⟩
    · rw [if_neg e]
      have b := h2.2 (q - 1237) (by omega)
      rw [show 1237 + (q - 1237) = q by omega] at b
      exact b
  refine ⟨h.1, h.2, ?_⟩
  rw [h.1, h.2]
  exact List.all_eq_true.mp lyb_all q (List.mem_range.mpr hq)
end

/-! Corners of a set whose limits are tight: where neighbours on the ring meet. -/
section
variable {W : Nat → Int} {af : Nat → Nat} {u d : Nat → Int}
/-- tight limits -/
def tgL (W : Nat → Int) (u d : Nat → Int) : Prop := ∀ k, k < wN W → supP (limF W (fun _ => True) u d) (wA W k) (wB W k) (u k) (d k)
theorem af_ring (hw : wfN W) (ha : afR W af) (ht : tgL W u d) : ∃ nx bk, ring (wA W) (wB W) d (wN W) (fun k => decide (k < wN W)) nx bk ∧ ∀ k, k < wN W → nx k = af k := by
  have hd := wfN_dirs hw
  have n24 := wfN_n hw
  obtain ⟨nx, bk, hr⟩ := ring_ex (D := d) hd n24.2.1 hw.2.2 (live := fun k => decide (k < wN W)) (fun k hk => ⟨of_decide_eq_true hk, (ht k (of_decide_eq_true hk)).1⟩) (fun k hk => decide_eq_true (by omega))
  refine ⟨nx, bk, hr, fun k hk => ?_⟩
  obtain ⟨a1, a2, a3⟩ := ha k hk
  exact ring_nx hd hr (decide_eq_true hk) (decide_eq_true a1) a2 (fun j lj jk => a3 j (of_decide_eq_true lj) jk)
theorem lim_hld {X Y B : Int} (h : limF W (fun _ => True) u d X Y B) {k : Nat} (hk : k < wN W) : hld (wA W) (wB W) u d k X Y B := h k hk trivial
theorem af_feas (hw : wfN W) (ha : afR W af) (ht : tgL W u d) {k : Nat} (hk : k < wN W) : 0 < tn (wA W) (wB W) k (af k) ∧ 0 < vB (wA W) (wB W) d k (af k) ∧ limF W (fun _ => True) u d (vX (wB W) u d k (af k)) (vY (wA W) u d k (af k)) (vB (wA W) (wB W) d k (af k)) := by
  have hd := wfN_dirs hw
  obtain ⟨nx, bk, hr, e⟩ := af_ring hw ha ht
  have L : ∀ k, k < wN W → (fun k => decide (k < wN W)) k = true := fun k hk => decide_eq_true hk
  have side : ∀ k, (fun k => decide (k < wN W)) k = true → 0 ≤ Sd (wA W) (wB W) u d (bk k) k (nx k) := by
    intro k lk
    refine Decidable.byContradiction fun s => ?_
    obtain ⟨k1, k2, k3, k4, k5, k6, k7, k8⟩ := hr k lk
    have p := hr _ k4
    have q := hr _ k3
    have p7 := p.2.2.2.2.2.2.1
    rw [k6] at p7
    obtain ⟨d0, -, -, X, Y, B, hB, hX, eX⟩ := ht k k1
    have hp := lim_hld hX p.1
    have hq := lim_hld hX q.1
    have hk' := lim_hld hX k1
    by_cases c : 0 < tn (wA W) (wB W) (bk k) (nx k)
    · have cm := hld_comb hp hq p.2.1 q.2.1 (k := k) (Int.le_of_lt k7) (Int.le_of_lt p7)
      have vs := vtx_s (a := wA W) (b := wB W) (U := u) (D := d) (bk k) (nx k) k
      have vb : 0 < vB (wA W) (wB W) d (bk k) (nx k) := Int.mul_pos (Int.mul_pos c p.2.1) q.2.1
      have c2 := Int.mul_le_mul_of_nonneg_right cm (Int.le_of_lt d0)
      have c3 := Int.mul_lt_mul_of_pos_right (show vV (wA W) (wB W) u d (bk k) (nx k) k * d k < u k * vB (wA W) (wB W) d (bk k) (nx k) by omega) hB
      generalize vB (wA W) (wB W) d (bk k) (nx k) = vb' at *
      generalize vV (wA W) (wB W) u d (bk k) (nx k) k = vv at *
      generalize wA W k * X + wB W k * Y = t at *
      have e1 : t * vb' * d k = t * d k * vb' := by grind
      have e2 : vv * B * d k = vv * d k * B := by grind
      have e3 : u k * vb' * B = u k * B * vb' := by grind
      rw [e1, eX] at c2
      omega
    · exact hld_none hp hk' hq p.2.1 q.2.1 k2 k7 p7 (by omega) (by omega) hB
  obtain ⟨k1, k2, k3, k4, k5, k6, k7, k8⟩ := hr k (L k hk)
  rw [e k hk] at k7 k3
  have q9 := (hr _ k3).2.1
  refine ⟨k7, Int.mul_pos (Int.mul_pos k7 k2) q9, fun j hj _ => ?_⟩
  have := ring_feas hd hr side (L k hk) (L j hj)
  rw [e k hk] at this
  exact vtx_h.mpr this
theorem two_on {p q : Nat} {X Y B : Int} (h1 : (wA W p * X + wB W p * Y) * d p = u p * B) (h2 : (wA W q * X + wB W q * Y) * d q = u q * B) : X * vB (wA W) (wB W) d p q = vX (wB W) u d p q * B ∧ Y * vB (wA W) (wB W) d p q = vY (wA W) u d p q * B := by
  unfold vB vX vY tn
  constructor
  · have : X * ((wA W p * wB W q - wA W q * wB W p) * d p * d q) = ((wA W p * X + wB W p * Y) * d p) * (d q * wB W q) - ((wA W q * X + wB W q * Y) * d q) * (d p * wB W p) := by grind
    rw [this, h1, h2]; grind
  · have : Y * ((wA W p * wB W q - wA W q * wB W p) * d p * d q) = ((wA W q * X + wB W q * Y) * d q) * (d p * wA W p) - ((wA W p * X + wB W p * Y) * d p) * (d q * wA W q) := by grind
    rw [this, h1, h2]; grind
theorem on_v {p q : Nat} : (wA W p * vX (wB W) u d p q + wB W p * vY (wA W) u d p q) * d p = u p * vB (wA W) (wB W) d p q ∧ (wA W q * vX (wB W) u d p q + wB W q * vY (wA W) u d p q) * d q = u q * vB (wA W) (wB W) d p q := by
  unfold vB vX vY tn
  constructor <;> grind
def Qa (W : Nat → Int) (af : Nat → Nat) (u d : Nat → Int) (k : Nat) (X Y B : Int) : Prop := ∃ j, j < k ∧ X = vX (wB W) u d j (af j) ∧ Y = vY (wA W) u d j (af j) ∧ B = vB (wA W) (wB W) d j (af j)
/-- a corner lies between neighbours -/
theorem corner_af (hw : wfN W) (ha : afR W af) (ht : tgL W u d) {i j : Nat} (hi : i < wN W) (hj : j < wN W) (hn : 0 < tn (wA W) (wB W) i j) {X Y B : Int} (hB : 0 < B) (hX : limF W (fun _ => True) u d X Y B) (h1 : (wA W i * X + wB W i * Y) * d i = u i * B) (h2 : (wA W j * X + wB W j * Y) * d j = u j * B) : (wA W (af i) * X + wB W (af i) * Y) * d (af i) = u (af i) * B := by
  have hd := wfN_dirs hw
  obtain ⟨a1, a2, a3⟩ := ha i hi
  by_cases e : af i = j
  · rw [e]; exact h2
  have ij : j ≠ i := fun e => by rw [e, tn_self] at hn; omega
  have m := a3 j hj ij
  have t1 := cy_t hd hi hj
  have t2 := cy_t hd hi a1
  have t3 := cy_t hd a1 hj
  have k1 := cy_k (a := wA W) (b := wB W) i j
  have k2 := cy_k (a := wA W) (b := wB W) i (af i)
  have k3 := cy_k (a := wA W) (b := wB W) (af i) j
  have n1 := (hd i hi).2 (af i) a1 a2
  have di := (ht i hi).1
  have dj := (ht j hj).1
  have vb : 0 < vB (wA W) (wB W) d i j := Int.mul_pos (Int.mul_pos hn di) dj
  obtain ⟨x1, x2⟩ := two_on h1 h2
  obtain ⟨dk, -, le, X', Y', B', hB', hX', eX'⟩ := ht (af i) a1
  have cm := hld_comb (lim_hld hX' hi) (lim_hld hX' hj) di dj (k := af i) (show 0 ≤ tn (wA W) (wB W) (af i) j by omega) (show 0 ≤ tn (wA W) (wB W) i (af i) by omega)
  have up := le X Y B hB hX
  have vv := vtx_v (a := wA W) (b := wB W) (U := u) (D := d) i j (af i)
  -- what the normal tells here is what the limits tell
  have here : (wA W (af i) * X + wB W (af i) * Y) * vB (wA W) (wB W) d i j = vV (wA W) (wB W) u d i j (af i) * B := by
    rw [← vv]
    have : (wA W (af i) * X + wB W (af i) * Y) * vB (wA W) (wB W) d i j = wA W (af i) * (X * vB (wA W) (wB W) d i j) + wB W (af i) * (Y * vB (wA W) (wB W) d i j) := by grind
    rw [this, x1, x2]; grind
  generalize vB (wA W) (wB W) d i j = vb' at *
  generalize vV (wA W) (wB W) u d i j (af i) = vv' at *
  generalize wA W (af i) * X + wB W (af i) * Y = t at *
  generalize wA W (af i) * X' + wB W (af i) * Y' = t' at *
  generalize d (af i) = dd at *
  generalize u (af i) = uu at *
  refine Int.le_antisymm up ?_
  -- uu B <= t dd: from t' vb' <= vv' B', t' dd = uu B', t vb' = vv' B
  refine Int.le_of_mul_le_mul_right (a := vb') ?_ vb
  refine Int.le_of_mul_le_mul_right (a := B') ?_ hB'
  have a1' := Int.mul_le_mul_of_nonneg_right cm (Int.mul_nonneg (Int.le_of_lt dk) (Int.le_of_lt hB))
  have e1 : t' * vb' * (dd * B) = t' * dd * vb' * B := by grind
  have e2 : vv' * B' * (dd * B) = vv' * B * dd * B' := by grind
  rw [e1, e2, eX', ← here] at a1'
  have e3 : uu * B * vb' * B' = uu * B' * vb' * B := by grind
  have e4 : t * dd * vb' * B' = t * vb' * dd * B' := by grind
  omega
theorem tn_flip {i j : Nat} (h : tn (wA W) (wB W) i j ≠ 0) : 0 < tn (wA W) (wB W) i j ∨ 0 < tn (wA W) (wB W) j i := by
  have := tn_anti (a := wA W) (b := wB W) i j
  omega
end
/-- the corners, as neighbours tell them, are all -/
theorem Qv_a {W : Nat → Int} {T : Nat → Nat → Int} {af : Nat → Nat} {p w m : Nat} {c : Nat → Int} (hw : wfN W) (ha : afR W af) (ht : wfT W T) (hp : p < qN T) (hw' : w < 2) (h : clist (Qa W af (qU T p w) (qD T p w) (wN W)) m c) : clist (Qv W T p w) m c := by
  have tg : tgL W (qU T p w) (qD T p w) := fun k hk => ((ht.2.2 p hp).2.2.2.2.1 w hw' k hk).2
  refine clist_congr (fun X Y B hB q => ?_) (fun X Y B hB q => ?_) h
  · obtain ⟨j, hj, e1, e2, e3⟩ := q
    obtain ⟨f1, f2, f3⟩ := af_feas hw ha tg hj
    obtain ⟨a1, a2, a3⟩ := ha j hj
    have o := on_v (W := W) (u := qU T p w) (d := qD T p w) (p := j) (q := af j)
    refine ⟨X, Y, B, hB, ?_, rfl, rfl⟩
    subst e1 e2 e3
    by_cases c : j < af j
    · exact ⟨j, af j, c, a1, by omega, f3, o.1, o.2⟩
    · refine ⟨af j, j, by omega, hj, ?_, f3, o.2, o.1⟩
      rw [tn_anti]; omega
  · obtain ⟨i, j, ij, hj, hn, hX, h1, h2⟩ := q
    have hi : i < wN W := by omega
    rcases tn_flip hn with t | t
    · have h3 := corner_af hw ha tg hi hj t hB hX h1 h2
      obtain ⟨x1, x2⟩ := two_on h1 h3
      exact ⟨_, _, _, (af_feas hw ha tg hi).2.1, ⟨i, hi, rfl, rfl, rfl⟩, x1, x2⟩
    · have h3 := corner_af hw ha tg hj hi t hB hX h2 h1
      obtain ⟨x1, x2⟩ := two_on h2 h3
      exact ⟨_, _, _, (af_feas hw ha tg hj).2.1, ⟨j, hj, rfl, rfl, rfl⟩, x1, x2⟩

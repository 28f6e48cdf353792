/-! What a text tells is right; what a check holds is right; the reference's rows hold a check. -/
def bokW (W : Nat → Int) (n f m : Nat) : Prop := ∀ i, i < m → (0 ≤ W (f + 3 * i) ∧ W (f + 3 * i) < (n : Int)) ∧ (-999 ≤ W (f + 3 * i + 1) ∧ W (f + 3 * i + 1) ≤ 999) ∧ (0 < W (f + 3 * i + 2) ∧ W (f + 3 * i + 2) ≤ 9)
/-- the two normals across a mode's slopes are there -/
def perp (W : Nat → Int) (p q : Int) : Prop := (p = 0 ∧ q = 0) ∨ ∃ i j : Nat, ∃ g : Int, i < wN W ∧ j < wN W ∧ 0 < g ∧ g * wA W i = -q ∧ g * wB W i = p ∧ g * wA W j = q ∧ g * wB W j = -p
def wfM (W : Nat → Int) (m : Nat) : Prop := (-9 ≤ W (59 + 25 * m) ∧ W (59 + 25 * m) ≤ 9) ∧ (-9 ≤ W (60 + 25 * m) ∧ W (60 + 25 * m) ≤ 9) ∧ perp W (W (59 + 25 * m)) (W (60 + 25 * m)) ∧ ((0 ≤ W (61 + 25 * m) ∧ W (61 + 25 * m) ≤ 4) ∧ bokW W (wN W) (63 + 25 * m) (W (61 + 25 * m)).toNat) ∧ ((0 ≤ W (62 + 25 * m) ∧ W (62 + 25 * m) ≤ 3) ∧ bokW W (wN W) (75 + 25 * m) (W (62 + 25 * m)).toNat)
def wfE (W : Nat → Int) (e : Nat) : Prop := (0 ≤ W (209 + 19 * e) ∧ W (209 + 19 * e) < W 0) ∧ (0 ≤ W (210 + 19 * e) ∧ W (210 + 19 * e) < W 0) ∧ ((0 ≤ W (211 + 19 * e) ∧ W (211 + 19 * e) ≤ 4) ∧ bokW W (wN W) (216 + 19 * e) (W (211 + 19 * e)).toNat) ∧ (0 ≤ W (212 + 19 * e) ∧ W (212 + 19 * e) ≤ 2) ∧ (-999 ≤ W (213 + 19 * e) ∧ W (213 + 19 * e) ≤ 999) ∧ (0 ≤ W (214 + 19 * e) ∧ W (214 + 19 * e) ≤ 2) ∧ (-999 ≤ W (215 + 19 * e) ∧ W (215 + 19 * e) ≤ 999) ∧ (W (212 + 19 * e) = 0 → W (213 + 19 * e) = 0) ∧ (W (214 + 19 * e) = 0 → W (215 + 19 * e) = 0)
def wfN (W : Nat → Int) : Prop := (4 ≤ W 2 ∧ W 2 ≤ 24) ∧ (∀ k, k < wN W → nrm (wA W k) (wB W k) ∧ Int.gcd (wA W k) (wB W k) = 1 ∧ ∀ j, j < wN W → j ≠ k → ¬ (wA W j = wA W k ∧ wB W j = wB W k)) ∧ bx4 (wA W) (wB W)
def wfS (W : Nat → Int) : Prop := (-999 ≤ W 6 ∧ W 6 ≤ 999) ∧ (-999 ≤ W 7 ∧ W 7 ≤ 999) ∧ (-999 ≤ W 8 ∧ W 8 ≤ 999) ∧ (-999 ≤ W 9 ∧ W 9 ≤ 999) ∧ W 6 ≤ W 7 ∧ W 8 ≤ W 9
def wfW (W : Nat → Int) : Prop := wfN W ∧ (0 ≤ W 0 ∧ W 0 ≤ 6) ∧ (0 ≤ W 1 ∧ W 1 ≤ 10) ∧ (1 ≤ W 3 ∧ W 3 ≤ 8) ∧ (∀ m : Nat, (m : Int) < W 0 → wfM W m) ∧ (∀ e : Nat, (e : Int) < W 1 → wfE W e) ∧ (W 4 = 0 ∨ W 4 = 1 ∧ (0 ≤ W 5 ∧ W 5 < W 0) ∧ wfS W)
theorem wfN_dirs {W : Nat → Int} (h : wfN W) : dirs (wA W) (wB W) (wN W) := by
  intro k hk
  obtain ⟨k1, k2, k3⟩ := h.2.1 k hk
  refine ⟨k1, fun j hj jk e => ?_⟩
  obtain ⟨j1, j2, j3⟩ := h.2.1 j hj
  rcases ky_t k1 j1 with t | ⟨t, t' | t'⟩ | t
  · unfold cy at e; omega
  · rcases t'.2 with s | s | s
    · exact k3 j hj jk ⟨s.1.symm, s.2.symm⟩
    · exact s k2
    · exact s j2
  · unfold cy at e; omega
  · unfold cy at e; omega
theorem wfN_n {W : Nat → Int} (h : wfN W) : W 2 = (wN W : Int) ∧ 4 ≤ wN W ∧ wN W ≤ 24 := by
  unfold wN
  have := h.1
  omega
theorem wf_nok {S : jS} (h : wfN (S (RB + 2))) : nok S (wN (S (RB + 2))) := ⟨wfN_dirs h, (wfN_n h).2.1, h.2.2⟩
theorem wf_gN {S : jS} (h : wfN (S (RB + 2))) : gN S (wN (S (RB + 2))) := ⟨(wfN_n h).1, (wfN_n h).2.2, fun k hk => ⟨(h.2.1 k hk).1.1, (h.2.1 k hk).1.2.1⟩⟩
theorem wf_mok {S : jS} (h : wfW (S (RB + 2))) {m : Nat} (hm : (m : Int) < S (RB + 2) 0) : m < 6 ∧ mok S (wN (S (RB + 2))) m ∧ hok S (wN (S (RB + 2))) m ∧ (-9 ≤ mP S m ∧ mP S m ≤ 9) ∧ (-9 ≤ mQ S m ∧ mQ S m ≤ 9) := by
  obtain ⟨-, h1, -, -, h2, -, -⟩ := h
  obtain ⟨a, b, c, d, e⟩ := h2 m hm
  exact ⟨by omega, d, e, a, b⟩
theorem wf_eok {S : jS} (h : wfW (S (RB + 2))) {e : Nat} (he : (e : Int) < S (RB + 2) 1) : e < 10 ∧ eok S (wN (S (RB + 2))) e ∧ (S (RB + 2) (210 + 19 * e) = (((S (RB + 2) (210 + 19 * e)).toNat : Nat) : Int)) ∧ (((S (RB + 2) (210 + 19 * e)).toNat : Nat) : Int) < S (RB + 2) 0 := by
  obtain ⟨-, h1, h0, -, -, h2, -⟩ := h
  obtain ⟨a, b, c, d, f, g, i, -⟩ := h2 e he
  exact ⟨by omega, ⟨⟨by omega, by omega⟩, c, d, f, g, i⟩, by omega, by omega⟩
/-- tight limits are their own limits -/
theorem sup_lim {W : Nat → Int} {F : Int → Int → Int → Prop} {u d : Nat → Int} (h : ∀ k, k < wN W → supP F (wA W k) (wB W k) (u k) (d k)) {k : Nat} (hk : k < wN W) : supP (limF W (fun _ => True) u d) (wA W k) (wB W k) (u k) (d k) := by
  obtain ⟨h1, h2, h3, X, Y, B, h4, h5, h6⟩ := h k hk
  exact ⟨h1, h2, fun X Y B hB f => f k hk trivial, X, Y, B, h4, fun j hj _ => (h j hj).2.2.1 X Y B h4 h5, h6⟩
theorem lim_F {W : Nat → Int} {F : Int → Int → Int → Prop} {u d : Nat → Int} (h : ∀ k, k < wN W → supP F (wA W k) (wB W k) (u k) (d k)) {X Y B : Int} (hB : 0 < B) (f : F X Y B) : limF W (fun _ => True) u d X Y B := fun j hj _ => (h j hj).2.2.1 X Y B hB f
def wfP (W : Nat → Int) (T : Nat → Nat → Int) (p : Nat) : Prop :=
  (0 ≤ qT T p 0 ∧ qT T p 0 < W 0) ∧ (∀ w, 4 ≤ w → w < 8 → qT T p w = 0 ∨ qT T p w = 1) ∧ (0 ≤ qT T p 3 ∧ qT T p 3 ≤ (p : Int)) ∧
  ((qT T p 1 = -2 ∧ qT T p 2 = -2 ∧ qT T p 3 = 0) ∨ ∃ f e : Nat, qT T p 1 = (f : Int) ∧ f < p ∧ qT T p 2 = (e : Int) ∧ (e : Int) < W 1 ∧ qT T p 3 = qT T f 3 + 1 ∧ W (209 + 19 * e) = qT T f 0 ∧ W (210 + 19 * e) = qT T p 0 ∧
    (qT T p 4 = 1 → qT T f 4 = 1 ∧ (∀ k, k < wN W → supP (fun X Y B => setF W T f 1 X Y B ∧ guardF W e X Y B) (wA W k) (wB W k) (tuF W (fun X Y B => setF W T f 1 X Y B ∧ guardF W e X Y B) k) (tdF W (fun X Y B => setF W T f 1 X Y B ∧ guardF W e X Y B) k)) ∧ ∀ k, k < wN W → supP (fun X Y B => jumpF W e (tuF W (fun X Y B => setF W T f 1 X Y B ∧ guardF W e X Y B)) (tdF W (fun X Y B => setF W T f 1 X Y B ∧ guardF W e X Y B)) X Y B ∧ keepF W (qT T p 0).toNat X Y B) (wA W k) (wB W k) (qU T p 0 k) (qD T p 0 k))) ∧
  (∀ w, w < 2 → ∀ k, k < wN W → ¬ byd (qU T p w k) (qD T p w k) ∧ supP (setF W T p w) (wA W k) (wB W k) (qU T p w k) (qD T p w k)) ∧
  (qT T p 4 = 1 → ∀ k, k < wN W → supP (growF W (qT T p 0).toNat (qU T p 0) (qD T p 0)) (wA W k) (wB W k) (qU T p 1 k) (qD T p 1 k)) ∧
  (qT T p 7 = 1 → neF (fun X Y B => setF W T p 1 X Y B ∧ harmF W (qT T p 0).toNat X Y B))
def wfT (W : Nat → Int) (T : Nat → Nat → Int) : Prop := (0 ≤ T 0 0 ∧ T 0 0 ≤ 60) ∧ (0 ≤ T 0 1 ∧ T 0 1 ≤ 2) ∧ ∀ p, p < qN T → wfP W T p
def rT (n : Nat) (S : jS) (T : Nat → Nat → Int) : Prop := (S RB 27 = T 0 0 ∧ S RB 28 = T 0 1 ∧ S RB 29 = T 0 2 ∧ S RB 30 = T 0 3) ∧ ∀ p, p < qN T → (∀ w, w < 8 → pt S p w = qT T p w) ∧ ∀ w, w < 2 → ∀ k, k < n → sU S p w k = qU T p w k ∧ sD S p w k = qD T p w k
theorem rT_o {n : Nat} {S S' : jS} {T : Nat → Nat → Int} (h : rT n S T) (h0 : ∀ k, 27 ≤ k → k ≤ 30 → S' RB k = S RB k) (h1 : ∀ j, S' (RB + 10) j = S (RB + 10) j) (h2 : ∀ j, S' (RB + 11) j = S (RB + 11) j) : rT n S' T := by
  obtain ⟨⟨a, b, c, d⟩, e⟩ := h
  refine ⟨⟨by rw [h0 27 (by omega) (by omega), a], by rw [h0 28 (by omega) (by omega), b], by rw [h0 29 (by omega) (by omega), c], by rw [h0 30 (by omega) (by omega), d]⟩, fun p hp => ⟨fun w hw => ?_, fun w hw k hk => ⟨?_, ?_⟩⟩⟩
  · unfold pt; rw [h1]; exact (e p hp).1 w hw
  · unfold sU; rw [h2]; exact ((e p hp).2 w hw k hk).1
  · unfold sD; rw [h2]; exact ((e p hp).2 w hw k hk).2
theorem rT_9 {n : Nat} {S S' : jS} {T : Nat → Nat → Int} (h : rT n S T) (f : fr9 S S') : rT n S' T :=
  rT_o h (fun k a b => f.2 k (by omega)) (fun j => f.1 _ _ (by simp) (by simp) (by simp) (by simp) (by simp) (by simp)) (fun j => f.1 _ _ (by simp) (by simp) (by simp) (by simp) (by simp) (by simp))
def r32 (S : jS) : Prop := ∀ j, j < 5760 → jI32 (S (RB + 11) j)
theorem r32_9 {S S' : jS} (h : r32 S) (f : fr9 S S') : r32 S' := fun j hj => by rw [f.1 _ _ (by simp) (by simp) (by simp) (by simp) (by simp) (by simp)]; exact h j hj
/-- what a check may change of the reference -/
def frC (S S' : jS) : Prop := (∀ r j, r ≠ RB → r ≠ RB + 5 → r ≠ RB + 6 → r ≠ RB + 7 → r ≠ RB + 8 → r ≠ RB + 9 → r ≠ RB + 10 → r ≠ RB + 11 → S' r j = S r j) ∧ ∀ k, (k < 22 ∨ 24 < k) → (k < 27 ∨ 30 < k) → k ≠ 33 → S' RB k = S RB k
theorem frC.refl (S : jS) : frC S S := ⟨fun _ _ _ _ _ _ _ _ _ _ => rfl, fun _ _ _ _ => rfl⟩
theorem frC.trans {S S' S'' : jS} (h : frC S S') (h' : frC S' S'') : frC S S'' := ⟨fun r j a b c d e f g i => by rw [h'.1 r j a b c d e f g i, h.1 r j a b c d e f g i], fun k h1 h2 h3 => by rw [h'.2 k h1 h2 h3, h.2 k h1 h2 h3]⟩
theorem frC.of9 {S S' : jS} (h : fr9 S S') : frC S S' := ⟨fun r j a b c d e f _ _ => h.1 r j a b c d e f, fun k h1 _ _ => h.2 k h1⟩
theorem frC.w {S S' : jS} (h : frC S S') : S' (RB + 2) = S (RB + 2) := funext fun j => h.1 _ _ (by simp) (by simp) (by simp) (by simp) (by simp) (by simp) (by simp) (by simp)
theorem qset_at (T : Nat → Nat → Int) (i j : Nat) (v : Int) (i' j' : Nat) : qset T i j v i' j' = if i' = i ∧ j' = j then v else T i' j' := rfl
theorem qlay_n (T : Nat → Nat → Int) (b n : Nat) (u d : Nat → Int) {i j : Nat} (h : i ≠ 2) : qlay T b n u d i j = T i j := by unfold qlay; rw [if_neg (fun c => h c.1)]
section
variable {W : Nat → Int} {T : Nat → Nat → Int} {m : Nat} {f e d x : Int} {u0 d0 u d' : Nat → Int}
theorem make_0 (j : Nat) : aMake W T m f e d x u0 d0 u d' 0 j = if j = 0 then T 0 0 + 1 else T 0 j := by
  unfold aMake
  simp only [qset_at, true_and, Nat.zero_ne_one, false_and, if_false]
  rw [qlay_n _ _ _ _ _ (by omega), qlay_n _ _ _ _ _ (by omega)]
theorem make_T {p w : Nat} (hp : p ≤ qN T) (hw : w < 8) : qT (aMake W T m f e d x u0 d0 u d') p w = if p = qN T then (if w = 0 then (m : Int) else if w = 1 then f else if w = 2 then e else if w = 3 then d else if w = 4 then x else if w = 5 then 1 else if w = 6 then 0 else aHarm W m u d') else qT T p w := by
  unfold aMake qT
  simp only [qset_at, Nat.one_ne_zero, true_and, false_and, if_false]
  rw [qlay_n _ _ _ _ _ (by omega), qlay_n _ _ _ _ _ (by omega)]
  by_cases c : p = qN T
  · rw [if_pos c, c]
    rcases (show w = 0 ∨ w = 1 ∨ w = 2 ∨ w = 3 ∨ w = 4 ∨ w = 5 ∨ w = 6 ∨ w = 7 by omega) with rfl | rfl | rfl | rfl | rfl | rfl | rfl | rfl <;> simp
  · rw [if_neg c]
    repeat rw [if_neg (by omega)]
theorem make_N (h : 0 ≤ T 0 0) : qN (aMake W T m f e d x u0 d0 u d') = qN T + 1 := by
  unfold qN
  rw [make_0, if_pos rfl]
  omega
theorem make_2 (j : Nat) : aMake W T m f e d x u0 d0 u d' 2 j = qlay (qlay T (96 * qN T) (wN W) u0 d0) (96 * qN T + 48) (wN W) u d' 2 j := by
  unfold aMake
  simp [qset_at]
theorem qlay_i (T : Nat → Nat → Int) (b n : Nat) (u d : Nat → Int) {k : Nat} (hk : k < n) : qlay T b n u d 2 (b + 2 * k) = u k ∧ qlay T b n u d 2 (b + 2 * k + 1) = d k := by
  unfold qlay
  constructor
  · rw [if_pos ⟨rfl, by omega, by omega⟩, if_pos (by omega)]
    exact congrArg u (by omega)
  · rw [if_pos ⟨rfl, by omega, by omega⟩, if_neg (by omega)]
    exact congrArg d (by omega)
theorem qlay_x (T : Nat → Nat → Int) (b n : Nat) (u d : Nat → Int) {i j : Nat} (h : j < b ∨ b + 2 * n ≤ j) : qlay T b n u d i j = T i j := by
  unfold qlay
  rw [if_neg (by omega)]
theorem make_U {p w k : Nat} (hn : wN W ≤ 24) (hp : p ≤ qN T) (hw : w < 2) (hk : k < wN W) : qU (aMake W T m f e d x u0 d0 u d') p w k = (if p = qN T then (if w = 0 then u0 k else u k) else qU T p w k) ∧ qD (aMake W T m f e d x u0 d0 u d') p w k = (if p = qN T then (if w = 0 then d0 k else d' k) else qD T p w k) := by
  unfold qU qD
  rw [make_2, make_2]
  by_cases c : p = qN T
  · subst c
    rw [if_pos rfl, if_pos rfl]
    rcases (show w = 0 ∨ w = 1 by omega) with rfl | rfl
    · have e1 := qlay_i T (96 * qN T) (wN W) u0 d0 hk
      exact ⟨(qlay_x _ _ _ _ _ (by omega)).trans e1.1, (qlay_x _ _ _ _ _ (by omega)).trans e1.2⟩
    · exact qlay_i _ _ _ _ _ hk
  · rw [if_neg c, if_neg c, qlay_x _ _ _ _ _ (by omega), qlay_x _ _ _ _ _ (by omega), qlay_x _ _ _ _ _ (by omega), qlay_x _ _ _ _ _ (by omega)]
    exact ⟨rfl, rfl⟩
end
theorem rT_set0 {n : Nat} {S : jS} {T : Nat → Nat → Int} {j : Nat} {v : Int} (h : rT n S T) (hj : 1 ≤ j ∧ j ≤ 3) : rT n (ju S RB (27 + j) v) (qset T 0 j v) := by
  obtain ⟨⟨a, b, c, d⟩, e⟩ := h
  refine ⟨⟨?_, ?_, ?_, ?_⟩, fun p hp => ⟨fun w hw => ?_, fun w hw k hk => ⟨?_, ?_⟩⟩⟩
  · rw [ju_at, qset_at, if_neg (by omega), if_neg (by omega), a]
  · rw [ju_at, qset_at]
    by_cases c : j = 1
    · rw [if_pos (by omega), if_pos (by omega)]
    · rw [if_neg (by omega), if_neg (by omega), b]
  · rw [ju_at, qset_at]
    by_cases c : j = 2
    · rw [if_pos (by omega), if_pos (by omega)]
    · rw [if_neg (by omega), if_neg (by omega)]; assumption
  · rw [ju_at, qset_at]
    by_cases c : j = 3
    · rw [if_pos (by omega), if_pos (by omega)]
    · rw [if_neg (by omega), if_neg (by omega), d]
  · have e1 : qT (qset T 0 j v) p w = qT T p w := by unfold qT; rw [qset_at, if_neg (by omega)]
    have hp' : p < qN T := by unfold qN at *; rw [qset_at, if_neg (by omega)] at hp; exact hp
    rw [e1, ← (e p hp').1 w hw]
    unfold pt; rw [ju_at, if_neg (by omega)]
  · have e1 : qU (qset T 0 j v) p w k = qU T p w k := by unfold qU; rw [qset_at, if_neg (by omega)]
    have hp' : p < qN T := by unfold qN at *; rw [qset_at, if_neg (by omega)] at hp; exact hp
    rw [e1, ← ((e p hp').2 w hw k hk).1]
    unfold sU; rw [ju_at, if_neg (by omega)]
  · have e1 : qD (qset T 0 j v) p w k = qD T p w k := by unfold qD; rw [qset_at, if_neg (by omega)]
    have hp' : p < qN T := by unfold qN at *; rw [qset_at, if_neg (by omega)] at hp; exact hp
    rw [e1, ← ((e p hp').2 w hw k hk).2]
    unfold sD; rw [ju_at, if_neg (by omega)]
theorem ntold_at (S : jS) (p : Nat) (m f e d x h : Int) {p' w : Nat} (hw : w < 8) : ntold S p m f e d x h (8 * p' + w) = if p' = p then (if w = 0 then m else if w = 1 then f else if w = 2 then e else if w = 3 then d else if w = 4 then x else if w = 5 then 1 else if w = 6 then 0 else h) else pt S p' w := by
  unfold ntold
  by_cases c : p' = p
  · subst c
    rw [if_pos rfl]
    rcases (show w = 0 ∨ w = 1 ∨ w = 2 ∨ w = 3 ∨ w = 4 ∨ w = 5 ∨ w = 6 ∨ w = 7 by omega) with rfl | rfl | rfl | rfl | rfl | rfl | rfl | rfl <;> simp
  · rw [if_neg c]
    repeat rw [if_neg (by omega)]
    rfl
theorem rlay_i (S : jS) (b n : Nat) {k : Nat} (hk : k < n) : rlay S b n (RB + 11) (b + 2 * k) = wU S k ∧ rlay S b n (RB + 11) (b + 2 * k + 1) = wD S k := by
  unfold rlay
  constructor
  · rw [if_pos ⟨rfl, by omega, by omega⟩, if_pos (by omega)]
    exact congrArg (wU S) (by omega)
  · rw [if_pos ⟨rfl, by omega, by omega⟩, if_neg (by omega)]
    exact congrArg (wD S) (by omega)
theorem rlay_x (S : jS) (b n : Nat) {r j : Nat} (h : j < b ∨ b + 2 * n ≤ j) : rlay S b n r j = S r j := by
  unfold rlay
  rw [if_neg (by omega)]
/-- the rows behind a new part -/
theorem rT_make {n m : Nat} {S S' : jS} {T : Nat → Nat → Int} {f e d x h : Int} {u0 d0 u d' : Nat → Int} (hn : n = wN (S (RB + 2))) (h24 : n ≤ 24) (hr : rT n S T) (h0 : 0 ≤ T 0 0) (hU : ∀ k, k < n → wU S k = u k ∧ wD S k = d' k) (hE : ∀ k, k < n → sU S (qN T) 0 k = u0 k ∧ sD S (qN T) 0 k = d0 k)
    (hh : h = aHarm (S (RB + 2)) m u d') (s27 : S' RB 27 = T 0 0 + 1) (s0 : ∀ k, 28 ≤ k → k ≤ 30 → S' RB k = S RB k) (s10 : ∀ j, S' (RB + 10) j = ntold S (qN T) m f e d x h j) (s11 : ∀ j, S' (RB + 11) j = rlay S (96 * qN T + 48) n (RB + 11) j) :
    rT n S' (aMake (S (RB + 2)) T m f e d x u0 d0 u d') := by
  obtain ⟨⟨a, b, c, t3⟩, q⟩ := hr
  refine ⟨⟨?_, ?_, ?_, ?_⟩, fun p hp => ⟨fun w hw => ?_, fun w hw k hk => ?_⟩⟩
  · rw [make_0, if_pos rfl, s27]
  · rw [make_0, if_neg (by omega), s0 28 (by omega) (by omega), b]
  · rw [make_0, if_neg (by omega), s0 29 (by omega) (by omega), c]
  · rw [make_0, if_neg (by omega), s0 30 (by omega) (by omega), t3]
  · rw [make_N h0] at hp
    rw [make_T (by omega) hw]
    unfold pt
    rw [s10, ntold_at _ _ _ _ _ _ _ _ hw, hh]
    split
    · rfl
    · rename_i c'
      exact (q p (by omega)).1 w hw
  · rw [make_N h0] at hp
    subst hn
    obtain ⟨m1, m2⟩ := make_U (W := S (RB + 2)) (T := T) (m := m) (f := f) (e := e) (d := d) (x := x) (u0 := u0) (d0 := d0) (u := u) (d' := d') h24 (show p ≤ qN T by omega) hw hk
    rw [m1, m2]
    unfold sU sD
    rw [s11, s11]
    by_cases c : p = qN T
    · subst c
      rw [if_pos rfl, if_pos rfl]
      rcases (show w = 0 ∨ w = 1 by omega) with rfl | rfl
      · rw [rlay_x _ _ _ (by omega), rlay_x _ _ _ (by omega)]
        exact hE k hk
      · rw [if_neg (by omega), if_neg (by omega), ← (hU k hk).1, ← (hU k hk).2]
        exact rlay_i _ _ _ hk
    · rw [if_neg c, if_neg c, rlay_x _ _ _ (by omega), rlay_x _ _ _ (by omega)]
      exact (q p (by omega)).2 w hw k hk
theorem r32_lay {S : jS} {b n : Nat} (h : r32 S) (hU : ∀ k, k < n → (-3000000 ≤ wU S k ∧ wU S k ≤ 3000000) ∧ 0 < wD S k ∧ wD S k ≤ 3000) : ∀ j, j < 5760 → jI32 (rlay S b n (RB + 11) j) := by
  intro j hj
  unfold rlay
  simp only [true_and]
  split
  · rename_i c
    have := hU ((j - b) / 2) (by omega)
    split
    · exact ⟨by omega, by omega⟩
    · exact ⟨by omega, by omega⟩
  · exact h j hj

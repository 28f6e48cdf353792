/-! What stands in the law's loop: the class beside the reference. -/
def lJ (S : jS) (u : Nat) (W : Nat → Int) (T : Nat → Nat → Int) (af : Nat → Nat) (n e : Int) (R : Nat → Int) (t : Nat) (tp : Nat → Int) : Prop :=
  (kC S u W T af ∧ rC S W T) ∧ (t ≤ 900 ∧ S 0 1 = (t : Int) ∧ S RB 2 = (t : Int)) ∧ (∀ j, j < 900 → S 1 j = sb (tp j) ∧ S (RB + 1) j = tp j ∧ 0 ≤ tp j ∧ tp j ≤ 255) ∧ ((∀ i, i < 11 → S 299 i = LG i) ∧ eB S) ∧
  (rdR S n e R ∧ S RB 50 = n ∧ (n ≠ -1 → S RB 51 = e) ∧ (∀ k : Nat, (k : Int) < 8 * (n + 1) → S (RB + 17) k = R k) ∧ ∀ j : Nat, (j : Int) ≤ n → rwOk W R j) ∧ (S CK 5 = S RB 31 ∧ S 0 2 = S RB 14 ∧ S 0 3 = S RB 15) ∧ ∀ j, 399 ≤ j → S (RB + 2) j = 0
def lI (S : jS) : Prop := ∃ (u : Nat) (W : Nat → Int) (T : Nat → Nat → Int) (af : Nat → Nat) (n e : Int) (R : Nat → Int) (t : Nat) (tp : Nat → Int), lJ S u W T af n e R t tp
theorem RB_v : RB = 1237 := rfl
section
variable {S S' : jS} {u : Nat} {W : Nat → Int} {T : Nat → Nat → Int} {af : Nat → Nat} {n e : Int} {R : Nat → Int} {t : Nat} {tp : Nat → Int}
theorem lJ_keep {u' : Nat} {T' : Nat → Nat → Int} {af' : Nat → Nat} (h : lJ S u W T af n e R t tp) (k' : kC S' u' W T' af') (r' : rC S' W T') (f0 : ∀ j, (j = 1 ∨ j = 2 ∨ j = 3) → S' 0 j = S 0 j) (f1 : ∀ j, j < 900 → S' 1 j = S 1 j) (f8 : ∀ j, S' 298 j = S 298 j) (f9 : ∀ j, S' 299 j = S 299 j) (f2 : ∀ j, S' 1232 j = S 1232 j) (f3 : ∀ j, S' 1233 j = S 1233 j)
    (g : ∀ k, (k = 2 ∨ k = 14 ∨ k = 15 ∨ k = 50 ∨ k = 51) → S' RB k = S RB k) (g1 : ∀ j, j < 900 → S' (RB + 1) j = S (RB + 1) j) (g7 : ∀ j, j < 248 → S' (RB + 17) j = S (RB + 17) j) (c5 : S' CK 5 = S' RB 31) (g2 : ∀ j, S' (RB + 2) j = S (RB + 2) j) : lJ S' u' W T' af' n e R t tp := by
  obtain ⟨-, ⟨a1, a2, a3⟩, b, ⟨c, d⟩, ⟨r1, r2, r3, r4, r5⟩, ⟨-, o2, o3⟩, q⟩ := h
  refine ⟨⟨k', r'⟩, ⟨a1, by rw [f0 1 (by omega), a2], by rw [g 2 (by omega), a3]⟩, fun j hj => ⟨by rw [f1 j hj]; exact (b j hj).1, by rw [g1 j hj]; exact (b j hj).2.1, (b j hj).2.2⟩, ⟨fun i hi => by rw [f9]; exact c i hi, ?_⟩, ⟨?_, by rw [g 50 (by omega), r2], fun hn => by rw [g 51 (by omega)]; exact r3 hn, fun k hk => ?_, r5⟩, ⟨c5, by rw [f0 2 (by omega), g 14 (by omega), o2], by rw [f0 3 (by omega), g 15 (by omega), o3]⟩, fun j hj => by rw [g2]; exact q j hj⟩
  · unfold eB at d ⊢
    rw [f8, f8, f8]; exact d
  · unfold rdR at r1 ⊢
    refine ⟨r1.1, fun hn => by rw [f2]; exact r1.2.1 hn, fun hn => ?_⟩
    obtain ⟨x1, x2, x3, x4⟩ := r1.2.2 hn
    exact ⟨by rw [f2, x1], by rw [f2, x2], by rw [f2, x3], fun k hk => by rw [f3]; exact x4 k hk⟩
  · rw [g7 k (by have := r1.1; omega)]; exact r4 k hk
theorem rC_up (h : rC S W T) (f : ∀ r j, RB ≤ r → S' r j = S r j) : rC S' W T := by
  obtain ⟨a, b, c, d, e, g⟩ := h
  refine ⟨(funext fun j => f _ j (by omega)).trans a, b, c, rT_o d (fun k _ _ => f _ _ (Nat.le_refl _)) (fun j => f _ _ (by omega)) (fun j => f _ _ (by omega)), fun j hj => by rw [f _ _ (by omega)]; exact e j hj, by rw [f _ _ (Nat.le_refl _)]; exact g⟩
theorem kC_lo (h : kC S u W T af) (f : ∀ r j, r < RB → S' r j = S r j) : kC S' u W T af := by
  have hu := h.1.1
  refine kC_c h (fun j _ => f _ _ (by decide)) (fun r j a b => f _ _ ?_) (fun r j a b => f _ _ ?_)
  · have := RB_v; unfold mU at hu; omega
  · have := RB_v; omega
theorem lJ_A (h : lJ S u W T af n e R t tp) (f : fA S S') : lJ S' u W T af n e R t tp := by
  have rv := RB_v
  have cv := CK_v
  refine lJ_keep h (kC_A h.1.1 f) (rC_up h.1.2 fun r j hr => f.1 r j (by omega)) (fun j _ => f.1 _ _ (by omega)) (fun j _ => f.1 _ _ (by omega)) (fun j => f.1 _ _ (by omega)) (fun j => f.1 _ _ (by omega)) (fun j => f.1 _ _ (by omega)) (fun j => f.1 _ _ (by omega)) (fun k _ => f.1 _ _ (by omega)) (fun j _ => f.1 _ _ (by omega)) (fun j _ => f.1 _ _ (by omega)) ?_ (fun j => f.1 _ _ (by omega))
  rw [f.1 CK 5 (by omega), f.1 RB 31 (by omega)]
  exact h.2.2.2.2.2.1.1
theorem lJ_Q (h : lJ S u W T af n e R t tp) (f : frQ S S') : lJ S' u W T af n e R t tp := by
  have rv := RB_v
  have cv := CK_v
  have lo : ∀ r j, r < RB → S' r j = S r j := fun r j hr => f.1 r j (Or.inl hr)
  refine lJ_keep h (kC_lo h.1.1 lo) (rC_Q h.1.2 f) (fun j _ => lo _ _ (by omega)) (fun j _ => lo _ _ (by omega)) (fun j => lo _ _ (by omega)) (fun j => lo _ _ (by omega)) (fun j => lo _ _ (by omega)) (fun j => lo _ _ (by omega)) (fun k hk => f.2.2.2.2.2 k (by omega)) (fun j hj => f.1 _ _ (Or.inr ⟨rfl, hj⟩)) (fun j hj => f.2.2.2.2.1 j hj) ?_ f.2.1
  rw [lo CK 5 (by omega), f.2.2.2.2.2 31 (by omega)]
  exact h.2.2.2.2.2.1.1
/-- a step of both -/
theorem lJ_step {S1 S2 : jS} {T' : Nat → Nat → Int} {k : Nat} (h : lJ S u W T af n e R t tp) (f : fR CK S S1) (k1 : kC S1 u W T' af) (c1 : S1 CK 5 = S CK 5 + (k : Int)) (g : frB (ju S1 RB 0 0) S2) (r2 : rC S2 W T') (c2 : S2 RB 31 = S1 RB 31 + (k : Int)) : lJ S2 u W T' af n e R t tp := by
  have rv := RB_v
  have cv := CK_v
  have lo : ∀ r j, r < RB → S2 r j = S1 r j := fun r j hr => by rw [g.1 r j (by omega) (by omega) (by omega) (by omega) (by omega) (by omega) (by omega) (by omega), ju_at, if_neg (by omega)]
  have up : ∀ r j, (r = RB + 1 ∨ r = RB + 2 ∨ r = RB + 17) → S2 r j = S r j := fun r j hr => by rw [g.1 r j (by omega) (by omega) (by omega) (by omega) (by omega) (by omega) (by omega) (by omega), ju_at, if_neg (by omega), f.1 r j (by omega) (by omega)]
  have low : ∀ r j, (r < 300 ∨ r = 1232 ∨ r = 1233) → S2 r j = S r j := fun r j hr => by rw [lo r j (by omega), f.1 r j (by omega) (by omega)]
  refine lJ_keep h (kC_lo k1 lo) r2 (fun j _ => low _ _ (by omega)) (fun j _ => low _ _ (by omega)) (fun j => low _ _ (by omega)) (fun j => low _ _ (by omega)) (fun j => low _ _ (by omega)) (fun j => low _ _ (by omega)) (fun k hk => ?_) (fun j _ => up _ _ (by omega)) (fun j _ => up _ _ (by omega)) ?_ (fun j => up _ _ (by omega))
  · rw [g.2 k (by omega) (by omega) (by omega), ju_at, if_neg (by omega), f.1 RB k (by omega) (by omega)]
  · rw [lo CK 5 (by omega), c1, c2, f.1 RB 31 (by omega) (by omega), h.2.2.2.2.2.1.1]
/-- four ints more on both tapes -/
theorem lJ_feed {S1 S2 : jS} {a b c d e' : Int} (h : lJ S u W T af n e R t tp) (t8 : t ≤ 880)
    (f : ∀ r j, r ≠ 1 → (r ≠ 0 ∨ j ≠ 1) → S1 r j = S r j) (f1 : S1 0 1 = (t : Int) + 20) (f2 : ∀ j, (j < t ∨ t + 20 ≤ j) → S1 1 j = S 1 j) (f3 : ∀ k, k < 20 → S1 1 (t + k) = sb (byt (fdA a b c d e' k) ((k % 4 : Nat) : Int)))
    (g : ∀ r j, r ≠ RB → r ≠ RB + 1 → S2 r j = S1 r j) (g0 : ∀ k, k ≠ 0 → k ≠ 2 → S2 RB k = S1 RB k) (g1 : S2 RB 2 = (t : Int) + 20) (g2 : ∀ j, (j < t ∨ t + 20 ≤ j) → S2 (RB + 1) j = S1 (RB + 1) j) (g3 : ∀ k, k < 20 → S2 (RB + 1) (t + k) = byt (fdA a b c d e' k) ((k % 4 : Nat) : Int)) :
    lJ S2 u W T af n e R (t + 20) (fun j => if t ≤ j ∧ j < t + 20 then byt (fdA a b c d e' (j - t)) (((j - t) % 4 : Nat) : Int) else tp j) := by
  have rv := RB_v
  have cv := CK_v
  obtain ⟨⟨x1, x2⟩, ⟨a1, a2, a3⟩, b', ⟨c', d'⟩, ⟨r1, r2, r3, r4, r5⟩, ⟨o1, o2, o3⟩, q⟩ := h
  have F : ∀ r j, r ≠ 1 → (r ≠ 0 ∨ j ≠ 1) → r ≠ RB → r ≠ RB + 1 → S2 r j = S r j := fun r j h1 h2 h3 h4 => by rw [g r j h3 h4, f r j h1 h2]
  have F0 : ∀ k, k ≠ 0 → k ≠ 2 → S2 RB k = S RB k := fun k h1 h2 => by rw [g0 k h1 h2, f RB k (by omega) (by omega)]
  have hu := x1.1.1
  refine ⟨⟨kC_c x1 (fun j hj => F _ _ (by omega) (by omega) (by omega) (by omega)) (fun r j p1 p2 => F _ _ ?_ ?_ ?_ ?_) (fun r j p1 p2 => F _ _ (by omega) (by omega) (by omega) (by omega)), ?_⟩, ⟨by omega, by rw [g 0 1 (by omega) (by omega), f1]; omega, by rw [g1]; omega⟩, fun j hj => ?_, ⟨fun i hi => by rw [F _ _ (by omega) (by omega) (by omega) (by omega)]; exact c' i hi, ?_⟩, ⟨?_, by rw [F0 50 (by omega) (by omega), r2], fun hn => by rw [F0 51 (by omega) (by omega)]; exact r3 hn, fun k hk => by rw [F _ _ (by omega) (by omega) (by omega) (by omega)]; exact r4 k hk, r5⟩, ⟨?_, ?_, ?_⟩, fun j hj => by rw [F _ _ (by omega) (by omega) (by omega) (by omega)]; exact q j hj⟩
  · unfold mU at hu; omega
  · unfold mU at hu; omega
  · unfold mU at hu; omega
  · unfold mU at hu; omega
  · obtain ⟨y1, y2, y3, y4, y5, y6⟩ := x2
    exact ⟨(funext fun j => F _ _ (by omega) (by omega) (by omega) (by omega)).trans y1, y2, y3, rT_o y4 (fun k _ _ => F0 k (by omega) (by omega)) (fun j => F _ _ (by omega) (by omega) (by omega) (by omega)) (fun j => F _ _ (by omega) (by omega) (by omega) (by omega)), fun j hj => by rw [F _ _ (by omega) (by omega) (by omega) (by omega)]; exact y5 j hj, by rw [F0 32 (by omega) (by omega)]; exact y6⟩
  · by_cases w : t ≤ j ∧ j < t + 20
    · obtain ⟨k, rfl⟩ : ∃ k, j = t + k := ⟨j - t, by omega⟩
      dsimp only
      rw [if_pos w, show t + k - t = k by omega, g 1 _ (by omega) (by omega), f3 k (by omega), g3 k (by omega)]
      exact ⟨rfl, rfl, (byt_sb _ _).2⟩
    · dsimp only
      rw [if_neg w, g 1 _ (by omega) (by omega), f2 j (by omega), g2 j (by omega), f (RB + 1) j (by omega) (by omega)]
      exact b' j hj
  · unfold eB at d' ⊢
    rw [F 298 4 (by omega) (by omega) (by omega) (by omega), F 298 6 (by omega) (by omega) (by omega) (by omega), F 298 7 (by omega) (by omega) (by omega) (by omega)]; exact d'
  · have E : ∀ r j, (r = 1232 ∨ r = 1233) → S2 r j = S r j := fun r j hr => F _ _ (by omega) (by omega) (by omega) (by omega)
    unfold rdR at r1 ⊢
    refine ⟨r1.1, fun hn => by rw [E _ _ (by omega)]; exact r1.2.1 hn, fun hn => ?_⟩
    obtain ⟨z1, z2, z3, z4⟩ := r1.2.2 hn
    exact ⟨by rw [E _ _ (by omega), z1], by rw [E _ _ (by omega), z2], by rw [E _ _ (by omega), z3], fun k hk => by rw [E _ _ (by omega)]; exact z4 k hk⟩
  · rw [F CK 5 (by omega) (by omega) (by omega) (by omega), F0 31 (by omega) (by omega), o1]
  · rw [F 0 2 (by omega) (by omega) (by omega) (by omega), F0 14 (by omega) (by omega), o2]
  · rw [F 0 3 (by omega) (by omega) (by omega) (by omega), F0 15 (by omega) (by omega), o3]
/-- a ride of both -/
theorem lJ_ride {S1 S2 : jS} {Q : Nat × Int × (Nat → Int)} (h : lJ S u W T af n e R t tp) (f : frO S S1) (f1 : S1 1232 3 = 1) (f2 : S1 1232 4 = (Q.1 : Int)) (f3 : S1 1232 5 = Q.2.1) (f4 : ∀ k, k < 8 * (Q.1 + 1) → S1 1233 k = Q.2.2 k)
    (g : frV S1 S2) (g1 : S2 RB 50 = (Q.1 : Int)) (g2 : S2 RB 51 = Q.2.1) (g3 : Q.1 ≤ 30) (g4 : ∀ k, k < 8 * (Q.1 + 1) → S2 (RB + 17) k = Q.2.2 k) (g5 : ∀ j, j ≤ Q.1 → rwOk W Q.2.2 j) : lJ S2 u W T af (Q.1 : Int) Q.2.1 Q.2.2 t tp := by
  have rv := RB_v
  have cv := CK_v
  obtain ⟨⟨x1, x2⟩, ⟨a1, a2, a3⟩, b', ⟨c', d'⟩, -, ⟨o1, o2, o3⟩, q⟩ := h
  have hu := x1.1.1
  have E : ∀ r j, r < RB → S2 r j = S1 r j := fun r j hr => g.1 r j (by omega) (by omega) (by omega) (by omega) (by omega) (by omega) (by omega) (by omega)
  have F : ∀ r j, r < 1232 → S2 r j = S r j := fun r j hr => by rw [E r j (by omega), f r j (by omega)]
  have F0 : ∀ k, k ≠ 0 → (k < 22 ∨ 24 < k) → (k < 40 ∨ 48 < k) → k ≠ 50 → k ≠ 51 → S2 RB k = S RB k := fun k h1 h2 h3 h4 h5 => by rw [g.2 k h1 h2 h3 h4 h5, f RB k (by omega)]
  have F1 : ∀ r j, (r = RB + 1 ∨ r = RB + 2 ∨ r = RB + 10 ∨ r = RB + 11) → S2 r j = S r j := fun r j hr => by rw [g.1 r j (by omega) (by omega) (by omega) (by omega) (by omega) (by omega) (by omega) (by omega), f r j (by omega)]
  refine ⟨⟨kC_c x1 (fun j hj => F _ _ (by omega)) (fun r j p1 p2 => F _ _ ?_) (fun r j p1 p2 => F _ _ (by omega)), ?_⟩, ⟨a1, by rw [F 0 1 (by omega), a2], by rw [F0 2 (by omega) (by omega) (by omega) (by omega) (by omega), a3]⟩, fun j hj => ⟨by rw [F 1 j (by omega)]; exact (b' j hj).1, by rw [F1 _ _ (by omega)]; exact (b' j hj).2.1, (b' j hj).2.2⟩, ⟨fun i hi => by rw [F _ _ (by omega)]; exact c' i hi, ?_⟩, ⟨?_, g1, fun _ => g2, fun k hk => g4 k (by omega), fun j hj => g5 j (by omega)⟩, ⟨?_, ?_, ?_⟩, fun j hj => by rw [F1 _ _ (by omega)]; exact q j hj⟩
  · unfold mU at hu; omega
  · obtain ⟨y1, y2, y3, y4, y5, y6⟩ := x2
    exact ⟨(funext fun j => F1 _ _ (by omega)).trans y1, y2, y3, rT_o y4 (fun k _ _ => F0 k (by omega) (by omega) (by omega) (by omega) (by omega)) (fun j => F1 _ _ (by omega)) (fun j => F1 _ _ (by omega)), fun j hj => by rw [F1 _ _ (by omega)]; exact y5 j hj, by rw [F0 32 (by omega) (by omega) (by omega) (by omega) (by omega)]; exact y6⟩
  · unfold eB at d' ⊢
    rw [F 298 4 (by omega), F 298 6 (by omega), F 298 7 (by omega)]; exact d'
  · exact ⟨⟨by omega, by omega⟩, fun hn => by omega, fun _ => ⟨by rw [E _ _ (by omega), f1], by rw [E _ _ (by omega), f2], by rw [E _ _ (by omega), f3], fun k hk => by rw [E _ _ (by omega)]; exact f4 k (by omega)⟩⟩
  · rw [F CK 5 (by omega), F0 31 (by omega) (by omega) (by omega) (by omega) (by omega), o1]
  · rw [F 0 2 (by omega), F0 14 (by omega) (by omega) (by omega) (by omega) (by omega), o2]
  · rw [F 0 3 (by omega), F0 15 (by omega) (by omega) (by omega) (by omega) (by omega), o3]
/-- a text that is no text -/
theorem lJ_bad {S1 S2 : jS} {e1 : Int × Nat} (h : lJ S u W T af n e R t tp)
    (f : ∀ r j, r ≠ 0 → r ≠ 298 → (r < 152 - u ∨ 152 - u + 147 < r) → S1 r j = S r j) (k1 : kC S1 u W T af) (f1 : S1 0 1 = 0) (f2 : S1 0 2 = e1.1) (f3 : S1 0 3 = (e1.2 : Int)) (fe : eB S1)
    (g : ∀ r j, r ≠ RB → r ≠ RB + 3 → r ≠ RB + 4 → S2 r j = S1 r j) (g0 : ∀ k, (k < 6 ∨ 15 < k) → k ≠ 16 → k ≠ 0 → k ≠ 2 → S2 RB k = S1 RB k) (g1 : S2 RB 2 = 0) (g2 : S2 RB 14 = e1.1) (g3 : S2 RB 15 = (e1.2 : Int)) : lJ S2 u W T af n e R 0 tp := by
  have rv := RB_v
  have cv := CK_v
  obtain ⟨⟨x1, x2⟩, -, b', ⟨c', -⟩, ⟨r1, r2, r3, r4, r5⟩, ⟨o1, -, -⟩, q⟩ := h
  have hu := x1.1.1
  have hu2 : u = 2 ∨ u = 150 := by unfold mU at hu; omega
  have E : ∀ r j, r < RB → S2 r j = S1 r j := fun r j hr => g r j (by omega) (by omega) (by omega)
  have F : ∀ r j, (r = 1 ∨ r = 299 ∨ (299 < r ∧ r ≠ RB ∧ r ≠ RB + 3 ∧ r ≠ RB + 4)) → S2 r j = S r j := fun r j hr => by rw [g r j (by omega) (by omega) (by omega), f r j (by omega) (by omega) (by omega)]
  have F0 : ∀ k, (k < 6 ∨ 15 < k) → k ≠ 16 → k ≠ 0 → k ≠ 2 → S2 RB k = S RB k := fun k h1 h2 h3 h4 => by rw [g0 k h1 h2 h3 h4, f RB k (by omega) (by omega) (by omega)]
  refine ⟨⟨kC_lo k1 E, ?_⟩, ⟨by omega, by rw [E 0 1 (by omega), f1]; rfl, by rw [g1]; rfl⟩, fun j hj => ⟨by rw [F 1 j (by omega)]; exact (b' j hj).1, by rw [F (RB + 1) j (by omega)]; exact (b' j hj).2.1, (b' j hj).2.2⟩, ⟨fun i hi => by rw [F _ _ (by omega)]; exact c' i hi, ?_⟩, ⟨?_, by rw [F0 50 (by omega) (by omega) (by omega) (by omega), r2], fun hn => by rw [F0 51 (by omega) (by omega) (by omega) (by omega)]; exact r3 hn, fun k hk => by rw [F _ _ (by omega)]; exact r4 k hk, r5⟩, ⟨?_, ?_, ?_⟩, fun j hj => by rw [F _ _ (by omega)]; exact q j hj⟩
  · obtain ⟨y1, y2, y3, y4, y5, y6⟩ := x2
    exact ⟨(funext fun j => F _ _ (by omega)).trans y1, y2, y3, rT_o y4 (fun k _ _ => F0 k (by omega) (by omega) (by omega) (by omega)) (fun j => F _ _ (by omega)) (fun j => F _ _ (by omega)), fun j hj => by rw [F _ _ (by omega)]; exact y5 j hj, by rw [F0 32 (by omega) (by omega) (by omega) (by omega)]; exact y6⟩
  · unfold eB at fe ⊢
    rw [E 298 4 (by omega), E 298 6 (by omega), E 298 7 (by omega)]; exact fe
  · unfold rdR at r1 ⊢
    refine ⟨r1.1, fun hn => by rw [F _ _ (by omega)]; exact r1.2.1 hn, fun hn => ?_⟩
    obtain ⟨z1, z2, z3, z4⟩ := r1.2.2 hn
    exact ⟨by rw [F _ _ (by omega), z1], by rw [F _ _ (by omega), z2], by rw [F _ _ (by omega), z3], fun k hk => by rw [F _ _ (by omega)]; exact z4 k hk⟩
  · rw [F CK 5 (by omega), F0 31 (by omega) (by omega) (by omega) (by omega), o1]
  · rw [E 0 2 (by omega), f2, g2]
  · rw [E 0 3 (by omega), f3, g3]
/-- a text read by both -/
theorem lJ_ok {S1 S2 : jS} {s1 : Nat → Int} {af' : Nat → Nat} (h : lJ S u W T af n e R t tp) (z9 : ∀ j, 399 ≤ j → s1 j = 0)
    (f : ∀ r j, (r = 1 ∨ r = 299 ∨ 1232 < r) → S1 r j = S r j) (k1 : kC S1 (152 - u) s1 (aBegin s1) af') (f1 : S1 0 1 = 0) (f2 : S1 0 2 = 0) (f3 : S1 0 3 = -1) (f4 : S1 CK 5 = 0) (f5 : S1 1232 3 = 0) (fe : eB S1)
    (g : ∀ r j, r < RB → S2 r j = S1 r j) (g0 : S2 RB 32 = S1 RB 32) (g1 : ∀ j, S2 (RB + 1) j = S1 (RB + 1) j) (g2 : S2 RB 2 = 0) (g3 : S2 RB 14 = 0) (g4 : S2 RB 15 = -1) (g5 : S2 (RB + 2) = s1) (g6 : r32 S2) (g7 : rT (wN s1) S2 (aBegin s1)) (g8 : S2 RB 31 = 0) (g9 : S2 RB 50 = -1) :
    lJ S2 (152 - u) s1 (aBegin s1) af' (-1) 0 R 0 tp := by
  have rv := RB_v
  have cv := CK_v
  obtain ⟨⟨x1, x2⟩, -, b', ⟨c', -⟩, -, -, -⟩ := h
  refine ⟨⟨kC_lo k1 g, g5, k1.2.1.1, k1.2.1.2.1, g7, g6, ?_⟩, ⟨by omega, by rw [g 0 1 (by omega), f1]; rfl, by rw [g2]; rfl⟩, fun j hj => ⟨by rw [g 1 j (by omega), f 1 j (by omega)]; exact (b' j hj).1, by rw [g1, f _ _ (by omega)]; exact (b' j hj).2.1, (b' j hj).2.2⟩, ⟨fun i hi => by rw [g _ _ (by omega), f _ _ (by omega)]; exact c' i hi, ?_⟩, ⟨⟨⟨by omega, by omega⟩, fun _ => by rw [g _ _ (by omega), f5], fun hn => absurd rfl hn⟩, g9, fun hn => absurd rfl hn, fun k hk => by omega, fun j hj => by omega⟩, ⟨?_, ?_, ?_⟩, fun j hj => by rw [g5]; exact z9 j hj⟩
  · rw [g0, f RB 32 (by omega)]; exact x2.2.2.2.2.2
  · unfold eB at fe ⊢
    rw [g 298 4 (by omega), g 298 6 (by omega), g 298 7 (by omega)]; exact fe
  · rw [g CK 5 (by omega), f4, g8]
  · rw [g 0 2 (by omega), f2, g3]
  · rw [g 0 3 (by omega), f3, g4]
end

theorem cn_le {x v d B : Int} (hd : 0 < d) (h : x * d ≤ v * d * B) : x ≤ v * B := by
  refine Int.le_of_mul_le_mul_right (a := d) ?_ hd
  have : v * B * d = v * d * B := by grind
  omega
theorem shft_h {W : Nat → Int} {e : Nat} (he : wfE W e) (k : Nat) : shft W e k = (if W (212 + 19 * e) = 1 then 0 else W (213 + 19 * e) * wA W k) + (if W (214 + 19 * e) = 1 then 0 else W (215 + 19 * e) * wB W k) := by
  obtain ⟨-, -, -, h1, -, h2, -, h3, h4⟩ := he
  unfold shft
  congr 1
  · by_cases c : W (212 + 19 * e) = 2
    · rw [if_pos c, if_neg (by omega)]
    · rw [if_neg c]
      by_cases c1 : W (212 + 19 * e) = 1
      · rw [if_pos c1]
      · rw [if_neg c1, h3 (by omega), Int.zero_mul]
  · by_cases c : W (214 + 19 * e) = 2
    · rw [if_pos c, if_neg (by omega)]
    · rw [if_neg c]
      by_cases c1 : W (214 + 19 * e) = 1
      · rw [if_pos c1]
      · rw [if_neg c1, h4 (by omega), Int.zero_mul]
set_option maxHeartbeats 1000000 in
theorem move_cu {W : Nat → Int} {S : jS} {e : Nat} {u d : Nat → Int} (hw : wfN W) (he : wfE W e) (hs : smL (wN W) u d) (hl : cuL S (wN W) (mvU W e u d) (mvD W e d)) (X Y B : Int) : jumpF W e u d X Y B ↔ cuF W S X Y B := by
  have n24 := wfN_n hw
  obtain ⟨x1, x2, x3, x4, x5, x6, x7, x8⟩ := hw.2.2
  have d0 := (hs 0 (by omega)).2.1
  have d1 := (hs 1 (by omega)).2.1
  have d2 := (hs 2 (by omega)).2.1
  have d3 := (hs 3 (by omega)).2.1
  have cu : cuF W S X Y B ↔ ∀ k, k < wN W → (wA W k * X + wB W k * Y) * d (mvS W e k) ≤ (mvT W e k * u (mvS W e k) + mvH W e k * d (mvS W e k)) * B := by
    unfold cuF
    constructor
    · intro h k hk
      have := h k hk
      rw [(hl k hk).1, (hl k hk).2] at this
      have := this (by have := (hs (mvS W e k) (mvS_b hw hk)).2.1; unfold mvD; omega)
      unfold mvU mvD at this
      exact this
    · intro h k hk _
      rw [(hl k hk).1, (hl k hk).2]
      unfold mvU mvD
      exact h k hk
  rw [cu]
  unfold jumpF limF stays
  generalize hp : W (212 + 19 * e) = px at *
  generalize hq : W (214 + 19 * e) = py at *
  have sh := shft_h he
  rw [hp, hq] at sh
  unfold mvH mvT mvS
  rw [hp, hq]
  generalize hvx : W (213 + 19 * e) = vx at *
  generalize hvy : W (215 + 19 * e) = vy at *
  by_cases cx : px = 1
  · by_cases cy : py = 1
    · -- both are put
      simp only [cx, cy, if_true, and_self]
      constructor
      · rintro ⟨-, h1, h2⟩ k hk
        have h1 := h1 trivial
        have h2 := h2 trivial
        rw [h1, h2]
        generalize d (if 0 < wB W k then 2 else 3) = dd
        generalize u (if 0 < wB W k then 2 else 3) = uu
        have : (wA W k * (vx * B) + wB W k * (vy * B)) * dd = (0 * uu + (wA W k * vx + wB W k * vy) * dd) * B := by grind
        omega
      · intro h
        have q0 := h 0 (by omega)
        have q1 := h 1 (by omega)
        have q2 := h 2 (by omega)
        have q3 := h 3 (by omega)
        rw [x1, x2] at q0
        rw [x3, x4] at q1
        rw [x5, x6] at q2
        rw [x7, x8] at q3
        simp at q0 q1 q2 q3
        have r0 := cn_le (x := X) (v := vx) (B := B) d3 q0
        have r1 := cn_le (x := -X) (v := -vx) (B := B) d3 q1
        have r2 := cn_le (x := Y) (v := vy) (B := B) d2 q2
        have r3 := cn_le (x := -Y) (v := -vy) (B := B) d3 q3
        have e1 : -vx * B = -(vx * B) := by grind
        have e2 : -vy * B = -(vy * B) := by grind
        refine ⟨fun k hk hst => ?_, fun _ => by omega, fun _ => by omega⟩
        exfalso
        have := (hw.2.1 k hk).1.2.2
        refine this ⟨?_, ?_⟩
        · exact hst.1.resolve_left (by simp)
        · exact hst.2.resolve_left (by simp)
    · -- x is put
      simp only [cx, cy, if_true, if_false, and_false]
      constructor
      · rintro ⟨h0, h1, -⟩ k hk
        have h1 := h1 trivial
        have l2 := h0 2 (by omega) ⟨Or.inr x5, Or.inl cy⟩
        have l3 := h0 3 (by omega) ⟨Or.inr x7, Or.inl cy⟩
        rw [sh 2, x5, x6] at l2
        rw [sh 3, x7, x8] at l3
        simp only [cx, cy, if_true, if_false] at l2 l3
        by_cases cb : 0 < wB W k
        · rw [if_pos cb, if_pos (by omega)]
          have := sc_le (t := wB W k) (v := Y - vy * B) (s := wA W k * vx + wB W k * vy) (d := d 2) (u := u 2) (B := B) (by omega) (by
            have e1 : (Y - vy * B) * d 2 = (0 * X + 1 * Y) * d 2 - vy * 1 * d 2 * B := by grind
            have e2 : (u 2 + (0 + vy * 1) * d 2) * B = u 2 * B + vy * 1 * d 2 * B := by grind
            omega)
          rw [h1]
          have e1 : (wA W k * (vx * B) + wB W k * Y) * d 2 = ((wA W k * vx + wB W k * vy) * B + wB W k * (Y - vy * B)) * d 2 := by grind
          omega
        · have eT : (if 0 ≤ wB W k then wB W k else -wB W k) = -wB W k := by split <;> omega
          rw [if_neg cb, eT]
          have := sc_le (t := -wB W k) (v := -(Y - vy * B)) (s := wA W k * vx + wB W k * vy) (d := d 3) (u := u 3) (B := B) (by omega) (by
            have e1 : -(Y - vy * B) * d 3 = (0 * X + -1 * Y) * d 3 - vy * -1 * d 3 * B := by grind
            have e2 : (u 3 + (0 + vy * -1) * d 3) * B = u 3 * B + vy * -1 * d 3 * B := by grind
            omega)
          rw [h1]
          have e1 : (wA W k * (vx * B) + wB W k * Y) * d 3 = ((wA W k * vx + wB W k * vy) * B + -wB W k * -(Y - vy * B)) * d 3 := by grind
          omega
      · intro h
        have q0 := h 0 (by omega)
        have q1 := h 1 (by omega)
        rw [x1, x2] at q0
        rw [x3, x4] at q1
        simp at q0 q1
        have r0 := cn_le (x := X) (v := vx) (B := B) d3 q0
        have r1 := cn_le (x := -X) (v := -vx) (B := B) d3 q1
        have e1 : -vx * B = -(vx * B) := by grind
        refine ⟨fun k hk hst => ?_, fun _ => by omega, fun w => absurd w (by simp)⟩
        have a0 : wA W k = 0 := hst.1.resolve_left (by simp)
        have qk := h k hk
        rw [sh k]
        simp only [cx, cy, if_true, if_false]
        rcases no_x hw hk a0 with e | e <;> subst e
        · rw [x5, x6] at qk ⊢
          simp at qk ⊢
          have : (u 2 + vy * d 2) * B = (u 2 + vy * d 2) * B := rfl
          omega
        · rw [x7, x8] at qk ⊢
          simp at qk ⊢
          omega
  · by_cases cy : py = 1
    · -- y is put
      simp only [cx, cy, if_true, if_false, false_and]
      constructor
      · rintro ⟨h0, -, h1⟩ k hk
        have h1 := h1 trivial
        have l2 := h0 0 (by omega) ⟨Or.inl cx, Or.inr x2⟩
        have l3 := h0 1 (by omega) ⟨Or.inl cx, Or.inr x4⟩
        rw [sh 0, x1, x2] at l2
        rw [sh 1, x3, x4] at l3
        simp only [cx, cy, if_true, if_false] at l2 l3
        by_cases cb : 0 < wA W k
        · rw [if_pos cb, if_pos (by omega)]
          have := sc_le (t := wA W k) (v := X - vx * B) (s := wA W k * vx + wB W k * vy) (d := d 0) (u := u 0) (B := B) (by omega) (by
            have e1 : (X - vx * B) * d 0 = (1 * X + 0 * Y) * d 0 - vx * 1 * d 0 * B := by grind
            have e2 : (u 0 + (vx * 1 + 0) * d 0) * B = u 0 * B + vx * 1 * d 0 * B := by grind
            omega)
          rw [h1]
          have e1 : (wA W k * X + wB W k * (vy * B)) * d 0 = ((wA W k * vx + wB W k * vy) * B + wA W k * (X - vx * B)) * d 0 := by grind
          omega
        · have eT : (if 0 ≤ wA W k then wA W k else -wA W k) = -wA W k := by split <;> omega
          rw [if_neg cb, eT]
          have := sc_le (t := -wA W k) (v := -(X - vx * B)) (s := wA W k * vx + wB W k * vy) (d := d 1) (u := u 1) (B := B) (by omega) (by
            have e1 : -(X - vx * B) * d 1 = (-1 * X + 0 * Y) * d 1 - vx * -1 * d 1 * B := by grind
            have e2 : (u 1 + (vx * -1 + 0) * d 1) * B = u 1 * B + vx * -1 * d 1 * B := by grind
            omega)
          rw [h1]
          have e1 : (wA W k * X + wB W k * (vy * B)) * d 1 = ((wA W k * vx + wB W k * vy) * B + -wA W k * -(X - vx * B)) * d 1 := by grind
          omega
      · intro h
        have q0 := h 2 (by omega)
        have q1 := h 3 (by omega)
        rw [x5, x6] at q0
        rw [x7, x8] at q1
        simp at q0 q1
        have r0 := cn_le (x := Y) (v := vy) (B := B) d1 q0
        have r1 := cn_le (x := -Y) (v := -vy) (B := B) d1 q1
        have e1 : -vy * B = -(vy * B) := by grind
        refine ⟨fun k hk hst => ?_, fun w => absurd w (by simp), fun _ => by omega⟩
        have a0 : wB W k = 0 := hst.2.resolve_left (by simp)
        have qk := h k hk
        rw [sh k]
        simp only [cx, cy, if_true, if_false]
        rcases no_y hw hk a0 with e | e <;> subst e
        · rw [x1, x2] at qk ⊢
          simp at qk ⊢
          omega
        · rw [x3, x4] at qk ⊢
          simp at qk ⊢
          omega
    · simp only [cx, cy, if_false, false_and]
      constructor
      · rintro ⟨h0, -⟩ k hk
        have := h0 k hk ⟨Or.inl cx, Or.inl cy⟩
        rw [sh k] at this
        simp only [cx, cy, if_false] at this
        have e1 : (u k + (vx * wA W k + vy * wB W k) * d k) * B = (1 * u k + (wA W k * vx + wB W k * vy) * d k) * B := by grind
        omega
      · intro h
        refine ⟨fun k hk _ => ?_, fun w => absurd w (by simp), fun w => absurd w (by simp)⟩
        have := h k hk
        rw [sh k]
        simp only [cx, cy, if_false]
        have e1 : (u k + (vx * wA W k + vy * wB W k) * d k) * B = (1 * u k + (wA W k * vx + wB W k * vy) * d k) * B := by grind
        omega

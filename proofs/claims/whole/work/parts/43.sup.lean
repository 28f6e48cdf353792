/-! There is a most, where there are points at all. -/
theorem hol_sup {S : jS} {n k : Nat} {F : Int → Int → Int → Prop} (hW : gW S n) (hn : nok S n) (h4 : ∀ k, k < 4 → wI S k ≠ 0) (hF : ∀ X Y B, 0 < B → (hol S n X Y B ↔ F X Y B)) (ne : neF F) (hk : k < n) : ∃ u d, supP F (nA S k) (nB S k) u d := by
  obtain ⟨i, j, c1, c2, c3, c4⟩ := hol_fund hW hn h4 ((neF_congr hF).mpr ne) hk
  have cb := cB_pos hW (by omega) c2 c3.1
  have g := ig_pos (a := vk S k i j) cb
  have gu : vk S k i j / ig (vk S k i j) (cB S i j) * ig (vk S k i j) (cB S i j) = vk S k i j := Int.ediv_mul_cancel (Int.gcd_dvd_left _ _)
  have gd : cB S i j / ig (vk S k i j) (cB S i j) * ig (vk S k i j) (cB S i j) = cB S i j := Int.ediv_mul_cancel (Int.gcd_dvd_right _ _)
  refine ⟨vk S k i j / ig (vk S k i j) (cB S i j), cB S i j / ig (vk S k i j) (cB S i j), div_pos' cb g (Int.gcd_dvd_right _ _), Int.gcd_ediv_gcd_ediv_gcd (by unfold ig at g; omega), fun X Y B hB f => ?_, cX S i j, cY S i j, cB S i j, cb, (hF _ _ _ cb).mp c3.2, ?_⟩
  · have := c4 X Y B hB ((hF X Y B hB).mpr f)
    refine Int.le_of_mul_le_mul_right (a := ig (vk S k i j) (cB S i j)) ?_ g
    have e1 : (nA S k * X + nB S k * Y) * (cB S i j / ig (vk S k i j) (cB S i j)) * ig (vk S k i j) (cB S i j) = (nA S k * X + nB S k * Y) * (cB S i j / ig (vk S k i j) (cB S i j) * ig (vk S k i j) (cB S i j)) := by grind
    have e2 : vk S k i j / ig (vk S k i j) (cB S i j) * B * ig (vk S k i j) (cB S i j) = (vk S k i j / ig (vk S k i j) (cB S i j) * ig (vk S k i j) (cB S i j)) * B := by grind
    rw [e1, e2, gu, gd]
    exact this
  · refine Int.eq_of_mul_eq_mul_right (a := ig (vk S k i j) (cB S i j)) (by omega) ?_
    have e1 : (nA S k * cX S i j + nB S k * cY S i j) * (cB S i j / ig (vk S k i j) (cB S i j)) * ig (vk S k i j) (cB S i j) = vk S k i j * (cB S i j / ig (vk S k i j) (cB S i j) * ig (vk S k i j) (cB S i j)) := by unfold vk; grind
    have e2 : vk S k i j / ig (vk S k i j) (cB S i j) * cB S i j * ig (vk S k i j) (cB S i j) = (vk S k i j / ig (vk S k i j) (cB S i j) * ig (vk S k i j) (cB S i j)) * cB S i j := by grind
    rw [e1, e2, gu, gd]
/-- rows that hold limits -/
def lay3 (W : Nat → Int) (i : Int) (u d : Nat → Int) : jS := fun r j => if r = RB + 2 then W j else if r = RB + 5 then i else if r = RB + 6 then u j else if r = RB + 7 then d j else 0
theorem lay3_W (W : Nat → Int) (i : Int) (u d : Nat → Int) : lay3 W i u d (RB + 2) = W := by funext j; simp [lay3]
theorem lay3_w (W : Nat → Int) (i : Int) (u d : Nat → Int) (k : Nat) : wI (lay3 W i u d) k = i ∧ wU (lay3 W i u d) k = u k ∧ wD (lay3 W i u d) k = d k := by
  refine ⟨?_, ?_, ?_⟩
  · simp [wI, lay3]
  · simp [wU, lay3]
  · simp [wD, lay3]
theorem lay3_gW {W : Nat → Int} {n : Nat} {u d : Nat → Int} (h : ∀ k, k < n → (-100000000 ≤ u k ∧ u k ≤ 100000000) ∧ 0 < d k ∧ d k ≤ 3000) : gW (lay3 W 1 u d) n := fun k hk => by
  rw [(lay3_w W 1 u d k).1, (lay3_w W 1 u d k).2.1, (lay3_w W 1 u d k).2.2]
  exact ⟨Or.inr rfl, fun _ => h k hk⟩
theorem nA_W {S : jS} {W : Nat → Int} (e : S (RB + 2) = W) (k : Nat) : nA S k = wA W k := by subst e; rfl
theorem nB_W {S : jS} {W : Nat → Int} (e : S (RB + 2) = W) (k : Nat) : nB S k = wB W k := by subst e; rfl
theorem supW {S : jS} {W : Nat → Int} {F : Int → Int → Int → Prop} (e : S (RB + 2) = W) (hw : wfW W) (hW : gW S (wN W)) (h4 : ∀ k, k < 4 → wI S k ≠ 0) (hF : ∀ X Y B, 0 < B → (hol S (wN W) X Y B ↔ F X Y B)) (ne : neF F) {k : Nat} (hk : k < wN W) : supP F (wA W k) (wB W k) (tuF W F k) (tdF W F k) := by
  obtain ⟨u, d, h⟩ := hol_sup hW (W_nok e hw) h4 hF ne hk
  rw [nA_W e, nB_W e] at h
  exact tP_sup h
theorem W_bok {S : jS} {W : Nat → Int} (e : S (RB + 2) = W) {n f m : Nat} (h : bokW W n f m) : bok S n f m := by subst e; exact h
theorem sup_cuts {W : Nat → Int} (hw : wfW W) {u d : Nat → Int} (h : ∀ k, k < wN W → (-100000000 ≤ u k ∧ u k ≤ 100000000) ∧ 0 < d k ∧ d k ≤ 3000) {f m : Nat} (hb : bokW W (wN W) f m) (ne : neF (fun X Y B => limF W (fun _ => True) u d X Y B ∧ bndF W f m X Y B)) {k : Nat} (hk : k < wN W) :
    supP (fun X Y B => limF W (fun _ => True) u d X Y B ∧ bndF W f m X Y B) (wA W k) (wB W k) (tuF W (fun X Y B => limF W (fun _ => True) u d X Y B ∧ bndF W f m X Y B) k) (tdF W (fun X Y B => limF W (fun _ => True) u d X Y B ∧ bndF W f m X Y B) k) := by
  have e := lay3_W W 1 u d
  have g := lay3_gW (W := W) h
  have b := W_bok e hb
  refine supW (S := rcuts (lay3 W 1 u d) f m) ((funext fun j => rcuts_o _ _ (by simp) _).trans e) hw (gW_cuts g _ b) (fun k _ => wI_cuts (by rw [(lay3_w W 1 u d k).1]; decide) _) (fun X Y B hB => ?_) ne hk
  rw [hol_cuts g hB _ b, e, hol_all e (fun k _ => (lay3_w W 1 u d k).1) (fun k _ => (lay3_w W 1 u d k).2)]
theorem sup_grow {W : Nat → Int} (hw : wfW W) {m : Nat} (hm : (m : Int) < W 0) {u d : Nat → Int} (h : ∀ k, k < wN W → (-100000000 ≤ u k ∧ u k ≤ 100000000) ∧ 0 < d k ∧ d k ≤ 3000) (ne : neF (growF W m u d)) {k : Nat} (hk : k < wN W) : supP (growF W m u d) (wA W k) (wB W k) (tuF W (growF W m u d) k) (tdF W (growF W m u d) k) := by
  have e := lay3_W W 1 u d
  have g := lay3_gW (W := W) h
  obtain ⟨-, mo, -, -, -⟩ := W_mok e hw hm
  have nk := W_nok e hw
  refine supW (S := rgr (lay3 W 1 u d) (wN W) m) ((funext fun j => rgr_o _ _ _ (by simp)).trans e) hw (gW_gr g mo) (fun k hk => wI_kept hk) (fun X Y B hB => ?_) ne hk
  unfold rgr growF
  rw [hol_kept (gW_g _ _ g) (nok_g.mpr nk) (mok_g _ _ _ mo) hB, hol_grow (W_gN e hw).1 (fun k _ => (lay3_w W 1 u d k).1), show rgrow (lay3 W 1 u d) (mP (lay3 W 1 u d) m) (mQ (lay3 W 1 u d) m) (wN W) (RB + 2) = W from (funext fun j => rgrow_o _ _ _ _ (by simp)).trans e, e, lim_congr (fun k _ => (lay3_w W 1 u d k).2)]
theorem sup_jump {W : Nat → Int} (hw : wfW W) {i m : Nat} (hi : (i : Int) < W 1) (hm : (m : Int) < W 0) {u d : Nat → Int} (h : ∀ k, k < wN W → (-3000000 ≤ u k ∧ u k ≤ 3000000) ∧ 0 < d k ∧ d k ≤ 3000) (ne : neF (fun X Y B => jumpF W i u d X Y B ∧ keepF W m X Y B)) {k : Nat} (hk : k < wN W) :
    supP (fun X Y B => jumpF W i u d X Y B ∧ keepF W m X Y B) (wA W k) (wB W k) (tuF W (fun X Y B => jumpF W i u d X Y B ∧ keepF W m X Y B) k) (tdF W (fun X Y B => jumpF W i u d X Y B ∧ keepF W m X Y B) k) := by
  have e := lay3_W W 1 u d
  obtain ⟨-, mo, -, -, -⟩ := W_mok e hw hm
  have nk := W_nok e hw
  have gn := W_gN e hw
  have eo := (W_eok e hw hi).2.1
  have hU : ∀ k, k < wN W → (-3000000 ≤ wU (lay3 W 1 u d) k ∧ wU (lay3 W 1 u d) k ≤ 3000000) ∧ 0 < wD (lay3 W 1 u d) k ∧ wD (lay3 W 1 u d) k ≤ 3000 := fun k hk => by rw [(lay3_w W 1 u d k).2.1, (lay3_w W 1 u d k).2.2]; exact h k hk
  have inv : ∃ S', jinv (lay3 W 1 u d) S' (lay3 W 1 u d (RB + 2) (212 + 19 * i)) (lay3 W 1 u d (RB + 2) (214 + 19 * i)) (lay3 W 1 u d (RB + 2) (213 + 19 * i)) (lay3 W 1 u d (RB + 2) (215 + 19 * i)) (wN W) := by
    have : ∀ c, ∃ S', jinv (lay3 W 1 u d) S' (lay3 W 1 u d (RB + 2) (212 + 19 * i)) (lay3 W 1 u d (RB + 2) (214 + 19 * i)) (lay3 W 1 u d (RB + 2) (213 + 19 * i)) (lay3 W 1 u d (RB + 2) (215 + 19 * i)) c := by
      intro c
      induction c with
      | zero => exact ⟨_, fun _ _ _ _ => rfl, fun j hj => by omega, fun j _ => ⟨rfl, rfl⟩⟩
      | succ c ih => obtain ⟨S', q⟩ := ih; exact ⟨_, jinv_s q⟩
    exact this _
  obtain ⟨S', inv⟩ := inv
  have hol4 := fun X Y B => hol_jump (e := i) (X := X) (Y := Y) (B := B) nk gn.1 inv
  have gw4 := gW_jump gn eo hU inv
  have fr4 : fr9 (lay3 W 1 u d) (rjs S' (lay3 W 1 u d (RB + 2) (212 + 19 * i)) (lay3 W 1 u d (RB + 2) (214 + 19 * i)) (lay3 W 1 u d (RB + 2) (213 + 19 * i)) (lay3 W 1 u d (RB + 2) (215 + 19 * i))) := fr9.of fun r j h => by rw [rjs_o _ _ _ _ _ h]; exact inv.1 r j h.1 h.2.1
  generalize rjs S' (lay3 W 1 u d (RB + 2) (212 + 19 * i)) (lay3 W 1 u d (RB + 2) (214 + 19 * i)) (lay3 W 1 u d (RB + 2) (213 + 19 * i)) (lay3 W 1 u d (RB + 2) (215 + 19 * i)) = S5 at *
  have e5 : S5 (RB + 2) = W := by rw [fr4.W, e]
  obtain ⟨-, mo5, -⟩ := W_mok e5 hw hm
  refine supW (S := rkept S5 m) ((funext fun j => rkept_o _ _ (by simp)).trans e5) hw (gW_kept gw4 mo5) (fun k hk => wI_kept hk) (fun X Y B hB => ?_) ne hk
  rw [hol_kept gw4 (W_nok e5 hw) mo5 hB, hol4, e5, e, jump_congr (fun k _ => (lay3_w W 1 u d k).2)]

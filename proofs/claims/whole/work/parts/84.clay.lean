/-! The class's cells: models (mU), normals (nU), checks (hU), bounds (bU), parts (pU), regions (rU), ratios (aU). -/
def mU (u : Nat) : Prop := u = 2 ∨ u = 150
def nU (w : Nat) : Prop := ∃ u, mU u ∧ w = u + 1
def hU (c : Nat) : Prop := c = 361 ∨ c = 794
def bU (v : Nat) : Prop := ∃ u, mU u ∧ ((∃ i, i < 12 ∧ v = u + 10 + 6 * i) ∨ (∃ e, e < 10 ∧ v = u + 85 + 6 * e))
def pU (q : Nat) : Prop := ∃ c p, hU c ∧ p < 61 ∧ q = c + 2 + 7 * p
def rU (r : Nat) : Prop := (∃ q, pU q ∧ (r = q + 1 ∨ r = q + 4)) ∨ ∃ c, hU c ∧ r = c + 430
def aU (q : Nat) : Prop := (307 ≤ q ∧ q < 357) ∨ (1229 ≤ q ∧ q < 1232) ∨ (1234 ≤ q ∧ q < 1237)
theorem LAY_m {u j : Nat} (h : mU u) (hj : j < 148) : LAY (u + j) = LM u j := by
  unfold LAY
  rcases h with h | h <;> subst h
  · rw [if_neg (by omega), if_pos (by omega), show (2 + j - 2) / 148 = 0 by omega, show (2 + j - 2) % 148 = j by omega]
  · rw [if_neg (by omega), if_pos (by omega), show (150 + j - 2) / 148 = 1 by omega, show (150 + j - 2) % 148 = j by omega]
theorem LAY_h {u j : Nat} (h : hU u) (hj : j < 433) : LAY (u + j) = LH u j := by
  unfold LAY
  rcases h with h | h <;> subst h
  · rw [if_neg (by omega), if_neg (by omega), if_neg (by omega), if_pos (by omega), show (361 + j - 361) / 433 = 0 by omega, show (361 + j - 361) % 433 = j by omega]
  · rw [if_neg (by omega), if_neg (by omega), if_neg (by omega), if_pos (by omega), show (794 + j - 361) / 433 = 1 by omega, show (794 + j - 361) % 433 = j by omega]
theorem LM_d {u j : Nat} (h : (9 < j ∧ j < 82) ∨ (84 < j ∧ j < 145)) : LM u j = if j < 82 then (match (j - 10) % 6 with
      | 0 => (0, 0, 0, (jsf [u + j + 2, u + j + 3, u + j + 4, u + j + 5, u + j + 6, 0]))
      | _ => (1, 0, 4, jno))
    else (match (j - 85) % 6 with
      | 0 => (0, 0, 0, (jsf [u + j + 2, u + j + 3, u + j + 4, u + j + 5, u + j + 6, 0]))
      | _ => (1, 0, 4, jno)) := by
  unfold LM
  split <;> first | omega | rfl
theorem LH_d {u j : Nat} (h : 2 ≤ j ∧ j < 429) : LH u j = match (j - 2) % 7 with
    | 0 => (0, 5, 0, (jsf [u + j + 2, u + j + 5, 0, 0, 0, 0, 0, 0, 0, 0]))
    | 1 => (0, 8, 0, (jsf [u + j + 2, u + j + 3]))
    | 4 => (0, 8, 0, (jsf [u + j + 2, u + j + 3]))
    | _ => (1, 0, 24, jno) := by
  unfold LH
  split <;> first | omega | rfl
theorem jobj_of (z : Nat) (S : jS) {p ci : Nat} {s : Nat × (Nat → Option Nat)} (hp : p < NC) (h : LAY p = (0, ci, s)) : jobj (mm z S) (p : Int) ci = True := eq_true ⟨⟨Int.natCast_nonneg _, Nat.lt_of_lt_of_le hp (mm_N z S)⟩, by rw [mm_L, Int.toNat_natCast, h], by rw [mm_L, Int.toNat_natCast, h]⟩
theorem jarr_of (z : Nat) (S : jS) (x : Int) {p s c n : Nat} {f : Nat → Option Nat} (hp : p < NC) (h : LAY p = (s, c, n, f)) (hn : n ≤ 2147483647) : jarr (mm z S) (p : Int) x s = (0 ≤ x ∧ x < (n : Int)) := by
  unfold jarr jptr
  rw [mm_L, Int.toNat_natCast, h]
  exact propext ⟨fun h => ⟨h.2.2.1, h.2.2.2.1⟩, fun h => ⟨⟨Int.natCast_nonneg _, Nat.lt_of_lt_of_le hp (mm_N z S)⟩, rfl, h.1, h.2, hn⟩⟩
theorem jrd_1 (z : Nat) (S : jS) (q i : Nat) : jrd (mm z S) (q : Int) i 1 = S q i := rfl
theorem jrd_2 (z : Nat) (S : jS) (q i : Nat) : jrd (mm z S) (q : Int) i 2 = S q i := rfl
theorem jrd_3 (z : Nat) (S : jS) (q i : Nat) : jrd (mm z S) (q : Int) i 3 = S q i := rfl
theorem NC_v : NC = 1258 := rfl
theorem L_M {u : Nat} (h : mU u) : LAY u = (0, 3, 0, jsf [u + 2, u + 6, u + 7, u + 8, u + 9, u + 10, u + 83, u + 84, u + 85, u + 146, u + 147, u + 148, 0, 0, 0, 0]) ∧ u < NC := by
  exact ⟨(LAY_m (j := 0) h (by omega)).trans rfl, by rcases h with h | h <;> rw [h, NC_v] <;> omega⟩
theorem jobj_M (z : Nat) (S : jS) {u : Nat} (h : mU u) : jobj (mm z S) (u : Int) 3 = True := jobj_of z S (L_M h).2 (L_M h).1
theorem jfd_M0 {u : Nat} (h : mU u) (x : Int) : jfd (LAY u) 2 0 x = (2, ((u + 1 : Nat) : Int)) := by rw [(L_M h).1]; rfl
theorem jfd_M1 {u : Nat} (h : mU u) (x : Int) : jfd (LAY u) 2 1 x = (2, ((u + 5 : Nat) : Int)) := by rw [(L_M h).1]; rfl
theorem jfd_M2 {u : Nat} (h : mU u) (x : Int) : jfd (LAY u) 2 2 x = (2, ((u + 6 : Nat) : Int)) := by rw [(L_M h).1]; rfl
theorem jfd_M3 {u : Nat} (h : mU u) (x : Int) : jfd (LAY u) 2 3 x = (2, ((u + 7 : Nat) : Int)) := by rw [(L_M h).1]; rfl
theorem jfd_M4 {u : Nat} (h : mU u) (x : Int) : jfd (LAY u) 2 4 x = (2, ((u + 8 : Nat) : Int)) := by rw [(L_M h).1]; rfl
theorem jfd_M5 {u : Nat} (h : mU u) (x : Int) : jfd (LAY u) 2 5 x = (2, ((u + 9 : Nat) : Int)) := by rw [(L_M h).1]; rfl
theorem jfd_M6 {u : Nat} (h : mU u) (x : Int) : jfd (LAY u) 2 6 x = (2, ((u + 82 : Nat) : Int)) := by rw [(L_M h).1]; rfl
theorem jfd_M7 {u : Nat} (h : mU u) (x : Int) : jfd (LAY u) 2 7 x = (2, ((u + 83 : Nat) : Int)) := by rw [(L_M h).1]; rfl
theorem jfd_M8 {u : Nat} (h : mU u) (x : Int) : jfd (LAY u) 2 8 x = (2, ((u + 84 : Nat) : Int)) := by rw [(L_M h).1]; rfl
theorem jfd_M9 {u : Nat} (h : mU u) (x : Int) : jfd (LAY u) 2 9 x = (2, ((u + 145 : Nat) : Int)) := by rw [(L_M h).1]; rfl
theorem jfd_M10 {u : Nat} (h : mU u) (x : Int) : jfd (LAY u) 2 10 x = (2, ((u + 146 : Nat) : Int)) := by rw [(L_M h).1]; rfl
theorem jfd_M11 {u : Nat} (h : mU u) (x : Int) : jfd (LAY u) 2 11 x = (2, ((u + 147 : Nat) : Int)) := by rw [(L_M h).1]; rfl
theorem jfd_M12 {u : Nat} (h : mU u) (x : Int) : jfd (LAY u) 0 12 x = (0, x) := by rw [(L_M h).1]; rfl
theorem jsn_M12 {u : Nat} (h : mU u) : ((LAY u).2.2.2 12 = none) = True := eq_true (by rw [(L_M h).1]; rfl)
theorem jfd_M13 {u : Nat} (h : mU u) (x : Int) : jfd (LAY u) 0 13 x = (0, x) := by rw [(L_M h).1]; rfl
theorem jsn_M13 {u : Nat} (h : mU u) : ((LAY u).2.2.2 13 = none) = True := eq_true (by rw [(L_M h).1]; rfl)
theorem jfd_M14 {u : Nat} (h : mU u) (x : Int) : jfd (LAY u) 0 14 x = (0, x) := by rw [(L_M h).1]; rfl
theorem jsn_M14 {u : Nat} (h : mU u) : ((LAY u).2.2.2 14 = none) = True := eq_true (by rw [(L_M h).1]; rfl)
theorem jfd_M15 {u : Nat} (h : mU u) (x : Int) : jfd (LAY u) 0 15 x = (0, x) := by rw [(L_M h).1]; rfl
theorem jsn_M15 {u : Nat} (h : mU u) : ((LAY u).2.2.2 15 = none) = True := eq_true (by rw [(L_M h).1]; rfl)
theorem jarr_M5 (z : Nat) (S : jS) {u : Nat} (h : mU u) (x : Int) : jarr (mm z S) ((u + 5 : Nat) : Int) x 1 = (0 ≤ x ∧ x < 6) := by
  exact jarr_of (n := 6) z S x (by rcases h with h | h <;> rw [h, NC_v] <;> omega) ((LAY_m (j := 5) h (by omega)).trans rfl) (by omega)
theorem jarr_M6 (z : Nat) (S : jS) {u : Nat} (h : mU u) (x : Int) : jarr (mm z S) ((u + 6 : Nat) : Int) x 1 = (0 ≤ x ∧ x < 6) := by
  exact jarr_of (n := 6) z S x (by rcases h with h | h <;> rw [h, NC_v] <;> omega) ((LAY_m (j := 6) h (by omega)).trans rfl) (by omega)
theorem jarr_M7 (z : Nat) (S : jS) {u : Nat} (h : mU u) (x : Int) : jarr (mm z S) ((u + 7 : Nat) : Int) x 1 = (0 ≤ x ∧ x < 6) := by
  exact jarr_of (n := 6) z S x (by rcases h with h | h <;> rw [h, NC_v] <;> omega) ((LAY_m (j := 7) h (by omega)).trans rfl) (by omega)
theorem jarr_M82 (z : Nat) (S : jS) {u : Nat} (h : mU u) (x : Int) : jarr (mm z S) ((u + 82 : Nat) : Int) x 1 = (0 ≤ x ∧ x < 10) := by
  exact jarr_of (n := 10) z S x (by rcases h with h | h <;> rw [h, NC_v] <;> omega) ((LAY_m (j := 82) h (by omega)).trans rfl) (by omega)
theorem jarr_M83 (z : Nat) (S : jS) {u : Nat} (h : mU u) (x : Int) : jarr (mm z S) ((u + 83 : Nat) : Int) x 1 = (0 ≤ x ∧ x < 10) := by
  exact jarr_of (n := 10) z S x (by rcases h with h | h <;> rw [h, NC_v] <;> omega) ((LAY_m (j := 83) h (by omega)).trans rfl) (by omega)
theorem jarr_M145 (z : Nat) (S : jS) {u : Nat} (h : mU u) (x : Int) : jarr (mm z S) ((u + 145 : Nat) : Int) x 1 = (0 ≤ x ∧ x < 20) := by
  exact jarr_of (n := 20) z S x (by rcases h with h | h <;> rw [h, NC_v] <;> omega) ((LAY_m (j := 145) h (by omega)).trans rfl) (by omega)
theorem jarr_M146 (z : Nat) (S : jS) {u : Nat} (h : mU u) (x : Int) : jarr (mm z S) ((u + 146 : Nat) : Int) x 1 = (0 ≤ x ∧ x < 20) := by
  exact jarr_of (n := 20) z S x (by rcases h with h | h <;> rw [h, NC_v] <;> omega) ((LAY_m (j := 146) h (by omega)).trans rfl) (by omega)
theorem jarr_M147 (z : Nat) (S : jS) {u : Nat} (h : mU u) (x : Int) : jarr (mm z S) ((u + 147 : Nat) : Int) x 1 = (0 ≤ x ∧ x < 4) := by
  exact jarr_of (n := 4) z S x (by rcases h with h | h <;> rw [h, NC_v] <;> omega) ((LAY_m (j := 147) h (by omega)).trans rfl) (by omega)
theorem jarr_M8 (z : Nat) (S : jS) {u : Nat} (h : mU u) (x : Int) : jarr (mm z S) ((u + 8 : Nat) : Int) x 5 = (0 ≤ x ∧ x < 6) := by
  exact jarr_of (n := 6) z S x (by rcases h with h | h <;> rw [h, NC_v] <;> omega) ((LAY_m (j := 8) h (by omega)).trans rfl) (by omega)
theorem jrd_M8 (z : Nat) (S : jS) {u : Nat} (h : mU u) (i : Nat) : jrd (mm z S) ((u + 8 : Nat) : Int) i 5 = ((u + 10 + 12 * i : Nat) : Int) := by
  unfold jrd
  rw [if_neg (by omega), mm_L, Int.toNat_natCast, LAY_m h (by omega)]
  rfl
theorem jarr_M9 (z : Nat) (S : jS) {u : Nat} (h : mU u) (x : Int) : jarr (mm z S) ((u + 9 : Nat) : Int) x 5 = (0 ≤ x ∧ x < 6) := by
  exact jarr_of (n := 6) z S x (by rcases h with h | h <;> rw [h, NC_v] <;> omega) ((LAY_m (j := 9) h (by omega)).trans rfl) (by omega)
theorem jrd_M9 (z : Nat) (S : jS) {u : Nat} (h : mU u) (i : Nat) : jrd (mm z S) ((u + 9 : Nat) : Int) i 5 = ((u + 16 + 12 * i : Nat) : Int) := by
  unfold jrd
  rw [if_neg (by omega), mm_L, Int.toNat_natCast, LAY_m h (by omega)]
  rfl
theorem jarr_M84 (z : Nat) (S : jS) {u : Nat} (h : mU u) (x : Int) : jarr (mm z S) ((u + 84 : Nat) : Int) x 5 = (0 ≤ x ∧ x < 10) := by
  exact jarr_of (n := 10) z S x (by rcases h with h | h <;> rw [h, NC_v] <;> omega) ((LAY_m (j := 84) h (by omega)).trans rfl) (by omega)
theorem jrd_M84 (z : Nat) (S : jS) {u : Nat} (h : mU u) (i : Nat) : jrd (mm z S) ((u + 84 : Nat) : Int) i 5 = ((u + 85 + 6 * i : Nat) : Int) := by
  unfold jrd
  rw [if_neg (by omega), mm_L, Int.toNat_natCast, LAY_m h (by omega)]
  rfl
theorem L_N {w : Nat} (h : nU w) : LAY w = (0, 4, 0, jsf [w + 2, w + 3, w + 4, 0]) ∧ w < NC := by
  obtain ⟨u, hu, rfl⟩ := h
  exact ⟨(LAY_m (j := 1) hu (by omega)).trans rfl, by rcases hu with h | h <;> rw [h, NC_v] <;> omega⟩
theorem jobj_N (z : Nat) (S : jS) {w : Nat} (h : nU w) : jobj (mm z S) (w : Int) 4 = True := jobj_of z S (L_N h).2 (L_N h).1
theorem jfd_N0 {w : Nat} (h : nU w) (x : Int) : jfd (LAY w) 2 0 x = (2, ((w + 1 : Nat) : Int)) := by rw [(L_N h).1]; rfl
theorem jfd_N1 {w : Nat} (h : nU w) (x : Int) : jfd (LAY w) 2 1 x = (2, ((w + 2 : Nat) : Int)) := by rw [(L_N h).1]; rfl
theorem jfd_N2 {w : Nat} (h : nU w) (x : Int) : jfd (LAY w) 2 2 x = (2, ((w + 3 : Nat) : Int)) := by rw [(L_N h).1]; rfl
theorem jfd_N3 {w : Nat} (h : nU w) (x : Int) : jfd (LAY w) 0 3 x = (0, x) := by rw [(L_N h).1]; rfl
theorem jsn_N3 {w : Nat} (h : nU w) : ((LAY w).2.2.2 3 = none) = True := eq_true (by rw [(L_N h).1]; rfl)
theorem jarr_N1 (z : Nat) (S : jS) {w : Nat} (h : nU w) (x : Int) : jarr (mm z S) ((w + 1 : Nat) : Int) x 1 = (0 ≤ x ∧ x < 24) := by
  obtain ⟨u, hu, rfl⟩ := h
  exact jarr_of (n := 24) z S x (by rcases hu with h | h <;> rw [h, NC_v] <;> omega) ((LAY_m (j := 2) hu (by omega)).trans rfl) (by omega)
theorem jarr_N2 (z : Nat) (S : jS) {w : Nat} (h : nU w) (x : Int) : jarr (mm z S) ((w + 2 : Nat) : Int) x 1 = (0 ≤ x ∧ x < 24) := by
  obtain ⟨u, hu, rfl⟩ := h
  exact jarr_of (n := 24) z S x (by rcases hu with h | h <;> rw [h, NC_v] <;> omega) ((LAY_m (j := 3) hu (by omega)).trans rfl) (by omega)
theorem jarr_N3 (z : Nat) (S : jS) {w : Nat} (h : nU w) (x : Int) : jarr (mm z S) ((w + 3 : Nat) : Int) x 1 = (0 ≤ x ∧ x < 24) := by
  obtain ⟨u, hu, rfl⟩ := h
  exact jarr_of (n := 24) z S x (by rcases hu with h | h <;> rw [h, NC_v] <;> omega) ((LAY_m (j := 4) hu (by omega)).trans rfl) (by omega)
theorem L_B {v : Nat} (h : bU v) : LAY v = (0, 0, 0, jsf [v + 2, v + 3, v + 4, v + 5, v + 6, 0]) ∧ v < NC := by
  obtain ⟨u, hu, ⟨i, hi, rfl⟩ | ⟨i, hi, rfl⟩⟩ := h
  · refine ⟨?_, by rcases hu with h | h <;> rw [h, NC_v] <;> omega⟩
    rw [show u + 10 + 6 * i = u + (10 + 6 * i) by omega, LAY_m hu (by omega), LM_d (by omega), if_pos (by omega), show (10 + 6 * i - 10) % 6 = 0 by omega]; rfl
  · refine ⟨?_, by rcases hu with h | h <;> rw [h, NC_v] <;> omega⟩
    rw [show u + 85 + 6 * i = u + (85 + 6 * i) by omega, LAY_m hu (by omega), LM_d (by omega), if_neg (by omega), show (85 + 6 * i - 85) % 6 = 0 by omega]; rfl
theorem jobj_B (z : Nat) (S : jS) {v : Nat} (h : bU v) : jobj (mm z S) (v : Int) 0 = True := jobj_of z S (L_B h).2 (L_B h).1
theorem jfd_B0 {v : Nat} (h : bU v) (x : Int) : jfd (LAY v) 2 0 x = (2, ((v + 1 : Nat) : Int)) := by rw [(L_B h).1]; rfl
theorem jfd_B1 {v : Nat} (h : bU v) (x : Int) : jfd (LAY v) 2 1 x = (2, ((v + 2 : Nat) : Int)) := by rw [(L_B h).1]; rfl
theorem jfd_B2 {v : Nat} (h : bU v) (x : Int) : jfd (LAY v) 2 2 x = (2, ((v + 3 : Nat) : Int)) := by rw [(L_B h).1]; rfl
theorem jfd_B3 {v : Nat} (h : bU v) (x : Int) : jfd (LAY v) 2 3 x = (2, ((v + 4 : Nat) : Int)) := by rw [(L_B h).1]; rfl
theorem jfd_B4 {v : Nat} (h : bU v) (x : Int) : jfd (LAY v) 2 4 x = (2, ((v + 5 : Nat) : Int)) := by rw [(L_B h).1]; rfl
theorem jfd_B5 {v : Nat} (h : bU v) (x : Int) : jfd (LAY v) 0 5 x = (0, x) := by rw [(L_B h).1]; rfl
theorem jsn_B5 {v : Nat} (h : bU v) : ((LAY v).2.2.2 5 = none) = True := eq_true (by rw [(L_B h).1]; rfl)
theorem jarr_B1 (z : Nat) (S : jS) {v : Nat} (h : bU v) (x : Int) : jarr (mm z S) ((v + 1 : Nat) : Int) x 1 = (0 ≤ x ∧ x < 4) := by
  have l : LAY (v + 1) = (1, 0, 4, jno) ∧ v + 1 < NC := by
    obtain ⟨u, hu, ⟨i, hi, rfl⟩ | ⟨i, hi, rfl⟩⟩ := h
    · refine ⟨?_, by rcases hu with h | h <;> rw [h, NC_v] <;> omega⟩
      rw [show u + 10 + 6 * i + 1 = u + (10 + 6 * i + 1) by omega, LAY_m hu (by omega), LM_d (by omega), if_pos (by omega), show (10 + 6 * i + 1 - 10) % 6 = 1 by omega]; rfl
    · refine ⟨?_, by rcases hu with h | h <;> rw [h, NC_v] <;> omega⟩
      rw [show u + 85 + 6 * i + 1 = u + (85 + 6 * i + 1) by omega, LAY_m hu (by omega), LM_d (by omega), if_neg (by omega), show (85 + 6 * i + 1 - 85) % 6 = 1 by omega]; rfl
  exact jarr_of (n := 4) z S x l.2 l.1 (by omega)
theorem jarr_B2 (z : Nat) (S : jS) {v : Nat} (h : bU v) (x : Int) : jarr (mm z S) ((v + 2 : Nat) : Int) x 1 = (0 ≤ x ∧ x < 4) := by
  have l : LAY (v + 2) = (1, 0, 4, jno) ∧ v + 2 < NC := by
    obtain ⟨u, hu, ⟨i, hi, rfl⟩ | ⟨i, hi, rfl⟩⟩ := h
    · refine ⟨?_, by rcases hu with h | h <;> rw [h, NC_v] <;> omega⟩
      rw [show u + 10 + 6 * i + 2 = u + (10 + 6 * i + 2) by omega, LAY_m hu (by omega), LM_d (by omega), if_pos (by omega), show (10 + 6 * i + 2 - 10) % 6 = 2 by omega]; rfl
    · refine ⟨?_, by rcases hu with h | h <;> rw [h, NC_v] <;> omega⟩
      rw [show u + 85 + 6 * i + 2 = u + (85 + 6 * i + 2) by omega, LAY_m hu (by omega), LM_d (by omega), if_neg (by omega), show (85 + 6 * i + 2 - 85) % 6 = 2 by omega]; rfl
  exact jarr_of (n := 4) z S x l.2 l.1 (by omega)
theorem jarr_B3 (z : Nat) (S : jS) {v : Nat} (h : bU v) (x : Int) : jarr (mm z S) ((v + 3 : Nat) : Int) x 1 = (0 ≤ x ∧ x < 4) := by
  have l : LAY (v + 3) = (1, 0, 4, jno) ∧ v + 3 < NC := by
    obtain ⟨u, hu, ⟨i, hi, rfl⟩ | ⟨i, hi, rfl⟩⟩ := h
    · refine ⟨?_, by rcases hu with h | h <;> rw [h, NC_v] <;> omega⟩
      rw [show u + 10 + 6 * i + 3 = u + (10 + 6 * i + 3) by omega, LAY_m hu (by omega), LM_d (by omega), if_pos (by omega), show (10 + 6 * i + 3 - 10) % 6 = 3 by omega]; rfl
    · refine ⟨?_, by rcases hu with h | h <;> rw [h, NC_v] <;> omega⟩
      rw [show u + 85 + 6 * i + 3 = u + (85 + 6 * i + 3) by omega, LAY_m hu (by omega), LM_d (by omega), if_neg (by omega), show (85 + 6 * i + 3 - 85) % 6 = 3 by omega]; rfl
  exact jarr_of (n := 4) z S x l.2 l.1 (by omega)
theorem jarr_B4 (z : Nat) (S : jS) {v : Nat} (h : bU v) (x : Int) : jarr (mm z S) ((v + 4 : Nat) : Int) x 1 = (0 ≤ x ∧ x < 4) := by
  have l : LAY (v + 4) = (1, 0, 4, jno) ∧ v + 4 < NC := by
    obtain ⟨u, hu, ⟨i, hi, rfl⟩ | ⟨i, hi, rfl⟩⟩ := h
    · refine ⟨?_, by rcases hu with h | h <;> rw [h, NC_v] <;> omega⟩
      rw [show u + 10 + 6 * i + 4 = u + (10 + 6 * i + 4) by omega, LAY_m hu (by omega), LM_d (by omega), if_pos (by omega), show (10 + 6 * i + 4 - 10) % 6 = 4 by omega]; rfl
    · refine ⟨?_, by rcases hu with h | h <;> rw [h, NC_v] <;> omega⟩
      rw [show u + 85 + 6 * i + 4 = u + (85 + 6 * i + 4) by omega, LAY_m hu (by omega), LM_d (by omega), if_neg (by omega), show (85 + 6 * i + 4 - 85) % 6 = 4 by omega]; rfl
  exact jarr_of (n := 4) z S x l.2 l.1 (by omega)
theorem jarr_B5 (z : Nat) (S : jS) {v : Nat} (h : bU v) (x : Int) : jarr (mm z S) ((v + 5 : Nat) : Int) x 1 = (0 ≤ x ∧ x < 4) := by
  have l : LAY (v + 5) = (1, 0, 4, jno) ∧ v + 5 < NC := by
    obtain ⟨u, hu, ⟨i, hi, rfl⟩ | ⟨i, hi, rfl⟩⟩ := h
    · refine ⟨?_, by rcases hu with h | h <;> rw [h, NC_v] <;> omega⟩
      rw [show u + 10 + 6 * i + 5 = u + (10 + 6 * i + 5) by omega, LAY_m hu (by omega), LM_d (by omega), if_pos (by omega), show (10 + 6 * i + 5 - 10) % 6 = 5 by omega]; rfl
    · refine ⟨?_, by rcases hu with h | h <;> rw [h, NC_v] <;> omega⟩
      rw [show u + 85 + 6 * i + 5 = u + (85 + 6 * i + 5) by omega, LAY_m hu (by omega), LM_d (by omega), if_neg (by omega), show (85 + 6 * i + 5 - 85) % 6 = 5 by omega]; rfl
  exact jarr_of (n := 4) z S x l.2 l.1 (by omega)
theorem L_H {c : Nat} (h : hU c) : LAY c = (0, 1, 0, jsf [c + 2, c + 430, 0, 0, 0, 0, 0, 0, 0, 0, 301, c + 431]) ∧ c < NC := by
  exact ⟨(LAY_h (j := 0) h (by omega)).trans rfl, by rcases h with h | h <;> rw [h, NC_v] <;> omega⟩
theorem jobj_H (z : Nat) (S : jS) {c : Nat} (h : hU c) : jobj (mm z S) (c : Int) 1 = True := jobj_of z S (L_H h).2 (L_H h).1
theorem jfd_H0 {c : Nat} (h : hU c) (x : Int) : jfd (LAY c) 2 0 x = (2, ((c + 1 : Nat) : Int)) := by rw [(L_H h).1]; rfl
theorem jfd_H1 {c : Nat} (h : hU c) (x : Int) : jfd (LAY c) 2 1 x = (2, ((c + 429 : Nat) : Int)) := by rw [(L_H h).1]; rfl
theorem jfd_H2 {c : Nat} (h : hU c) (x : Int) : jfd (LAY c) 0 2 x = (0, x) := by rw [(L_H h).1]; rfl
theorem jsn_H2 {c : Nat} (h : hU c) : ((LAY c).2.2.2 2 = none) = True := eq_true (by rw [(L_H h).1]; rfl)
theorem jfd_H3 {c : Nat} (h : hU c) (x : Int) : jfd (LAY c) 0 3 x = (0, x) := by rw [(L_H h).1]; rfl
theorem jsn_H3 {c : Nat} (h : hU c) : ((LAY c).2.2.2 3 = none) = True := eq_true (by rw [(L_H h).1]; rfl)
theorem jfd_H4 {c : Nat} (h : hU c) (x : Int) : jfd (LAY c) 0 4 x = (0, x) := by rw [(L_H h).1]; rfl
theorem jsn_H4 {c : Nat} (h : hU c) : ((LAY c).2.2.2 4 = none) = True := eq_true (by rw [(L_H h).1]; rfl)
theorem jfd_H5 {c : Nat} (h : hU c) (x : Int) : jfd (LAY c) 0 5 x = (0, x) := by rw [(L_H h).1]; rfl
theorem jsn_H5 {c : Nat} (h : hU c) : ((LAY c).2.2.2 5 = none) = True := eq_true (by rw [(L_H h).1]; rfl)
theorem jfd_H6 {c : Nat} (h : hU c) (x : Int) : jfd (LAY c) 0 6 x = (0, x) := by rw [(L_H h).1]; rfl
theorem jsn_H6 {c : Nat} (h : hU c) : ((LAY c).2.2.2 6 = none) = True := eq_true (by rw [(L_H h).1]; rfl)
theorem jfd_H7 {c : Nat} (h : hU c) (x : Int) : jfd (LAY c) 0 7 x = (0, x) := by rw [(L_H h).1]; rfl
theorem jsn_H7 {c : Nat} (h : hU c) : ((LAY c).2.2.2 7 = none) = True := eq_true (by rw [(L_H h).1]; rfl)
theorem jfd_H8 {c : Nat} (h : hU c) (x : Int) : jfd (LAY c) 0 8 x = (0, x) := by rw [(L_H h).1]; rfl
theorem jsn_H8 {c : Nat} (h : hU c) : ((LAY c).2.2.2 8 = none) = True := eq_true (by rw [(L_H h).1]; rfl)
theorem jfd_H9 {c : Nat} (h : hU c) (x : Int) : jfd (LAY c) 2 9 x = (2, x) := by rw [(L_H h).1]; rfl
theorem jsn_H9 {c : Nat} (h : hU c) : ((LAY c).2.2.2 9 = none) = True := eq_true (by rw [(L_H h).1]; rfl)
theorem jfd_H10 {c : Nat} (h : hU c) (x : Int) : jfd (LAY c) 2 10 x = (2, ((300 : Nat) : Int)) := by rw [(L_H h).1]; rfl
theorem jfd_H11 {c : Nat} (h : hU c) (x : Int) : jfd (LAY c) 2 11 x = (2, ((c + 430 : Nat) : Int)) := by rw [(L_H h).1]; rfl
theorem jarr_H429 (z : Nat) (S : jS) {c : Nat} (h : hU c) (x : Int) : jarr (mm z S) ((c + 429 : Nat) : Int) x 1 = (0 ≤ x ∧ x < 4) := by
  exact jarr_of (n := 4) z S x (by rcases h with h | h <;> rw [h, NC_v] <;> omega) ((LAY_h (j := 429) h (by omega)).trans rfl) (by omega)
theorem jarr_H1 (z : Nat) (S : jS) {c : Nat} (h : hU c) (x : Int) : jarr (mm z S) ((c + 1 : Nat) : Int) x 6 = (0 ≤ x ∧ x < 61) := by
  exact jarr_of (n := 61) z S x (by rcases h with h | h <;> rw [h, NC_v] <;> omega) ((LAY_h (j := 1) h (by omega)).trans rfl) (by omega)
theorem jrd_H1 (z : Nat) (S : jS) {c : Nat} (h : hU c) (i : Nat) : jrd (mm z S) ((c + 1 : Nat) : Int) i 6 = ((c + 2 + 7 * i : Nat) : Int) := by
  unfold jrd
  rw [if_neg (by omega), mm_L, Int.toNat_natCast, LAY_h h (by omega)]
  rfl
theorem L_P {q : Nat} (h : pU q) : LAY q = (0, 5, 0, jsf [q + 2, q + 5, 0, 0, 0, 0, 0, 0, 0, 0]) ∧ q < NC := by
  obtain ⟨c, p, hc, hp, rfl⟩ := h
  refine ⟨?_, by rcases hc with h | h <;> rw [h, NC_v] <;> omega⟩
  rw [show c + 2 + 7 * p = c + (2 + 7 * p) by omega, LAY_h hc (by omega), LH_d (by omega), show (2 + 7 * p - 2) % 7 = 0 by omega]; rfl
theorem jobj_P (z : Nat) (S : jS) {q : Nat} (h : pU q) : jobj (mm z S) (q : Int) 5 = True := jobj_of z S (L_P h).2 (L_P h).1
theorem jfd_P0 {q : Nat} (h : pU q) (x : Int) : jfd (LAY q) 2 0 x = (2, ((q + 1 : Nat) : Int)) := by rw [(L_P h).1]; rfl
theorem jfd_P1 {q : Nat} (h : pU q) (x : Int) : jfd (LAY q) 2 1 x = (2, ((q + 4 : Nat) : Int)) := by rw [(L_P h).1]; rfl
theorem jfd_P2 {q : Nat} (h : pU q) (x : Int) : jfd (LAY q) 0 2 x = (0, x) := by rw [(L_P h).1]; rfl
theorem jsn_P2 {q : Nat} (h : pU q) : ((LAY q).2.2.2 2 = none) = True := eq_true (by rw [(L_P h).1]; rfl)
theorem jfd_P3 {q : Nat} (h : pU q) (x : Int) : jfd (LAY q) 0 3 x = (0, x) := by rw [(L_P h).1]; rfl
theorem jsn_P3 {q : Nat} (h : pU q) : ((LAY q).2.2.2 3 = none) = True := eq_true (by rw [(L_P h).1]; rfl)
theorem jfd_P4 {q : Nat} (h : pU q) (x : Int) : jfd (LAY q) 0 4 x = (0, x) := by rw [(L_P h).1]; rfl
theorem jsn_P4 {q : Nat} (h : pU q) : ((LAY q).2.2.2 4 = none) = True := eq_true (by rw [(L_P h).1]; rfl)
theorem jfd_P5 {q : Nat} (h : pU q) (x : Int) : jfd (LAY q) 0 5 x = (0, x) := by rw [(L_P h).1]; rfl
theorem jsn_P5 {q : Nat} (h : pU q) : ((LAY q).2.2.2 5 = none) = True := eq_true (by rw [(L_P h).1]; rfl)
theorem jfd_P6 {q : Nat} (h : pU q) (x : Int) : jfd (LAY q) 3 6 x = (0, x) := by rw [(L_P h).1]; rfl
theorem jsn_P6 {q : Nat} (h : pU q) : ((LAY q).2.2.2 6 = none) = True := eq_true (by rw [(L_P h).1]; rfl)
theorem jfd_P7 {q : Nat} (h : pU q) (x : Int) : jfd (LAY q) 3 7 x = (0, x) := by rw [(L_P h).1]; rfl
theorem jsn_P7 {q : Nat} (h : pU q) : ((LAY q).2.2.2 7 = none) = True := eq_true (by rw [(L_P h).1]; rfl)
theorem jfd_P8 {q : Nat} (h : pU q) (x : Int) : jfd (LAY q) 3 8 x = (0, x) := by rw [(L_P h).1]; rfl
theorem jsn_P8 {q : Nat} (h : pU q) : ((LAY q).2.2.2 8 = none) = True := eq_true (by rw [(L_P h).1]; rfl)
theorem jfd_P9 {q : Nat} (h : pU q) (x : Int) : jfd (LAY q) 3 9 x = (0, x) := by rw [(L_P h).1]; rfl
theorem jsn_P9 {q : Nat} (h : pU q) : ((LAY q).2.2.2 9 = none) = True := eq_true (by rw [(L_P h).1]; rfl)
theorem L_G {r : Nat} (h : rU r) : LAY r = (0, 8, 0, jsf [r + 2, r + 3]) ∧ r < NC := by
  rcases h with ⟨q, ⟨c, p, hc, hp, rfl⟩, rfl | rfl⟩ | ⟨c, hc, rfl⟩
  · refine ⟨?_, by rcases hc with h | h <;> rw [h, NC_v] <;> omega⟩
    rw [show c + 2 + 7 * p + 1 = c + (2 + 7 * p + 1) by omega, LAY_h hc (by omega), LH_d (by omega), show (2 + 7 * p + 1 - 2) % 7 = 1 by omega]; rfl
  · refine ⟨?_, by rcases hc with h | h <;> rw [h, NC_v] <;> omega⟩
    rw [show c + 2 + 7 * p + 4 = c + (2 + 7 * p + 4) by omega, LAY_h hc (by omega), LH_d (by omega), show (2 + 7 * p + 4 - 2) % 7 = 4 by omega]; rfl
  · exact ⟨(LAY_h (j := 430) hc (by omega)).trans rfl, by rcases hc with h | h <;> rw [h, NC_v] <;> omega⟩
theorem jobj_G (z : Nat) (S : jS) {r : Nat} (h : rU r) : jobj (mm z S) (r : Int) 8 = True := jobj_of z S (L_G h).2 (L_G h).1
theorem jfd_G0 {r : Nat} (h : rU r) (x : Int) : jfd (LAY r) 2 0 x = (2, ((r + 1 : Nat) : Int)) := by rw [(L_G h).1]; rfl
theorem jfd_G1 {r : Nat} (h : rU r) (x : Int) : jfd (LAY r) 2 1 x = (2, ((r + 2 : Nat) : Int)) := by rw [(L_G h).1]; rfl
theorem jarr_G1 (z : Nat) (S : jS) {r : Nat} (h : rU r) (x : Int) : jarr (mm z S) ((r + 1 : Nat) : Int) x 1 = (0 ≤ x ∧ x < 24) := by
  have l : LAY (r + 1) = (1, 0, 24, jno) ∧ r + 1 < NC := by
    rcases h with ⟨q, ⟨c, p, hc, hp, rfl⟩, rfl | rfl⟩ | ⟨c, hc, rfl⟩
    · refine ⟨?_, by rcases hc with h | h <;> rw [h, NC_v] <;> omega⟩
      rw [show c + 2 + 7 * p + 1 + 1 = c + (2 + 7 * p + 1 + 1) by omega, LAY_h hc (by omega), LH_d (by omega), show (2 + 7 * p + 1 + 1 - 2) % 7 = 2 by omega]; rfl
    · refine ⟨?_, by rcases hc with h | h <;> rw [h, NC_v] <;> omega⟩
      rw [show c + 2 + 7 * p + 4 + 1 = c + (2 + 7 * p + 4 + 1) by omega, LAY_h hc (by omega), LH_d (by omega), show (2 + 7 * p + 4 + 1 - 2) % 7 = 5 by omega]; rfl
    · exact ⟨(LAY_h (j := 431) hc (by omega)).trans rfl, by rcases hc with h | h <;> rw [h, NC_v] <;> omega⟩
  exact jarr_of (n := 24) z S x l.2 l.1 (by omega)
theorem jarr_G2 (z : Nat) (S : jS) {r : Nat} (h : rU r) (x : Int) : jarr (mm z S) ((r + 2 : Nat) : Int) x 1 = (0 ≤ x ∧ x < 24) := by
  have l : LAY (r + 2) = (1, 0, 24, jno) ∧ r + 2 < NC := by
    rcases h with ⟨q, ⟨c, p, hc, hp, rfl⟩, rfl | rfl⟩ | ⟨c, hc, rfl⟩
    · refine ⟨?_, by rcases hc with h | h <;> rw [h, NC_v] <;> omega⟩
      rw [show c + 2 + 7 * p + 1 + 2 = c + (2 + 7 * p + 1 + 2) by omega, LAY_h hc (by omega), LH_d (by omega), show (2 + 7 * p + 1 + 2 - 2) % 7 = 3 by omega]; rfl
    · refine ⟨?_, by rcases hc with h | h <;> rw [h, NC_v] <;> omega⟩
      rw [show c + 2 + 7 * p + 4 + 2 = c + (2 + 7 * p + 4 + 2) by omega, LAY_h hc (by omega), LH_d (by omega), show (2 + 7 * p + 4 + 2 - 2) % 7 = 6 by omega]; rfl
    · exact ⟨(LAY_h (j := 432) hc (by omega)).trans rfl, by rcases hc with h | h <;> rw [h, NC_v] <;> omega⟩
  exact jarr_of (n := 24) z S x l.2 l.1 (by omega)
theorem LX_d {p : Nat} (h : aU p) : LX p = (0, 6, 0, jno) := by
  unfold LX
  unfold aU at h
  split <;> first | omega | rfl
theorem L_A {q : Nat} (h : aU q) : LAY q = (0, 6, 0, jno) ∧ q < NC := by
  have h' := h
  unfold aU at h'
  refine ⟨?_, by rw [NC_v]; omega⟩
  have rb : RB = 1237 := rfl
  unfold LAY
  rw [if_neg (by omega), if_neg (by omega)]
  by_cases c : q < 361
  · rw [if_pos c, LX_d h]
  · rw [if_neg c, if_neg (by omega), if_pos (by omega), LX_d h]
theorem jobj_A (z : Nat) (S : jS) {q : Nat} (h : aU q) : jobj (mm z S) (q : Int) 6 = True := jobj_of z S (L_A h).2 (L_A h).1
theorem jfd_A0 {q : Nat} (h : aU q) (x : Int) : jfd (LAY q) 1 0 x = (1, x) := by rw [(L_A h).1]; rfl
theorem jsn_A0 {q : Nat} (h : aU q) : ((LAY q).2.2.2 0 = none) = True := eq_true (by rw [(L_A h).1]; rfl)
theorem jfd_A1 {q : Nat} (h : aU q) (x : Int) : jfd (LAY q) 1 1 x = (1, x) := by rw [(L_A h).1]; rfl
theorem jsn_A1 {q : Nat} (h : aU q) : ((LAY q).2.2.2 1 = none) = True := eq_true (by rw [(L_A h).1]; rfl)
theorem L_O : LAY 0 = (0, 11, 0, jsf [2, 0, 0, 0, 0, 0, 299, 301, 362, 795, 1228, 1233]) := rfl
theorem jobj_O (z : Nat) (S : jS) : jobj (mm z S) ((0 : Nat) : Int) 11 = True := jobj_of z S (by rw [NC_v]; omega) L_O
theorem jfd_O0 (x : Int) : jfd (LAY 0) 2 0 x = (2, ((1 : Nat) : Int)) := by rw [L_O]; rfl
theorem jfd_O1 (x : Int) : jfd (LAY 0) 0 1 x = (0, x) := by rw [L_O]; rfl
theorem jsn_O1 : ((LAY 0).2.2.2 1 = none) = True := eq_true (by rw [L_O]; rfl)
theorem jfd_O2 (x : Int) : jfd (LAY 0) 0 2 x = (0, x) := by rw [L_O]; rfl
theorem jsn_O2 : ((LAY 0).2.2.2 2 = none) = True := eq_true (by rw [L_O]; rfl)
theorem jfd_O3 (x : Int) : jfd (LAY 0) 0 3 x = (0, x) := by rw [L_O]; rfl
theorem jsn_O3 : ((LAY 0).2.2.2 3 = none) = True := eq_true (by rw [L_O]; rfl)
theorem jfd_O4 (x : Int) : jfd (LAY 0) 2 4 x = (2, x) := by rw [L_O]; rfl
theorem jsn_O4 : ((LAY 0).2.2.2 4 = none) = True := eq_true (by rw [L_O]; rfl)
theorem jfd_O5 (x : Int) : jfd (LAY 0) 2 5 x = (2, x) := by rw [L_O]; rfl
theorem jsn_O5 : ((LAY 0).2.2.2 5 = none) = True := eq_true (by rw [L_O]; rfl)
theorem jfd_O6 (x : Int) : jfd (LAY 0) 2 6 x = (2, ((298 : Nat) : Int)) := by rw [L_O]; rfl
theorem jfd_O7 (x : Int) : jfd (LAY 0) 2 7 x = (2, ((300 : Nat) : Int)) := by rw [L_O]; rfl
theorem jfd_O8 (x : Int) : jfd (LAY 0) 2 8 x = (2, ((361 : Nat) : Int)) := by rw [L_O]; rfl
theorem jfd_O9 (x : Int) : jfd (LAY 0) 2 9 x = (2, ((794 : Nat) : Int)) := by rw [L_O]; rfl
theorem jfd_O10 (x : Int) : jfd (LAY 0) 2 10 x = (2, ((1227 : Nat) : Int)) := by rw [L_O]; rfl
theorem jfd_O11 (x : Int) : jfd (LAY 0) 2 11 x = (2, ((1232 : Nat) : Int)) := by rw [L_O]; rfl
theorem jarr_O1 (z : Nat) (S : jS) (x : Int) : jarr (mm z S) ((1 : Nat) : Int) x 3 = (0 ≤ x ∧ x < 900) := jarr_of (n := 900) z S x (by rw [NC_v]; omega) (show LAY 1 = (3, 0, 900, jno) from rfl) (by omega)
theorem L_E : LAY 298 = (0, 7, 0, jsf [300, 0, 0, 0, 0, 0, 0, 0, 0, 0, 0, 0, 0, 0, 0]) := rfl
theorem jobj_E (z : Nat) (S : jS) : jobj (mm z S) ((298 : Nat) : Int) 7 = True := jobj_of z S (by rw [NC_v]; omega) L_E
theorem jfd_E0 (x : Int) : jfd (LAY 298) 2 0 x = (2, ((299 : Nat) : Int)) := by rw [L_E]; rfl
theorem jfd_E1 (x : Int) : jfd (LAY 298) 2 1 x = (2, x) := by rw [L_E]; rfl
theorem jsn_E1 : ((LAY 298).2.2.2 1 = none) = True := eq_true (by rw [L_E]; rfl)
theorem jfd_E2 (x : Int) : jfd (LAY 298) 0 2 x = (0, x) := by rw [L_E]; rfl
theorem jsn_E2 : ((LAY 298).2.2.2 2 = none) = True := eq_true (by rw [L_E]; rfl)
theorem jfd_E3 (x : Int) : jfd (LAY 298) 0 3 x = (0, x) := by rw [L_E]; rfl
theorem jsn_E3 : ((LAY 298).2.2.2 3 = none) = True := eq_true (by rw [L_E]; rfl)
theorem jfd_E4 (x : Int) : jfd (LAY 298) 0 4 x = (0, x) := by rw [L_E]; rfl
theorem jsn_E4 : ((LAY 298).2.2.2 4 = none) = True := eq_true (by rw [L_E]; rfl)
theorem jfd_E5 (x : Int) : jfd (LAY 298) 0 5 x = (0, x) := by rw [L_E]; rfl
theorem jsn_E5 : ((LAY 298).2.2.2 5 = none) = True := eq_true (by rw [L_E]; rfl)
theorem jfd_E6 (x : Int) : jfd (LAY 298) 0 6 x = (0, x) := by rw [L_E]; rfl
theorem jsn_E6 : ((LAY 298).2.2.2 6 = none) = True := eq_true (by rw [L_E]; rfl)
theorem jfd_E7 (x : Int) : jfd (LAY 298) 0 7 x = (0, x) := by rw [L_E]; rfl
theorem jsn_E7 : ((LAY 298).2.2.2 7 = none) = True := eq_true (by rw [L_E]; rfl)
theorem jfd_E8 (x : Int) : jfd (LAY 298) 0 8 x = (0, x) := by rw [L_E]; rfl
theorem jsn_E8 : ((LAY 298).2.2.2 8 = none) = True := eq_true (by rw [L_E]; rfl)
theorem jfd_E9 (x : Int) : jfd (LAY 298) 0 9 x = (0, x) := by rw [L_E]; rfl
theorem jsn_E9 : ((LAY 298).2.2.2 9 = none) = True := eq_true (by rw [L_E]; rfl)
theorem jfd_E10 (x : Int) : jfd (LAY 298) 3 10 x = (0, x) := by rw [L_E]; rfl
theorem jsn_E10 : ((LAY 298).2.2.2 10 = none) = True := eq_true (by rw [L_E]; rfl)
theorem jfd_E11 (x : Int) : jfd (LAY 298) 2 11 x = (2, x) := by rw [L_E]; rfl
theorem jsn_E11 : ((LAY 298).2.2.2 11 = none) = True := eq_true (by rw [L_E]; rfl)
theorem jfd_E12 (x : Int) : jfd (LAY 298) 0 12 x = (0, x) := by rw [L_E]; rfl
theorem jsn_E12 : ((LAY 298).2.2.2 12 = none) = True := eq_true (by rw [L_E]; rfl)
theorem jfd_E13 (x : Int) : jfd (LAY 298) 0 13 x = (0, x) := by rw [L_E]; rfl
theorem jsn_E13 : ((LAY 298).2.2.2 13 = none) = True := eq_true (by rw [L_E]; rfl)
theorem jfd_E14 (x : Int) : jfd (LAY 298) 0 14 x = (0, x) := by rw [L_E]; rfl
theorem jsn_E14 : ((LAY 298).2.2.2 14 = none) = True := eq_true (by rw [L_E]; rfl)
theorem jarr_E1 (z : Nat) (S : jS) (x : Int) : jarr (mm z S) ((299 : Nat) : Int) x 1 = (0 ≤ x ∧ x < 11) := jarr_of (n := 11) z S x (by rw [NC_v]; omega) (show LAY 299 = (1, 0, 11, jno) from rfl) (by omega)
theorem L_C : LAY 300 = (0, 2, 0, jsf [306, 307, 302, 303, 304, 305, 0, 0, 0]) := rfl
theorem jobj_C (z : Nat) (S : jS) : jobj (mm z S) ((300 : Nat) : Int) 2 = True := jobj_of z S (by rw [NC_v]; omega) L_C
theorem jfd_C0 (x : Int) : jfd (LAY 300) 2 0 x = (2, ((305 : Nat) : Int)) := by rw [L_C]; rfl
theorem jfd_C1 (x : Int) : jfd (LAY 300) 2 1 x = (2, ((306 : Nat) : Int)) := by rw [L_C]; rfl
theorem jfd_C2 (x : Int) : jfd (LAY 300) 2 2 x = (2, ((301 : Nat) : Int)) := by rw [L_C]; rfl
theorem jfd_C3 (x : Int) : jfd (LAY 300) 2 3 x = (2, ((302 : Nat) : Int)) := by rw [L_C]; rfl
theorem jfd_C4 (x : Int) : jfd (LAY 300) 2 4 x = (2, ((303 : Nat) : Int)) := by rw [L_C]; rfl
theorem jfd_C5 (x : Int) : jfd (LAY 300) 2 5 x = (2, ((304 : Nat) : Int)) := by rw [L_C]; rfl
theorem jfd_C6 (x : Int) : jfd (LAY 300) 2 6 x = (2, x) := by rw [L_C]; rfl
theorem jsn_C6 : ((LAY 300).2.2.2 6 = none) = True := eq_true (by rw [L_C]; rfl)
theorem jfd_C7 (x : Int) : jfd (LAY 300) 0 7 x = (0, x) := by rw [L_C]; rfl
theorem jsn_C7 : ((LAY 300).2.2.2 7 = none) = True := eq_true (by rw [L_C]; rfl)
theorem jfd_C8 (x : Int) : jfd (LAY 300) 0 8 x = (0, x) := by rw [L_C]; rfl
theorem jsn_C8 : ((LAY 300).2.2.2 8 = none) = True := eq_true (by rw [L_C]; rfl)
theorem jarr_C1 (z : Nat) (S : jS) (x : Int) : jarr (mm z S) ((301 : Nat) : Int) x 2 = (0 ≤ x ∧ x < 24) := jarr_of (n := 24) z S x (by rw [NC_v]; omega) (show LAY 301 = (2, 0, 24, jno) from rfl) (by omega)
theorem jarr_C2 (z : Nat) (S : jS) (x : Int) : jarr (mm z S) ((302 : Nat) : Int) x 2 = (0 ≤ x ∧ x < 24) := jarr_of (n := 24) z S x (by rw [NC_v]; omega) (show LAY 302 = (2, 0, 24, jno) from rfl) (by omega)
theorem jarr_C3 (z : Nat) (S : jS) (x : Int) : jarr (mm z S) ((303 : Nat) : Int) x 1 = (0 ≤ x ∧ x < 24) := jarr_of (n := 24) z S x (by rw [NC_v]; omega) (show LAY 303 = (1, 0, 24, jno) from rfl) (by omega)
theorem jarr_C4 (z : Nat) (S : jS) (x : Int) : jarr (mm z S) ((304 : Nat) : Int) x 1 = (0 ≤ x ∧ x < 24) := jarr_of (n := 24) z S x (by rw [NC_v]; omega) (show LAY 304 = (1, 0, 24, jno) from rfl) (by omega)
theorem jarr_C5 (z : Nat) (S : jS) (x : Int) : jarr (mm z S) ((305 : Nat) : Int) x 7 = (0 ≤ x ∧ x < 25) := jarr_of (n := 25) z S x (by rw [NC_v]; omega) (show LAY 305 = (7, 0, 25, jno) from rfl) (by omega)
theorem jarr_C6 (z : Nat) (S : jS) (x : Int) : jarr (mm z S) ((306 : Nat) : Int) x 7 = (0 ≤ x ∧ x < 25) := jarr_of (n := 25) z S x (by rw [NC_v]; omega) (show LAY 306 = (7, 0, 25, jno) from rfl) (by omega)
theorem jrd_C5 (z : Nat) (S : jS) (i : Nat) : jrd (mm z S) ((305 : Nat) : Int) i 7 = S 305 i := rfl
theorem jsn_Ca5 (i : Nat) : ((LAY 305).2.2.2 i = none) = True := eq_true rfl
theorem jrd_C6 (z : Nat) (S : jS) (i : Nat) : jrd (mm z S) ((306 : Nat) : Int) i 7 = S 306 i := rfl
theorem jsn_Ca6 (i : Nat) : ((LAY 306).2.2.2 i = none) = True := eq_true rfl
theorem L_Y : LAY 1227 = (0, 10, 0, jsf [1229, 1230, 0, 1231, 1232, 301]) := rfl
theorem jobj_Y (z : Nat) (S : jS) : jobj (mm z S) ((1227 : Nat) : Int) 10 = True := jobj_of z S (by rw [NC_v]; omega) L_Y
theorem jfd_Y0 (x : Int) : jfd (LAY 1227) 2 0 x = (2, ((1228 : Nat) : Int)) := by rw [L_Y]; rfl
theorem jfd_Y1 (x : Int) : jfd (LAY 1227) 2 1 x = (2, ((1229 : Nat) : Int)) := by rw [L_Y]; rfl
theorem jfd_Y2 (x : Int) : jfd (LAY 1227) 0 2 x = (0, x) := by rw [L_Y]; rfl
theorem jsn_Y2 : ((LAY 1227).2.2.2 2 = none) = True := eq_true (by rw [L_Y]; rfl)
theorem jfd_Y3 (x : Int) : jfd (LAY 1227) 2 3 x = (2, ((1230 : Nat) : Int)) := by rw [L_Y]; rfl
theorem jfd_Y4 (x : Int) : jfd (LAY 1227) 2 4 x = (2, ((1231 : Nat) : Int)) := by rw [L_Y]; rfl
theorem jfd_Y5 (x : Int) : jfd (LAY 1227) 2 5 x = (2, ((300 : Nat) : Int)) := by rw [L_Y]; rfl
theorem jarr_Y1 (z : Nat) (S : jS) (x : Int) : jarr (mm z S) ((1228 : Nat) : Int) x 1 = (0 ≤ x ∧ x < 660) := jarr_of (n := 660) z S x (by rw [NC_v]; omega) (show LAY 1228 = (1, 0, 660, jno) from rfl) (by omega)
theorem L_D : LAY 1232 = (0, 9, 0, jsf [1234, 1235, 1236, 0, 0, 0, 1237, 0, 0, 0, 0, 0, 0, 0, 0, 0, 0]) := rfl
theorem jobj_D (z : Nat) (S : jS) : jobj (mm z S) ((1232 : Nat) : Int) 9 = True := jobj_of z S (by rw [NC_v]; omega) L_D
theorem jfd_D0 (x : Int) : jfd (LAY 1232) 2 0 x = (2, ((1233 : Nat) : Int)) := by rw [L_D]; rfl
theorem jfd_D1 (x : Int) : jfd (LAY 1232) 2 1 x = (2, ((1234 : Nat) : Int)) := by rw [L_D]; rfl
theorem jfd_D2 (x : Int) : jfd (LAY 1232) 2 2 x = (2, ((1235 : Nat) : Int)) := by rw [L_D]; rfl
theorem jfd_D3 (x : Int) : jfd (LAY 1232) 3 3 x = (0, x) := by rw [L_D]; rfl
theorem jsn_D3 : ((LAY 1232).2.2.2 3 = none) = True := eq_true (by rw [L_D]; rfl)
theorem jfd_D4 (x : Int) : jfd (LAY 1232) 0 4 x = (0, x) := by rw [L_D]; rfl
theorem jsn_D4 : ((LAY 1232).2.2.2 4 = none) = True := eq_true (by rw [L_D]; rfl)
theorem jfd_D5 (x : Int) : jfd (LAY 1232) 0 5 x = (0, x) := by rw [L_D]; rfl
theorem jsn_D5 : ((LAY 1232).2.2.2 5 = none) = True := eq_true (by rw [L_D]; rfl)
theorem jfd_D6 (x : Int) : jfd (LAY 1232) 2 6 x = (2, ((1236 : Nat) : Int)) := by rw [L_D]; rfl
theorem jfd_D7 (x : Int) : jfd (LAY 1232) 1 7 x = (1, x) := by rw [L_D]; rfl
theorem jsn_D7 : ((LAY 1232).2.2.2 7 = none) = True := eq_true (by rw [L_D]; rfl)
theorem jfd_D8 (x : Int) : jfd (LAY 1232) 1 8 x = (1, x) := by rw [L_D]; rfl
theorem jsn_D8 : ((LAY 1232).2.2.2 8 = none) = True := eq_true (by rw [L_D]; rfl)
theorem jfd_D9 (x : Int) : jfd (LAY 1232) 1 9 x = (1, x) := by rw [L_D]; rfl
theorem jsn_D9 : ((LAY 1232).2.2.2 9 = none) = True := eq_true (by rw [L_D]; rfl)
theorem jfd_D10 (x : Int) : jfd (LAY 1232) 1 10 x = (1, x) := by rw [L_D]; rfl
theorem jsn_D10 : ((LAY 1232).2.2.2 10 = none) = True := eq_true (by rw [L_D]; rfl)
theorem jfd_D11 (x : Int) : jfd (LAY 1232) 1 11 x = (1, x) := by rw [L_D]; rfl
theorem jsn_D11 : ((LAY 1232).2.2.2 11 = none) = True := eq_true (by rw [L_D]; rfl)
theorem jfd_D12 (x : Int) : jfd (LAY 1232) 1 12 x = (1, x) := by rw [L_D]; rfl
theorem jsn_D12 : ((LAY 1232).2.2.2 12 = none) = True := eq_true (by rw [L_D]; rfl)
theorem jfd_D13 (x : Int) : jfd (LAY 1232) 1 13 x = (1, x) := by rw [L_D]; rfl
theorem jsn_D13 : ((LAY 1232).2.2.2 13 = none) = True := eq_true (by rw [L_D]; rfl)
theorem jfd_D14 (x : Int) : jfd (LAY 1232) 1 14 x = (1, x) := by rw [L_D]; rfl
theorem jsn_D14 : ((LAY 1232).2.2.2 14 = none) = True := eq_true (by rw [L_D]; rfl)
theorem jfd_D15 (x : Int) : jfd (LAY 1232) 1 15 x = (1, x) := by rw [L_D]; rfl
theorem jsn_D15 : ((LAY 1232).2.2.2 15 = none) = True := eq_true (by rw [L_D]; rfl)
theorem jfd_D16 (x : Int) : jfd (LAY 1232) 3 16 x = (0, x) := by rw [L_D]; rfl
theorem jsn_D16 : ((LAY 1232).2.2.2 16 = none) = True := eq_true (by rw [L_D]; rfl)
theorem jarr_D1 (z : Nat) (S : jS) (x : Int) : jarr (mm z S) ((1233 : Nat) : Int) x 1 = (0 ≤ x ∧ x < 248) := jarr_of (n := 248) z S x (by rw [NC_v]; omega) (show LAY 1233 = (1, 0, 248, jno) from rfl) (by omega)
theorem jn_X0 : plainName "SlopeChecker$Bounds" = true := by decide +kernel
theorem jn_X1 : plainName "SlopeChecker$Check" = true := by decide +kernel
theorem jn_X2 : plainName "SlopeChecker$Cutter" = true := by decide +kernel
theorem jn_X3 : plainName "SlopeChecker$Model" = true := by decide +kernel
theorem jn_X4 : plainName "SlopeChecker$Normals" = true := by decide +kernel
theorem jn_X5 : plainName "SlopeChecker$Part" = true := by decide +kernel
theorem jn_X6 : plainName "SlopeChecker$Ratio" = true := by decide +kernel
theorem jn_X7 : plainName "SlopeChecker$Reader" = true := by decide +kernel
theorem jn_X8 : plainName "SlopeChecker$Region" = true := by decide +kernel
theorem jn_X9 : plainName "SlopeChecker$Ride" = true := by decide +kernel
theorem jn_X10 : plainName "SlopeChecker$Way" = true := by decide +kernel
theorem jn_X11 : plainName "SlopeChecker" = true := by decide +kernel

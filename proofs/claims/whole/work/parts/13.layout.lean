/-! The cells: the checker's object 0, what it makes, the reference (from RB on), the law's own array. -/
def RB : Nat := 1237
def NC : Nat := 1258
/-- no reference stays -/
def jno : Nat → Option Nat := fun _ => none
def jsf (l : List Nat) : Nat → Option Nat := fun k => match l.getD k 0 with
  | 0 => none
  | n + 1 => some n
/-- a model from u on, place j of it -/
def LM (u j : Nat) : jK := match j with
  | 0 => (0, 3, 0, (jsf [u + 2, u + 6, u + 7, u + 8, u + 9, u + 10, u + 83, u + 84, u + 85, u + 146, u + 147, u + 148, 0, 0, 0, 0]))
  | 1 => (0, 4, 0, (jsf [u + 3, u + 4, u + 5, 0]))
  | 2 => (1, 0, 24, jno)
  | 3 => (1, 0, 24, jno)
  | 4 => (1, 0, 24, jno)
  | 5 => (1, 0, 6, jno)
  | 6 => (1, 0, 6, jno)
  | 7 => (1, 0, 6, jno)
  | 8 => (5, 0, 6, fun m => some (u + 10 + 12 * m))
  | 9 => (5, 0, 6, fun m => some (u + 16 + 12 * m))
  | 82 => (1, 0, 10, jno)
  | 83 => (1, 0, 10, jno)
  | 84 => (5, 0, 10, fun m => some (u + 85 + 6 * m))
  | 145 => (1, 0, 20, jno)
  | 146 => (1, 0, 20, jno)
  | 147 => (1, 0, 4, jno)
  | _ => if j < 82 then (match (j - 10) % 6 with
      | 0 => (0, 0, 0, (jsf [u + j + 2, u + j + 3, u + j + 4, u + j + 5, u + j + 6, 0]))
      | _ => (1, 0, 4, jno))
    else (match (j - 85) % 6 with
      | 0 => (0, 0, 0, (jsf [u + j + 2, u + j + 3, u + j + 4, u + j + 5, u + j + 6, 0]))
      | _ => (1, 0, 4, jno))
/-- a check from u on, place j of it -/
def LH (u j : Nat) : jK := match j with
  | 0 => (0, 1, 0, (jsf [u + 2, u + 430, 0, 0, 0, 0, 0, 0, 0, 0, 301, u + 431]))
  | 1 => (6, 0, 61, fun p => some (u + 2 + 7 * p))
  | 429 => (1, 0, 4, jno)
  | 430 => (0, 8, 0, (jsf [u + 432, u + 433]))
  | 431 => (1, 0, 24, jno)
  | 432 => (1, 0, 24, jno)
  | _ => match (j - 2) % 7 with
    | 0 => (0, 5, 0, (jsf [u + j + 2, u + j + 5, 0, 0, 0, 0, 0, 0, 0, 0]))
    | 1 => (0, 8, 0, (jsf [u + j + 2, u + j + 3]))
    | 4 => (0, 8, 0, (jsf [u + j + 2, u + j + 3]))
    | _ => (1, 0, 24, jno)
def LX (p : Nat) : jK := match p with
  | 0 => (0, 11, 0, (jsf [2, 0, 0, 0, 0, 0, 299, 301, 362, 795, 1228, 1233]))
  | 1 => (3, 0, 900, jno)
  | 298 => (0, 7, 0, (jsf [300, 0, 0, 0, 0, 0, 0, 0, 0, 0, 0, 0, 0, 0, 0]))
  | 299 => (1, 0, 11, jno)
  | 300 => (0, 2, 0, (jsf [306, 307, 302, 303, 304, 305, 0, 0, 0]))
  | 301 => (2, 0, 24, jno)
  | 302 => (2, 0, 24, jno)
  | 303 => (1, 0, 24, jno)
  | 304 => (1, 0, 24, jno)
  | 305 => (7, 0, 25, jno)
  | 306 => (7, 0, 25, jno)
  | 357 => (0, 4, 0, (jsf [359, 360, 361, 0]))
  | 358 => (1, 0, 24, jno)
  | 359 => (1, 0, 24, jno)
  | 360 => (1, 0, 24, jno)
  | 1227 => (0, 10, 0, (jsf [1229, 1230, 0, 1231, 1232, 301]))
  | 1228 => (1, 0, 660, jno)
  | 1232 => (0, 9, 0, (jsf [1234, 1235, 1236, 0, 0, 0, 1237, 0, 0, 0, 0, 0, 0, 0, 0, 0, 0]))
  | 1233 => (1, 0, 248, jno)
  | _ => (0, 6, 0, jno)
def LR (j : Nat) : jK := match j with
  | 0 => (0, 12, 0, (jsf [0, RB + 2, 0, RB + 3, RB + 4, RB + 5, 0, 0, 0, 0, 0, 0, 0, 0, 0, 0, 0, RB + 6, RB + 7, RB + 8, RB + 9, RB + 10, 0, 0, 0, RB + 11, RB + 12, 0, 0, 0, 0, 0, 0, 0, RB + 13, 0, RB + 14, RB + 15, 0, RB + 16, 0, 0, 0, 0, 0, 0, RB + 17, 0, 0, RB + 18, 0, 0, RB + 19, RB + 20, RB + 21]))
  | 1 => (1, 0, 900, jno)
  | 2 => (1, 0, 399, jno)
  | 3 => (1, 0, 399, jno)
  | 4 => (1, 0, 6, jno)
  | 5 => (4, 0, 24, jno)
  | 6 => (2, 0, 24, jno)
  | 7 => (2, 0, 24, jno)
  | 8 => (2, 0, 24, jno)
  | 9 => (2, 0, 24, jno)
  | 10 => (1, 0, 480, jno)
  | 11 => (1, 0, 5760, jno)
  | 12 => (2, 0, 1104, jno)
  | 13 => (2, 0, 600, jno)
  | 14 => (1, 0, 60, jno)
  | 15 => (2, 0, 4, jno)
  | 16 => (2, 0, 4, jno)
  | 17 => (2, 0, 248, jno)
  | 18 => (1, 0, 480, jno)
  | 19 => (1, 0, 5760, jno)
  | 20 => (1, 0, 5, jno)
  | _ => (2, 0, 1, jno)
def LAY (p : Nat) : jK := if p < 2 then LX p else if p < 298 then LM (2 + 148 * ((p - 2) / 148)) ((p - 2) % 148) else if p < 361 then LX p else if p < 1227 then LH (361 + 433 * ((p - 361) / 433)) ((p - 361) % 433) else if p < RB then LX p else LR (p - RB)
abbrev jS : Type := Nat → Nat → Int
/-- the memory of a run of calls: z tells the heap's size, S all numbers -/
def mm (z : Nat) (S : jS) : jM := (1258 + z, min 1259 (1258 + z), LAY, S)
theorem mm_S (z : Nat) (S : jS) : (mm z S).2.2.2 = S := rfl
theorem mm_L (z : Nat) (S : jS) : (mm z S).2.2.1 = LAY := rfl
theorem mm_N (z : Nat) (S : jS) : NC ≤ (mm z S).2.1 := Nat.le_min.mpr ⟨Nat.le_of_ble_eq_true rfl, Nat.le_add_right _ _⟩
theorem mm_set (z : Nat) (S : jS) (q : Int) (k : Nat) (v : Int) : jset (mm z S) q k v = mm z (ju S q.toNat k v) := rfl
theorem ju_at (S : jS) (p k : Nat) (v : Int) (q j : Nat) : ju S p k v q j = if q = p ∧ j = k then v else S q j := rfl
theorem ne21 : ((2 : Nat) ≠ 1) = True := eq_true (by decide)
theorem ne01 : ((0 : Nat) ≠ 1) = True := eq_true (by decide)
theorem rb_ne (k : Nat) : (RB + (k + 1) = RB) = False := eq_false (by omega)
theorem rb_ne' (k : Nat) : (RB = RB + (k + 1)) = False := eq_false (by omega)
/-! the reference's cells -/
theorem LR_at (j : Nat) : LAY (RB + j) = LR j := by
  unfold LAY
  rw [if_neg (by unfold RB; omega), if_neg (by unfold RB; omega), if_neg (by unfold RB; omega), if_neg (by unfold RB; omega), if_neg (by omega), Nat.add_sub_cancel_left]
theorem LR_0 : LAY RB = LR 0 := LR_at 0
theorem jobj_R (z : Nat) (S : jS) : jobj (mm z S) (RB : Int) 12 = True := eq_true ⟨⟨Int.natCast_nonneg _, Nat.lt_of_lt_of_le (show (RB : Int).toNat < NC by decide) (mm_N z S)⟩, by rw [mm_L, Int.toNat_natCast, LR_0]; rfl, by rw [mm_L, Int.toNat_natCast, LR_0]; rfl⟩
theorem jfd_R0 (x : Int) : jfd (LAY RB) 0 0 x = (0, x) := by rw [LR_0]; rfl
theorem jsn_R0 : ((LAY RB).2.2.2 0 = none) = True := eq_true (by rw [LR_0]; rfl)
theorem jfd_R1 (x : Int) : jfd (LAY RB) 2 1 x = (2, ((RB + 1 : Nat) : Int)) := by rw [LR_0]; rfl
theorem jfd_R2 (x : Int) : jfd (LAY RB) 0 2 x = (0, x) := by rw [LR_0]; rfl
theorem jsn_R2 : ((LAY RB).2.2.2 2 = none) = True := eq_true (by rw [LR_0]; rfl)
theorem jfd_R3 (x : Int) : jfd (LAY RB) 2 3 x = (2, ((RB + 2 : Nat) : Int)) := by rw [LR_0]; rfl
theorem jfd_R4 (x : Int) : jfd (LAY RB) 2 4 x = (2, ((RB + 3 : Nat) : Int)) := by rw [LR_0]; rfl
theorem jfd_R5 (x : Int) : jfd (LAY RB) 2 5 x = (2, ((RB + 4 : Nat) : Int)) := by rw [LR_0]; rfl
theorem jfd_R6 (x : Int) : jfd (LAY RB) 0 6 x = (0, x) := by rw [LR_0]; rfl
theorem jsn_R6 : ((LAY RB).2.2.2 6 = none) = True := eq_true (by rw [LR_0]; rfl)
theorem jfd_R7 (x : Int) : jfd (LAY RB) 0 7 x = (0, x) := by rw [LR_0]; rfl
theorem jsn_R7 : ((LAY RB).2.2.2 7 = none) = True := eq_true (by rw [LR_0]; rfl)
theorem jfd_R8 (x : Int) : jfd (LAY RB) 0 8 x = (0, x) := by rw [LR_0]; rfl
theorem jsn_R8 : ((LAY RB).2.2.2 8 = none) = True := eq_true (by rw [LR_0]; rfl)
theorem jfd_R9 (x : Int) : jfd (LAY RB) 0 9 x = (0, x) := by rw [LR_0]; rfl
theorem jsn_R9 : ((LAY RB).2.2.2 9 = none) = True := eq_true (by rw [LR_0]; rfl)
theorem jfd_R10 (x : Int) : jfd (LAY RB) 0 10 x = (0, x) := by rw [LR_0]; rfl
theorem jsn_R10 : ((LAY RB).2.2.2 10 = none) = True := eq_true (by rw [LR_0]; rfl)
theorem jfd_R11 (x : Int) : jfd (LAY RB) 0 11 x = (0, x) := by rw [LR_0]; rfl
theorem jsn_R11 : ((LAY RB).2.2.2 11 = none) = True := eq_true (by rw [LR_0]; rfl)
theorem jfd_R12 (x : Int) : jfd (LAY RB) 0 12 x = (0, x) := by rw [LR_0]; rfl
theorem jsn_R12 : ((LAY RB).2.2.2 12 = none) = True := eq_true (by rw [LR_0]; rfl)
theorem jfd_R13 (x : Int) : jfd (LAY RB) 0 13 x = (0, x) := by rw [LR_0]; rfl
theorem jsn_R13 : ((LAY RB).2.2.2 13 = none) = True := eq_true (by rw [LR_0]; rfl)
theorem jfd_R14 (x : Int) : jfd (LAY RB) 0 14 x = (0, x) := by rw [LR_0]; rfl
theorem jsn_R14 : ((LAY RB).2.2.2 14 = none) = True := eq_true (by rw [LR_0]; rfl)
theorem jfd_R15 (x : Int) : jfd (LAY RB) 0 15 x = (0, x) := by rw [LR_0]; rfl
theorem jsn_R15 : ((LAY RB).2.2.2 15 = none) = True := eq_true (by rw [LR_0]; rfl)
theorem jfd_R16 (x : Int) : jfd (LAY RB) 3 16 x = (0, x) := by rw [LR_0]; rfl
theorem jsn_R16 : ((LAY RB).2.2.2 16 = none) = True := eq_true (by rw [LR_0]; rfl)
theorem jfd_R17 (x : Int) : jfd (LAY RB) 2 17 x = (2, ((RB + 5 : Nat) : Int)) := by rw [LR_0]; rfl
theorem jfd_R18 (x : Int) : jfd (LAY RB) 2 18 x = (2, ((RB + 6 : Nat) : Int)) := by rw [LR_0]; rfl
theorem jfd_R19 (x : Int) : jfd (LAY RB) 2 19 x = (2, ((RB + 7 : Nat) : Int)) := by rw [LR_0]; rfl
theorem jfd_R20 (x : Int) : jfd (LAY RB) 2 20 x = (2, ((RB + 8 : Nat) : Int)) := by rw [LR_0]; rfl
theorem jfd_R21 (x : Int) : jfd (LAY RB) 2 21 x = (2, ((RB + 9 : Nat) : Int)) := by rw [LR_0]; rfl
theorem jfd_R22 (x : Int) : jfd (LAY RB) 1 22 x = (1, x) := by rw [LR_0]; rfl
theorem jsn_R22 : ((LAY RB).2.2.2 22 = none) = True := eq_true (by rw [LR_0]; rfl)
theorem jfd_R23 (x : Int) : jfd (LAY RB) 1 23 x = (1, x) := by rw [LR_0]; rfl
theorem jsn_R23 : ((LAY RB).2.2.2 23 = none) = True := eq_true (by rw [LR_0]; rfl)
theorem jfd_R24 (x : Int) : jfd (LAY RB) 1 24 x = (1, x) := by rw [LR_0]; rfl
theorem jsn_R24 : ((LAY RB).2.2.2 24 = none) = True := eq_true (by rw [LR_0]; rfl)
theorem jfd_R25 (x : Int) : jfd (LAY RB) 2 25 x = (2, ((RB + 10 : Nat) : Int)) := by rw [LR_0]; rfl
theorem jfd_R26 (x : Int) : jfd (LAY RB) 2 26 x = (2, ((RB + 11 : Nat) : Int)) := by rw [LR_0]; rfl
theorem jfd_R27 (x : Int) : jfd (LAY RB) 0 27 x = (0, x) := by rw [LR_0]; rfl
theorem jsn_R27 : ((LAY RB).2.2.2 27 = none) = True := eq_true (by rw [LR_0]; rfl)
theorem jfd_R28 (x : Int) : jfd (LAY RB) 0 28 x = (0, x) := by rw [LR_0]; rfl
theorem jsn_R28 : ((LAY RB).2.2.2 28 = none) = True := eq_true (by rw [LR_0]; rfl)
theorem jfd_R29 (x : Int) : jfd (LAY RB) 0 29 x = (0, x) := by rw [LR_0]; rfl
theorem jsn_R29 : ((LAY RB).2.2.2 29 = none) = True := eq_true (by rw [LR_0]; rfl)
theorem jfd_R30 (x : Int) : jfd (LAY RB) 0 30 x = (0, x) := by rw [LR_0]; rfl
theorem jsn_R30 : ((LAY RB).2.2.2 30 = none) = True := eq_true (by rw [LR_0]; rfl)
theorem jfd_R31 (x : Int) : jfd (LAY RB) 0 31 x = (0, x) := by rw [LR_0]; rfl
theorem jsn_R31 : ((LAY RB).2.2.2 31 = none) = True := eq_true (by rw [LR_0]; rfl)
theorem jfd_R32 (x : Int) : jfd (LAY RB) 0 32 x = (0, x) := by rw [LR_0]; rfl
theorem jsn_R32 : ((LAY RB).2.2.2 32 = none) = True := eq_true (by rw [LR_0]; rfl)
theorem jfd_R33 (x : Int) : jfd (LAY RB) 0 33 x = (0, x) := by rw [LR_0]; rfl
theorem jsn_R33 : ((LAY RB).2.2.2 33 = none) = True := eq_true (by rw [LR_0]; rfl)
theorem jfd_R34 (x : Int) : jfd (LAY RB) 2 34 x = (2, ((RB + 12 : Nat) : Int)) := by rw [LR_0]; rfl
theorem jfd_R35 (x : Int) : jfd (LAY RB) 0 35 x = (0, x) := by rw [LR_0]; rfl
theorem jsn_R35 : ((LAY RB).2.2.2 35 = none) = True := eq_true (by rw [LR_0]; rfl)
theorem jfd_R36 (x : Int) : jfd (LAY RB) 2 36 x = (2, ((RB + 13 : Nat) : Int)) := by rw [LR_0]; rfl
theorem jfd_R37 (x : Int) : jfd (LAY RB) 2 37 x = (2, ((RB + 14 : Nat) : Int)) := by rw [LR_0]; rfl
theorem jfd_R38 (x : Int) : jfd (LAY RB) 0 38 x = (0, x) := by rw [LR_0]; rfl
theorem jsn_R38 : ((LAY RB).2.2.2 38 = none) = True := eq_true (by rw [LR_0]; rfl)
theorem jfd_R39 (x : Int) : jfd (LAY RB) 2 39 x = (2, ((RB + 15 : Nat) : Int)) := by rw [LR_0]; rfl
theorem jfd_R40 (x : Int) : jfd (LAY RB) 1 40 x = (1, x) := by rw [LR_0]; rfl
theorem jsn_R40 : ((LAY RB).2.2.2 40 = none) = True := eq_true (by rw [LR_0]; rfl)
theorem jfd_R41 (x : Int) : jfd (LAY RB) 1 41 x = (1, x) := by rw [LR_0]; rfl
theorem jsn_R41 : ((LAY RB).2.2.2 41 = none) = True := eq_true (by rw [LR_0]; rfl)
theorem jfd_R42 (x : Int) : jfd (LAY RB) 1 42 x = (1, x) := by rw [LR_0]; rfl
theorem jsn_R42 : ((LAY RB).2.2.2 42 = none) = True := eq_true (by rw [LR_0]; rfl)
theorem jfd_R43 (x : Int) : jfd (LAY RB) 1 43 x = (1, x) := by rw [LR_0]; rfl
theorem jsn_R43 : ((LAY RB).2.2.2 43 = none) = True := eq_true (by rw [LR_0]; rfl)
theorem jfd_R44 (x : Int) : jfd (LAY RB) 3 44 x = (0, x) := by rw [LR_0]; rfl
theorem jsn_R44 : ((LAY RB).2.2.2 44 = none) = True := eq_true (by rw [LR_0]; rfl)
theorem jfd_R45 (x : Int) : jfd (LAY RB) 3 45 x = (0, x) := by rw [LR_0]; rfl
theorem jsn_R45 : ((LAY RB).2.2.2 45 = none) = True := eq_true (by rw [LR_0]; rfl)
theorem jfd_R46 (x : Int) : jfd (LAY RB) 2 46 x = (2, ((RB + 16 : Nat) : Int)) := by rw [LR_0]; rfl
theorem jfd_R47 (x : Int) : jfd (LAY RB) 1 47 x = (1, x) := by rw [LR_0]; rfl
theorem jsn_R47 : ((LAY RB).2.2.2 47 = none) = True := eq_true (by rw [LR_0]; rfl)
theorem jfd_R48 (x : Int) : jfd (LAY RB) 1 48 x = (1, x) := by rw [LR_0]; rfl
theorem jsn_R48 : ((LAY RB).2.2.2 48 = none) = True := eq_true (by rw [LR_0]; rfl)
theorem jfd_R49 (x : Int) : jfd (LAY RB) 2 49 x = (2, ((RB + 17 : Nat) : Int)) := by rw [LR_0]; rfl
theorem jfd_R50 (x : Int) : jfd (LAY RB) 0 50 x = (0, x) := by rw [LR_0]; rfl
theorem jsn_R50 : ((LAY RB).2.2.2 50 = none) = True := eq_true (by rw [LR_0]; rfl)
theorem jfd_R51 (x : Int) : jfd (LAY RB) 0 51 x = (0, x) := by rw [LR_0]; rfl
theorem jsn_R51 : ((LAY RB).2.2.2 51 = none) = True := eq_true (by rw [LR_0]; rfl)
theorem jfd_R52 (x : Int) : jfd (LAY RB) 2 52 x = (2, ((RB + 18 : Nat) : Int)) := by rw [LR_0]; rfl
theorem jfd_R53 (x : Int) : jfd (LAY RB) 2 53 x = (2, ((RB + 19 : Nat) : Int)) := by rw [LR_0]; rfl
theorem jfd_R54 (x : Int) : jfd (LAY RB) 2 54 x = (2, ((RB + 20 : Nat) : Int)) := by rw [LR_0]; rfl
theorem jarr_R1 (z : Nat) (S : jS) (x : Int) : jarr (mm z S) ((RB + 1 : Nat) : Int) x 1 = (0 ≤ x ∧ x < 900) := by
  unfold jarr jptr
  rw [mm_L, Int.toNat_natCast, LR_at]
  exact propext ⟨fun h => ⟨h.2.2.1, h.2.2.2.1⟩, fun h => ⟨⟨Int.natCast_nonneg _, Nat.lt_of_lt_of_le (show RB + 1 < NC by decide) (mm_N z S)⟩, rfl, h.1, h.2, Nat.le_of_ble_eq_true rfl⟩⟩
theorem jrd_R1 (z : Nat) (S : jS) (i : Nat) : jrd (mm z S) ((RB + 1 : Nat) : Int) i 1 = S (RB + 1) i := by unfold jrd; rw [if_pos (by decide), mm_S, Int.toNat_natCast]
theorem jarr_R2 (z : Nat) (S : jS) (x : Int) : jarr (mm z S) ((RB + 2 : Nat) : Int) x 1 = (0 ≤ x ∧ x < 399) := by
  unfold jarr jptr
  rw [mm_L, Int.toNat_natCast, LR_at]
  exact propext ⟨fun h => ⟨h.2.2.1, h.2.2.2.1⟩, fun h => ⟨⟨Int.natCast_nonneg _, Nat.lt_of_lt_of_le (show RB + 2 < NC by decide) (mm_N z S)⟩, rfl, h.1, h.2, Nat.le_of_ble_eq_true rfl⟩⟩
theorem jrd_R2 (z : Nat) (S : jS) (i : Nat) : jrd (mm z S) ((RB + 2 : Nat) : Int) i 1 = S (RB + 2) i := by unfold jrd; rw [if_pos (by decide), mm_S, Int.toNat_natCast]
theorem jarr_R3 (z : Nat) (S : jS) (x : Int) : jarr (mm z S) ((RB + 3 : Nat) : Int) x 1 = (0 ≤ x ∧ x < 399) := by
  unfold jarr jptr
  rw [mm_L, Int.toNat_natCast, LR_at]
  exact propext ⟨fun h => ⟨h.2.2.1, h.2.2.2.1⟩, fun h => ⟨⟨Int.natCast_nonneg _, Nat.lt_of_lt_of_le (show RB + 3 < NC by decide) (mm_N z S)⟩, rfl, h.1, h.2, Nat.le_of_ble_eq_true rfl⟩⟩
theorem jrd_R3 (z : Nat) (S : jS) (i : Nat) : jrd (mm z S) ((RB + 3 : Nat) : Int) i 1 = S (RB + 3) i := by unfold jrd; rw [if_pos (by decide), mm_S, Int.toNat_natCast]
theorem jarr_R4 (z : Nat) (S : jS) (x : Int) : jarr (mm z S) ((RB + 4 : Nat) : Int) x 1 = (0 ≤ x ∧ x < 6) := by
  unfold jarr jptr
  rw [mm_L, Int.toNat_natCast, LR_at]
  exact propext ⟨fun h => ⟨h.2.2.1, h.2.2.2.1⟩, fun h => ⟨⟨Int.natCast_nonneg _, Nat.lt_of_lt_of_le (show RB + 4 < NC by decide) (mm_N z S)⟩, rfl, h.1, h.2, Nat.le_of_ble_eq_true rfl⟩⟩
theorem jrd_R4 (z : Nat) (S : jS) (i : Nat) : jrd (mm z S) ((RB + 4 : Nat) : Int) i 1 = S (RB + 4) i := by unfold jrd; rw [if_pos (by decide), mm_S, Int.toNat_natCast]
theorem jarr_R5 (z : Nat) (S : jS) (x : Int) : jarr (mm z S) ((RB + 5 : Nat) : Int) x 4 = (0 ≤ x ∧ x < 24) := by
  unfold jarr jptr
  rw [mm_L, Int.toNat_natCast, LR_at]
  exact propext ⟨fun h => ⟨h.2.2.1, h.2.2.2.1⟩, fun h => ⟨⟨Int.natCast_nonneg _, Nat.lt_of_lt_of_le (show RB + 5 < NC by decide) (mm_N z S)⟩, rfl, h.1, h.2, Nat.le_of_ble_eq_true rfl⟩⟩
theorem jrd_R5 (z : Nat) (S : jS) (i : Nat) : jrd (mm z S) ((RB + 5 : Nat) : Int) i 4 = S (RB + 5) i := by unfold jrd; rw [if_pos (by decide), mm_S, Int.toNat_natCast]
theorem jarr_R6 (z : Nat) (S : jS) (x : Int) : jarr (mm z S) ((RB + 6 : Nat) : Int) x 2 = (0 ≤ x ∧ x < 24) := by
  unfold jarr jptr
  rw [mm_L, Int.toNat_natCast, LR_at]
  exact propext ⟨fun h => ⟨h.2.2.1, h.2.2.2.1⟩, fun h => ⟨⟨Int.natCast_nonneg _, Nat.lt_of_lt_of_le (show RB + 6 < NC by decide) (mm_N z S)⟩, rfl, h.1, h.2, Nat.le_of_ble_eq_true rfl⟩⟩
theorem jrd_R6 (z : Nat) (S : jS) (i : Nat) : jrd (mm z S) ((RB + 6 : Nat) : Int) i 2 = S (RB + 6) i := by unfold jrd; rw [if_pos (by decide), mm_S, Int.toNat_natCast]
theorem jarr_R7 (z : Nat) (S : jS) (x : Int) : jarr (mm z S) ((RB + 7 : Nat) : Int) x 2 = (0 ≤ x ∧ x < 24) := by
  unfold jarr jptr
  rw [mm_L, Int.toNat_natCast, LR_at]
  exact propext ⟨fun h => ⟨h.2.2.1, h.2.2.2.1⟩, fun h => ⟨⟨Int.natCast_nonneg _, Nat.lt_of_lt_of_le (show RB + 7 < NC by decide) (mm_N z S)⟩, rfl, h.1, h.2, Nat.le_of_ble_eq_true rfl⟩⟩
theorem jrd_R7 (z : Nat) (S : jS) (i : Nat) : jrd (mm z S) ((RB + 7 : Nat) : Int) i 2 = S (RB + 7) i := by unfold jrd; rw [if_pos (by decide), mm_S, Int.toNat_natCast]
theorem jarr_R8 (z : Nat) (S : jS) (x : Int) : jarr (mm z S) ((RB + 8 : Nat) : Int) x 2 = (0 ≤ x ∧ x < 24) := by
  unfold jarr jptr
  rw [mm_L, Int.toNat_natCast, LR_at]
  exact propext ⟨fun h => ⟨h.2.2.1, h.2.2.2.1⟩, fun h => ⟨⟨Int.natCast_nonneg _, Nat.lt_of_lt_of_le (show RB + 8 < NC by decide) (mm_N z S)⟩, rfl, h.1, h.2, Nat.le_of_ble_eq_true rfl⟩⟩
theorem jrd_R8 (z : Nat) (S : jS) (i : Nat) : jrd (mm z S) ((RB + 8 : Nat) : Int) i 2 = S (RB + 8) i := by unfold jrd; rw [if_pos (by decide), mm_S, Int.toNat_natCast]
theorem jarr_R9 (z : Nat) (S : jS) (x : Int) : jarr (mm z S) ((RB + 9 : Nat) : Int) x 2 = (0 ≤ x ∧ x < 24) := by
  unfold jarr jptr
  rw [mm_L, Int.toNat_natCast, LR_at]
  exact propext ⟨fun h => ⟨h.2.2.1, h.2.2.2.1⟩, fun h => ⟨⟨Int.natCast_nonneg _, Nat.lt_of_lt_of_le (show RB + 9 < NC by decide) (mm_N z S)⟩, rfl, h.1, h.2, Nat.le_of_ble_eq_true rfl⟩⟩
theorem jrd_R9 (z : Nat) (S : jS) (i : Nat) : jrd (mm z S) ((RB + 9 : Nat) : Int) i 2 = S (RB + 9) i := by unfold jrd; rw [if_pos (by decide), mm_S, Int.toNat_natCast]
theorem jarr_R10 (z : Nat) (S : jS) (x : Int) : jarr (mm z S) ((RB + 10 : Nat) : Int) x 1 = (0 ≤ x ∧ x < 480) := by
  unfold jarr jptr
  rw [mm_L, Int.toNat_natCast, LR_at]
  exact propext ⟨fun h => ⟨h.2.2.1, h.2.2.2.1⟩, fun h => ⟨⟨Int.natCast_nonneg _, Nat.lt_of_lt_of_le (show RB + 10 < NC by decide) (mm_N z S)⟩, rfl, h.1, h.2, Nat.le_of_ble_eq_true rfl⟩⟩
theorem jrd_R10 (z : Nat) (S : jS) (i : Nat) : jrd (mm z S) ((RB + 10 : Nat) : Int) i 1 = S (RB + 10) i := by unfold jrd; rw [if_pos (by decide), mm_S, Int.toNat_natCast]
theorem jarr_R11 (z : Nat) (S : jS) (x : Int) : jarr (mm z S) ((RB + 11 : Nat) : Int) x 1 = (0 ≤ x ∧ x < 5760) := by
  unfold jarr jptr
  rw [mm_L, Int.toNat_natCast, LR_at]
  exact propext ⟨fun h => ⟨h.2.2.1, h.2.2.2.1⟩, fun h => ⟨⟨Int.natCast_nonneg _, Nat.lt_of_lt_of_le (show RB + 11 < NC by decide) (mm_N z S)⟩, rfl, h.1, h.2, Nat.le_of_ble_eq_true rfl⟩⟩
theorem jrd_R11 (z : Nat) (S : jS) (i : Nat) : jrd (mm z S) ((RB + 11 : Nat) : Int) i 1 = S (RB + 11) i := by unfold jrd; rw [if_pos (by decide), mm_S, Int.toNat_natCast]
theorem jarr_R12 (z : Nat) (S : jS) (x : Int) : jarr (mm z S) ((RB + 12 : Nat) : Int) x 2 = (0 ≤ x ∧ x < 1104) := by
  unfold jarr jptr
  rw [mm_L, Int.toNat_natCast, LR_at]
  exact propext ⟨fun h => ⟨h.2.2.1, h.2.2.2.1⟩, fun h => ⟨⟨Int.natCast_nonneg _, Nat.lt_of_lt_of_le (show RB + 12 < NC by decide) (mm_N z S)⟩, rfl, h.1, h.2, Nat.le_of_ble_eq_true rfl⟩⟩
theorem jrd_R12 (z : Nat) (S : jS) (i : Nat) : jrd (mm z S) ((RB + 12 : Nat) : Int) i 2 = S (RB + 12) i := by unfold jrd; rw [if_pos (by decide), mm_S, Int.toNat_natCast]
theorem jarr_R13 (z : Nat) (S : jS) (x : Int) : jarr (mm z S) ((RB + 13 : Nat) : Int) x 2 = (0 ≤ x ∧ x < 600) := by
  unfold jarr jptr
  rw [mm_L, Int.toNat_natCast, LR_at]
  exact propext ⟨fun h => ⟨h.2.2.1, h.2.2.2.1⟩, fun h => ⟨⟨Int.natCast_nonneg _, Nat.lt_of_lt_of_le (show RB + 13 < NC by decide) (mm_N z S)⟩, rfl, h.1, h.2, Nat.le_of_ble_eq_true rfl⟩⟩
theorem jrd_R13 (z : Nat) (S : jS) (i : Nat) : jrd (mm z S) ((RB + 13 : Nat) : Int) i 2 = S (RB + 13) i := by unfold jrd; rw [if_pos (by decide), mm_S, Int.toNat_natCast]
theorem jarr_R14 (z : Nat) (S : jS) (x : Int) : jarr (mm z S) ((RB + 14 : Nat) : Int) x 1 = (0 ≤ x ∧ x < 60) := by
  unfold jarr jptr
  rw [mm_L, Int.toNat_natCast, LR_at]
  exact propext ⟨fun h => ⟨h.2.2.1, h.2.2.2.1⟩, fun h => ⟨⟨Int.natCast_nonneg _, Nat.lt_of_lt_of_le (show RB + 14 < NC by decide) (mm_N z S)⟩, rfl, h.1, h.2, Nat.le_of_ble_eq_true rfl⟩⟩
theorem jrd_R14 (z : Nat) (S : jS) (i : Nat) : jrd (mm z S) ((RB + 14 : Nat) : Int) i 1 = S (RB + 14) i := by unfold jrd; rw [if_pos (by decide), mm_S, Int.toNat_natCast]
theorem jarr_R15 (z : Nat) (S : jS) (x : Int) : jarr (mm z S) ((RB + 15 : Nat) : Int) x 2 = (0 ≤ x ∧ x < 4) := by
  unfold jarr jptr
  rw [mm_L, Int.toNat_natCast, LR_at]
  exact propext ⟨fun h => ⟨h.2.2.1, h.2.2.2.1⟩, fun h => ⟨⟨Int.natCast_nonneg _, Nat.lt_of_lt_of_le (show RB + 15 < NC by decide) (mm_N z S)⟩, rfl, h.1, h.2, Nat.le_of_ble_eq_true rfl⟩⟩
theorem jrd_R15 (z : Nat) (S : jS) (i : Nat) : jrd (mm z S) ((RB + 15 : Nat) : Int) i 2 = S (RB + 15) i := by unfold jrd; rw [if_pos (by decide), mm_S, Int.toNat_natCast]
theorem jarr_R16 (z : Nat) (S : jS) (x : Int) : jarr (mm z S) ((RB + 16 : Nat) : Int) x 2 = (0 ≤ x ∧ x < 4) := by
  unfold jarr jptr
  rw [mm_L, Int.toNat_natCast, LR_at]
  exact propext ⟨fun h => ⟨h.2.2.1, h.2.2.2.1⟩, fun h => ⟨⟨Int.natCast_nonneg _, Nat.lt_of_lt_of_le (show RB + 16 < NC by decide) (mm_N z S)⟩, rfl, h.1, h.2, Nat.le_of_ble_eq_true rfl⟩⟩
theorem jrd_R16 (z : Nat) (S : jS) (i : Nat) : jrd (mm z S) ((RB + 16 : Nat) : Int) i 2 = S (RB + 16) i := by unfold jrd; rw [if_pos (by decide), mm_S, Int.toNat_natCast]
theorem jarr_R17 (z : Nat) (S : jS) (x : Int) : jarr (mm z S) ((RB + 17 : Nat) : Int) x 2 = (0 ≤ x ∧ x < 248) := by
  unfold jarr jptr
  rw [mm_L, Int.toNat_natCast, LR_at]
  exact propext ⟨fun h => ⟨h.2.2.1, h.2.2.2.1⟩, fun h => ⟨⟨Int.natCast_nonneg _, Nat.lt_of_lt_of_le (show RB + 17 < NC by decide) (mm_N z S)⟩, rfl, h.1, h.2, Nat.le_of_ble_eq_true rfl⟩⟩
theorem jrd_R17 (z : Nat) (S : jS) (i : Nat) : jrd (mm z S) ((RB + 17 : Nat) : Int) i 2 = S (RB + 17) i := by unfold jrd; rw [if_pos (by decide), mm_S, Int.toNat_natCast]
theorem jarr_R18 (z : Nat) (S : jS) (x : Int) : jarr (mm z S) ((RB + 18 : Nat) : Int) x 1 = (0 ≤ x ∧ x < 480) := by
  unfold jarr jptr
  rw [mm_L, Int.toNat_natCast, LR_at]
  exact propext ⟨fun h => ⟨h.2.2.1, h.2.2.2.1⟩, fun h => ⟨⟨Int.natCast_nonneg _, Nat.lt_of_lt_of_le (show RB + 18 < NC by decide) (mm_N z S)⟩, rfl, h.1, h.2, Nat.le_of_ble_eq_true rfl⟩⟩
theorem jrd_R18 (z : Nat) (S : jS) (i : Nat) : jrd (mm z S) ((RB + 18 : Nat) : Int) i 1 = S (RB + 18) i := by unfold jrd; rw [if_pos (by decide), mm_S, Int.toNat_natCast]
theorem jarr_R19 (z : Nat) (S : jS) (x : Int) : jarr (mm z S) ((RB + 19 : Nat) : Int) x 1 = (0 ≤ x ∧ x < 5760) := by
  unfold jarr jptr
  rw [mm_L, Int.toNat_natCast, LR_at]
  exact propext ⟨fun h => ⟨h.2.2.1, h.2.2.2.1⟩, fun h => ⟨⟨Int.natCast_nonneg _, Nat.lt_of_lt_of_le (show RB + 19 < NC by decide) (mm_N z S)⟩, rfl, h.1, h.2, Nat.le_of_ble_eq_true rfl⟩⟩
theorem jrd_R19 (z : Nat) (S : jS) (i : Nat) : jrd (mm z S) ((RB + 19 : Nat) : Int) i 1 = S (RB + 19) i := by unfold jrd; rw [if_pos (by decide), mm_S, Int.toNat_natCast]
theorem jarr_R20 (z : Nat) (S : jS) (x : Int) : jarr (mm z S) ((RB + 20 : Nat) : Int) x 1 = (0 ≤ x ∧ x < 5) := by
  unfold jarr jptr
  rw [mm_L, Int.toNat_natCast, LR_at]
  exact propext ⟨fun h => ⟨h.2.2.1, h.2.2.2.1⟩, fun h => ⟨⟨Int.natCast_nonneg _, Nat.lt_of_lt_of_le (show RB + 20 < NC by decide) (mm_N z S)⟩, rfl, h.1, h.2, Nat.le_of_ble_eq_true rfl⟩⟩
theorem jrd_R20 (z : Nat) (S : jS) (i : Nat) : jrd (mm z S) ((RB + 20 : Nat) : Int) i 1 = S (RB + 20) i := by unfold jrd; rw [if_pos (by decide), mm_S, Int.toNat_natCast]

/-! Code of the law, of its own mode, of the class's mode. -/
def mL_mode : jI := (yL_mode, cL_mode, 5, some .int, 8, 180)
def mL_law : jI := (yL_law, cL_law, 7, some .boolean, 17, 674)
/-- an int handed back -/
def mS (i : jI) (pc : Nat) (e : jE) : Bool := decide (e.1 = 31) && decide (e.2.2.2.1 = 0) && decide (decode i.2.1 pc = .ok (.ireturn, 1)) && decide (i.2.2.2.1 = some .int)
/-- the law's own: its end, ints of the script, its length -/
def lS31 (pc a : Nat) : Bool := decide (a = 3) && decide (decode mL_law.2.1 pc = .ok (.ireturn, 1))
def lS64 (pc len : Nat) (x : Int) (a b : Nat) : Bool := decide (decode mL_law.2.1 pc = .ok (.aload_n 0, 1)) && decide (decode mL_law.2.1 (pc + 1) = .ok (.iload a, 2)) &&
  (if b = 0 then decide (decode mL_law.2.1 (pc + 3) = .ok (.iaload, 1)) && decide (len = 4) && decide (x = 0)
    else if b = 1 then decide (decode mL_law.2.1 (pc + 3) = .ok (.iconst x, 1)) && decide (decode mL_law.2.1 (pc + 4) = .ok (.iadd, 1)) && decide (decode mL_law.2.1 (pc + 5) = .ok (.iaload, 1)) && decide (len = 6)
    else decide (decode mL_law.2.1 (pc + 3) = .ok (.bipush x, 2)) && decide ((Int8.ofInt x).toInt32 = Int32.ofInt x) && decide (decode mL_law.2.1 (pc + 5) = .ok (.iadd, 1)) && decide (decode mL_law.2.1 (pc + 6) = .ok (.iaload, 1)) && decide (len = 7))
def lS65 (pc : Nat) : Bool := decide (decode mL_law.2.1 pc = .ok (.aload_n 0, 1)) && decide (decode mL_law.2.1 (pc + 1) = .ok (.arraylength, 1))
def lS (pc : Nat) (e : jE) : Bool := (decide (e.1 = 31) && lS31 pc e.2.2.2.1) || (decide (e.1 = 64) && lS64 pc e.2.1 e.2.2.1 e.2.2.2.1 e.2.2.2.2.1) || (decide (e.1 = 65) && lS65 pc)
def tXm_0 : List (Option jE) := [some (1, 1, 0, 0, 2, 0), some (1, 1, 0, 1, 0, 0), some (28, 11, 137, 109, 1, 89), none, none, some (19, 3, 0, 1, 18, 0), none, none, none, none, none, none, none, none, none, none]
def tXm_1 : List (Option jE) := [none, none, some (1, 1, 0, 2, 0, 0), some (35, 37, 0, 7, 0, 0), none, none, none, none, none, none, none, none, none, none, none, none]
def tXm_2 : List (Option jE) := [none, none, none, none, none, none, none, none, none, none, none, none, none, none, none, none]
def tXm_3 : List (Option jE) := [none, none, none, none, none, none, none, none, some (1, 1, 0, 0, 2, 0), some (23, 2, 20, 11, 4, 17), none, none, some (23, 2, 147, 3, 2, 244), none, none, some (1, 1, 0, 1, 0, 0)]
def tXm_4 : List (Option jE) := [some (25, 1, 0, 1, 0, 0), some (31, 1, 0, 0, 0, 0), some (1, 1, 0, 0, 2, 0), some (23, 2, 20, 11, 4, 17), none, none, some (23, 2, 151, 3, 3, 245), none, none, some (1, 1, 0, 1, 0, 0), some (25, 1, 0, 1, 0, 0), some (31, 1, 0, 0, 0, 0), some (1, 1, 0, 0, 2, 0), some (23, 2, 20, 11, 4, 17), none, none]
def tXm_5 : List (Option jE) := [some (23, 2, 154, 3, 4, 199), none, none, some (1, 1, 0, 1, 0, 0), some (25, 1, 0, 5, 0, 0), some (23, 0, 158, 0, 5, 129), none, none, some (31, 1, 0, 0, 0, 0), some (1, 1, 0, 0, 2, 0), some (23, 2, 20, 11, 4, 17), none, none, some (23, 2, 163, 3, 5, 246), none, none]
def tXm_6 : List (Option jE) := [some (1, 1, 0, 1, 0, 0), some (25, 1, 0, 5, 0, 0), some (23, 0, 158, 0, 5, 129), none, none, some (31, 1, 0, 0, 0, 0), some (1, 1, 0, 0, 2, 0), some (23, 2, 20, 11, 4, 17), none, none, some (1, 1, 0, 1, 0, 0), some (28, 3, 166, 154, 1, 135), none, none, some (31, 1, 0, 0, 0, 0), some (1, 1, 0, 0, 2, 0)]
def tXm_7 : List (Option jE) := [some (23, 2, 46, 11, 8, 18), none, none, some (1, 1, 0, 1, 0, 0), some (28, 1, 170, 73, 1, 136), none, none, some (31, 1, 0, 0, 0, 0)]
def tXm : List (List (Option jE)) := [tXm_0, tXm_1, tXm_2, tXm_3, tXm_4, tXm_5, tXm_6, tXm_7]
def fXm : Nat → Option jE := jget tXm
theorem fXm_0 : fXm 0 = some (1, 1, 0, 0, 2, 0) := rfl
theorem fXm_1 : fXm 1 = some (1, 1, 0, 1, 0, 0) := rfl
theorem fXm_2 : fXm 2 = some (28, 11, 137, 109, 1, 89) := rfl
theorem fXm_5 : fXm 5 = some (19, 3, 0, 1, 18, 0) := rfl
theorem fXm_18 : fXm 18 = some (1, 1, 0, 2, 0, 0) := rfl
theorem fXm_19 : fXm 19 = some (35, 37, 0, 7, 0, 0) := rfl
theorem fXm_56 : fXm 56 = some (1, 1, 0, 0, 2, 0) := rfl
theorem fXm_57 : fXm 57 = some (23, 2, 20, 11, 4, 17) := rfl
theorem fXm_60 : fXm 60 = some (23, 2, 147, 3, 2, 244) := rfl
theorem fXm_63 : fXm 63 = some (1, 1, 0, 1, 0, 0) := rfl
theorem fXm_64 : fXm 64 = some (25, 1, 0, 1, 0, 0) := rfl
theorem fXm_65 : fXm 65 = some (31, 1, 0, 0, 0, 0) := rfl
theorem fXm_66 : fXm 66 = some (1, 1, 0, 0, 2, 0) := rfl
theorem fXm_67 : fXm 67 = some (23, 2, 20, 11, 4, 17) := rfl
theorem fXm_70 : fXm 70 = some (23, 2, 151, 3, 3, 245) := rfl
theorem fXm_73 : fXm 73 = some (1, 1, 0, 1, 0, 0) := rfl
theorem fXm_74 : fXm 74 = some (25, 1, 0, 1, 0, 0) := rfl
theorem fXm_75 : fXm 75 = some (31, 1, 0, 0, 0, 0) := rfl
theorem fXm_76 : fXm 76 = some (1, 1, 0, 0, 2, 0) := rfl
theorem fXm_77 : fXm 77 = some (23, 2, 20, 11, 4, 17) := rfl
theorem fXm_80 : fXm 80 = some (23, 2, 154, 3, 4, 199) := rfl
theorem fXm_83 : fXm 83 = some (1, 1, 0, 1, 0, 0) := rfl
theorem fXm_84 : fXm 84 = some (25, 1, 0, 5, 0, 0) := rfl
theorem fXm_85 : fXm 85 = some (23, 0, 158, 0, 5, 129) := rfl
theorem fXm_88 : fXm 88 = some (31, 1, 0, 0, 0, 0) := rfl
theorem fXm_89 : fXm 89 = some (1, 1, 0, 0, 2, 0) := rfl
theorem fXm_90 : fXm 90 = some (23, 2, 20, 11, 4, 17) := rfl
theorem fXm_93 : fXm 93 = some (23, 2, 163, 3, 5, 246) := rfl
theorem fXm_96 : fXm 96 = some (1, 1, 0, 1, 0, 0) := rfl
theorem fXm_97 : fXm 97 = some (25, 1, 0, 5, 0, 0) := rfl
theorem fXm_98 : fXm 98 = some (23, 0, 158, 0, 5, 129) := rfl
theorem fXm_101 : fXm 101 = some (31, 1, 0, 0, 0, 0) := rfl
theorem fXm_102 : fXm 102 = some (1, 1, 0, 0, 2, 0) := rfl
theorem fXm_103 : fXm 103 = some (23, 2, 20, 11, 4, 17) := rfl
theorem fXm_106 : fXm 106 = some (1, 1, 0, 1, 0, 0) := rfl
theorem fXm_107 : fXm 107 = some (28, 3, 166, 154, 1, 135) := rfl
theorem fXm_110 : fXm 110 = some (31, 1, 0, 0, 0, 0) := rfl
theorem fXm_111 : fXm 111 = some (1, 1, 0, 0, 2, 0) := rfl
theorem fXm_112 : fXm 112 = some (23, 2, 46, 11, 8, 18) := rfl
theorem fXm_115 : fXm 115 = some (1, 1, 0, 1, 0, 0) := rfl
theorem fXm_116 : fXm 116 = some (28, 1, 170, 73, 1, 136) := rfl
theorem fXm_119 : fXm 119 = some (31, 1, 0, 0, 0, 0) := rfl
theorem cXm_0 : xchk (mS mX11_mode) true 11 mX11_mode 0 tXm_0 = true := by decide +kernel
theorem cXm_1 : xchk (mS mX11_mode) true 11 mX11_mode 16 tXm_1 = true := by decide +kernel
theorem cXm_2 : xchk (mS mX11_mode) true 11 mX11_mode 32 tXm_2 = true := by decide +kernel
theorem cXm_3 : xchk (mS mX11_mode) true 11 mX11_mode 48 tXm_3 = true := by decide +kernel
theorem cXm_4 : xchk (mS mX11_mode) true 11 mX11_mode 64 tXm_4 = true := by decide +kernel
theorem cXm_5 : xchk (mS mX11_mode) true 11 mX11_mode 80 tXm_5 = true := by decide +kernel
theorem cXm_6 : xchk (mS mX11_mode) true 11 mX11_mode 96 tXm_6 = true := by decide +kernel
theorem cXm_7 : xchk (mS mX11_mode) true 11 mX11_mode 112 tXm_7 = true := by decide +kernel
theorem kXm : xfok (mS mX11_mode) true mX11_mode fXm := xfok_of 11 (by decide) rfl (by simp only [tXm, xchks, Nat.reduceAdd, cXm_0, cXm_1, cXm_2, cXm_3, cXm_4, cXm_5, cXm_6, cXm_7, Bool.and_true, Bool.true_and])
def tLm_0 : List (Option jE) := [some (1, 1, 0, 3, 2, 0), some (0, 1, 0, 0, 0, 0), some (1, 1, 0, 0, 2, 0), some (1, 1, 0, 1, 0, 0), some (1, 1, 0, 2, 0, 0), none, none, none, some (16, 1, 0, 0, 0, 0), some (26, 1, 0, 2, 0, 0), some (21, 3, 0, 0, 21, 0), none, none, none, none, none]
def tLm_1 : List (Option jE) := [none, none, none, none, none, some (0, 1, 0, 0, 0, 0), some (31, 1, 0, 0, 0, 0)]
def tLm : List (List (Option jE)) := [tLm_0, tLm_1]
def fLm : Nat → Option jE := jget tLm
theorem fLm_0 : fLm 0 = some (1, 1, 0, 3, 2, 0) := rfl
theorem fLm_1 : fLm 1 = some (0, 1, 0, 0, 0, 0) := rfl
theorem fLm_2 : fLm 2 = some (1, 1, 0, 0, 2, 0) := rfl
theorem fLm_3 : fLm 3 = some (1, 1, 0, 1, 0, 0) := rfl
theorem fLm_4 : fLm 4 = some (1, 1, 0, 2, 0, 0) := rfl
theorem fLm_8 : fLm 8 = some (16, 1, 0, 0, 0, 0) := rfl
theorem fLm_9 : fLm 9 = some (26, 1, 0, 2, 0, 0) := rfl
theorem fLm_10 : fLm 10 = some (21, 3, 0, 0, 21, 0) := rfl
theorem fLm_21 : fLm 21 = some (0, 1, 0, 0, 0, 0) := rfl
theorem fLm_22 : fLm 22 = some (31, 1, 0, 0, 0, 0) := rfl
theorem cLm_0 : xchk (mS mL_mode) true 15 mL_mode 0 tLm_0 = true := by decide +kernel
theorem cLm_1 : xchk (mS mL_mode) true 15 mL_mode 16 tLm_1 = true := by decide +kernel
theorem kLm : xfok (mS mL_mode) true mL_mode fLm := xfok_of 15 (by decide) rfl (by simp only [tLm, xchks, Nat.reduceAdd, cLm_0, cLm_1, Bool.and_true, Bool.true_and])
def tLw_0 : List (Option jE) := [some (50, 12, 8, 11, 0, 1025), none, none, some (32, 1, 0, 0, 0, 0), some (53, 3, 17, 0, 0, 1027), none, none, some (2, 1, 0, 1, 2, 0), some (50, 55, 18, 12, 0, 6133), none, none, some (32, 1, 0, 0, 0, 0), some (53, 3, 20, 155, 0, 6135), none, none, some (2, 1, 0, 2, 2, 0)]
def tLw_1 : List (Option jE) := [some (0, 1, 1, 0, 0, 0), some (51, 2, 0, 2, 0, 2126), none, some (2, 1, 0, 3, 2, 0), some (0, 1, 0, 0, 0, 0), some (2, 2, 0, 4, 0, 0), none, some (1, 2, 0, 4, 0, 0), none, some (65, 2, 0, 0, 0, 0), none, some (0, 2, 7, 0, 1, 0), none, some (5, 1, 0, 0, 0, 0), some (20, 3, 0, 4, 1401, 0), none]
def tLw_2 : List (Option jE) := [none, some (64, 4, 0, 4, 0, 0), none, none, none, some (0, 2, 31, 0, 1, 0), none, some (39, 1, 0, 0, 0, 0), none, none, none, none, none, none, none, none]
def tLw_3 : List (Option jE) := [none, none, none, none, none, none, none, none, none, none, none, none, none, none, none, none]
def tLw_4 : List (Option jE) := [none, none, none, none, none, none, none, none, none, none, none, none, none, none, none, none]
def tLw_5 : List (Option jE) := [none, none, none, none, none, none, none, none, none, none, none, none, none, none, none, none]
def tLw_6 : List (Option jE) := [none, none, none, none, none, none, none, none, none, none, none, none, none, none, none, none]
def tLw_7 : List (Option jE) := [none, none, none, none, none, none, none, none, none, none, none, none, none, none, none, none]
def tLw_8 : List (Option jE) := [none, none, none, none, none, none, none, none, none, none, none, none, none, none, none, none]
def tLw_9 : List (Option jE) := [none, none, none, none, none, none, none, none, none, none, none, none, none, none, none, none]
def tLw_10 : List (Option jE) := [none, none, none, none, none, none, none, none, some (1, 1, 0, 1, 2, 0), some (64, 6, 1, 4, 1, 0), none, none, none, none, none, some (64, 6, 2, 4, 1, 0)]
def tLw_11 : List (Option jE) := [none, none, none, none, none, some (64, 6, 3, 4, 1, 0), none, none, none, none, none, some (64, 6, 4, 4, 1, 0), none, none, none, none]
def tLw_12 : List (Option jE) := [none, some (64, 6, 5, 4, 1, 0), none, none, none, none, none, some (59, 11, 21, 15, 5, 3184), none, none, some (1, 1, 0, 2, 2, 0), some (64, 6, 1, 4, 1, 0), none, none, none, none]
def tLw_13 : List (Option jE) := [none, some (64, 6, 2, 4, 1, 0), none, none, none, none, none, some (64, 6, 3, 4, 1, 0), none, none, none, none, none, some (64, 6, 4, 4, 1, 0), none, none]
def tLw_14 : List (Option jE) := [none, none, none, some (64, 6, 5, 4, 1, 0), none, none, none, none, none, some (59, 12, 25, 210, 5, 8040), none, none, some (20, 3, 0, 0, 1395, 0), none, none, some (0, 1, 0, 0, 0, 0)]
def tLw_15 : List (Option jE) := [some (31, 1, 0, 3, 0, 0), some (1, 1, 0, 1, 2, 0), some (64, 6, 1, 4, 1, 0), none, none, none, none, none, some (59, 11, 26, 17, 1, 3192), none, none, some (1, 1, 0, 2, 2, 0), some (64, 6, 1, 4, 1, 0), none, none, none]
def tLw_16 : List (Option jE) := [none, none, some (59, 12, 30, 211, 1, 8044), none, none, some (20, 3, 0, 0, 1395, 0), none, none, some (0, 1, 0, 0, 0, 0), some (31, 1, 0, 3, 0, 0), some (1, 1, 0, 1, 2, 0), some (64, 6, 1, 4, 1, 0), none, none, none, none]
def tLw_17 : List (Option jE) := [none, some (59, 11, 31, 61, 1, 4132), none, none, some (1, 1, 0, 2, 2, 0), some (64, 6, 1, 4, 1, 0), none, none, none, none, none, some (59, 12, 34, 212, 1, 8048), none, none, some (20, 3, 0, 0, 1395, 0), none]
def tLw_18 : List (Option jE) := [none, some (0, 1, 0, 0, 0, 0), some (31, 1, 0, 3, 0, 0), some (1, 1, 0, 1, 2, 0), some (64, 6, 1, 4, 1, 0), none, none, none, none, none, some (59, 11, 35, 62, 1, 4136), none, none, some (1, 1, 0, 2, 2, 0), some (64, 6, 1, 4, 1, 0), none]
def tLw_19 : List (Option jE) := [none, none, none, none, some (59, 12, 38, 213, 1, 8052), none, none, some (20, 3, 0, 0, 1395, 0), none, none, some (0, 1, 0, 0, 0, 0), some (31, 1, 0, 3, 0, 0), some (1, 1, 0, 1, 2, 0), some (64, 6, 1, 4, 1, 0), none, none]
def tLw_20 : List (Option jE) := [none, none, none, some (59, 11, 39, 77, 1, 4194), none, none, some (1, 1, 0, 2, 2, 0), some (64, 6, 1, 4, 1, 0), none, none, none, none, none, some (59, 12, 42, 226, 1, 8103), none, none]
def tLw_21 : List (Option jE) := [some (20, 3, 0, 0, 1395, 0), none, none, some (0, 1, 0, 0, 0, 0), some (31, 1, 0, 3, 0, 0), some (1, 1, 0, 1, 2, 0), some (64, 6, 1, 4, 1, 0), none, none, none, none, none, some (64, 6, 2, 4, 1, 0), none, none, none]
def tLw_22 : List (Option jE) := [none, none, some (1, 1, 0, 3, 2, 0), none, none, none, some (2, 2, 0, 5, 0, 0), none, some (1, 1, 0, 2, 2, 0), some (64, 6, 1, 4, 1, 0), none, none, none, none, none, some (64, 6, 2, 4, 1, 0)]
def tLw_23 : List (Option jE) := [none, none, none, none, none, some (59, 12, 48, 230, 2, 8119), none, none, some (2, 2, 0, 6, 0, 0), none, some (1, 1, 0, 2, 2, 0), some (59, 12, 49, 209, 0, 8036), none, none, some (1, 2, 0, 5, 0, 0), none]
def tLw_24 : List (Option jE) := [some (20, 3, 0, 0, 389, 0), none, none, some (0, 1, 0, 0, 0, 0), some (31, 1, 0, 3, 0, 0), some (1, 2, 0, 5, 0, 0), none, some (19, 3, 0, 1, 406, 0), none, none, some (1, 1, 0, 3, 2, 0), some (0, 1, 0, 0, 0, 0), some (25, 1, 0, 2, 0, 0), some (1, 2, 0, 6, 0, 0), none, some (16, 1, 0, 0, 0, 0)]
def tLw_25 : List (Option jE) := [some (22, 4, 0, 0, 406, 0), none, none, none, some (0, 1, 0, 0, 0, 0), some (31, 1, 0, 3, 0, 0), some (21, 3, 0, 0, 1395, 0), none, none, some (1, 1, 0, 1, 2, 0), some (64, 6, 1, 4, 1, 0), none, none, none, none, none]
def tLw_26 : List (Option jE) := [some (64, 6, 2, 4, 1, 0), none, none, none, none, none, some (59, 11, 53, 83, 2, 4219), none, none, some (1, 1, 0, 2, 2, 0), some (64, 6, 1, 4, 1, 0), none, none, none, none, none]
def tLw_27 : List (Option jE) := [some (64, 6, 2, 4, 1, 0), none, none, none, none, none, some (59, 12, 56, 233, 2, 8131), none, none, some (20, 3, 0, 0, 1395, 0), none, none, some (0, 1, 0, 0, 0, 0), some (31, 1, 0, 3, 0, 0), some (1, 1, 0, 1, 2, 0), some (64, 6, 1, 4, 1, 0)]
def tLw_28 : List (Option jE) := [none, none, none, none, none, some (64, 6, 2, 4, 1, 0), none, none, none, none, none, some (59, 11, 57, 85, 2, 4227), none, none, some (1, 1, 0, 2, 2, 0), some (64, 6, 1, 4, 1, 0)]
def tLw_29 : List (Option jE) := [none, none, none, none, none, some (64, 6, 2, 4, 1, 0), none, none, none, none, none, some (59, 12, 60, 234, 2, 8135), none, none, some (20, 3, 0, 0, 1395, 0), none]
def tLw_30 : List (Option jE) := [none, some (0, 1, 0, 0, 0, 0), some (31, 1, 0, 3, 0, 0), some (1, 1, 0, 1, 2, 0), some (64, 6, 1, 4, 1, 0), none, none, none, none, none, some (64, 6, 2, 4, 1, 0), none, none, none, none, none]
def tLw_31 : List (Option jE) := [some (59, 11, 61, 87, 2, 4235), none, none, some (1, 1, 0, 2, 2, 0), some (64, 6, 1, 4, 1, 0), none, none, none, none, none, some (64, 6, 2, 4, 1, 0), none, none, none, none, none]
def tLw_32 : List (Option jE) := [some (59, 12, 64, 235, 2, 8139), none, none, some (20, 3, 0, 0, 1395, 0), none, none, some (0, 1, 0, 0, 0, 0), some (31, 1, 0, 3, 0, 0), some (1, 1, 0, 1, 2, 0), some (64, 6, 1, 4, 1, 0), none, none, none, none, none, some (64, 6, 2, 4, 1, 0)]
def tLw_33 : List (Option jE) := [none, none, none, none, none, some (59, 11, 65, 88, 2, 5000), none, none, some (1, 1, 0, 2, 2, 0), some (64, 6, 1, 4, 1, 0), none, none, none, none, none, some (64, 6, 2, 4, 1, 0)]
def tLw_34 : List (Option jE) := [none, none, none, none, none, some (59, 12, 68, 236, 2, 8143), none, none, some (20, 3, 0, 0, 1395, 0), none, none, some (0, 1, 0, 0, 0, 0), some (31, 1, 0, 3, 0, 0), some (1, 1, 0, 1, 2, 0), some (64, 6, 1, 4, 1, 0), none]
def tLw_35 : List (Option jE) := [none, none, none, none, some (64, 6, 2, 4, 1, 0), none, none, none, none, none, some (64, 6, 3, 4, 1, 0), none, none, none, none, none]
def tLw_36 : List (Option jE) := [some (64, 6, 4, 4, 1, 0), none, none, none, none, none, some (59, 11, 69, 100, 4, 5046), none, none, some (1, 1, 0, 2, 2, 0), some (64, 6, 1, 4, 1, 0), none, none, none, none, none]
def tLw_37 : List (Option jE) := [some (64, 6, 2, 4, 1, 0), none, none, none, none, none, some (64, 6, 3, 4, 1, 0), none, none, none, none, none, some (64, 6, 4, 4, 1, 0), none, none, none]
def tLw_38 : List (Option jE) := [none, none, some (59, 12, 73, 240, 4, 8159), none, none, some (20, 3, 0, 0, 1395, 0), none, none, some (0, 1, 0, 0, 0, 0), some (31, 1, 0, 3, 0, 0), some (1, 1, 0, 1, 2, 0), some (64, 6, 1, 4, 1, 0), none, none, none, none]
def tLw_39 : List (Option jE) := [none, some (64, 6, 2, 4, 1, 0), none, none, none, none, none, some (64, 6, 3, 4, 1, 0), none, none, none, none, none, some (64, 6, 4, 4, 1, 0), none, none]
def tLw_40 : List (Option jE) := [none, none, none, some (59, 11, 74, 103, 4, 5058), none, none, some (1, 1, 0, 2, 2, 0), some (64, 6, 1, 4, 1, 0), none, none, none, none, none, some (64, 6, 2, 4, 1, 0), none, none]
def tLw_41 : List (Option jE) := [none, none, none, some (64, 6, 3, 4, 1, 0), none, none, none, none, none, some (64, 6, 4, 4, 1, 0), none, none, none, none, none, some (59, 12, 78, 242, 4, 8168)]
def tLw_42 : List (Option jE) := [none, none, some (22, 4, 0, 0, 1395, 0), none, none, none, some (0, 1, 0, 0, 0, 0), some (31, 1, 0, 3, 0, 0), some (1, 1, 0, 1, 2, 0), some (64, 6, 1, 4, 1, 0), none, none, none, none, none, some (64, 6, 2, 4, 1, 0)]
def tLw_43 : List (Option jE) := [none, none, none, none, none, some (64, 6, 3, 4, 1, 0), none, none, none, none, none, some (64, 6, 4, 4, 1, 0), none, none, none, none]
def tLw_44 : List (Option jE) := [none, some (64, 6, 5, 4, 1, 0), none, none, none, none, none, some (59, 11, 79, 104, 5, 5063), none, none, some (1, 1, 0, 2, 2, 0), some (64, 6, 1, 4, 1, 0), none, none, none, none]
def tLw_45 : List (Option jE) := [none, some (64, 6, 2, 4, 1, 0), none, none, none, none, none, some (64, 6, 3, 4, 1, 0), none, none, none, none, none, some (64, 6, 4, 4, 1, 0), none, none]
def tLw_46 : List (Option jE) := [none, none, none, some (64, 6, 5, 4, 1, 0), none, none, none, none, none, some (59, 12, 82, 243, 5, 8173), none, none, some (20, 3, 0, 0, 1395, 0), none, none, some (0, 1, 0, 0, 0, 0)]
def tLw_47 : List (Option jE) := [some (31, 1, 0, 3, 0, 0), some (1, 1, 0, 1, 2, 0), some (64, 6, 1, 4, 1, 0), none, none, none, none, none, some (64, 6, 2, 4, 1, 0), none, none, none, none, none, some (64, 6, 3, 4, 1, 0), none]
def tLw_48 : List (Option jE) := [none, none, none, none, some (64, 6, 4, 4, 1, 0), none, none, none, none, none, some (59, 11, 83, 108, 4, 5077), none, none, some (1, 1, 0, 2, 2, 0), some (64, 6, 1, 4, 1, 0), none]
def tLw_49 : List (Option jE) := [none, none, none, none, some (64, 6, 2, 4, 1, 0), none, none, none, none, none, some (64, 6, 3, 4, 1, 0), none, none, none, none, none]
def tLw_50 : List (Option jE) := [some (64, 6, 4, 4, 1, 0), none, none, none, none, none, some (59, 12, 86, 246, 4, 8184), none, none, some (20, 3, 0, 0, 1395, 0), none, none, some (0, 1, 0, 0, 0, 0), some (31, 1, 0, 3, 0, 0), some (1, 1, 0, 1, 2, 0), some (64, 6, 1, 4, 1, 0)]
def tLw_51 : List (Option jE) := [none, none, none, none, none, some (64, 6, 2, 4, 1, 0), none, none, none, none, none, some (59, 11, 87, 111, 2, 5090), none, none, some (1, 1, 0, 2, 2, 0), some (64, 6, 1, 4, 1, 0)]
def tLw_52 : List (Option jE) := [none, none, none, none, none, some (64, 6, 2, 4, 1, 0), none, none, none, none, none, some (59, 12, 90, 248, 2, 8192), none, none, some (20, 3, 0, 0, 1395, 0), none]
def tLw_53 : List (Option jE) := [none, some (0, 1, 0, 0, 0, 0), some (31, 1, 0, 3, 0, 0), some (1, 1, 0, 1, 2, 0), some (64, 6, 1, 4, 1, 0), none, none, none, none, none, some (64, 6, 2, 4, 1, 0), none, none, none, none, none]
def tLw_54 : List (Option jE) := [some (64, 6, 3, 4, 1, 0), none, none, none, none, none, some (64, 6, 4, 4, 1, 0), none, none, none, none, none, some (59, 11, 91, 112, 4, 5095), none, none, some (1, 1, 0, 2, 2, 0)]
def tLw_55 : List (Option jE) := [some (64, 6, 1, 4, 1, 0), none, none, none, none, none, some (64, 6, 2, 4, 1, 0), none, none, none, none, none, some (64, 6, 3, 4, 1, 0), none, none, none]
def tLw_56 : List (Option jE) := [none, none, some (64, 6, 4, 4, 1, 0), none, none, none, none, none, some (59, 12, 94, 249, 4, 8196), none, none, some (20, 3, 0, 0, 1395, 0), none, none, some (0, 1, 0, 0, 0, 0), some (31, 1, 0, 3, 0, 0)]
def tLw_57 : List (Option jE) := [some (1, 1, 0, 1, 2, 0), some (64, 6, 1, 4, 1, 0), none, none, none, none, none, some (59, 11, 95, 114, 1, 5106), none, none, some (1, 1, 0, 2, 2, 0), some (64, 6, 1, 4, 1, 0), none, none, none, none]
def tLw_58 : List (Option jE) := [none, some (59, 12, 98, 250, 1, 8200), none, none, some (20, 3, 0, 0, 1395, 0), none, none, some (0, 1, 0, 0, 0, 0), some (31, 1, 0, 3, 0, 0), some (1, 1, 0, 1, 2, 0), some (64, 6, 1, 4, 1, 0), none, none, none, none, none]
def tLw_59 : List (Option jE) := [some (64, 6, 2, 4, 1, 0), none, none, none, none, none, some (64, 6, 3, 4, 1, 0), none, none, none, none, none, some (59, 11, 99, 128, 3, 5169), none, none, some (1, 1, 0, 2, 2, 0)]
def tLw_60 : List (Option jE) := [some (64, 6, 1, 4, 1, 0), none, none, none, none, none, some (64, 6, 2, 4, 1, 0), none, none, none, none, none, some (64, 6, 3, 4, 1, 0), none, none, none]
def tLw_61 : List (Option jE) := [none, none, some (59, 12, 103, 265, 3, 9019), none, none, some (20, 3, 0, 0, 1395, 0), none, none, some (0, 1, 0, 0, 0, 0), some (31, 1, 0, 3, 0, 0), some (1, 1, 0, 1, 2, 0), some (64, 6, 1, 4, 1, 0), none, none, none, none]
def tLw_62 : List (Option jE) := [none, some (64, 6, 2, 4, 1, 0), none, none, none, none, none, some (59, 11, 104, 129, 2, 5173), none, none, some (1, 1, 0, 2, 2, 0), some (64, 6, 1, 4, 1, 0), none, none, none, none]
def tLw_63 : List (Option jE) := [none, some (64, 6, 2, 4, 1, 0), none, none, none, none, none, some (59, 12, 108, 266, 2, 9023), none, none, some (22, 4, 0, 0, 1395, 0), none, none, none, some (0, 1, 0, 0, 0, 0), some (31, 1, 0, 3, 0, 0)]
def tLw_64 : List (Option jE) := [some (1, 1, 0, 1, 2, 0), some (64, 6, 1, 4, 1, 0), none, none, none, none, none, some (64, 6, 2, 4, 1, 0), none, none, none, none, none, some (64, 6, 3, 4, 1, 0), none, none]
def tLw_65 : List (Option jE) := [none, none, none, some (64, 6, 4, 4, 1, 0), none, none, none, none, none, some (64, 6, 5, 4, 1, 0), none, none, none, none, none, some (59, 11, 109, 131, 5, 5185)]
def tLw_66 : List (Option jE) := [none, none, some (1, 1, 0, 2, 2, 0), some (64, 6, 1, 4, 1, 0), none, none, none, none, none, some (64, 6, 2, 4, 1, 0), none, none, none, none, none, some (64, 6, 3, 4, 1, 0)]
def tLw_67 : List (Option jE) := [none, none, none, none, none, some (64, 6, 4, 4, 1, 0), none, none, none, none, none, some (64, 6, 5, 4, 1, 0), none, none, none, none]
def tLw_68 : List (Option jE) := [none, some (59, 12, 112, 267, 5, 9032), none, none, some (20, 3, 0, 0, 1395, 0), none, none, some (0, 1, 0, 0, 0, 0), some (31, 1, 0, 3, 0, 0), some (1, 1, 0, 1, 2, 0), some (64, 6, 1, 4, 1, 0), none, none, none, none, none]
def tLw_69 : List (Option jE) := [some (64, 6, 2, 4, 1, 0), none, none, none, none, none, some (59, 11, 113, 142, 2, 5235), none, none, some (1, 1, 0, 2, 2, 0), some (64, 6, 1, 4, 1, 0), none, none, none, none, none]
def tLw_70 : List (Option jE) := [some (64, 6, 2, 4, 1, 0), none, none, none, none, none, some (59, 12, 116, 275, 2, 9064), none, none, some (20, 3, 0, 0, 1395, 0), none, none, some (0, 1, 0, 0, 0, 0), some (31, 1, 0, 3, 0, 0), some (1, 1, 0, 1, 2, 0), some (59, 11, 117, 143, 0, 5239)]
def tLw_71 : List (Option jE) := [none, none, some (1, 1, 0, 2, 2, 0), some (59, 12, 120, 276, 0, 9068), none, none, some (20, 3, 0, 0, 1395, 0), none, none, some (0, 1, 0, 0, 0, 0), some (31, 1, 0, 3, 0, 0), some (1, 1, 0, 1, 2, 0), some (59, 11, 121, 144, 0, 6003), none, none, some (1, 1, 0, 2, 2, 0)]
def tLw_72 : List (Option jE) := [some (59, 12, 124, 277, 0, 9072), none, none, some (20, 3, 0, 0, 1395, 0), none, none, some (0, 1, 0, 0, 0, 0), some (31, 1, 0, 3, 0, 0), some (1, 1, 0, 1, 2, 0), some (64, 6, 1, 4, 1, 0), none, none, none, none, none, some (64, 6, 2, 4, 1, 0)]
def tLw_73 : List (Option jE) := [none, none, none, none, none, some (64, 6, 3, 4, 1, 0), none, none, none, none, none, some (64, 6, 4, 4, 1, 0), none, none, none, none]
def tLw_74 : List (Option jE) := [none, some (64, 6, 5, 4, 1, 0), none, none, none, none, none, some (64, 7, 6, 4, 2, 0), none, none, none, none, none, none, some (59, 11, 125, 145, 6, 6007), none]
def tLw_75 : List (Option jE) := [none, some (1, 1, 0, 2, 2, 0), some (64, 6, 1, 4, 1, 0), none, none, none, none, none, some (64, 6, 2, 4, 1, 0), none, none, none, none, none, some (64, 6, 3, 4, 1, 0), none]
def tLw_76 : List (Option jE) := [none, none, none, none, some (64, 6, 4, 4, 1, 0), none, none, none, none, none, some (64, 6, 5, 4, 1, 0), none, none, none, none, none]
def tLw_77 : List (Option jE) := [some (64, 7, 6, 4, 2, 0), none, none, none, none, none, none, some (59, 12, 129, 278, 6, 9076), none, none, some (20, 3, 0, 0, 1395, 0), none, none, some (0, 1, 0, 0, 0, 0), some (31, 1, 0, 3, 0, 0), some (1, 1, 0, 1, 2, 0)]
def tLw_78 : List (Option jE) := [some (64, 6, 1, 4, 1, 0), none, none, none, none, none, some (64, 6, 2, 4, 1, 0), none, none, none, none, none, some (64, 6, 3, 4, 1, 0), none, none, none]
def tLw_79 : List (Option jE) := [none, none, some (59, 11, 130, 149, 3, 6021), none, none, some (1, 1, 0, 2, 2, 0), some (64, 6, 1, 4, 1, 0), none, none, none, none, none, some (64, 6, 2, 4, 1, 0), none, none, none]
def tLw_80 : List (Option jE) := [none, none, some (64, 6, 3, 4, 1, 0), none, none, none, none, none, some (59, 12, 133, 285, 3, 9102), none, none, some (20, 3, 0, 0, 1395, 0), none, none, some (0, 1, 0, 0, 0, 0), some (31, 1, 0, 3, 0, 0)]
def tLw_81 : List (Option jE) := [some (1, 1, 0, 1, 2, 0), some (64, 6, 1, 4, 1, 0), none, none, none, none, none, some (64, 6, 2, 4, 1, 0), none, none, none, none, none, some (64, 6, 3, 4, 1, 0), none, none]
def tLw_82 : List (Option jE) := [none, none, none, some (59, 11, 134, 150, 3, 6025), none, none, some (1, 1, 0, 2, 2, 0), some (64, 6, 1, 4, 1, 0), none, none, none, none, none, some (64, 6, 2, 4, 1, 0), none, none]
def tLw_83 : List (Option jE) := [none, none, none, some (64, 6, 3, 4, 1, 0), none, none, none, none, none, some (59, 12, 137, 286, 3, 9106), none, none, some (20, 3, 0, 0, 1395, 0), none, none, some (0, 1, 0, 0, 0, 0)]
def tLw_84 : List (Option jE) := [some (31, 1, 0, 3, 0, 0), some (1, 1, 0, 1, 2, 0), some (64, 6, 1, 4, 1, 0), none, none, none, none, none, some (59, 11, 138, 151, 1, 6029), none, none, some (1, 1, 0, 2, 2, 0), some (64, 6, 1, 4, 1, 0), none, none, none]
def tLw_85 : List (Option jE) := [none, none, some (59, 12, 141, 288, 1, 9114), none, none, some (20, 3, 0, 0, 1395, 0), none, none, some (0, 1, 0, 0, 0, 0), some (31, 1, 0, 3, 0, 0), some (1, 1, 0, 1, 2, 0), some (64, 6, 1, 4, 1, 0), none, none, none, none]
def tLw_86 : List (Option jE) := [none, some (59, 11, 142, 152, 1, 6033), none, none, some (1, 1, 0, 2, 2, 0), some (64, 6, 1, 4, 1, 0), none, none, none, none, none, some (59, 12, 145, 289, 1, 9118), none, none, some (20, 3, 0, 0, 1395, 0), none]
def tLw_87 : List (Option jE) := [none, some (0, 1, 0, 0, 0, 0), some (31, 1, 0, 3, 0, 0), some (3, 3, 7, 4, 0, 0), none, none, some (21, 3, 0, 0, 23, 0), none, none, some (0, 1, 1, 0, 0, 0), some (31, 1, 0, 3, 0, 0)]
def tLw : List (List (Option jE)) := [tLw_0, tLw_1, tLw_2, tLw_3, tLw_4, tLw_5, tLw_6, tLw_7, tLw_8, tLw_9, tLw_10, tLw_11, tLw_12, tLw_13, tLw_14, tLw_15, tLw_16, tLw_17, tLw_18, tLw_19, tLw_20, tLw_21, tLw_22, tLw_23, tLw_24, tLw_25, tLw_26, tLw_27, tLw_28, tLw_29, tLw_30, tLw_31, tLw_32, tLw_33, tLw_34, tLw_35, tLw_36, tLw_37, tLw_38, tLw_39, tLw_40, tLw_41, tLw_42, tLw_43, tLw_44, tLw_45, tLw_46, tLw_47, tLw_48, tLw_49, tLw_50, tLw_51, tLw_52, tLw_53, tLw_54, tLw_55, tLw_56, tLw_57, tLw_58, tLw_59, tLw_60, tLw_61, tLw_62, tLw_63, tLw_64, tLw_65, tLw_66, tLw_67, tLw_68, tLw_69, tLw_70, tLw_71, tLw_72, tLw_73, tLw_74, tLw_75, tLw_76, tLw_77, tLw_78, tLw_79, tLw_80, tLw_81, tLw_82, tLw_83, tLw_84, tLw_85, tLw_86, tLw_87]
def fLw : Nat → Option jE := jget tLw
theorem fLw_0 : fLw 0 = some (50, 12, 8, 11, 0, 1025) := rfl
theorem fLw_3 : fLw 3 = some (32, 1, 0, 0, 0, 0) := rfl
theorem fLw_4 : fLw 4 = some (53, 3, 17, 0, 0, 1027) := rfl
theorem fLw_7 : fLw 7 = some (2, 1, 0, 1, 2, 0) := rfl
theorem fLw_8 : fLw 8 = some (50, 55, 18, 12, 0, 6133) := rfl
theorem fLw_11 : fLw 11 = some (32, 1, 0, 0, 0, 0) := rfl
theorem fLw_12 : fLw 12 = some (53, 3, 20, 155, 0, 6135) := rfl
theorem fLw_15 : fLw 15 = some (2, 1, 0, 2, 2, 0) := rfl
theorem fLw_16 : fLw 16 = some (0, 1, 1, 0, 0, 0) := rfl
theorem fLw_17 : fLw 17 = some (51, 2, 0, 2, 0, 2126) := rfl
theorem fLw_19 : fLw 19 = some (2, 1, 0, 3, 2, 0) := rfl
theorem fLw_20 : fLw 20 = some (0, 1, 0, 0, 0, 0) := rfl
theorem fLw_21 : fLw 21 = some (2, 2, 0, 4, 0, 0) := rfl
theorem fLw_23 : fLw 23 = some (1, 2, 0, 4, 0, 0) := rfl
theorem fLw_25 : fLw 25 = some (65, 2, 0, 0, 0, 0) := rfl
theorem fLw_27 : fLw 27 = some (0, 2, 7, 0, 1, 0) := rfl
theorem fLw_29 : fLw 29 = some (5, 1, 0, 0, 0, 0) := rfl
theorem fLw_30 : fLw 30 = some (20, 3, 0, 4, 1401, 0) := rfl
theorem fLw_33 : fLw 33 = some (64, 4, 0, 4, 0, 0) := rfl
theorem fLw_37 : fLw 37 = some (0, 2, 31, 0, 1, 0) := rfl
theorem fLw_39 : fLw 39 = some (39, 1, 0, 0, 0, 0) := rfl
theorem fLw_168 : fLw 168 = some (1, 1, 0, 1, 2, 0) := rfl
theorem fLw_169 : fLw 169 = some (64, 6, 1, 4, 1, 0) := rfl
theorem fLw_175 : fLw 175 = some (64, 6, 2, 4, 1, 0) := rfl
theorem fLw_181 : fLw 181 = some (64, 6, 3, 4, 1, 0) := rfl
theorem fLw_187 : fLw 187 = some (64, 6, 4, 4, 1, 0) := rfl
theorem fLw_193 : fLw 193 = some (64, 6, 5, 4, 1, 0) := rfl
theorem fLw_199 : fLw 199 = some (59, 11, 21, 15, 5, 3184) := rfl
theorem fLw_202 : fLw 202 = some (1, 1, 0, 2, 2, 0) := rfl
theorem fLw_203 : fLw 203 = some (64, 6, 1, 4, 1, 0) := rfl
theorem fLw_209 : fLw 209 = some (64, 6, 2, 4, 1, 0) := rfl
theorem fLw_215 : fLw 215 = some (64, 6, 3, 4, 1, 0) := rfl
theorem fLw_221 : fLw 221 = some (64, 6, 4, 4, 1, 0) := rfl
theorem fLw_227 : fLw 227 = some (64, 6, 5, 4, 1, 0) := rfl
theorem fLw_233 : fLw 233 = some (59, 12, 25, 210, 5, 8040) := rfl
theorem fLw_236 : fLw 236 = some (20, 3, 0, 0, 1395, 0) := rfl
theorem fLw_239 : fLw 239 = some (0, 1, 0, 0, 0, 0) := rfl
theorem fLw_240 : fLw 240 = some (31, 1, 0, 3, 0, 0) := rfl
theorem fLw_241 : fLw 241 = some (1, 1, 0, 1, 2, 0) := rfl
theorem fLw_242 : fLw 242 = some (64, 6, 1, 4, 1, 0) := rfl
theorem fLw_248 : fLw 248 = some (59, 11, 26, 17, 1, 3192) := rfl
theorem fLw_251 : fLw 251 = some (1, 1, 0, 2, 2, 0) := rfl
theorem fLw_252 : fLw 252 = some (64, 6, 1, 4, 1, 0) := rfl
theorem fLw_258 : fLw 258 = some (59, 12, 30, 211, 1, 8044) := rfl
theorem fLw_261 : fLw 261 = some (20, 3, 0, 0, 1395, 0) := rfl
theorem fLw_264 : fLw 264 = some (0, 1, 0, 0, 0, 0) := rfl
theorem fLw_265 : fLw 265 = some (31, 1, 0, 3, 0, 0) := rfl
theorem fLw_266 : fLw 266 = some (1, 1, 0, 1, 2, 0) := rfl
theorem fLw_267 : fLw 267 = some (64, 6, 1, 4, 1, 0) := rfl
theorem fLw_273 : fLw 273 = some (59, 11, 31, 61, 1, 4132) := rfl
theorem fLw_276 : fLw 276 = some (1, 1, 0, 2, 2, 0) := rfl
theorem fLw_277 : fLw 277 = some (64, 6, 1, 4, 1, 0) := rfl
theorem fLw_283 : fLw 283 = some (59, 12, 34, 212, 1, 8048) := rfl
theorem fLw_286 : fLw 286 = some (20, 3, 0, 0, 1395, 0) := rfl
theorem fLw_289 : fLw 289 = some (0, 1, 0, 0, 0, 0) := rfl
theorem fLw_290 : fLw 290 = some (31, 1, 0, 3, 0, 0) := rfl
theorem fLw_291 : fLw 291 = some (1, 1, 0, 1, 2, 0) := rfl
theorem fLw_292 : fLw 292 = some (64, 6, 1, 4, 1, 0) := rfl
theorem fLw_298 : fLw 298 = some (59, 11, 35, 62, 1, 4136) := rfl
theorem fLw_301 : fLw 301 = some (1, 1, 0, 2, 2, 0) := rfl
theorem fLw_302 : fLw 302 = some (64, 6, 1, 4, 1, 0) := rfl
theorem fLw_308 : fLw 308 = some (59, 12, 38, 213, 1, 8052) := rfl
theorem fLw_311 : fLw 311 = some (20, 3, 0, 0, 1395, 0) := rfl
theorem fLw_314 : fLw 314 = some (0, 1, 0, 0, 0, 0) := rfl
theorem fLw_315 : fLw 315 = some (31, 1, 0, 3, 0, 0) := rfl
theorem fLw_316 : fLw 316 = some (1, 1, 0, 1, 2, 0) := rfl
theorem fLw_317 : fLw 317 = some (64, 6, 1, 4, 1, 0) := rfl
theorem fLw_323 : fLw 323 = some (59, 11, 39, 77, 1, 4194) := rfl
theorem fLw_326 : fLw 326 = some (1, 1, 0, 2, 2, 0) := rfl
theorem fLw_327 : fLw 327 = some (64, 6, 1, 4, 1, 0) := rfl
theorem fLw_333 : fLw 333 = some (59, 12, 42, 226, 1, 8103) := rfl
theorem fLw_336 : fLw 336 = some (20, 3, 0, 0, 1395, 0) := rfl
theorem fLw_339 : fLw 339 = some (0, 1, 0, 0, 0, 0) := rfl
theorem fLw_340 : fLw 340 = some (31, 1, 0, 3, 0, 0) := rfl
theorem fLw_341 : fLw 341 = some (1, 1, 0, 1, 2, 0) := rfl
theorem fLw_342 : fLw 342 = some (64, 6, 1, 4, 1, 0) := rfl
theorem fLw_348 : fLw 348 = some (64, 6, 2, 4, 1, 0) := rfl
theorem fLw_354 : fLw 354 = some (1, 1, 0, 3, 2, 0) := rfl
theorem fLw_358 : fLw 358 = some (2, 2, 0, 5, 0, 0) := rfl
theorem fLw_360 : fLw 360 = some (1, 1, 0, 2, 2, 0) := rfl
theorem fLw_361 : fLw 361 = some (64, 6, 1, 4, 1, 0) := rfl
theorem fLw_367 : fLw 367 = some (64, 6, 2, 4, 1, 0) := rfl
theorem fLw_373 : fLw 373 = some (59, 12, 48, 230, 2, 8119) := rfl
theorem fLw_376 : fLw 376 = some (2, 2, 0, 6, 0, 0) := rfl
theorem fLw_378 : fLw 378 = some (1, 1, 0, 2, 2, 0) := rfl
theorem fLw_379 : fLw 379 = some (59, 12, 49, 209, 0, 8036) := rfl
theorem fLw_382 : fLw 382 = some (1, 2, 0, 5, 0, 0) := rfl
theorem fLw_384 : fLw 384 = some (20, 3, 0, 0, 389, 0) := rfl
theorem fLw_387 : fLw 387 = some (0, 1, 0, 0, 0, 0) := rfl
theorem fLw_388 : fLw 388 = some (31, 1, 0, 3, 0, 0) := rfl
theorem fLw_389 : fLw 389 = some (1, 2, 0, 5, 0, 0) := rfl
theorem fLw_391 : fLw 391 = some (19, 3, 0, 1, 406, 0) := rfl
theorem fLw_394 : fLw 394 = some (1, 1, 0, 3, 2, 0) := rfl
theorem fLw_395 : fLw 395 = some (0, 1, 0, 0, 0, 0) := rfl
theorem fLw_396 : fLw 396 = some (25, 1, 0, 2, 0, 0) := rfl
theorem fLw_397 : fLw 397 = some (1, 2, 0, 6, 0, 0) := rfl
theorem fLw_399 : fLw 399 = some (16, 1, 0, 0, 0, 0) := rfl
theorem fLw_400 : fLw 400 = some (22, 4, 0, 0, 406, 0) := rfl
theorem fLw_404 : fLw 404 = some (0, 1, 0, 0, 0, 0) := rfl
theorem fLw_405 : fLw 405 = some (31, 1, 0, 3, 0, 0) := rfl
theorem fLw_406 : fLw 406 = some (21, 3, 0, 0, 1395, 0) := rfl
theorem fLw_409 : fLw 409 = some (1, 1, 0, 1, 2, 0) := rfl
theorem fLw_410 : fLw 410 = some (64, 6, 1, 4, 1, 0) := rfl
theorem fLw_416 : fLw 416 = some (64, 6, 2, 4, 1, 0) := rfl
theorem fLw_422 : fLw 422 = some (59, 11, 53, 83, 2, 4219) := rfl
theorem fLw_425 : fLw 425 = some (1, 1, 0, 2, 2, 0) := rfl
theorem fLw_426 : fLw 426 = some (64, 6, 1, 4, 1, 0) := rfl
theorem fLw_432 : fLw 432 = some (64, 6, 2, 4, 1, 0) := rfl
theorem fLw_438 : fLw 438 = some (59, 12, 56, 233, 2, 8131) := rfl
theorem fLw_441 : fLw 441 = some (20, 3, 0, 0, 1395, 0) := rfl
theorem fLw_444 : fLw 444 = some (0, 1, 0, 0, 0, 0) := rfl
theorem fLw_445 : fLw 445 = some (31, 1, 0, 3, 0, 0) := rfl
theorem fLw_446 : fLw 446 = some (1, 1, 0, 1, 2, 0) := rfl
theorem fLw_447 : fLw 447 = some (64, 6, 1, 4, 1, 0) := rfl
theorem fLw_453 : fLw 453 = some (64, 6, 2, 4, 1, 0) := rfl
theorem fLw_459 : fLw 459 = some (59, 11, 57, 85, 2, 4227) := rfl
theorem fLw_462 : fLw 462 = some (1, 1, 0, 2, 2, 0) := rfl
theorem fLw_463 : fLw 463 = some (64, 6, 1, 4, 1, 0) := rfl
theorem fLw_469 : fLw 469 = some (64, 6, 2, 4, 1, 0) := rfl
theorem fLw_475 : fLw 475 = some (59, 12, 60, 234, 2, 8135) := rfl
theorem fLw_478 : fLw 478 = some (20, 3, 0, 0, 1395, 0) := rfl
theorem fLw_481 : fLw 481 = some (0, 1, 0, 0, 0, 0) := rfl
theorem fLw_482 : fLw 482 = some (31, 1, 0, 3, 0, 0) := rfl
theorem fLw_483 : fLw 483 = some (1, 1, 0, 1, 2, 0) := rfl
theorem fLw_484 : fLw 484 = some (64, 6, 1, 4, 1, 0) := rfl
theorem fLw_490 : fLw 490 = some (64, 6, 2, 4, 1, 0) := rfl
theorem fLw_496 : fLw 496 = some (59, 11, 61, 87, 2, 4235) := rfl
theorem fLw_499 : fLw 499 = some (1, 1, 0, 2, 2, 0) := rfl
theorem fLw_500 : fLw 500 = some (64, 6, 1, 4, 1, 0) := rfl
theorem fLw_506 : fLw 506 = some (64, 6, 2, 4, 1, 0) := rfl
theorem fLw_512 : fLw 512 = some (59, 12, 64, 235, 2, 8139) := rfl
theorem fLw_515 : fLw 515 = some (20, 3, 0, 0, 1395, 0) := rfl
theorem fLw_518 : fLw 518 = some (0, 1, 0, 0, 0, 0) := rfl
theorem fLw_519 : fLw 519 = some (31, 1, 0, 3, 0, 0) := rfl
theorem fLw_520 : fLw 520 = some (1, 1, 0, 1, 2, 0) := rfl
theorem fLw_521 : fLw 521 = some (64, 6, 1, 4, 1, 0) := rfl
theorem fLw_527 : fLw 527 = some (64, 6, 2, 4, 1, 0) := rfl
theorem fLw_533 : fLw 533 = some (59, 11, 65, 88, 2, 5000) := rfl
theorem fLw_536 : fLw 536 = some (1, 1, 0, 2, 2, 0) := rfl
theorem fLw_537 : fLw 537 = some (64, 6, 1, 4, 1, 0) := rfl
theorem fLw_543 : fLw 543 = some (64, 6, 2, 4, 1, 0) := rfl
theorem fLw_549 : fLw 549 = some (59, 12, 68, 236, 2, 8143) := rfl
theorem fLw_552 : fLw 552 = some (20, 3, 0, 0, 1395, 0) := rfl
theorem fLw_555 : fLw 555 = some (0, 1, 0, 0, 0, 0) := rfl
theorem fLw_556 : fLw 556 = some (31, 1, 0, 3, 0, 0) := rfl
theorem fLw_557 : fLw 557 = some (1, 1, 0, 1, 2, 0) := rfl
theorem fLw_558 : fLw 558 = some (64, 6, 1, 4, 1, 0) := rfl
theorem fLw_564 : fLw 564 = some (64, 6, 2, 4, 1, 0) := rfl
theorem fLw_570 : fLw 570 = some (64, 6, 3, 4, 1, 0) := rfl
theorem fLw_576 : fLw 576 = some (64, 6, 4, 4, 1, 0) := rfl
theorem fLw_582 : fLw 582 = some (59, 11, 69, 100, 4, 5046) := rfl
theorem fLw_585 : fLw 585 = some (1, 1, 0, 2, 2, 0) := rfl
theorem fLw_586 : fLw 586 = some (64, 6, 1, 4, 1, 0) := rfl
theorem fLw_592 : fLw 592 = some (64, 6, 2, 4, 1, 0) := rfl
theorem fLw_598 : fLw 598 = some (64, 6, 3, 4, 1, 0) := rfl
theorem fLw_604 : fLw 604 = some (64, 6, 4, 4, 1, 0) := rfl
theorem fLw_610 : fLw 610 = some (59, 12, 73, 240, 4, 8159) := rfl
theorem fLw_613 : fLw 613 = some (20, 3, 0, 0, 1395, 0) := rfl
theorem fLw_616 : fLw 616 = some (0, 1, 0, 0, 0, 0) := rfl
theorem fLw_617 : fLw 617 = some (31, 1, 0, 3, 0, 0) := rfl
theorem fLw_618 : fLw 618 = some (1, 1, 0, 1, 2, 0) := rfl
theorem fLw_619 : fLw 619 = some (64, 6, 1, 4, 1, 0) := rfl
theorem fLw_625 : fLw 625 = some (64, 6, 2, 4, 1, 0) := rfl
theorem fLw_631 : fLw 631 = some (64, 6, 3, 4, 1, 0) := rfl
theorem fLw_637 : fLw 637 = some (64, 6, 4, 4, 1, 0) := rfl
theorem fLw_643 : fLw 643 = some (59, 11, 74, 103, 4, 5058) := rfl
theorem fLw_646 : fLw 646 = some (1, 1, 0, 2, 2, 0) := rfl
theorem fLw_647 : fLw 647 = some (64, 6, 1, 4, 1, 0) := rfl
theorem fLw_653 : fLw 653 = some (64, 6, 2, 4, 1, 0) := rfl
theorem fLw_659 : fLw 659 = some (64, 6, 3, 4, 1, 0) := rfl
theorem fLw_665 : fLw 665 = some (64, 6, 4, 4, 1, 0) := rfl
theorem fLw_671 : fLw 671 = some (59, 12, 78, 242, 4, 8168) := rfl
theorem fLw_674 : fLw 674 = some (22, 4, 0, 0, 1395, 0) := rfl
theorem fLw_678 : fLw 678 = some (0, 1, 0, 0, 0, 0) := rfl
theorem fLw_679 : fLw 679 = some (31, 1, 0, 3, 0, 0) := rfl
theorem fLw_680 : fLw 680 = some (1, 1, 0, 1, 2, 0) := rfl
theorem fLw_681 : fLw 681 = some (64, 6, 1, 4, 1, 0) := rfl
theorem fLw_687 : fLw 687 = some (64, 6, 2, 4, 1, 0) := rfl
theorem fLw_693 : fLw 693 = some (64, 6, 3, 4, 1, 0) := rfl
theorem fLw_699 : fLw 699 = some (64, 6, 4, 4, 1, 0) := rfl
theorem fLw_705 : fLw 705 = some (64, 6, 5, 4, 1, 0) := rfl
theorem fLw_711 : fLw 711 = some (59, 11, 79, 104, 5, 5063) := rfl
theorem fLw_714 : fLw 714 = some (1, 1, 0, 2, 2, 0) := rfl
theorem fLw_715 : fLw 715 = some (64, 6, 1, 4, 1, 0) := rfl
theorem fLw_721 : fLw 721 = some (64, 6, 2, 4, 1, 0) := rfl
theorem fLw_727 : fLw 727 = some (64, 6, 3, 4, 1, 0) := rfl
theorem fLw_733 : fLw 733 = some (64, 6, 4, 4, 1, 0) := rfl
theorem fLw_739 : fLw 739 = some (64, 6, 5, 4, 1, 0) := rfl
theorem fLw_745 : fLw 745 = some (59, 12, 82, 243, 5, 8173) := rfl
theorem fLw_748 : fLw 748 = some (20, 3, 0, 0, 1395, 0) := rfl
theorem fLw_751 : fLw 751 = some (0, 1, 0, 0, 0, 0) := rfl
theorem fLw_752 : fLw 752 = some (31, 1, 0, 3, 0, 0) := rfl
theorem fLw_753 : fLw 753 = some (1, 1, 0, 1, 2, 0) := rfl
theorem fLw_754 : fLw 754 = some (64, 6, 1, 4, 1, 0) := rfl
theorem fLw_760 : fLw 760 = some (64, 6, 2, 4, 1, 0) := rfl
theorem fLw_766 : fLw 766 = some (64, 6, 3, 4, 1, 0) := rfl
theorem fLw_772 : fLw 772 = some (64, 6, 4, 4, 1, 0) := rfl
theorem fLw_778 : fLw 778 = some (59, 11, 83, 108, 4, 5077) := rfl
theorem fLw_781 : fLw 781 = some (1, 1, 0, 2, 2, 0) := rfl
theorem fLw_782 : fLw 782 = some (64, 6, 1, 4, 1, 0) := rfl
theorem fLw_788 : fLw 788 = some (64, 6, 2, 4, 1, 0) := rfl
theorem fLw_794 : fLw 794 = some (64, 6, 3, 4, 1, 0) := rfl
theorem fLw_800 : fLw 800 = some (64, 6, 4, 4, 1, 0) := rfl
theorem fLw_806 : fLw 806 = some (59, 12, 86, 246, 4, 8184) := rfl
theorem fLw_809 : fLw 809 = some (20, 3, 0, 0, 1395, 0) := rfl
theorem fLw_812 : fLw 812 = some (0, 1, 0, 0, 0, 0) := rfl
theorem fLw_813 : fLw 813 = some (31, 1, 0, 3, 0, 0) := rfl
theorem fLw_814 : fLw 814 = some (1, 1, 0, 1, 2, 0) := rfl
theorem fLw_815 : fLw 815 = some (64, 6, 1, 4, 1, 0) := rfl
theorem fLw_821 : fLw 821 = some (64, 6, 2, 4, 1, 0) := rfl
theorem fLw_827 : fLw 827 = some (59, 11, 87, 111, 2, 5090) := rfl
theorem fLw_830 : fLw 830 = some (1, 1, 0, 2, 2, 0) := rfl
theorem fLw_831 : fLw 831 = some (64, 6, 1, 4, 1, 0) := rfl
theorem fLw_837 : fLw 837 = some (64, 6, 2, 4, 1, 0) := rfl
theorem fLw_843 : fLw 843 = some (59, 12, 90, 248, 2, 8192) := rfl
theorem fLw_846 : fLw 846 = some (20, 3, 0, 0, 1395, 0) := rfl
theorem fLw_849 : fLw 849 = some (0, 1, 0, 0, 0, 0) := rfl
theorem fLw_850 : fLw 850 = some (31, 1, 0, 3, 0, 0) := rfl
theorem fLw_851 : fLw 851 = some (1, 1, 0, 1, 2, 0) := rfl
theorem fLw_852 : fLw 852 = some (64, 6, 1, 4, 1, 0) := rfl
theorem fLw_858 : fLw 858 = some (64, 6, 2, 4, 1, 0) := rfl
theorem fLw_864 : fLw 864 = some (64, 6, 3, 4, 1, 0) := rfl
theorem fLw_870 : fLw 870 = some (64, 6, 4, 4, 1, 0) := rfl
theorem fLw_876 : fLw 876 = some (59, 11, 91, 112, 4, 5095) := rfl
theorem fLw_879 : fLw 879 = some (1, 1, 0, 2, 2, 0) := rfl
theorem fLw_880 : fLw 880 = some (64, 6, 1, 4, 1, 0) := rfl
theorem fLw_886 : fLw 886 = some (64, 6, 2, 4, 1, 0) := rfl
theorem fLw_892 : fLw 892 = some (64, 6, 3, 4, 1, 0) := rfl
theorem fLw_898 : fLw 898 = some (64, 6, 4, 4, 1, 0) := rfl
theorem fLw_904 : fLw 904 = some (59, 12, 94, 249, 4, 8196) := rfl
theorem fLw_907 : fLw 907 = some (20, 3, 0, 0, 1395, 0) := rfl
theorem fLw_910 : fLw 910 = some (0, 1, 0, 0, 0, 0) := rfl
theorem fLw_911 : fLw 911 = some (31, 1, 0, 3, 0, 0) := rfl
theorem fLw_912 : fLw 912 = some (1, 1, 0, 1, 2, 0) := rfl
theorem fLw_913 : fLw 913 = some (64, 6, 1, 4, 1, 0) := rfl
theorem fLw_919 : fLw 919 = some (59, 11, 95, 114, 1, 5106) := rfl
theorem fLw_922 : fLw 922 = some (1, 1, 0, 2, 2, 0) := rfl
theorem fLw_923 : fLw 923 = some (64, 6, 1, 4, 1, 0) := rfl
theorem fLw_929 : fLw 929 = some (59, 12, 98, 250, 1, 8200) := rfl
theorem fLw_932 : fLw 932 = some (20, 3, 0, 0, 1395, 0) := rfl
theorem fLw_935 : fLw 935 = some (0, 1, 0, 0, 0, 0) := rfl
theorem fLw_936 : fLw 936 = some (31, 1, 0, 3, 0, 0) := rfl
theorem fLw_937 : fLw 937 = some (1, 1, 0, 1, 2, 0) := rfl
theorem fLw_938 : fLw 938 = some (64, 6, 1, 4, 1, 0) := rfl
theorem fLw_944 : fLw 944 = some (64, 6, 2, 4, 1, 0) := rfl
theorem fLw_950 : fLw 950 = some (64, 6, 3, 4, 1, 0) := rfl
theorem fLw_956 : fLw 956 = some (59, 11, 99, 128, 3, 5169) := rfl
theorem fLw_959 : fLw 959 = some (1, 1, 0, 2, 2, 0) := rfl
theorem fLw_960 : fLw 960 = some (64, 6, 1, 4, 1, 0) := rfl
theorem fLw_966 : fLw 966 = some (64, 6, 2, 4, 1, 0) := rfl
theorem fLw_972 : fLw 972 = some (64, 6, 3, 4, 1, 0) := rfl
theorem fLw_978 : fLw 978 = some (59, 12, 103, 265, 3, 9019) := rfl
theorem fLw_981 : fLw 981 = some (20, 3, 0, 0, 1395, 0) := rfl
theorem fLw_984 : fLw 984 = some (0, 1, 0, 0, 0, 0) := rfl
theorem fLw_985 : fLw 985 = some (31, 1, 0, 3, 0, 0) := rfl
theorem fLw_986 : fLw 986 = some (1, 1, 0, 1, 2, 0) := rfl
theorem fLw_987 : fLw 987 = some (64, 6, 1, 4, 1, 0) := rfl
theorem fLw_993 : fLw 993 = some (64, 6, 2, 4, 1, 0) := rfl
theorem fLw_999 : fLw 999 = some (59, 11, 104, 129, 2, 5173) := rfl
theorem fLw_1002 : fLw 1002 = some (1, 1, 0, 2, 2, 0) := rfl
theorem fLw_1003 : fLw 1003 = some (64, 6, 1, 4, 1, 0) := rfl
theorem fLw_1009 : fLw 1009 = some (64, 6, 2, 4, 1, 0) := rfl
theorem fLw_1015 : fLw 1015 = some (59, 12, 108, 266, 2, 9023) := rfl
theorem fLw_1018 : fLw 1018 = some (22, 4, 0, 0, 1395, 0) := rfl
theorem fLw_1022 : fLw 1022 = some (0, 1, 0, 0, 0, 0) := rfl
theorem fLw_1023 : fLw 1023 = some (31, 1, 0, 3, 0, 0) := rfl
theorem fLw_1024 : fLw 1024 = some (1, 1, 0, 1, 2, 0) := rfl
theorem fLw_1025 : fLw 1025 = some (64, 6, 1, 4, 1, 0) := rfl
theorem fLw_1031 : fLw 1031 = some (64, 6, 2, 4, 1, 0) := rfl
theorem fLw_1037 : fLw 1037 = some (64, 6, 3, 4, 1, 0) := rfl
theorem fLw_1043 : fLw 1043 = some (64, 6, 4, 4, 1, 0) := rfl
theorem fLw_1049 : fLw 1049 = some (64, 6, 5, 4, 1, 0) := rfl
theorem fLw_1055 : fLw 1055 = some (59, 11, 109, 131, 5, 5185) := rfl
theorem fLw_1058 : fLw 1058 = some (1, 1, 0, 2, 2, 0) := rfl
theorem fLw_1059 : fLw 1059 = some (64, 6, 1, 4, 1, 0) := rfl
theorem fLw_1065 : fLw 1065 = some (64, 6, 2, 4, 1, 0) := rfl
theorem fLw_1071 : fLw 1071 = some (64, 6, 3, 4, 1, 0) := rfl
theorem fLw_1077 : fLw 1077 = some (64, 6, 4, 4, 1, 0) := rfl
theorem fLw_1083 : fLw 1083 = some (64, 6, 5, 4, 1, 0) := rfl
theorem fLw_1089 : fLw 1089 = some (59, 12, 112, 267, 5, 9032) := rfl
theorem fLw_1092 : fLw 1092 = some (20, 3, 0, 0, 1395, 0) := rfl
theorem fLw_1095 : fLw 1095 = some (0, 1, 0, 0, 0, 0) := rfl
theorem fLw_1096 : fLw 1096 = some (31, 1, 0, 3, 0, 0) := rfl
theorem fLw_1097 : fLw 1097 = some (1, 1, 0, 1, 2, 0) := rfl
theorem fLw_1098 : fLw 1098 = some (64, 6, 1, 4, 1, 0) := rfl
theorem fLw_1104 : fLw 1104 = some (64, 6, 2, 4, 1, 0) := rfl
theorem fLw_1110 : fLw 1110 = some (59, 11, 113, 142, 2, 5235) := rfl
theorem fLw_1113 : fLw 1113 = some (1, 1, 0, 2, 2, 0) := rfl
theorem fLw_1114 : fLw 1114 = some (64, 6, 1, 4, 1, 0) := rfl
theorem fLw_1120 : fLw 1120 = some (64, 6, 2, 4, 1, 0) := rfl
theorem fLw_1126 : fLw 1126 = some (59, 12, 116, 275, 2, 9064) := rfl
theorem fLw_1129 : fLw 1129 = some (20, 3, 0, 0, 1395, 0) := rfl
theorem fLw_1132 : fLw 1132 = some (0, 1, 0, 0, 0, 0) := rfl
theorem fLw_1133 : fLw 1133 = some (31, 1, 0, 3, 0, 0) := rfl
theorem fLw_1134 : fLw 1134 = some (1, 1, 0, 1, 2, 0) := rfl
theorem fLw_1135 : fLw 1135 = some (59, 11, 117, 143, 0, 5239) := rfl
theorem fLw_1138 : fLw 1138 = some (1, 1, 0, 2, 2, 0) := rfl
theorem fLw_1139 : fLw 1139 = some (59, 12, 120, 276, 0, 9068) := rfl
theorem fLw_1142 : fLw 1142 = some (20, 3, 0, 0, 1395, 0) := rfl
theorem fLw_1145 : fLw 1145 = some (0, 1, 0, 0, 0, 0) := rfl
theorem fLw_1146 : fLw 1146 = some (31, 1, 0, 3, 0, 0) := rfl
theorem fLw_1147 : fLw 1147 = some (1, 1, 0, 1, 2, 0) := rfl
theorem fLw_1148 : fLw 1148 = some (59, 11, 121, 144, 0, 6003) := rfl
theorem fLw_1151 : fLw 1151 = some (1, 1, 0, 2, 2, 0) := rfl
theorem fLw_1152 : fLw 1152 = some (59, 12, 124, 277, 0, 9072) := rfl
theorem fLw_1155 : fLw 1155 = some (20, 3, 0, 0, 1395, 0) := rfl
theorem fLw_1158 : fLw 1158 = some (0, 1, 0, 0, 0, 0) := rfl
theorem fLw_1159 : fLw 1159 = some (31, 1, 0, 3, 0, 0) := rfl
theorem fLw_1160 : fLw 1160 = some (1, 1, 0, 1, 2, 0) := rfl
theorem fLw_1161 : fLw 1161 = some (64, 6, 1, 4, 1, 0) := rfl
theorem fLw_1167 : fLw 1167 = some (64, 6, 2, 4, 1, 0) := rfl
theorem fLw_1173 : fLw 1173 = some (64, 6, 3, 4, 1, 0) := rfl
theorem fLw_1179 : fLw 1179 = some (64, 6, 4, 4, 1, 0) := rfl
theorem fLw_1185 : fLw 1185 = some (64, 6, 5, 4, 1, 0) := rfl
theorem fLw_1191 : fLw 1191 = some (64, 7, 6, 4, 2, 0) := rfl
theorem fLw_1198 : fLw 1198 = some (59, 11, 125, 145, 6, 6007) := rfl
theorem fLw_1201 : fLw 1201 = some (1, 1, 0, 2, 2, 0) := rfl
theorem fLw_1202 : fLw 1202 = some (64, 6, 1, 4, 1, 0) := rfl
theorem fLw_1208 : fLw 1208 = some (64, 6, 2, 4, 1, 0) := rfl
theorem fLw_1214 : fLw 1214 = some (64, 6, 3, 4, 1, 0) := rfl
theorem fLw_1220 : fLw 1220 = some (64, 6, 4, 4, 1, 0) := rfl
theorem fLw_1226 : fLw 1226 = some (64, 6, 5, 4, 1, 0) := rfl
theorem fLw_1232 : fLw 1232 = some (64, 7, 6, 4, 2, 0) := rfl
theorem fLw_1239 : fLw 1239 = some (59, 12, 129, 278, 6, 9076) := rfl
theorem fLw_1242 : fLw 1242 = some (20, 3, 0, 0, 1395, 0) := rfl
theorem fLw_1245 : fLw 1245 = some (0, 1, 0, 0, 0, 0) := rfl
theorem fLw_1246 : fLw 1246 = some (31, 1, 0, 3, 0, 0) := rfl
theorem fLw_1247 : fLw 1247 = some (1, 1, 0, 1, 2, 0) := rfl
theorem fLw_1248 : fLw 1248 = some (64, 6, 1, 4, 1, 0) := rfl
theorem fLw_1254 : fLw 1254 = some (64, 6, 2, 4, 1, 0) := rfl
theorem fLw_1260 : fLw 1260 = some (64, 6, 3, 4, 1, 0) := rfl
theorem fLw_1266 : fLw 1266 = some (59, 11, 130, 149, 3, 6021) := rfl
theorem fLw_1269 : fLw 1269 = some (1, 1, 0, 2, 2, 0) := rfl
theorem fLw_1270 : fLw 1270 = some (64, 6, 1, 4, 1, 0) := rfl
theorem fLw_1276 : fLw 1276 = some (64, 6, 2, 4, 1, 0) := rfl
theorem fLw_1282 : fLw 1282 = some (64, 6, 3, 4, 1, 0) := rfl
theorem fLw_1288 : fLw 1288 = some (59, 12, 133, 285, 3, 9102) := rfl
theorem fLw_1291 : fLw 1291 = some (20, 3, 0, 0, 1395, 0) := rfl
theorem fLw_1294 : fLw 1294 = some (0, 1, 0, 0, 0, 0) := rfl
theorem fLw_1295 : fLw 1295 = some (31, 1, 0, 3, 0, 0) := rfl
theorem fLw_1296 : fLw 1296 = some (1, 1, 0, 1, 2, 0) := rfl
theorem fLw_1297 : fLw 1297 = some (64, 6, 1, 4, 1, 0) := rfl
theorem fLw_1303 : fLw 1303 = some (64, 6, 2, 4, 1, 0) := rfl
theorem fLw_1309 : fLw 1309 = some (64, 6, 3, 4, 1, 0) := rfl
theorem fLw_1315 : fLw 1315 = some (59, 11, 134, 150, 3, 6025) := rfl
theorem fLw_1318 : fLw 1318 = some (1, 1, 0, 2, 2, 0) := rfl
theorem fLw_1319 : fLw 1319 = some (64, 6, 1, 4, 1, 0) := rfl
theorem fLw_1325 : fLw 1325 = some (64, 6, 2, 4, 1, 0) := rfl
theorem fLw_1331 : fLw 1331 = some (64, 6, 3, 4, 1, 0) := rfl
theorem fLw_1337 : fLw 1337 = some (59, 12, 137, 286, 3, 9106) := rfl
theorem fLw_1340 : fLw 1340 = some (20, 3, 0, 0, 1395, 0) := rfl
theorem fLw_1343 : fLw 1343 = some (0, 1, 0, 0, 0, 0) := rfl
theorem fLw_1344 : fLw 1344 = some (31, 1, 0, 3, 0, 0) := rfl
theorem fLw_1345 : fLw 1345 = some (1, 1, 0, 1, 2, 0) := rfl
theorem fLw_1346 : fLw 1346 = some (64, 6, 1, 4, 1, 0) := rfl
theorem fLw_1352 : fLw 1352 = some (59, 11, 138, 151, 1, 6029) := rfl
theorem fLw_1355 : fLw 1355 = some (1, 1, 0, 2, 2, 0) := rfl
theorem fLw_1356 : fLw 1356 = some (64, 6, 1, 4, 1, 0) := rfl
theorem fLw_1362 : fLw 1362 = some (59, 12, 141, 288, 1, 9114) := rfl
theorem fLw_1365 : fLw 1365 = some (20, 3, 0, 0, 1395, 0) := rfl
theorem fLw_1368 : fLw 1368 = some (0, 1, 0, 0, 0, 0) := rfl
theorem fLw_1369 : fLw 1369 = some (31, 1, 0, 3, 0, 0) := rfl
theorem fLw_1370 : fLw 1370 = some (1, 1, 0, 1, 2, 0) := rfl
theorem fLw_1371 : fLw 1371 = some (64, 6, 1, 4, 1, 0) := rfl
theorem fLw_1377 : fLw 1377 = some (59, 11, 142, 152, 1, 6033) := rfl
theorem fLw_1380 : fLw 1380 = some (1, 1, 0, 2, 2, 0) := rfl
theorem fLw_1381 : fLw 1381 = some (64, 6, 1, 4, 1, 0) := rfl
theorem fLw_1387 : fLw 1387 = some (59, 12, 145, 289, 1, 9118) := rfl
theorem fLw_1390 : fLw 1390 = some (20, 3, 0, 0, 1395, 0) := rfl
theorem fLw_1393 : fLw 1393 = some (0, 1, 0, 0, 0, 0) := rfl
theorem fLw_1394 : fLw 1394 = some (31, 1, 0, 3, 0, 0) := rfl
theorem fLw_1395 : fLw 1395 = some (3, 3, 7, 4, 0, 0) := rfl
theorem fLw_1398 : fLw 1398 = some (21, 3, 0, 0, 23, 0) := rfl
theorem fLw_1401 : fLw 1401 = some (0, 1, 1, 0, 0, 0) := rfl
theorem fLw_1402 : fLw 1402 = some (31, 1, 0, 3, 0, 0) := rfl
theorem cLw_0 : xchk lS true 15 mL_law 0 tLw_0 = true := by decide +kernel
theorem cLw_1 : xchk lS true 15 mL_law 16 tLw_1 = true := by decide +kernel
theorem cLw_2 : xchk lS true 15 mL_law 32 tLw_2 = true := by decide +kernel
theorem cLw_3 : xchk lS true 15 mL_law 48 tLw_3 = true := by decide +kernel
theorem cLw_4 : xchk lS true 15 mL_law 64 tLw_4 = true := by decide +kernel
theorem cLw_5 : xchk lS true 15 mL_law 80 tLw_5 = true := by decide +kernel
theorem cLw_6 : xchk lS true 15 mL_law 96 tLw_6 = true := by decide +kernel
theorem cLw_7 : xchk lS true 15 mL_law 112 tLw_7 = true := by decide +kernel
theorem cLw_8 : xchk lS true 15 mL_law 128 tLw_8 = true := by decide +kernel
theorem cLw_9 : xchk lS true 15 mL_law 144 tLw_9 = true := by decide +kernel
theorem cLw_10 : xchk lS true 15 mL_law 160 tLw_10 = true := by decide +kernel
theorem cLw_11 : xchk lS true 15 mL_law 176 tLw_11 = true := by decide +kernel
theorem cLw_12 : xchk lS true 15 mL_law 192 tLw_12 = true := by decide +kernel
theorem cLw_13 : xchk lS true 15 mL_law 208 tLw_13 = true := by decide +kernel
theorem cLw_14 : xchk lS true 15 mL_law 224 tLw_14 = true := by decide +kernel
theorem cLw_15 : xchk lS true 15 mL_law 240 tLw_15 = true := by decide +kernel
theorem cLw_16 : xchk lS true 15 mL_law 256 tLw_16 = true := by decide +kernel
theorem cLw_17 : xchk lS true 15 mL_law 272 tLw_17 = true := by decide +kernel
theorem cLw_18 : xchk lS true 15 mL_law 288 tLw_18 = true := by decide +kernel
theorem cLw_19 : xchk lS true 15 mL_law 304 tLw_19 = true := by decide +kernel
theorem cLw_20 : xchk lS true 15 mL_law 320 tLw_20 = true := by decide +kernel
theorem cLw_21 : xchk lS true 15 mL_law 336 tLw_21 = true := by decide +kernel
theorem cLw_22 : xchk lS true 15 mL_law 352 tLw_22 = true := by decide +kernel
theorem cLw_23 : xchk lS true 15 mL_law 368 tLw_23 = true := by decide +kernel
theorem cLw_24 : xchk lS true 15 mL_law 384 tLw_24 = true := by decide +kernel
theorem cLw_25 : xchk lS true 15 mL_law 400 tLw_25 = true := by decide +kernel
theorem cLw_26 : xchk lS true 15 mL_law 416 tLw_26 = true := by decide +kernel
theorem cLw_27 : xchk lS true 15 mL_law 432 tLw_27 = true := by decide +kernel
theorem cLw_28 : xchk lS true 15 mL_law 448 tLw_28 = true := by decide +kernel
theorem cLw_29 : xchk lS true 15 mL_law 464 tLw_29 = true := by decide +kernel
theorem cLw_30 : xchk lS true 15 mL_law 480 tLw_30 = true := by decide +kernel
theorem cLw_31 : xchk lS true 15 mL_law 496 tLw_31 = true := by decide +kernel
theorem cLw_32 : xchk lS true 15 mL_law 512 tLw_32 = true := by decide +kernel
theorem cLw_33 : xchk lS true 15 mL_law 528 tLw_33 = true := by decide +kernel
theorem cLw_34 : xchk lS true 15 mL_law 544 tLw_34 = true := by decide +kernel
theorem cLw_35 : xchk lS true 15 mL_law 560 tLw_35 = true := by decide +kernel
theorem cLw_36 : xchk lS true 15 mL_law 576 tLw_36 = true := by decide +kernel
theorem cLw_37 : xchk lS true 15 mL_law 592 tLw_37 = true := by decide +kernel
theorem cLw_38 : xchk lS true 15 mL_law 608 tLw_38 = true := by decide +kernel
theorem cLw_39 : xchk lS true 15 mL_law 624 tLw_39 = true := by decide +kernel
theorem cLw_40 : xchk lS true 15 mL_law 640 tLw_40 = true := by decide +kernel
theorem cLw_41 : xchk lS true 15 mL_law 656 tLw_41 = true := by decide +kernel
theorem cLw_42 : xchk lS true 15 mL_law 672 tLw_42 = true := by decide +kernel
theorem cLw_43 : xchk lS true 15 mL_law 688 tLw_43 = true := by decide +kernel
theorem cLw_44 : xchk lS true 15 mL_law 704 tLw_44 = true := by decide +kernel
theorem cLw_45 : xchk lS true 15 mL_law 720 tLw_45 = true := by decide +kernel
theorem cLw_46 : xchk lS true 15 mL_law 736 tLw_46 = true := by decide +kernel
theorem cLw_47 : xchk lS true 15 mL_law 752 tLw_47 = true := by decide +kernel
theorem cLw_48 : xchk lS true 15 mL_law 768 tLw_48 = true := by decide +kernel
theorem cLw_49 : xchk lS true 15 mL_law 784 tLw_49 = true := by decide +kernel
theorem cLw_50 : xchk lS true 15 mL_law 800 tLw_50 = true := by decide +kernel
theorem cLw_51 : xchk lS true 15 mL_law 816 tLw_51 = true := by decide +kernel
theorem cLw_52 : xchk lS true 15 mL_law 832 tLw_52 = true := by decide +kernel
theorem cLw_53 : xchk lS true 15 mL_law 848 tLw_53 = true := by decide +kernel
theorem cLw_54 : xchk lS true 15 mL_law 864 tLw_54 = true := by decide +kernel
theorem cLw_55 : xchk lS true 15 mL_law 880 tLw_55 = true := by decide +kernel
theorem cLw_56 : xchk lS true 15 mL_law 896 tLw_56 = true := by decide +kernel
theorem cLw_57 : xchk lS true 15 mL_law 912 tLw_57 = true := by decide +kernel
theorem cLw_58 : xchk lS true 15 mL_law 928 tLw_58 = true := by decide +kernel
theorem cLw_59 : xchk lS true 15 mL_law 944 tLw_59 = true := by decide +kernel
theorem cLw_60 : xchk lS true 15 mL_law 960 tLw_60 = true := by decide +kernel
theorem cLw_61 : xchk lS true 15 mL_law 976 tLw_61 = true := by decide +kernel
theorem cLw_62 : xchk lS true 15 mL_law 992 tLw_62 = true := by decide +kernel
theorem cLw_63 : xchk lS true 15 mL_law 1008 tLw_63 = true := by decide +kernel
theorem cLw_64 : xchk lS true 15 mL_law 1024 tLw_64 = true := by decide +kernel
theorem cLw_65 : xchk lS true 15 mL_law 1040 tLw_65 = true := by decide +kernel
theorem cLw_66 : xchk lS true 15 mL_law 1056 tLw_66 = true := by decide +kernel
theorem cLw_67 : xchk lS true 15 mL_law 1072 tLw_67 = true := by decide +kernel
theorem cLw_68 : xchk lS true 15 mL_law 1088 tLw_68 = true := by decide +kernel
theorem cLw_69 : xchk lS true 15 mL_law 1104 tLw_69 = true := by decide +kernel
theorem cLw_70 : xchk lS true 15 mL_law 1120 tLw_70 = true := by decide +kernel
theorem cLw_71 : xchk lS true 15 mL_law 1136 tLw_71 = true := by decide +kernel
theorem cLw_72 : xchk lS true 15 mL_law 1152 tLw_72 = true := by decide +kernel
theorem cLw_73 : xchk lS true 15 mL_law 1168 tLw_73 = true := by decide +kernel
theorem cLw_74 : xchk lS true 15 mL_law 1184 tLw_74 = true := by decide +kernel
theorem cLw_75 : xchk lS true 15 mL_law 1200 tLw_75 = true := by decide +kernel
theorem cLw_76 : xchk lS true 15 mL_law 1216 tLw_76 = true := by decide +kernel
theorem cLw_77 : xchk lS true 15 mL_law 1232 tLw_77 = true := by decide +kernel
theorem cLw_78 : xchk lS true 15 mL_law 1248 tLw_78 = true := by decide +kernel
theorem cLw_79 : xchk lS true 15 mL_law 1264 tLw_79 = true := by decide +kernel
theorem cLw_80 : xchk lS true 15 mL_law 1280 tLw_80 = true := by decide +kernel
theorem cLw_81 : xchk lS true 15 mL_law 1296 tLw_81 = true := by decide +kernel
theorem cLw_82 : xchk lS true 15 mL_law 1312 tLw_82 = true := by decide +kernel
theorem cLw_83 : xchk lS true 15 mL_law 1328 tLw_83 = true := by decide +kernel
theorem cLw_84 : xchk lS true 15 mL_law 1344 tLw_84 = true := by decide +kernel
theorem cLw_85 : xchk lS true 15 mL_law 1360 tLw_85 = true := by decide +kernel
theorem cLw_86 : xchk lS true 15 mL_law 1376 tLw_86 = true := by decide +kernel
theorem cLw_87 : xchk lS true 15 mL_law 1392 tLw_87 = true := by decide +kernel
theorem kLw : xfok lS true mL_law fLw := xfok_of 15 (by decide) rfl (by simp only [tLw, xchks, Nat.reduceAdd, cLw_0, cLw_1, cLw_2, cLw_3, cLw_4, cLw_5, cLw_6, cLw_7, cLw_8, cLw_9, cLw_10, cLw_11, cLw_12, cLw_13, cLw_14, cLw_15, cLw_16, cLw_17, cLw_18, cLw_19, cLw_20, cLw_21, cLw_22, cLw_23, cLw_24, cLw_25, cLw_26, cLw_27, cLw_28, cLw_29, cLw_30, cLw_31, cLw_32, cLw_33, cLw_34, cLw_35, cLw_36, cLw_37, cLw_38, cLw_39, cLw_40, cLw_41, cLw_42, cLw_43, cLw_44, cLw_45, cLw_46, cLw_47, cLw_48, cLw_49, cLw_50, cLw_51, cLw_52, cLw_53, cLw_54, cLw_55, cLw_56, cLw_57, cLw_58, cLw_59, cLw_60, cLw_61, cLw_62, cLw_63, cLw_64, cLw_65, cLw_66, cLw_67, cLw_68, cLw_69, cLw_70, cLw_71, cLw_72, cLw_73, cLw_74, cLw_75, cLw_76, cLw_77, cLw_78, cLw_79, cLw_80, cLw_81, cLw_82, cLw_83, cLw_84, cLw_85, cLw_86, cLw_87, Bool.and_true, Bool.true_and])

/-- where the law's switch goes -/
def lsw : List Nat := [168, 241, 266, 291, 316, 341, 409, 446, 483, 520, 557, 618, 680, 753, 814, 851, 912, 937, 986, 1024, 1097, 1134, 1147, 1160, 1247, 1296, 1345, 1370]
theorem lsw_d : decode mL_law.2.1 40 = .ok (.tableswitch (jofs 40 1395) 0 27 (lsw.map (jofs 40)).toArray, 128) := by decide +kernel
theorem z_sw {G : jG} {mc ms : Nat} {Φ : zP} {Q : zQ} {c0 s0 : Nat} {lv : List (Nat × jV)} {M : jM} {v : Int} (h0 : 0 ≤ v ∧ v ≤ 31) (hin : ∀ n : Nat, n < 28 → v = (n : Int) → zJ G mL_law mc ms Φ Q c0 s0 (lsw.getD n 0) lv [] M) (out : 27 < v → zJ G mL_law mc ms Φ Q c0 s0 1395 lv [] M) : zJ G mL_law mc ms Φ Q c0 s0 40 lv [(0, v)] M := by
  have hV : (Int32.ofInt v).toInt = v := jI32_to ⟨by omega, by omega⟩
  intro p e s m args below meth cc H locs ls X F hh hS hl
  by_cases c : 27 < v
  · exact lv_tableOut X.1 X.2.1 lsw_d (by rw [hV]; omega) (jofs_t 40 1395) (out c p e s m args below meth cc H locs ls X F hh hS hl)
  · have hlt : v.toNat < lsw.length := by show v.toNat < 28; omega
    have hg : lsw[v.toNat]? = some (lsw[v.toNat]) := List.getElem?_eq_getElem hlt
    refine lv_tableIn X.1 X.2.1 lsw_d (by rw [hV]; omega) (by rw [hV]; omega) (off := jofs 40 (lsw[v.toNat])) (by rw [hV]; simp [hg]) (jofs_t 40 _) ?_
    have := hin v.toNat (by omega) (by omega)
    rw [List.getD_eq_getElem?_getD, hg] at this
    exact this p e s m args below meth cc H locs ls X F hh hS hl
theorem xo_31i (G : jG) (mc ms : Nat) (X : Nat × (Nat → Int)) (len : Nat) (x : Int) (b d : Nat) (K : xKt) (R : Option jV → jM → Prop) (c s pc : Nat) (lv : List (Nat × jV)) (M : jM) (v : jV) : xo G mc ms X (31, len, x, 0, b, d) K R c s pc lv [v] M = (v.1 = 0 ∧ R (some v) M) := by simp [xo, jtg]

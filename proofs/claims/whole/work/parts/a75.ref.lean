/-! Constructor of the reference, up to readText (written by mka75.py). -/
def rfK : List (Nat × Nat × Nat) := [(1, 1, 900), (3, 1, 399), (4, 1, 399), (5, 1, 6), (17, 4, 24), (18, 2, 24), (19, 2, 24), (20, 2, 24), (21, 2, 24), (25, 1, 480), (26, 1, 5760), (34, 2, 1104), (36, 2, 600), (37, 1, 60), (39, 2, 4), (46, 2, 4), (49, 2, 248), (52, 1, 480), (53, 1, 5760), (54, 1, 5)]
def rfW (u : Nat) (k : Nat) : Int := if k = 1 then ((u + 1 : Nat) : Int) else if k = 3 then ((u + 2 : Nat) : Int) else if k = 4 then ((u + 3 : Nat) : Int) else if k = 5 then ((u + 4 : Nat) : Int) else if k = 17 then ((u + 5 : Nat) : Int) else if k = 18 then ((u + 6 : Nat) : Int) else if k = 19 then ((u + 7 : Nat) : Int) else if k = 20 then ((u + 8 : Nat) : Int) else if k = 21 then ((u + 9 : Nat) : Int) else if k = 25 then ((u + 10 : Nat) : Int) else if k = 26 then ((u + 11 : Nat) : Int) else if k = 34 then ((u + 12 : Nat) : Int) else if k = 36 then ((u + 13 : Nat) : Int) else if k = 37 then ((u + 14 : Nat) : Int) else if k = 39 then ((u + 15 : Nat) : Int) else if k = 46 then ((u + 16 : Nat) : Int) else if k = 49 then ((u + 17 : Nat) : Int) else if k = 52 then ((u + 18 : Nat) : Int) else if k = 53 then ((u + 19 : Nat) : Int) else if k = 54 then ((u + 20 : Nat) : Int) else if k = 15 ∨ k = 32 ∨ k = 50 then -1 else jdf 12 k
theorem dSet_0 (D : Nat → jK × (Nat → Int)) (k : Nat) (v : Int) (i : Nat) : (dSet D 0 k v 0).2 i = if i = k then v else (D 0).2 i := rfl
theorem dNew_0 (c : Nat) (D : Nat → jK × (Nat → Int)) (kd : jK) (f : Nat → Int) : dNew (c + 1) D kd f 0 = D 0 := if_neg (by omega)
def dRef (u : Nat) (j : Nat) : jK × (Nat → Int) := if j = 0 then ((0, 12, 0, jno), rfW u) else dArr (rfK.getD (j - 1) (0, 0, 0)).2.1 (rfK.getD (j - 1) (0, 0, 0)).2.2
section
variable {G : jG} {u : Nat} {L : Nat → jK} {S : jS} {P : jM → Prop}
set_option maxHeartbeats 4000000 in
set_option maxRecDepth 100000 in
theorem i_refA (hL : L u = (0, 12, 0, jno)) (hS : S u = jdf 12) (out : ∀ L' S', bk u 21 (dRef u) L S L' S' → zJ G mX12_init 20 16329 iP (zmQ G (fun r M' => r = none ∧ P M') 20 16329) 20 16329 186 [(0, (2, (u : Int)))] [] (u + 21, u + 21, L', S')) : iC G mX12_init 20 16329 (u + 1, u + 1, L, S) [(2, (u : Int))] P := by
  have q248 : jI32 (248 : Int) := ⟨by omega, by omega⟩
  have q399 : jI32 (399 : Int) := ⟨by omega, by omega⟩
  have q480 : jI32 (480 : Int) := ⟨by omega, by omega⟩
  have q600 : jI32 (600 : Int) := ⟨by omega, by omega⟩
  have q900 : jI32 (900 : Int) := ⟨by omega, by omega⟩
  have q1104 : jI32 (1104 : Int) := ⟨by omega, by omega⟩
  have q5760 : jI32 (5760 : Int) := ⟨by omega, by omega⟩
  refine iCw kX12_init jn_X12 rfl (fun pc => pc == 186) 120 (Nat.le_of_ble_eq_true rfl) ?_
  simp -implicitDefEqProofs only [Nat.reduceAdd, Nat.reduceMul, Nat.reduceEqDiff, Nat.reduceBEq, Nat.reduceLT, Nat.reduceLeDiff, Int.reduceToNat, Int.reduceLE, Int.reduceLT, Int.reduceNeg, Int.reduceAdd, Int.reduceMul, Bool.or_false, Bool.or_true, Bool.true_or, Bool.false_or, jwq_s, jwp_sn, jwp_sc, jwp_0, jsum, jwx_s, ↓jol_c, ↓jo1_c, ↓jo2_c, ↓jo3_c, Bool.false_eq_true, beq_iff_eq, jst, jins_c, jins_n, jdrop_c, jdrop_n, jargs, jtg, jtag, jcnd, true_and, and_true, false_or, or_false, true_or, or_true, forall_const, ↓reduceIte, Option.toList, List.cons_append, List.nil_append, false_and, and_false, reduceCtorEq, false_imp_iff, forall_eq, true_imp_iff, joc_c, List.drop_succ_cons, List.drop_zero, List.take_succ_cons, List.take_zero, List.reverse_cons, List.reverse_nil, List.length_cons, List.length_nil, Int.reduceEq, not_true_eq_false, not_false_eq_true, Int.toNat_natCast, Int.natCast_nonneg, ne21, ne01, xwx_s, xwp_sn, xwp_sc, xwp_0, xoi_c, joc_c, zcs, jnw_e, jset_e, jobj_e, jarr_e, jno_e, jfd_e, zl1, zl2, zl3, zl4, Nat.add_assoc, if_true, if_false, jL32_0, jL32_1, jL32_2, jL32_3, jL32_4, jL32_5, jL32_6, jL32_7, jL32_8, jL32_9, jL32_10, jL32_11, jL32_12, jL32_13, jL32_14, jL32_15, jL32_16, jL32_17, jL32_18, jL32_19, jL32_20, jL32_21, jL32_22, jL32_23, jL32_24, jL32_25, jL32_26, jL32_27, jL32_28, jL32_29, jL32_30, jL32_31, jL32_32, jL32_33, jL32_34, jL32_35, jL32_36, jL32_37, jL32_38, jL32_39, jL32_57, jL32_60, jL32_97, jL32_122, jL32_255, jLm32_1, jLm32_2, jLm32_3, jLm32_1000, jL64_0, jL64_1, zne_10, zne_00, zne_01, zne_11, false_imp_iff, true_imp_iff, fX12_init_0, fX12_init_1, fX12_init_4, fX12_init_5, fX12_init_8, fX12_init_10, fX12_init_13, fX12_init_14, fX12_init_17, fX12_init_19, fX12_init_22, fX12_init_23, fX12_init_26, fX12_init_28, fX12_init_31, fX12_init_32, fX12_init_34, fX12_init_36, fX12_init_39, fX12_init_40, fX12_init_41, fX12_init_44, fX12_init_45, fX12_init_47, fX12_init_49, fX12_init_52, fX12_init_53, fX12_init_55, fX12_init_57, fX12_init_60, fX12_init_61, fX12_init_63, fX12_init_65, fX12_init_68, fX12_init_69, fX12_init_71, fX12_init_73, fX12_init_76, fX12_init_77, fX12_init_79, fX12_init_81, fX12_init_84, fX12_init_85, fX12_init_88, fX12_init_90, fX12_init_93, fX12_init_94, fX12_init_97, fX12_init_99, fX12_init_102, fX12_init_103, fX12_init_104, fX12_init_107, fX12_init_108, fX12_init_111, fX12_init_113, fX12_init_116, fX12_init_117, fX12_init_120, fX12_init_122, fX12_init_125, fX12_init_126, fX12_init_128, fX12_init_130, fX12_init_133, fX12_init_134, fX12_init_135, fX12_init_137, fX12_init_140, fX12_init_141, fX12_init_142, fX12_init_144, fX12_init_147, fX12_init_148, fX12_init_151, fX12_init_153, fX12_init_156, fX12_init_157, fX12_init_158, fX12_init_161, fX12_init_162, fX12_init_165, fX12_init_167, fX12_init_170, fX12_init_171, fX12_init_174, fX12_init_176, fX12_init_179, fX12_init_180, fX12_init_181, fX12_init_183, fX12_init_186, fX12_init_187, fX12_init_188, fX12_init_191, fX12_init_192, fX12_init_195, jtm_156, jtm_184, ↓xo_0, ↓jo_0, ↓xo_1, ↓jo_1, ↓xo_31v, ↓xo_51, ↓xo_54, ↓xo_55, ↓xo_57, ↓xo_59, hL, q248, q399, q480, q600, q900, q1104, q5760]
  have b0 := bk_start hL hS
  have b1 := bk_set (e := u) (p := 0) (k := 1) (v := ((u + 1 : Nat) : Int)) (bk_new (e := u + 1) (kd := (1, 0, 900, jno)) (f := fun _ => 0) b0 rfl) rfl
  have b2 := bk_set (e := u) (p := 0) (k := 3) (v := ((u + 2 : Nat) : Int)) (bk_new (e := u + 2) (kd := (1, 0, 399, jno)) (f := fun _ => 0) b1 rfl) rfl
  have b3 := bk_set (e := u) (p := 0) (k := 4) (v := ((u + 3 : Nat) : Int)) (bk_new (e := u + 3) (kd := (1, 0, 399, jno)) (f := fun _ => 0) b2 rfl) rfl
  have b4 := bk_set (e := u) (p := 0) (k := 5) (v := ((u + 4 : Nat) : Int)) (bk_new (e := u + 4) (kd := (1, 0, 6, jno)) (f := fun _ => 0) b3 rfl) rfl
  have b5 := bk_set (e := u) (p := 0) (k := 15) (v := -1) b4 rfl
  have b6 := bk_set (e := u) (p := 0) (k := 17) (v := ((u + 5 : Nat) : Int)) (bk_new (e := u + 5) (kd := (4, 0, 24, jno)) (f := fun _ => 0) b5 rfl) rfl
  have b7 := bk_set (e := u) (p := 0) (k := 18) (v := ((u + 6 : Nat) : Int)) (bk_new (e := u + 6) (kd := (2, 0, 24, jno)) (f := fun _ => 0) b6 rfl) rfl
  have b8 := bk_set (e := u) (p := 0) (k := 19) (v := ((u + 7 : Nat) : Int)) (bk_new (e := u + 7) (kd := (2, 0, 24, jno)) (f := fun _ => 0) b7 rfl) rfl
  have b9 := bk_set (e := u) (p := 0) (k := 20) (v := ((u + 8 : Nat) : Int)) (bk_new (e := u + 8) (kd := (2, 0, 24, jno)) (f := fun _ => 0) b8 rfl) rfl
  have b10 := bk_set (e := u) (p := 0) (k := 21) (v := ((u + 9 : Nat) : Int)) (bk_new (e := u + 9) (kd := (2, 0, 24, jno)) (f := fun _ => 0) b9 rfl) rfl
  have b11 := bk_set (e := u) (p := 0) (k := 25) (v := ((u + 10 : Nat) : Int)) (bk_new (e := u + 10) (kd := (1, 0, 480, jno)) (f := fun _ => 0) b10 rfl) rfl
  have b12 := bk_set (e := u) (p := 0) (k := 26) (v := ((u + 11 : Nat) : Int)) (bk_new (e := u + 11) (kd := (1, 0, 5760, jno)) (f := fun _ => 0) b11 rfl) rfl
  have b13 := bk_set (e := u) (p := 0) (k := 32) (v := -1) b12 rfl
  have b14 := bk_set (e := u) (p := 0) (k := 34) (v := ((u + 12 : Nat) : Int)) (bk_new (e := u + 12) (kd := (2, 0, 1104, jno)) (f := fun _ => 0) b13 rfl) rfl
  have b15 := bk_set (e := u) (p := 0) (k := 36) (v := ((u + 13 : Nat) : Int)) (bk_new (e := u + 13) (kd := (2, 0, 600, jno)) (f := fun _ => 0) b14 rfl) rfl
  have b16 := bk_set (e := u) (p := 0) (k := 37) (v := ((u + 14 : Nat) : Int)) (bk_new (e := u + 14) (kd := (1, 0, 60, jno)) (f := fun _ => 0) b15 rfl) rfl
  have b17 := bk_set (e := u) (p := 0) (k := 39) (v := ((u + 15 : Nat) : Int)) (bk_new (e := u + 15) (kd := (2, 0, 4, jno)) (f := fun _ => 0) b16 rfl) rfl
  have b18 := bk_set (e := u) (p := 0) (k := 46) (v := ((u + 16 : Nat) : Int)) (bk_new (e := u + 16) (kd := (2, 0, 4, jno)) (f := fun _ => 0) b17 rfl) rfl
  have b19 := bk_set (e := u) (p := 0) (k := 49) (v := ((u + 17 : Nat) : Int)) (bk_new (e := u + 17) (kd := (2, 0, 248, jno)) (f := fun _ => 0) b18 rfl) rfl
  have b20 := bk_set (e := u) (p := 0) (k := 50) (v := -1) b19 rfl
  have b21 := bk_set (e := u) (p := 0) (k := 52) (v := ((u + 18 : Nat) : Int)) (bk_new (e := u + 18) (kd := (1, 0, 480, jno)) (f := fun _ => 0) b20 rfl) rfl
  have b22 := bk_set (e := u) (p := 0) (k := 53) (v := ((u + 19 : Nat) : Int)) (bk_new (e := u + 19) (kd := (1, 0, 5760, jno)) (f := fun _ => 0) b21 rfl) rfl
  have b23 := bk_set (e := u) (p := 0) (k := 54) (v := ((u + 20 : Nat) : Int)) (bk_new (e := u + 20) (kd := (1, 0, 5, jno)) (f := fun _ => 0) b22 rfl) rfl
  refine out _ _ (bk_cg b23 rfl fun j hj => ?_)
  have hj : j < 21 := hj
  rcases (show j = 0 ∨ j = 1 ∨ j = 2 ∨ j = 3 ∨ j = 4 ∨ j = 5 ∨ j = 6 ∨ j = 7 ∨ j = 8 ∨ j = 9 ∨ j = 10 ∨ j = 11 ∨ j = 12 ∨ j = 13 ∨ j = 14 ∨ j = 15 ∨ j = 16 ∨ j = 17 ∨ j = 18 ∨ j = 19 ∨ j = 20 by omega) with e | e | e | e | e | e | e | e | e | e | e | e | e | e | e | e | e | e | e | e | e <;> subst e
  · refine Prod.ext rfl (funext fun k => ?_)
    simp only [dSet_0, dNew_0, Nat.reduceAdd, dRef, ↓reduceIte]
    unfold rfW
    by_cases e1 : k = 1
    · subst e1; rfl
    by_cases e3 : k = 3
    · subst e3; rfl
    by_cases e4 : k = 4
    · subst e4; rfl
    by_cases e5 : k = 5
    · subst e5; rfl
    by_cases e15 : k = 15
    · subst e15; rfl
    by_cases e17 : k = 17
    · subst e17; rfl
    by_cases e18 : k = 18
    · subst e18; rfl
    by_cases e19 : k = 19
    · subst e19; rfl
    by_cases e20 : k = 20
    · subst e20; rfl
    by_cases e21 : k = 21
    · subst e21; rfl
    by_cases e25 : k = 25
    · subst e25; rfl
    by_cases e26 : k = 26
    · subst e26; rfl
    by_cases e32 : k = 32
    · subst e32; rfl
    by_cases e34 : k = 34
    · subst e34; rfl
    by_cases e36 : k = 36
    · subst e36; rfl
    by_cases e37 : k = 37
    · subst e37; rfl
    by_cases e39 : k = 39
    · subst e39; rfl
    by_cases e46 : k = 46
    · subst e46; rfl
    by_cases e49 : k = 49
    · subst e49; rfl
    by_cases e50 : k = 50
    · subst e50; rfl
    by_cases e52 : k = 52
    · subst e52; rfl
    by_cases e53 : k = 53
    · subst e53; rfl
    by_cases e54 : k = 54
    · subst e54; rfl
    simp only [e1, e3, e4, e5, e15, e17, e18, e19, e20, e21, e25, e26, e32, e34, e36, e37, e39, e46, e49, e50, e52, e53, e54, if_false, or_self]
  all_goals rfl
end

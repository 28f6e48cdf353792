/-! Constructors: Model, first loop and begin. -/
section
variable {G : jG} {u : Nat} {L : Nat → jK} {S : jS} {P : jM → Prop}
set_option maxHeartbeats 1000000 in
set_option maxRecDepth 100000 in
theorem i_mo1 (out : ∀ L' S', bk u 148 (dMod u) L S L' S' → P (u + 148, u + 148, L', S')) : ∀ (m n c s v : Nat), n + m = 6 → c = 9 + 12 * n → s = 106 + 52 * n → v = u + (10 + 12 * n) → ∀ L' S', bk u (10 + 12 * n) (dMo1 u n) L S L' S' → zJ G mX3_init 147 752 iP (zmQ G (fun r M' => r = none ∧ P M') 147 752) c s 59 [(0, (2, (u : Int))), (1, (0, (n : Int)))] [] (v, v, L', S')
  | 0, n, c, s, v, hm, hc, hs, hv, L', S', hb => by
    have e : n = 6 := by omega
    subst e
    subst hc
    subst hs
    have q0 : jI32 ((6 : Nat) : Int) := ⟨by omega, by omega⟩
    have q1 : ((6 : Int) ≤ ((6 : Nat) : Int)) = True := eq_true (by omega)
    have hv : v = u + 82 := hv
    subst hv
    have x0 : L' u = (0, 3, 0, jno) := (bk_at (e := u) hb (j := 0) (by omega) rfl).1
    refine iJw kX3_init (fun pc => pc == 124) 60 (by omega) (by omega) ?_
    simp -implicitDefEqProofs only [Nat.reduceAdd, Nat.reduceMul, Nat.reduceEqDiff, Nat.reduceBEq, Nat.reduceLT, Nat.reduceLeDiff, Int.reduceToNat, Int.reduceLE, Int.reduceLT, Int.reduceNeg, Int.reduceAdd, Int.reduceMul, Bool.or_false, Bool.or_true, Bool.true_or, Bool.false_or, jwq_s, jwp_sn, jwp_sc, jwp_0, jsum, jwx_s, ↓jol_c, ↓jo1_c, ↓jo2_c, ↓jo3_c, Bool.false_eq_true, beq_iff_eq, jst, jins_c, jins_n, jdrop_c, jdrop_n, jargs, jtg, jtag, jcnd, true_and, and_true, false_or, or_false, true_or, or_true, forall_const, ↓reduceIte, Option.toList, List.cons_append, List.nil_append, false_and, and_false, reduceCtorEq, false_imp_iff, forall_eq, true_imp_iff, joc_c, List.drop_succ_cons, List.drop_zero, List.take_succ_cons, List.take_zero, List.reverse_cons, List.reverse_nil, List.length_cons, List.length_nil, Int.reduceEq, not_true_eq_false, not_false_eq_true, Int.toNat_natCast, Int.natCast_nonneg, ne21, ne01, xwx_s, xwp_sn, xwp_sc, xwp_0, xoi_c, joc_c, zcs, jnw_e, jset_e, jobj_e, jarr_e, jno_e, jfd_e, zl1, zl2, zl3, zl4, Nat.add_assoc, if_true, if_false, jL32_0, jL32_1, jL32_2, jL32_3, jL32_4, jL32_5, jL32_6, jL32_7, jL32_8, jL32_9, jL32_10, jL32_11, jL32_12, jL32_13, jL32_14, jL32_15, jL32_16, jL32_17, jL32_18, jL32_19, jL32_20, jL32_21, jL32_22, jL32_23, jL32_24, jL32_25, jL32_26, jL32_27, jL32_28, jL32_29, jL32_30, jL32_31, jL32_32, jL32_33, jL32_34, jL32_35, jL32_36, jL32_37, jL32_38, jL32_39, jL32_57, jL32_60, jL32_97, jL32_122, jL32_255, jLm32_1, jLm32_2, jLm32_3, jLm32_1000, jL64_0, jL64_1, zne_10, zne_00, zne_01, zne_11, false_imp_iff, true_imp_iff, fX3_init_0, fX3_init_1, fX3_init_4, fX3_init_5, fX3_init_8, fX3_init_9, fX3_init_12, fX3_init_15, fX3_init_16, fX3_init_18, fX3_init_20, fX3_init_23, fX3_init_24, fX3_init_26, fX3_init_28, fX3_init_31, fX3_init_32, fX3_init_34, fX3_init_36, fX3_init_39, fX3_init_40, fX3_init_42, fX3_init_45, fX3_init_48, fX3_init_49, fX3_init_51, fX3_init_54, fX3_init_57, fX3_init_58, fX3_init_59, fX3_init_60, fX3_init_62, fX3_init_65, fX3_init_66, fX3_init_69, fX3_init_70, fX3_init_73, fX3_init_74, fX3_init_77, fX3_init_78, fX3_init_79, fX3_init_82, fX3_init_83, fX3_init_86, fX3_init_87, fX3_init_90, fX3_init_91, fX3_init_94, fX3_init_97, fX3_init_98, fX3_init_100, fX3_init_102, fX3_init_105, fX3_init_106, fX3_init_108, fX3_init_110, fX3_init_113, fX3_init_114, fX3_init_116, fX3_init_119, fX3_init_122, fX3_init_123, fX3_init_124, fX3_init_125, fX3_init_127, fX3_init_130, fX3_init_131, fX3_init_134, fX3_init_135, fX3_init_138, fX3_init_139, fX3_init_142, fX3_init_143, fX3_init_146, fX3_init_149, fX3_init_150, fX3_init_152, fX3_init_154, fX3_init_157, fX3_init_158, fX3_init_160, fX3_init_162, fX3_init_165, fX3_init_166, fX3_init_167, fX3_init_169, fX3_init_172, fX3_init_173, fX3_init_176, jtm_2, jtm_5, jtm_6, ↓xo_0, ↓jo_0, ↓xo_1, ↓jo_1, ↓xo_2, ↓jo_2, ↓xo_3, ↓jo_3, ↓xo_20, ↓jo_20, ↓xo_21, ↓jo_21, ↓xo_31v, ↓xo_32, ↓jo_32, ↓xo_50, ↓xo_51, ↓xo_52, ↓xo_53, ↓xo_54, ↓xo_55, ↓xo_56, ↓xo_58, ↓xo_59, q0, q1, x0]
    have b1 := bk_set (e := u) (p := 0) (k := 6) (v := ((u + 82 : Nat) : Int)) (bk_new (e := u + 82) (kd := (1, 0, 10, jno)) (f := fun _ => 0) hb rfl) rfl
    have b2 := bk_set (e := u) (p := 0) (k := 7) (v := ((u + 83 : Nat) : Int)) (bk_new (e := u + 83) (kd := (1, 0, 10, jno)) (f := fun _ => 0) b1 rfl) rfl
    have b3 := bk_set (e := u) (p := 0) (k := 8) (v := ((u + 84 : Nat) : Int)) (bk_new (e := u + 84) (kd := (5, 0, 10, jno)) (f := fun _ => -1) b2 rfl) rfl
    refine i_mo2 (L := L) (S := S) out 10 0 84 448 (u + 85) (by omega) (by omega) (by omega) (by omega) _ _ (bk_cg b3 rfl fun j hj => ?_)
    have hj : j < 85 := hj
    by_cases e0 : j = 0
    · subst e0
      refine Prod.ext rfl (funext fun k => ?_)
      have := jdf_3 k
      simp [dSet, dNew, dMo2, dMo1, mrw, mfp]
      rw [this]
      repeat' split
      all_goals omega
    · simp only [dSet, dNew, dMo2]
      rw [if_neg e0, if_neg e0, if_neg e0, if_neg e0]
      by_cases e1 : j < 82
      · rw [if_pos e1, if_neg (by omega), if_neg (by omega), if_neg (by omega)]
      · rw [if_neg e1]
        rcases (show j = 82 ∨ j = 83 ∨ j = 84 by omega) with e | e | e <;> subst e <;> rfl
  | m + 1, n, c, s, v, hm, hc, hs, hv, L', S', hb => by
    have q0 : jI32 (n : Int) := ⟨by omega, by omega⟩
    have q1 : ((6 : Int) ≤ (n : Int)) = False := eq_false (by omega)
    have q2 : (n : Int) < ((6 : Nat) : Int) := by omega
    have g1 : c ≤ 146 := by omega
    have g2 : s ≤ 746 := by omega
    have g3 : c ≤ 141 := by omega
    have g4 : s ≤ 726 := by omega
    have uw : u < v := by omega
    have uw6 : u < v + 6 := by omega
    have uw1 : u + 8 < v + 6 := by omega
    have w6 : v < v + 6 := by omega
    have x0 : L' u = (0, 3, 0, jno) := (bk_at (e := u) hb (j := 0) (by omega) rfl).1
    have y0 : S' u 4 = ((u + 8 : Nat) : Int) := by rw [(bk_at (e := u) hb (j := 0) (by omega) rfl).2]; rfl
    refine iJw kX3_init (fun pc => pc == 59) 60 (by omega) (by omega) ?_
    simp -implicitDefEqProofs only [Nat.reduceAdd, Nat.reduceMul, Nat.reduceEqDiff, Nat.reduceBEq, Nat.reduceLT, Nat.reduceLeDiff, Int.reduceToNat, Int.reduceLE, Int.reduceLT, Int.reduceNeg, Int.reduceAdd, Int.reduceMul, Bool.or_false, Bool.or_true, Bool.true_or, Bool.false_or, jwq_s, jwp_sn, jwp_sc, jwp_0, jsum, jwx_s, ↓jol_c, ↓jo1_c, ↓jo2_c, ↓jo3_c, Bool.false_eq_true, beq_iff_eq, jst, jins_c, jins_n, jdrop_c, jdrop_n, jargs, jtg, jtag, jcnd, true_and, and_true, false_or, or_false, true_or, or_true, forall_const, ↓reduceIte, Option.toList, List.cons_append, List.nil_append, false_and, and_false, reduceCtorEq, false_imp_iff, forall_eq, true_imp_iff, joc_c, List.drop_succ_cons, List.drop_zero, List.take_succ_cons, List.take_zero, List.reverse_cons, List.reverse_nil, List.length_cons, List.length_nil, Int.reduceEq, not_true_eq_false, not_false_eq_true, Int.toNat_natCast, Int.natCast_nonneg, ne21, ne01, xwx_s, xwp_sn, xwp_sc, xwp_0, xoi_c, joc_c, zcs, jnw_e, jset_e, jobj_e, jarr_e, jno_e, jfd_e, zl1, zl2, zl3, zl4, Nat.add_assoc, if_true, if_false, jL32_0, jL32_1, jL32_2, jL32_3, jL32_4, jL32_5, jL32_6, jL32_7, jL32_8, jL32_9, jL32_10, jL32_11, jL32_12, jL32_13, jL32_14, jL32_15, jL32_16, jL32_17, jL32_18, jL32_19, jL32_20, jL32_21, jL32_22, jL32_23, jL32_24, jL32_25, jL32_26, jL32_27, jL32_28, jL32_29, jL32_30, jL32_31, jL32_32, jL32_33, jL32_34, jL32_35, jL32_36, jL32_37, jL32_38, jL32_39, jL32_57, jL32_60, jL32_97, jL32_122, jL32_255, jLm32_1, jLm32_2, jLm32_3, jLm32_1000, jL64_0, jL64_1, zne_10, zne_00, zne_01, zne_11, false_imp_iff, true_imp_iff, fX3_init_0, fX3_init_1, fX3_init_4, fX3_init_5, fX3_init_8, fX3_init_9, fX3_init_12, fX3_init_15, fX3_init_16, fX3_init_18, fX3_init_20, fX3_init_23, fX3_init_24, fX3_init_26, fX3_init_28, fX3_init_31, fX3_init_32, fX3_init_34, fX3_init_36, fX3_init_39, fX3_init_40, fX3_init_42, fX3_init_45, fX3_init_48, fX3_init_49, fX3_init_51, fX3_init_54, fX3_init_57, fX3_init_58, fX3_init_59, fX3_init_60, fX3_init_62, fX3_init_65, fX3_init_66, fX3_init_69, fX3_init_70, fX3_init_73, fX3_init_74, fX3_init_77, fX3_init_78, fX3_init_79, fX3_init_82, fX3_init_83, fX3_init_86, fX3_init_87, fX3_init_90, fX3_init_91, fX3_init_94, fX3_init_97, fX3_init_98, fX3_init_100, fX3_init_102, fX3_init_105, fX3_init_106, fX3_init_108, fX3_init_110, fX3_init_113, fX3_init_114, fX3_init_116, fX3_init_119, fX3_init_122, fX3_init_123, fX3_init_124, fX3_init_125, fX3_init_127, fX3_init_130, fX3_init_131, fX3_init_134, fX3_init_135, fX3_init_138, fX3_init_139, fX3_init_142, fX3_init_143, fX3_init_146, fX3_init_149, fX3_init_150, fX3_init_152, fX3_init_154, fX3_init_157, fX3_init_158, fX3_init_160, fX3_init_162, fX3_init_165, fX3_init_166, fX3_init_167, fX3_init_169, fX3_init_172, fX3_init_173, fX3_init_176, jtm_2, jtm_5, jtm_6, ↓xo_0, ↓jo_0, ↓xo_1, ↓jo_1, ↓xo_2, ↓jo_2, ↓xo_3, ↓jo_3, ↓xo_20, ↓jo_20, ↓xo_21, ↓jo_21, ↓xo_31v, ↓xo_32, ↓jo_32, ↓xo_50, ↓xo_51, ↓xo_52, ↓xo_53, ↓xo_54, ↓xo_55, ↓xo_56, ↓xo_58, ↓xo_59, q0, q1, g1, g2, g3, g4, x0, y0, uw]
    refine i_bounds (u := v) (if_pos rfl) (if_pos rfl) fun L1 S1 h1 => ?_
    have b1 := bk_call (bk_new (kd := (0, 0, 0, jno)) (f := jdf 0) hb hv) h1 hv rfl
    have z1 : L1 (u + 8) = (5, 0, 6, jno) := by
      rw [(bk_at (e := u + 8) b1 (j := 8) (by omega) rfl).1]
      simp [dApp, dNew, dMo1, show 8 < 10 + 12 * n by omega, show ¬ 8 = 10 + 12 * n by omega]
    have x1 : L1 u = (0, 3, 0, jno) := by
      rw [(bk_at (e := u) b1 (j := 0) (by omega) rfl).1]
      simp [dApp, dNew, dMo1, show 0 < 10 + 12 * n by omega, show ¬ 0 = 10 + 12 * n by omega]
    have y1 : S1 u 5 = ((u + 9 : Nat) : Int) := by
      rw [(bk_at (e := u) b1 (j := 0) (by omega) rfl).2]
      simp [dApp, dNew, dMo1, mrw, mfp, show 0 < 10 + 12 * n by omega, show ¬ 0 = 10 + 12 * n by omega]
    have r1 : L1 v = (0, 0, 0, jno) := by
      rw [(bk_at (e := v) b1 (j := 10 + 12 * n) (by omega) hv).1]
      simp [dApp, dBnd]
    have g5 : c ≤ 140 := by omega
    have g6 : s ≤ 720 := by omega
    have g7 : c ≤ 135 := by omega
    have g8 : s ≤ 700 := by omega
    simp -implicitDefEqProofs only [Nat.reduceAdd, Nat.reduceMul, Nat.reduceEqDiff, Nat.reduceBEq, Nat.reduceLT, Nat.reduceLeDiff, Int.reduceToNat, Int.reduceLE, Int.reduceLT, Int.reduceNeg, Int.reduceAdd, Int.reduceMul, Bool.or_false, Bool.or_true, Bool.true_or, Bool.false_or, jwq_s, jwp_sn, jwp_sc, jwp_0, jsum, jwx_s, ↓jol_c, ↓jo1_c, ↓jo2_c, ↓jo3_c, Bool.false_eq_true, beq_iff_eq, jst, jins_c, jins_n, jdrop_c, jdrop_n, jargs, jtg, jtag, jcnd, true_and, and_true, false_or, or_false, true_or, or_true, forall_const, ↓reduceIte, Option.toList, List.cons_append, List.nil_append, false_and, and_false, reduceCtorEq, false_imp_iff, forall_eq, true_imp_iff, joc_c, List.drop_succ_cons, List.drop_zero, List.take_succ_cons, List.take_zero, List.reverse_cons, List.reverse_nil, List.length_cons, List.length_nil, Int.reduceEq, not_true_eq_false, not_false_eq_true, Int.toNat_natCast, Int.natCast_nonneg, ne21, ne01, xwx_s, xwp_sn, xwp_sc, xwp_0, xoi_c, joc_c, zcs, jnw_e, jset_e, jobj_e, jarr_e, jno_e, jfd_e, zl1, zl2, zl3, zl4, Nat.add_assoc, if_true, if_false, jL32_0, jL32_1, jL32_2, jL32_3, jL32_4, jL32_5, jL32_6, jL32_7, jL32_8, jL32_9, jL32_10, jL32_11, jL32_12, jL32_13, jL32_14, jL32_15, jL32_16, jL32_17, jL32_18, jL32_19, jL32_20, jL32_21, jL32_22, jL32_23, jL32_24, jL32_25, jL32_26, jL32_27, jL32_28, jL32_29, jL32_30, jL32_31, jL32_32, jL32_33, jL32_34, jL32_35, jL32_36, jL32_37, jL32_38, jL32_39, jL32_57, jL32_60, jL32_97, jL32_122, jL32_255, jLm32_1, jLm32_2, jLm32_3, jLm32_1000, jL64_0, jL64_1, zne_10, zne_00, zne_01, zne_11, false_imp_iff, true_imp_iff, fX3_init_0, fX3_init_1, fX3_init_4, fX3_init_5, fX3_init_8, fX3_init_9, fX3_init_12, fX3_init_15, fX3_init_16, fX3_init_18, fX3_init_20, fX3_init_23, fX3_init_24, fX3_init_26, fX3_init_28, fX3_init_31, fX3_init_32, fX3_init_34, fX3_init_36, fX3_init_39, fX3_init_40, fX3_init_42, fX3_init_45, fX3_init_48, fX3_init_49, fX3_init_51, fX3_init_54, fX3_init_57, fX3_init_58, fX3_init_59, fX3_init_60, fX3_init_62, fX3_init_65, fX3_init_66, fX3_init_69, fX3_init_70, fX3_init_73, fX3_init_74, fX3_init_77, fX3_init_78, fX3_init_79, fX3_init_82, fX3_init_83, fX3_init_86, fX3_init_87, fX3_init_90, fX3_init_91, fX3_init_94, fX3_init_97, fX3_init_98, fX3_init_100, fX3_init_102, fX3_init_105, fX3_init_106, fX3_init_108, fX3_init_110, fX3_init_113, fX3_init_114, fX3_init_116, fX3_init_119, fX3_init_122, fX3_init_123, fX3_init_124, fX3_init_125, fX3_init_127, fX3_init_130, fX3_init_131, fX3_init_134, fX3_init_135, fX3_init_138, fX3_init_139, fX3_init_142, fX3_init_143, fX3_init_146, fX3_init_149, fX3_init_150, fX3_init_152, fX3_init_154, fX3_init_157, fX3_init_158, fX3_init_160, fX3_init_162, fX3_init_165, fX3_init_166, fX3_init_167, fX3_init_169, fX3_init_172, fX3_init_173, fX3_init_176, jtm_2, jtm_5, jtm_6, ↓xo_0, ↓jo_0, ↓xo_1, ↓jo_1, ↓xo_2, ↓jo_2, ↓xo_3, ↓jo_3, ↓xo_20, ↓jo_20, ↓xo_21, ↓jo_21, ↓xo_31v, ↓xo_32, ↓jo_32, ↓xo_50, ↓xo_51, ↓xo_52, ↓xo_53, ↓xo_54, ↓xo_55, ↓xo_56, ↓xo_58, ↓xo_59, ju_at, q0, q2, x1, y1, z1, r1, uw, uw1, uw6, w6, g1, g2, g3, g4, g5, g6, g7, g8]
    have b2 := bk_set (e := u + 8) (p := 8) (k := n) (v := (v : Int)) b1 rfl
    have hv1 : v + 6 = u + (10 + 12 * n + 6) := by omega
    refine i_bounds (u := v + 6) (if_pos rfl) (if_pos rfl) fun L2 S2 h2 => ?_
    have b3 := bk_call (bk_new (kd := (0, 0, 0, jno)) (f := jdf 0) b2 hv1) h2 hv1 rfl
    have z2 : L2 (u + 9) = (5, 0, 6, jno) := by
      rw [(bk_at (e := u + 9) b3 (j := 9) (by omega) rfl).1]
      simp [dApp, dNew, dSet, dMo1, show 9 < 10 + 12 * n + 6 by omega, show ¬ 9 = 10 + 12 * n + 6 by omega, show 9 < 10 + 12 * n by omega, show ¬ 9 = 10 + 12 * n by omega]
    have r2 : L2 (v + 6) = (0, 0, 0, jno) := by
      rw [(bk_at (e := v + 6) b3 (j := 10 + 12 * n + 6) (by omega) hv1).1]
      simp [dApp, dBnd]
    have w12 : v + 6 < v + 12 := by omega
    have uw2 : u + 9 < v + 12 := by omega
    simp -implicitDefEqProofs only [Nat.reduceAdd, Nat.reduceMul, Nat.reduceEqDiff, Nat.reduceBEq, Nat.reduceLT, Nat.reduceLeDiff, Int.reduceToNat, Int.reduceLE, Int.reduceLT, Int.reduceNeg, Int.reduceAdd, Int.reduceMul, Bool.or_false, Bool.or_true, Bool.true_or, Bool.false_or, jwq_s, jwp_sn, jwp_sc, jwp_0, jsum, jwx_s, ↓jol_c, ↓jo1_c, ↓jo2_c, ↓jo3_c, Bool.false_eq_true, beq_iff_eq, jst, jins_c, jins_n, jdrop_c, jdrop_n, jargs, jtg, jtag, jcnd, true_and, and_true, false_or, or_false, true_or, or_true, forall_const, ↓reduceIte, Option.toList, List.cons_append, List.nil_append, false_and, and_false, reduceCtorEq, false_imp_iff, forall_eq, true_imp_iff, joc_c, List.drop_succ_cons, List.drop_zero, List.take_succ_cons, List.take_zero, List.reverse_cons, List.reverse_nil, List.length_cons, List.length_nil, Int.reduceEq, not_true_eq_false, not_false_eq_true, Int.toNat_natCast, Int.natCast_nonneg, ne21, ne01, xwx_s, xwp_sn, xwp_sc, xwp_0, xoi_c, joc_c, zcs, jnw_e, jset_e, jobj_e, jarr_e, jno_e, jfd_e, zl1, zl2, zl3, zl4, Nat.add_assoc, if_true, if_false, jL32_0, jL32_1, jL32_2, jL32_3, jL32_4, jL32_5, jL32_6, jL32_7, jL32_8, jL32_9, jL32_10, jL32_11, jL32_12, jL32_13, jL32_14, jL32_15, jL32_16, jL32_17, jL32_18, jL32_19, jL32_20, jL32_21, jL32_22, jL32_23, jL32_24, jL32_25, jL32_26, jL32_27, jL32_28, jL32_29, jL32_30, jL32_31, jL32_32, jL32_33, jL32_34, jL32_35, jL32_36, jL32_37, jL32_38, jL32_39, jL32_57, jL32_60, jL32_97, jL32_122, jL32_255, jLm32_1, jLm32_2, jLm32_3, jLm32_1000, jL64_0, jL64_1, zne_10, zne_00, zne_01, zne_11, false_imp_iff, true_imp_iff, fX3_init_0, fX3_init_1, fX3_init_4, fX3_init_5, fX3_init_8, fX3_init_9, fX3_init_12, fX3_init_15, fX3_init_16, fX3_init_18, fX3_init_20, fX3_init_23, fX3_init_24, fX3_init_26, fX3_init_28, fX3_init_31, fX3_init_32, fX3_init_34, fX3_init_36, fX3_init_39, fX3_init_40, fX3_init_42, fX3_init_45, fX3_init_48, fX3_init_49, fX3_init_51, fX3_init_54, fX3_init_57, fX3_init_58, fX3_init_59, fX3_init_60, fX3_init_62, fX3_init_65, fX3_init_66, fX3_init_69, fX3_init_70, fX3_init_73, fX3_init_74, fX3_init_77, fX3_init_78, fX3_init_79, fX3_init_82, fX3_init_83, fX3_init_86, fX3_init_87, fX3_init_90, fX3_init_91, fX3_init_94, fX3_init_97, fX3_init_98, fX3_init_100, fX3_init_102, fX3_init_105, fX3_init_106, fX3_init_108, fX3_init_110, fX3_init_113, fX3_init_114, fX3_init_116, fX3_init_119, fX3_init_122, fX3_init_123, fX3_init_124, fX3_init_125, fX3_init_127, fX3_init_130, fX3_init_131, fX3_init_134, fX3_init_135, fX3_init_138, fX3_init_139, fX3_init_142, fX3_init_143, fX3_init_146, fX3_init_149, fX3_init_150, fX3_init_152, fX3_init_154, fX3_init_157, fX3_init_158, fX3_init_160, fX3_init_162, fX3_init_165, fX3_init_166, fX3_init_167, fX3_init_169, fX3_init_172, fX3_init_173, fX3_init_176, jtm_2, jtm_5, jtm_6, ↓xo_0, ↓jo_0, ↓xo_1, ↓jo_1, ↓xo_2, ↓jo_2, ↓xo_3, ↓jo_3, ↓xo_20, ↓jo_20, ↓xo_21, ↓jo_21, ↓xo_31v, ↓xo_32, ↓jo_32, ↓xo_50, ↓xo_51, ↓xo_52, ↓xo_53, ↓xo_54, ↓xo_55, ↓xo_56, ↓xo_58, ↓xo_59, ju_at, q0, q2, z2, r2, uw2, w12]
    have b4 := bk_set (e := u + 9) (p := 9) (k := n) (v := ((v + 6 : Nat) : Int)) b3 rfl
    refine i_mo1 out m (n + 1) (c + 12) (s + 52) (v + 12) (by omega) (by omega) (by omega) (by omega) _ _ (bk_cg b4 (by omega) fun j hj => ?_)
    by_cases e5 : j = 8
    · subst e5
      simp only [dSet, dApp, dNew, dMo1, show 8 < 10 + 12 * n + 6 by omega, show ¬ 8 = 10 + 12 * n + 6 by omega, show 8 < 10 + 12 * n by omega, show ¬ 8 = 10 + 12 * n by omega, if_true, if_false, ↓reduceIte, Nat.reduceEqDiff, Nat.reduceLT]
      refine Prod.ext rfl (funext fun k => ?_)
      dsimp only
      by_cases k1 : k = n
      · subst k1
        rw [if_pos rfl, if_pos (by omega), hv]
      · rw [if_neg k1]
        by_cases k2 : k < n
        · rw [if_pos k2, if_pos (by omega)]
        · rw [if_neg k2, if_neg (by omega)]
    · by_cases e6 : j = 9
      · subst e6
        simp only [dSet, dApp, dNew, dMo1, show 9 < 10 + 12 * n + 6 by omega, show ¬ 9 = 10 + 12 * n + 6 by omega, show 9 < 10 + 12 * n by omega, show ¬ 9 = 10 + 12 * n by omega, if_true, if_false, ↓reduceIte, Nat.reduceEqDiff, Nat.reduceLT]
        refine Prod.ext rfl (funext fun k => ?_)
        dsimp only
        by_cases k1 : k = n
        · subst k1
          rw [if_pos rfl, if_pos (by omega), hv]
          omega
        · rw [if_neg k1]
          by_cases k2 : k < n
          · rw [if_pos k2, if_pos (by omega)]
          · rw [if_neg k2, if_neg (by omega)]
      · have ed : ∀ n', dMo1 u n' j = dMo1 u 0 j := fun n' => by
          unfold dMo1
          rw [if_neg e5, if_neg e6, if_neg e5, if_neg e6]
        have er : 10 ≤ j → dMo1 u 0 j = dBnd (u + (10 + 6 * ((j - 10) / 6))) ((j - 10) % 6) := fun h => by
          unfold dMo1
          rw [if_neg (by omega), if_neg (by omega), if_neg (by omega), if_neg (by omega), if_neg (by omega)]
        rw [ed]
        unfold dSet
        rw [if_neg e6]
        unfold dApp
        by_cases e7 : j < 10 + 12 * n + 6
        · rw [if_pos e7]
          unfold dNew
          rw [if_neg (by omega)]
          dsimp only
          rw [if_neg e5]
          by_cases e8 : j < 10 + 12 * n
          · rw [if_pos e8, if_neg (by omega), ed]
          · rw [if_neg e8, er (by omega), show (j - 10) / 6 = 2 * n by omega, show (j - 10) % 6 = j - (10 + 12 * n) by omega, hv, show 10 + 6 * (2 * n) = 10 + 12 * n by omega]
        · rw [if_neg e7, er (by omega), show (j - 10) / 6 = 2 * n + 1 by omega, show (j - 10) % 6 = j - (10 + 12 * n + 6) by omega, hv1, show 10 + 6 * (2 * n + 1) = 10 + 12 * n + 6 by omega]
end
section
variable {G : jG} {u : Nat} {L : Nat → jK} {S : jS} {P : jM → Prop}
set_option maxHeartbeats 1000000 in
set_option maxRecDepth 100000 in
theorem i_model (hL : L u = (0, 3, 0, jno)) (hS : S u = jdf 3) (out : ∀ L' S', bk u 148 (dMod u) L S L' S' → P (u + 148, u + 148, L', S')) : iC G mX3_init 147 752 (u + 1, u + 1, L, S) [(2, (u : Int))] P := by
  refine iCw kX3_init jn_X3 rfl (fun pc => pc == 59) 60 (Nat.le_of_ble_eq_true rfl) ?_
  simp -implicitDefEqProofs only [Nat.reduceAdd, Nat.reduceMul, Nat.reduceEqDiff, Nat.reduceBEq, Nat.reduceLT, Nat.reduceLeDiff, Int.reduceToNat, Int.reduceLE, Int.reduceLT, Int.reduceNeg, Int.reduceAdd, Int.reduceMul, Bool.or_false, Bool.or_true, Bool.true_or, Bool.false_or, jwq_s, jwp_sn, jwp_sc, jwp_0, jsum, jwx_s, ↓jol_c, ↓jo1_c, ↓jo2_c, ↓jo3_c, Bool.false_eq_true, beq_iff_eq, jst, jins_c, jins_n, jdrop_c, jdrop_n, jargs, jtg, jtag, jcnd, true_and, and_true, false_or, or_false, true_or, or_true, forall_const, ↓reduceIte, Option.toList, List.cons_append, List.nil_append, false_and, and_false, reduceCtorEq, false_imp_iff, forall_eq, true_imp_iff, joc_c, List.drop_succ_cons, List.drop_zero, List.take_succ_cons, List.take_zero, List.reverse_cons, List.reverse_nil, List.length_cons, List.length_nil, Int.reduceEq, not_true_eq_false, not_false_eq_true, Int.toNat_natCast, Int.natCast_nonneg, ne21, ne01, xwx_s, xwp_sn, xwp_sc, xwp_0, xoi_c, joc_c, zcs, jnw_e, jset_e, jobj_e, jarr_e, jno_e, jfd_e, zl1, zl2, zl3, zl4, Nat.add_assoc, if_true, if_false, jL32_0, jL32_1, jL32_2, jL32_3, jL32_4, jL32_5, jL32_6, jL32_7, jL32_8, jL32_9, jL32_10, jL32_11, jL32_12, jL32_13, jL32_14, jL32_15, jL32_16, jL32_17, jL32_18, jL32_19, jL32_20, jL32_21, jL32_22, jL32_23, jL32_24, jL32_25, jL32_26, jL32_27, jL32_28, jL32_29, jL32_30, jL32_31, jL32_32, jL32_33, jL32_34, jL32_35, jL32_36, jL32_37, jL32_38, jL32_39, jL32_57, jL32_60, jL32_97, jL32_122, jL32_255, jLm32_1, jLm32_2, jLm32_3, jLm32_1000, jL64_0, jL64_1, zne_10, zne_00, zne_01, zne_11, false_imp_iff, true_imp_iff, fX3_init_0, fX3_init_1, fX3_init_4, fX3_init_5, fX3_init_8, fX3_init_9, fX3_init_12, fX3_init_15, fX3_init_16, fX3_init_18, fX3_init_20, fX3_init_23, fX3_init_24, fX3_init_26, fX3_init_28, fX3_init_31, fX3_init_32, fX3_init_34, fX3_init_36, fX3_init_39, fX3_init_40, fX3_init_42, fX3_init_45, fX3_init_48, fX3_init_49, fX3_init_51, fX3_init_54, fX3_init_57, fX3_init_58, fX3_init_59, fX3_init_60, fX3_init_62, fX3_init_65, fX3_init_66, fX3_init_69, fX3_init_70, fX3_init_73, fX3_init_74, fX3_init_77, fX3_init_78, fX3_init_79, fX3_init_82, fX3_init_83, fX3_init_86, fX3_init_87, fX3_init_90, fX3_init_91, fX3_init_94, fX3_init_97, fX3_init_98, fX3_init_100, fX3_init_102, fX3_init_105, fX3_init_106, fX3_init_108, fX3_init_110, fX3_init_113, fX3_init_114, fX3_init_116, fX3_init_119, fX3_init_122, fX3_init_123, fX3_init_124, fX3_init_125, fX3_init_127, fX3_init_130, fX3_init_131, fX3_init_134, fX3_init_135, fX3_init_138, fX3_init_139, fX3_init_142, fX3_init_143, fX3_init_146, fX3_init_149, fX3_init_150, fX3_init_152, fX3_init_154, fX3_init_157, fX3_init_158, fX3_init_160, fX3_init_162, fX3_init_165, fX3_init_166, fX3_init_167, fX3_init_169, fX3_init_172, fX3_init_173, fX3_init_176, jtm_2, jtm_5, jtm_6, ↓xo_0, ↓jo_0, ↓xo_1, ↓jo_1, ↓xo_2, ↓jo_2, ↓xo_3, ↓jo_3, ↓xo_20, ↓jo_20, ↓xo_21, ↓jo_21, ↓xo_31v, ↓xo_32, ↓jo_32, ↓xo_50, ↓xo_51, ↓xo_52, ↓xo_53, ↓xo_54, ↓xo_55, ↓xo_56, ↓xo_58, ↓xo_59, hL]
  refine i_normals (u := u + 1) (if_pos rfl) (if_pos rfl) fun L1 S1 h1 => ?_
  have b1 := bk_call (bk_new (e := u + 1) (kd := (0, 4, 0, jno)) (f := jdf 4) (bk_start hL hS) rfl) h1 rfl rfl
  have x1 : L1 u = (0, 3, 0, jno) := by
    rw [(bk_at (e := u) b1 (j := 0) (by omega) rfl).1]
    simp [dApp, dNew]
  simp -implicitDefEqProofs only [Nat.reduceAdd, Nat.reduceMul, Nat.reduceEqDiff, Nat.reduceBEq, Nat.reduceLT, Nat.reduceLeDiff, Int.reduceToNat, Int.reduceLE, Int.reduceLT, Int.reduceNeg, Int.reduceAdd, Int.reduceMul, Bool.or_false, Bool.or_true, Bool.true_or, Bool.false_or, jwq_s, jwp_sn, jwp_sc, jwp_0, jsum, jwx_s, ↓jol_c, ↓jo1_c, ↓jo2_c, ↓jo3_c, Bool.false_eq_true, beq_iff_eq, jst, jins_c, jins_n, jdrop_c, jdrop_n, jargs, jtg, jtag, jcnd, true_and, and_true, false_or, or_false, true_or, or_true, forall_const, ↓reduceIte, Option.toList, List.cons_append, List.nil_append, false_and, and_false, reduceCtorEq, false_imp_iff, forall_eq, true_imp_iff, joc_c, List.drop_succ_cons, List.drop_zero, List.take_succ_cons, List.take_zero, List.reverse_cons, List.reverse_nil, List.length_cons, List.length_nil, Int.reduceEq, not_true_eq_false, not_false_eq_true, Int.toNat_natCast, Int.natCast_nonneg, ne21, ne01, xwx_s, xwp_sn, xwp_sc, xwp_0, xoi_c, joc_c, zcs, jnw_e, jset_e, jobj_e, jarr_e, jno_e, jfd_e, zl1, zl2, zl3, zl4, Nat.add_assoc, if_true, if_false, jL32_0, jL32_1, jL32_2, jL32_3, jL32_4, jL32_5, jL32_6, jL32_7, jL32_8, jL32_9, jL32_10, jL32_11, jL32_12, jL32_13, jL32_14, jL32_15, jL32_16, jL32_17, jL32_18, jL32_19, jL32_20, jL32_21, jL32_22, jL32_23, jL32_24, jL32_25, jL32_26, jL32_27, jL32_28, jL32_29, jL32_30, jL32_31, jL32_32, jL32_33, jL32_34, jL32_35, jL32_36, jL32_37, jL32_38, jL32_39, jL32_57, jL32_60, jL32_97, jL32_122, jL32_255, jLm32_1, jLm32_2, jLm32_3, jLm32_1000, jL64_0, jL64_1, zne_10, zne_00, zne_01, zne_11, false_imp_iff, true_imp_iff, fX3_init_0, fX3_init_1, fX3_init_4, fX3_init_5, fX3_init_8, fX3_init_9, fX3_init_12, fX3_init_15, fX3_init_16, fX3_init_18, fX3_init_20, fX3_init_23, fX3_init_24, fX3_init_26, fX3_init_28, fX3_init_31, fX3_init_32, fX3_init_34, fX3_init_36, fX3_init_39, fX3_init_40, fX3_init_42, fX3_init_45, fX3_init_48, fX3_init_49, fX3_init_51, fX3_init_54, fX3_init_57, fX3_init_58, fX3_init_59, fX3_init_60, fX3_init_62, fX3_init_65, fX3_init_66, fX3_init_69, fX3_init_70, fX3_init_73, fX3_init_74, fX3_init_77, fX3_init_78, fX3_init_79, fX3_init_82, fX3_init_83, fX3_init_86, fX3_init_87, fX3_init_90, fX3_init_91, fX3_init_94, fX3_init_97, fX3_init_98, fX3_init_100, fX3_init_102, fX3_init_105, fX3_init_106, fX3_init_108, fX3_init_110, fX3_init_113, fX3_init_114, fX3_init_116, fX3_init_119, fX3_init_122, fX3_init_123, fX3_init_124, fX3_init_125, fX3_init_127, fX3_init_130, fX3_init_131, fX3_init_134, fX3_init_135, fX3_init_138, fX3_init_139, fX3_init_142, fX3_init_143, fX3_init_146, fX3_init_149, fX3_init_150, fX3_init_152, fX3_init_154, fX3_init_157, fX3_init_158, fX3_init_160, fX3_init_162, fX3_init_165, fX3_init_166, fX3_init_167, fX3_init_169, fX3_init_172, fX3_init_173, fX3_init_176, jtm_2, jtm_5, jtm_6, ↓xo_0, ↓jo_0, ↓xo_1, ↓jo_1, ↓xo_2, ↓jo_2, ↓xo_3, ↓jo_3, ↓xo_20, ↓jo_20, ↓xo_21, ↓jo_21, ↓xo_31v, ↓xo_32, ↓jo_32, ↓xo_50, ↓xo_51, ↓xo_52, ↓xo_53, ↓xo_54, ↓xo_55, ↓xo_56, ↓xo_58, ↓xo_59, x1]
  have c1 := bk_set (e := u) (p := 0) (k := 0) (v := ((u + 1 : Nat) : Int)) b1 rfl
  have b2 := bk_set (e := u) (p := 0) (k := 1) (v := ((u + 5 : Nat) : Int)) (bk_new (e := u + 5) (kd := (1, 0, 6, jno)) (f := fun _ => 0) c1 rfl) rfl
  have b3 := bk_set (e := u) (p := 0) (k := 2) (v := ((u + 6 : Nat) : Int)) (bk_new (e := u + 6) (kd := (1, 0, 6, jno)) (f := fun _ => 0) b2 rfl) rfl
  have b4 := bk_set (e := u) (p := 0) (k := 3) (v := ((u + 7 : Nat) : Int)) (bk_new (e := u + 7) (kd := (1, 0, 6, jno)) (f := fun _ => 0) b3 rfl) rfl
  have b5 := bk_set (e := u) (p := 0) (k := 4) (v := ((u + 8 : Nat) : Int)) (bk_new (e := u + 8) (kd := (5, 0, 6, jno)) (f := fun _ => -1) b4 rfl) rfl
  have b6 := bk_set (e := u) (p := 0) (k := 5) (v := ((u + 9 : Nat) : Int)) (bk_new (e := u + 9) (kd := (5, 0, 6, jno)) (f := fun _ => -1) b5 rfl) rfl
  refine i_mo1 (L := L) (S := S) out 6 0 9 106 (u + 10) (by omega) (by omega) (by omega) (by omega) _ _ (bk_cg b6 rfl fun j hj => ?_)
  have hj : j < 10 := hj
  rcases (show j = 0 ∨ j = 1 ∨ j = 2 ∨ j = 3 ∨ j = 4 ∨ j = 5 ∨ j = 6 ∨ j = 7 ∨ j = 8 ∨ j = 9 by omega) with e | e | e | e | e | e | e | e | e | e <;> subst e
  · refine Prod.ext rfl (funext fun k => ?_)
    have := jdf_3 k
    simp [dSet, dApp, dNew, dMo1, mrw, mfp]
    rw [this]
    repeat' split
    all_goals omega
  all_goals rfl
end

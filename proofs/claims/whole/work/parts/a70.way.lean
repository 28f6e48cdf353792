/-! Constructors: Cutter, Way, Ride. -/
theorem jdf_10 (k : Nat) : jdf 10 k = if k < 6 ∧ k ≠ 2 then -1 else 0 := by
  match k with
  | 0 => rfl
  | 1 => rfl
  | 2 => rfl
  | 3 => rfl
  | 4 => rfl
  | 5 => rfl
  | k + 6 => rw [if_neg (by omega)]; rfl
theorem jdf_9 (k : Nat) : jdf 9 k = if k < 3 ∨ k = 6 then -1 else 0 := by
  match k with
  | 0 => rfl
  | 1 => rfl
  | 2 => rfl
  | 3 => rfl
  | 4 => rfl
  | 5 => rfl
  | 6 => rfl
  | 7 => rfl
  | 8 => rfl
  | 9 => rfl
  | 10 => rfl
  | 11 => rfl
  | 12 => rfl
  | 13 => rfl
  | 14 => rfl
  | 15 => rfl
  | 16 => rfl
  | k + 17 => rw [if_neg (by omega)]; rfl
def dWay (u v : Nat) (j : Nat) : jK × (Nat → Int) := if j = 0 then ((0, 10, 0, jno), fun k => if k = 0 then ((u + 1 : Nat) : Int) else if k = 1 then ((u + 2 : Nat) : Int) else if k = 3 then ((u + 3 : Nat) : Int) else if k = 4 then ((u + 4 : Nat) : Int) else if k = 5 then (v : Int) else 0) else if j = 1 then dArr 1 660 else dRat
def dRid (u : Nat) (j : Nat) : jK × (Nat → Int) := if j = 0 then ((0, 9, 0, jno), fun k => if k = 0 then ((u + 1 : Nat) : Int) else if k = 1 then ((u + 2 : Nat) : Int) else if k = 2 then ((u + 3 : Nat) : Int) else if k = 6 then ((u + 4 : Nat) : Int) else 0) else if j = 1 then dArr 1 248 else dRat
section
variable {G : jG} {u : Nat} {L : Nat → jK} {S : jS} {P : jM → Prop}
set_option maxHeartbeats 1000000 in
set_option maxRecDepth 100000 in
theorem i_cutter (hL : L u = (0, 2, 0, jno)) (hS : S u = jdf 2) (out : ∀ L' S', bk u 61 (dCutN u) L S L' S' → P (u + 61, u + 61, L', S')) : iC G mX2_init 60 322 (u + 1, u + 1, L, S) [(2, (u : Int))] P := by
  refine iCw kX2_init jn_X2 rfl (fun pc => pc == 56) 40 (Nat.le_of_ble_eq_true rfl) ?_
  simp -implicitDefEqProofs only [Nat.reduceAdd, Nat.reduceMul, Nat.reduceEqDiff, Nat.reduceBEq, Nat.reduceLT, Nat.reduceLeDiff, Int.reduceToNat, Int.reduceLE, Int.reduceLT, Int.reduceNeg, Int.reduceAdd, Int.reduceMul, Bool.or_false, Bool.or_true, Bool.true_or, Bool.false_or, jwq_s, jwp_sn, jwp_sc, jwp_0, jsum, jwx_s, ↓jol_c, ↓jo1_c, ↓jo2_c, ↓jo3_c, Bool.false_eq_true, beq_iff_eq, jst, jins_c, jins_n, jdrop_c, jdrop_n, jargs, jtg, jtag, jcnd, true_and, and_true, false_or, or_false, true_or, or_true, forall_const, ↓reduceIte, Option.toList, List.cons_append, List.nil_append, false_and, and_false, reduceCtorEq, false_imp_iff, forall_eq, true_imp_iff, joc_c, List.drop_succ_cons, List.drop_zero, List.take_succ_cons, List.take_zero, List.reverse_cons, List.reverse_nil, List.length_cons, List.length_nil, Int.reduceEq, not_true_eq_false, not_false_eq_true, Int.toNat_natCast, Int.natCast_nonneg, ne21, ne01, xwx_s, xwp_sn, xwp_sc, xwp_0, xoi_c, joc_c, zcs, jnw_e, jset_e, jobj_e, jarr_e, jno_e, jfd_e, zl1, zl2, zl3, zl4, Nat.add_assoc, if_true, if_false, jL32_0, jL32_1, jL32_2, jL32_3, jL32_4, jL32_5, jL32_6, jL32_7, jL32_8, jL32_9, jL32_10, jL32_11, jL32_12, jL32_13, jL32_14, jL32_15, jL32_16, jL32_17, jL32_18, jL32_19, jL32_20, jL32_21, jL32_22, jL32_23, jL32_24, jL32_25, jL32_26, jL32_27, jL32_28, jL32_29, jL32_30, jL32_31, jL32_32, jL32_33, jL32_34, jL32_35, jL32_36, jL32_37, jL32_38, jL32_39, jL32_57, jL32_60, jL32_97, jL32_122, jL32_255, jLm32_1, jLm32_2, jLm32_3, jLm32_1000, jL64_0, jL64_1, zne_10, zne_00, zne_01, zne_11, false_imp_iff, true_imp_iff, fX2_init_0, fX2_init_1, fX2_init_4, fX2_init_5, fX2_init_7, fX2_init_9, fX2_init_12, fX2_init_13, fX2_init_15, fX2_init_17, fX2_init_20, fX2_init_21, fX2_init_23, fX2_init_25, fX2_init_28, fX2_init_29, fX2_init_31, fX2_init_33, fX2_init_36, fX2_init_37, fX2_init_39, fX2_init_42, fX2_init_45, fX2_init_46, fX2_init_48, fX2_init_51, fX2_init_54, fX2_init_55, fX2_init_56, fX2_init_57, fX2_init_59, fX2_init_62, fX2_init_63, fX2_init_66, fX2_init_67, fX2_init_70, fX2_init_71, fX2_init_74, fX2_init_75, fX2_init_76, fX2_init_79, fX2_init_80, fX2_init_83, fX2_init_84, fX2_init_87, fX2_init_88, fX2_init_91, fX2_init_94, fX2_init_95, fX2_init_98, fX2_init_99, fX2_init_102, fX2_init_105, jtm_2, jtm_9, ↓xo_0, ↓jo_0, ↓xo_1, ↓jo_1, ↓xo_2, ↓jo_2, ↓xo_3, ↓jo_3, ↓xo_20, ↓jo_20, ↓xo_21, ↓jo_21, ↓xo_31v, ↓xo_32, ↓jo_32, ↓xo_50, ↓xo_51, ↓xo_52, ↓xo_53, ↓xo_54, ↓xo_55, ↓xo_56, ↓xo_57, ↓xo_58, hL]
  have b1 := bk_set (e := u) (p := 0) (k := 2) (v := ((u + 1 : Nat) : Int)) (bk_new (e := u + 1) (kd := (2, 0, 24, jno)) (f := fun _ => 0) (bk_start hL hS) rfl) rfl
  have b2 := bk_set (e := u) (p := 0) (k := 3) (v := ((u + 2 : Nat) : Int)) (bk_new (e := u + 2) (kd := (2, 0, 24, jno)) (f := fun _ => 0) b1 rfl) rfl
  have b3 := bk_set (e := u) (p := 0) (k := 4) (v := ((u + 3 : Nat) : Int)) (bk_new (e := u + 3) (kd := (1, 0, 24, jno)) (f := fun _ => 0) b2 rfl) rfl
  have b4 := bk_set (e := u) (p := 0) (k := 5) (v := ((u + 4 : Nat) : Int)) (bk_new (e := u + 4) (kd := (1, 0, 24, jno)) (f := fun _ => 0) b3 rfl) rfl
  have b5 := bk_set (e := u) (p := 0) (k := 0) (v := ((u + 5 : Nat) : Int)) (bk_new (e := u + 5) (kd := (7, 0, 25, jno)) (f := fun _ => -1) b4 rfl) rfl
  have b6 := bk_set (e := u) (p := 0) (k := 1) (v := ((u + 6 : Nat) : Int)) (bk_new (e := u + 6) (kd := (7, 0, 25, jno)) (f := fun _ => -1) b5 rfl) rfl
  refine i_cutL (L := L) (S := S) out 25 0 6 146 (u + 7) (by omega) (by omega) (by omega) (by omega) _ _ (bk_cg b6 rfl fun j hj => ?_)
  rcases (show j = 0 ∨ j = 1 ∨ j = 2 ∨ j = 3 ∨ j = 4 ∨ j = 5 ∨ j = 6 by omega) with e | e | e | e | e | e | e <;> subst e
  · refine Prod.ext rfl (funext fun k => ?_)
    have := jdf_2 k
    simp [dSet, dApp, dNew, dCut]
    rw [this]
    repeat' split
    all_goals omega
  all_goals rfl
set_option maxHeartbeats 1000000 in
set_option maxRecDepth 100000 in
theorem i_way {v : Nat} (hL : L u = (0, 10, 0, jno)) (hS : S u = jdf 10) (out : ∀ L' S', bk u 5 (dWay u v) L S L' S' → P (u + 5, u + 5, L', S')) : iC G mX10_init 4 666 (u + 1, u + 1, L, S) [(2, (u : Int)), (2, (v : Int))] P := by
  have q0 : jI32 (660 : Int) := ⟨by omega, by omega⟩
  refine iCw kX10_init jn_X10 rfl (fun pc => false) 40 (Nat.le_of_ble_eq_true rfl) ?_
  simp -implicitDefEqProofs only [Nat.reduceAdd, Nat.reduceMul, Nat.reduceEqDiff, Nat.reduceBEq, Nat.reduceLT, Nat.reduceLeDiff, Int.reduceToNat, Int.reduceLE, Int.reduceLT, Int.reduceNeg, Int.reduceAdd, Int.reduceMul, Bool.or_false, Bool.or_true, Bool.true_or, Bool.false_or, jwq_s, jwp_sn, jwp_sc, jwp_0, jsum, jwx_s, ↓jol_c, ↓jo1_c, ↓jo2_c, ↓jo3_c, Bool.false_eq_true, beq_iff_eq, jst, jins_c, jins_n, jdrop_c, jdrop_n, jargs, jtg, jtag, jcnd, true_and, and_true, false_or, or_false, true_or, or_true, forall_const, ↓reduceIte, Option.toList, List.cons_append, List.nil_append, false_and, and_false, reduceCtorEq, false_imp_iff, forall_eq, true_imp_iff, joc_c, List.drop_succ_cons, List.drop_zero, List.take_succ_cons, List.take_zero, List.reverse_cons, List.reverse_nil, List.length_cons, List.length_nil, Int.reduceEq, not_true_eq_false, not_false_eq_true, Int.toNat_natCast, Int.natCast_nonneg, ne21, ne01, xwx_s, xwp_sn, xwp_sc, xwp_0, xoi_c, joc_c, zcs, jnw_e, jset_e, jobj_e, jarr_e, jno_e, jfd_e, zl1, zl2, zl3, zl4, Nat.add_assoc, if_true, if_false, jL32_0, jL32_1, jL32_2, jL32_3, jL32_4, jL32_5, jL32_6, jL32_7, jL32_8, jL32_9, jL32_10, jL32_11, jL32_12, jL32_13, jL32_14, jL32_15, jL32_16, jL32_17, jL32_18, jL32_19, jL32_20, jL32_21, jL32_22, jL32_23, jL32_24, jL32_25, jL32_26, jL32_27, jL32_28, jL32_29, jL32_30, jL32_31, jL32_32, jL32_33, jL32_34, jL32_35, jL32_36, jL32_37, jL32_38, jL32_39, jL32_57, jL32_60, jL32_97, jL32_122, jL32_255, jLm32_1, jLm32_2, jLm32_3, jLm32_1000, jL64_0, jL64_1, zne_10, zne_00, zne_01, zne_11, false_imp_iff, true_imp_iff, fX10_init_0, fX10_init_1, fX10_init_4, fX10_init_5, fX10_init_8, fX10_init_10, fX10_init_13, fX10_init_14, fX10_init_17, fX10_init_18, fX10_init_21, fX10_init_24, fX10_init_25, fX10_init_28, fX10_init_29, fX10_init_32, fX10_init_35, fX10_init_36, fX10_init_39, fX10_init_40, fX10_init_43, fX10_init_46, fX10_init_47, fX10_init_48, fX10_init_51, jtm_9, ↓xo_0, ↓jo_0, ↓xo_1, ↓jo_1, ↓xo_31v, ↓xo_32, ↓jo_32, ↓xo_50, ↓xo_51, ↓xo_53, ↓xo_54, ↓xo_55, hL, q0]
  have b1 := bk_set (e := u) (p := 0) (k := 0) (v := ((u + 1 : Nat) : Int)) (bk_new (e := u + 1) (kd := (1, 0, 660, jno)) (f := fun _ => 0) (bk_start hL hS) rfl) rfl
  refine i_ratio (u := u + 2) (if_pos rfl) (if_pos rfl) fun L2 S2 h2 => ?_
  have c2 := bk_call (bk_new (e := u + 2) (kd := (0, 6, 0, jno)) (f := jdf 6) b1 rfl) h2 rfl rfl
  have x2 : L2 u = (0, 10, 0, jno) := by
    rw [(bk_at (e := u) c2 (j := 0) (by omega) rfl).1]
    simp [dApp, dNew, dSet]
  simp -implicitDefEqProofs only [Nat.reduceAdd, Nat.reduceMul, Nat.reduceEqDiff, Nat.reduceBEq, Nat.reduceLT, Nat.reduceLeDiff, Int.reduceToNat, Int.reduceLE, Int.reduceLT, Int.reduceNeg, Int.reduceAdd, Int.reduceMul, Bool.or_false, Bool.or_true, Bool.true_or, Bool.false_or, jwq_s, jwp_sn, jwp_sc, jwp_0, jsum, jwx_s, ↓jol_c, ↓jo1_c, ↓jo2_c, ↓jo3_c, Bool.false_eq_true, beq_iff_eq, jst, jins_c, jins_n, jdrop_c, jdrop_n, jargs, jtg, jtag, jcnd, true_and, and_true, false_or, or_false, true_or, or_true, forall_const, ↓reduceIte, Option.toList, List.cons_append, List.nil_append, false_and, and_false, reduceCtorEq, false_imp_iff, forall_eq, true_imp_iff, joc_c, List.drop_succ_cons, List.drop_zero, List.take_succ_cons, List.take_zero, List.reverse_cons, List.reverse_nil, List.length_cons, List.length_nil, Int.reduceEq, not_true_eq_false, not_false_eq_true, Int.toNat_natCast, Int.natCast_nonneg, ne21, ne01, xwx_s, xwp_sn, xwp_sc, xwp_0, xoi_c, joc_c, zcs, jnw_e, jset_e, jobj_e, jarr_e, jno_e, jfd_e, zl1, zl2, zl3, zl4, Nat.add_assoc, if_true, if_false, jL32_0, jL32_1, jL32_2, jL32_3, jL32_4, jL32_5, jL32_6, jL32_7, jL32_8, jL32_9, jL32_10, jL32_11, jL32_12, jL32_13, jL32_14, jL32_15, jL32_16, jL32_17, jL32_18, jL32_19, jL32_20, jL32_21, jL32_22, jL32_23, jL32_24, jL32_25, jL32_26, jL32_27, jL32_28, jL32_29, jL32_30, jL32_31, jL32_32, jL32_33, jL32_34, jL32_35, jL32_36, jL32_37, jL32_38, jL32_39, jL32_57, jL32_60, jL32_97, jL32_122, jL32_255, jLm32_1, jLm32_2, jLm32_3, jLm32_1000, jL64_0, jL64_1, zne_10, zne_00, zne_01, zne_11, false_imp_iff, true_imp_iff, x2]
  have b2 := bk_set (e := u) (p := 0) (k := 1) (v := ((u + 2 : Nat) : Int)) c2 rfl
  refine i_ratio (u := u + 3) (if_pos rfl) (if_pos rfl) fun L3 S3 h3 => ?_
  have c3 := bk_call (bk_new (e := u + 3) (kd := (0, 6, 0, jno)) (f := jdf 6) b2 rfl) h3 rfl rfl
  have x3 : L3 u = (0, 10, 0, jno) := by
    rw [(bk_at (e := u) c3 (j := 0) (by omega) rfl).1]
    simp [dApp, dNew, dSet]
  simp -implicitDefEqProofs only [Nat.reduceAdd, Nat.reduceMul, Nat.reduceEqDiff, Nat.reduceBEq, Nat.reduceLT, Nat.reduceLeDiff, Int.reduceToNat, Int.reduceLE, Int.reduceLT, Int.reduceNeg, Int.reduceAdd, Int.reduceMul, Bool.or_false, Bool.or_true, Bool.true_or, Bool.false_or, jwq_s, jwp_sn, jwp_sc, jwp_0, jsum, jwx_s, ↓jol_c, ↓jo1_c, ↓jo2_c, ↓jo3_c, Bool.false_eq_true, beq_iff_eq, jst, jins_c, jins_n, jdrop_c, jdrop_n, jargs, jtg, jtag, jcnd, true_and, and_true, false_or, or_false, true_or, or_true, forall_const, ↓reduceIte, Option.toList, List.cons_append, List.nil_append, false_and, and_false, reduceCtorEq, false_imp_iff, forall_eq, true_imp_iff, joc_c, List.drop_succ_cons, List.drop_zero, List.take_succ_cons, List.take_zero, List.reverse_cons, List.reverse_nil, List.length_cons, List.length_nil, Int.reduceEq, not_true_eq_false, not_false_eq_true, Int.toNat_natCast, Int.natCast_nonneg, ne21, ne01, xwx_s, xwp_sn, xwp_sc, xwp_0, xoi_c, joc_c, zcs, jnw_e, jset_e, jobj_e, jarr_e, jno_e, jfd_e, zl1, zl2, zl3, zl4, Nat.add_assoc, if_true, if_false, jL32_0, jL32_1, jL32_2, jL32_3, jL32_4, jL32_5, jL32_6, jL32_7, jL32_8, jL32_9, jL32_10, jL32_11, jL32_12, jL32_13, jL32_14, jL32_15, jL32_16, jL32_17, jL32_18, jL32_19, jL32_20, jL32_21, jL32_22, jL32_23, jL32_24, jL32_25, jL32_26, jL32_27, jL32_28, jL32_29, jL32_30, jL32_31, jL32_32, jL32_33, jL32_34, jL32_35, jL32_36, jL32_37, jL32_38, jL32_39, jL32_57, jL32_60, jL32_97, jL32_122, jL32_255, jLm32_1, jLm32_2, jLm32_3, jLm32_1000, jL64_0, jL64_1, zne_10, zne_00, zne_01, zne_11, false_imp_iff, true_imp_iff, x3]
  have b3 := bk_set (e := u) (p := 0) (k := 3) (v := ((u + 3 : Nat) : Int)) c3 rfl
  refine i_ratio (u := u + 4) (if_pos rfl) (if_pos rfl) fun L4 S4 h4 => ?_
  have c4 := bk_call (bk_new (e := u + 4) (kd := (0, 6, 0, jno)) (f := jdf 6) b3 rfl) h4 rfl rfl
  have x4 : L4 u = (0, 10, 0, jno) := by
    rw [(bk_at (e := u) c4 (j := 0) (by omega) rfl).1]
    simp [dApp, dNew, dSet]
  simp -implicitDefEqProofs only [Nat.reduceAdd, Nat.reduceMul, Nat.reduceEqDiff, Nat.reduceBEq, Nat.reduceLT, Nat.reduceLeDiff, Int.reduceToNat, Int.reduceLE, Int.reduceLT, Int.reduceNeg, Int.reduceAdd, Int.reduceMul, Bool.or_false, Bool.or_true, Bool.true_or, Bool.false_or, jwq_s, jwp_sn, jwp_sc, jwp_0, jsum, jwx_s, ↓jol_c, ↓jo1_c, ↓jo2_c, ↓jo3_c, Bool.false_eq_true, beq_iff_eq, jst, jins_c, jins_n, jdrop_c, jdrop_n, jargs, jtg, jtag, jcnd, true_and, and_true, false_or, or_false, true_or, or_true, forall_const, ↓reduceIte, Option.toList, List.cons_append, List.nil_append, false_and, and_false, reduceCtorEq, false_imp_iff, forall_eq, true_imp_iff, joc_c, List.drop_succ_cons, List.drop_zero, List.take_succ_cons, List.take_zero, List.reverse_cons, List.reverse_nil, List.length_cons, List.length_nil, Int.reduceEq, not_true_eq_false, not_false_eq_true, Int.toNat_natCast, Int.natCast_nonneg, ne21, ne01, xwx_s, xwp_sn, xwp_sc, xwp_0, xoi_c, joc_c, zcs, jnw_e, jset_e, jobj_e, jarr_e, jno_e, jfd_e, zl1, zl2, zl3, zl4, Nat.add_assoc, if_true, if_false, jL32_0, jL32_1, jL32_2, jL32_3, jL32_4, jL32_5, jL32_6, jL32_7, jL32_8, jL32_9, jL32_10, jL32_11, jL32_12, jL32_13, jL32_14, jL32_15, jL32_16, jL32_17, jL32_18, jL32_19, jL32_20, jL32_21, jL32_22, jL32_23, jL32_24, jL32_25, jL32_26, jL32_27, jL32_28, jL32_29, jL32_30, jL32_31, jL32_32, jL32_33, jL32_34, jL32_35, jL32_36, jL32_37, jL32_38, jL32_39, jL32_57, jL32_60, jL32_97, jL32_122, jL32_255, jLm32_1, jLm32_2, jLm32_3, jLm32_1000, jL64_0, jL64_1, zne_10, zne_00, zne_01, zne_11, false_imp_iff, true_imp_iff, x4]
  have b4 := bk_set (e := u) (p := 0) (k := 4) (v := ((u + 4 : Nat) : Int)) c4 rfl
  have b9 := bk_set (e := u) (p := 0) (k := 5) (v := (v : Int)) b4 rfl
  refine out _ _ (bk_cg b9 rfl fun j hj => ?_)
  rcases (show j = 0 ∨ j = 1 ∨ j = 2 ∨ j = 3 ∨ j = 4 by omega) with e | e | e | e | e <;> subst e
  · refine Prod.ext rfl (funext fun k => ?_)
    have := jdf_10 k
    simp [dSet, dApp, dNew, dWay]
    rw [this]
    repeat' split
    all_goals omega
  all_goals rfl
theorem i_ride (hL : L u = (0, 9, 0, jno)) (hS : S u = jdf 9) (out : ∀ L' S', bk u 5 (dRid u) L S L' S' → P (u + 5, u + 5, L', S')) : iC G mX9_init 4 254 (u + 1, u + 1, L, S) [(2, (u : Int))] P := by
  have q0 : jI32 (248 : Int) := ⟨by omega, by omega⟩
  refine iCw kX9_init jn_X9 rfl (fun pc => false) 40 (Nat.le_of_ble_eq_true rfl) ?_
  simp -implicitDefEqProofs only [Nat.reduceAdd, Nat.reduceMul, Nat.reduceEqDiff, Nat.reduceBEq, Nat.reduceLT, Nat.reduceLeDiff, Int.reduceToNat, Int.reduceLE, Int.reduceLT, Int.reduceNeg, Int.reduceAdd, Int.reduceMul, Bool.or_false, Bool.or_true, Bool.true_or, Bool.false_or, jwq_s, jwp_sn, jwp_sc, jwp_0, jsum, jwx_s, ↓jol_c, ↓jo1_c, ↓jo2_c, ↓jo3_c, Bool.false_eq_true, beq_iff_eq, jst, jins_c, jins_n, jdrop_c, jdrop_n, jargs, jtg, jtag, jcnd, true_and, and_true, false_or, or_false, true_or, or_true, forall_const, ↓reduceIte, Option.toList, List.cons_append, List.nil_append, false_and, and_false, reduceCtorEq, false_imp_iff, forall_eq, true_imp_iff, joc_c, List.drop_succ_cons, List.drop_zero, List.take_succ_cons, List.take_zero, List.reverse_cons, List.reverse_nil, List.length_cons, List.length_nil, Int.reduceEq, not_true_eq_false, not_false_eq_true, Int.toNat_natCast, Int.natCast_nonneg, ne21, ne01, xwx_s, xwp_sn, xwp_sc, xwp_0, xoi_c, joc_c, zcs, jnw_e, jset_e, jobj_e, jarr_e, jno_e, jfd_e, zl1, zl2, zl3, zl4, Nat.add_assoc, if_true, if_false, jL32_0, jL32_1, jL32_2, jL32_3, jL32_4, jL32_5, jL32_6, jL32_7, jL32_8, jL32_9, jL32_10, jL32_11, jL32_12, jL32_13, jL32_14, jL32_15, jL32_16, jL32_17, jL32_18, jL32_19, jL32_20, jL32_21, jL32_22, jL32_23, jL32_24, jL32_25, jL32_26, jL32_27, jL32_28, jL32_29, jL32_30, jL32_31, jL32_32, jL32_33, jL32_34, jL32_35, jL32_36, jL32_37, jL32_38, jL32_39, jL32_57, jL32_60, jL32_97, jL32_122, jL32_255, jLm32_1, jLm32_2, jLm32_3, jLm32_1000, jL64_0, jL64_1, zne_10, zne_00, zne_01, zne_11, false_imp_iff, true_imp_iff, fX9_init_0, fX9_init_1, fX9_init_4, fX9_init_5, fX9_init_8, fX9_init_10, fX9_init_13, fX9_init_14, fX9_init_17, fX9_init_18, fX9_init_21, fX9_init_24, fX9_init_25, fX9_init_28, fX9_init_29, fX9_init_32, fX9_init_35, fX9_init_36, fX9_init_39, fX9_init_40, fX9_init_43, fX9_init_46, jtm_9, ↓xo_0, ↓jo_0, ↓xo_1, ↓jo_1, ↓xo_31v, ↓xo_32, ↓jo_32, ↓xo_50, ↓xo_51, ↓xo_53, ↓xo_54, ↓xo_55, hL, q0]
  have b1 := bk_set (e := u) (p := 0) (k := 0) (v := ((u + 1 : Nat) : Int)) (bk_new (e := u + 1) (kd := (1, 0, 248, jno)) (f := fun _ => 0) (bk_start hL hS) rfl) rfl
  refine i_ratio (u := u + 2) (if_pos rfl) (if_pos rfl) fun L2 S2 h2 => ?_
  have c2 := bk_call (bk_new (e := u + 2) (kd := (0, 6, 0, jno)) (f := jdf 6) b1 rfl) h2 rfl rfl
  have x2 : L2 u = (0, 9, 0, jno) := by
    rw [(bk_at (e := u) c2 (j := 0) (by omega) rfl).1]
    simp [dApp, dNew, dSet]
  simp -implicitDefEqProofs only [Nat.reduceAdd, Nat.reduceMul, Nat.reduceEqDiff, Nat.reduceBEq, Nat.reduceLT, Nat.reduceLeDiff, Int.reduceToNat, Int.reduceLE, Int.reduceLT, Int.reduceNeg, Int.reduceAdd, Int.reduceMul, Bool.or_false, Bool.or_true, Bool.true_or, Bool.false_or, jwq_s, jwp_sn, jwp_sc, jwp_0, jsum, jwx_s, ↓jol_c, ↓jo1_c, ↓jo2_c, ↓jo3_c, Bool.false_eq_true, beq_iff_eq, jst, jins_c, jins_n, jdrop_c, jdrop_n, jargs, jtg, jtag, jcnd, true_and, and_true, false_or, or_false, true_or, or_true, forall_const, ↓reduceIte, Option.toList, List.cons_append, List.nil_append, false_and, and_false, reduceCtorEq, false_imp_iff, forall_eq, true_imp_iff, joc_c, List.drop_succ_cons, List.drop_zero, List.take_succ_cons, List.take_zero, List.reverse_cons, List.reverse_nil, List.length_cons, List.length_nil, Int.reduceEq, not_true_eq_false, not_false_eq_true, Int.toNat_natCast, Int.natCast_nonneg, ne21, ne01, xwx_s, xwp_sn, xwp_sc, xwp_0, xoi_c, joc_c, zcs, jnw_e, jset_e, jobj_e, jarr_e, jno_e, jfd_e, zl1, zl2, zl3, zl4, Nat.add_assoc, if_true, if_false, jL32_0, jL32_1, jL32_2, jL32_3, jL32_4, jL32_5, jL32_6, jL32_7, jL32_8, jL32_9, jL32_10, jL32_11, jL32_12, jL32_13, jL32_14, jL32_15, jL32_16, jL32_17, jL32_18, jL32_19, jL32_20, jL32_21, jL32_22, jL32_23, jL32_24, jL32_25, jL32_26, jL32_27, jL32_28, jL32_29, jL32_30, jL32_31, jL32_32, jL32_33, jL32_34, jL32_35, jL32_36, jL32_37, jL32_38, jL32_39, jL32_57, jL32_60, jL32_97, jL32_122, jL32_255, jLm32_1, jLm32_2, jLm32_3, jLm32_1000, jL64_0, jL64_1, zne_10, zne_00, zne_01, zne_11, false_imp_iff, true_imp_iff, x2]
  have b2 := bk_set (e := u) (p := 0) (k := 1) (v := ((u + 2 : Nat) : Int)) c2 rfl
  refine i_ratio (u := u + 3) (if_pos rfl) (if_pos rfl) fun L3 S3 h3 => ?_
  have c3 := bk_call (bk_new (e := u + 3) (kd := (0, 6, 0, jno)) (f := jdf 6) b2 rfl) h3 rfl rfl
  have x3 : L3 u = (0, 9, 0, jno) := by
    rw [(bk_at (e := u) c3 (j := 0) (by omega) rfl).1]
    simp [dApp, dNew, dSet]
  simp -implicitDefEqProofs only [Nat.reduceAdd, Nat.reduceMul, Nat.reduceEqDiff, Nat.reduceBEq, Nat.reduceLT, Nat.reduceLeDiff, Int.reduceToNat, Int.reduceLE, Int.reduceLT, Int.reduceNeg, Int.reduceAdd, Int.reduceMul, Bool.or_false, Bool.or_true, Bool.true_or, Bool.false_or, jwq_s, jwp_sn, jwp_sc, jwp_0, jsum, jwx_s, ↓jol_c, ↓jo1_c, ↓jo2_c, ↓jo3_c, Bool.false_eq_true, beq_iff_eq, jst, jins_c, jins_n, jdrop_c, jdrop_n, jargs, jtg, jtag, jcnd, true_and, and_true, false_or, or_false, true_or, or_true, forall_const, ↓reduceIte, Option.toList, List.cons_append, List.nil_append, false_and, and_false, reduceCtorEq, false_imp_iff, forall_eq, true_imp_iff, joc_c, List.drop_succ_cons, List.drop_zero, List.take_succ_cons, List.take_zero, List.reverse_cons, List.reverse_nil, List.length_cons, List.length_nil, Int.reduceEq, not_true_eq_false, not_false_eq_true, Int.toNat_natCast, Int.natCast_nonneg, ne21, ne01, xwx_s, xwp_sn, xwp_sc, xwp_0, xoi_c, joc_c, zcs, jnw_e, jset_e, jobj_e, jarr_e, jno_e, jfd_e, zl1, zl2, zl3, zl4, Nat.add_assoc, if_true, if_false, jL32_0, jL32_1, jL32_2, jL32_3, jL32_4, jL32_5, jL32_6, jL32_7, jL32_8, jL32_9, jL32_10, jL32_11, jL32_12, jL32_13, jL32_14, jL32_15, jL32_16, jL32_17, jL32_18, jL32_19, jL32_20, jL32_21, jL32_22, jL32_23, jL32_24, jL32_25, jL32_26, jL32_27, jL32_28, jL32_29, jL32_30, jL32_31, jL32_32, jL32_33, jL32_34, jL32_35, jL32_36, jL32_37, jL32_38, jL32_39, jL32_57, jL32_60, jL32_97, jL32_122, jL32_255, jLm32_1, jLm32_2, jLm32_3, jLm32_1000, jL64_0, jL64_1, zne_10, zne_00, zne_01, zne_11, false_imp_iff, true_imp_iff, x3]
  have b3 := bk_set (e := u) (p := 0) (k := 2) (v := ((u + 3 : Nat) : Int)) c3 rfl
  refine i_ratio (u := u + 4) (if_pos rfl) (if_pos rfl) fun L4 S4 h4 => ?_
  have c4 := bk_call (bk_new (e := u + 4) (kd := (0, 6, 0, jno)) (f := jdf 6) b3 rfl) h4 rfl rfl
  have x4 : L4 u = (0, 9, 0, jno) := by
    rw [(bk_at (e := u) c4 (j := 0) (by omega) rfl).1]
    simp [dApp, dNew, dSet]
  simp -implicitDefEqProofs only [Nat.reduceAdd, Nat.reduceMul, Nat.reduceEqDiff, Nat.reduceBEq, Nat.reduceLT, Nat.reduceLeDiff, Int.reduceToNat, Int.reduceLE, Int.reduceLT, Int.reduceNeg, Int.reduceAdd, Int.reduceMul, Bool.or_false, Bool.or_true, Bool.true_or, Bool.false_or, jwq_s, jwp_sn, jwp_sc, jwp_0, jsum, jwx_s, ↓jol_c, ↓jo1_c, ↓jo2_c, ↓jo3_c, Bool.false_eq_true, beq_iff_eq, jst, jins_c, jins_n, jdrop_c, jdrop_n, jargs, jtg, jtag, jcnd, true_and, and_true, false_or, or_false, true_or, or_true, forall_const, ↓reduceIte, Option.toList, List.cons_append, List.nil_append, false_and, and_false, reduceCtorEq, false_imp_iff, forall_eq, true_imp_iff, joc_c, List.drop_succ_cons, List.drop_zero, List.take_succ_cons, List.take_zero, List.reverse_cons, List.reverse_nil, List.length_cons, List.length_nil, Int.reduceEq, not_true_eq_false, not_false_eq_true, Int.toNat_natCast, Int.natCast_nonneg, ne21, ne01, xwx_s, xwp_sn, xwp_sc, xwp_0, xoi_c, joc_c, zcs, jnw_e, jset_e, jobj_e, jarr_e, jno_e, jfd_e, zl1, zl2, zl3, zl4, Nat.add_assoc, if_true, if_false, jL32_0, jL32_1, jL32_2, jL32_3, jL32_4, jL32_5, jL32_6, jL32_7, jL32_8, jL32_9, jL32_10, jL32_11, jL32_12, jL32_13, jL32_14, jL32_15, jL32_16, jL32_17, jL32_18, jL32_19, jL32_20, jL32_21, jL32_22, jL32_23, jL32_24, jL32_25, jL32_26, jL32_27, jL32_28, jL32_29, jL32_30, jL32_31, jL32_32, jL32_33, jL32_34, jL32_35, jL32_36, jL32_37, jL32_38, jL32_39, jL32_57, jL32_60, jL32_97, jL32_122, jL32_255, jLm32_1, jLm32_2, jLm32_3, jLm32_1000, jL64_0, jL64_1, zne_10, zne_00, zne_01, zne_11, false_imp_iff, true_imp_iff, x4]
  have b4 := bk_set (e := u) (p := 0) (k := 6) (v := ((u + 4 : Nat) : Int)) c4 rfl
  refine out _ _ (bk_cg b4 rfl fun j hj => ?_)
  rcases (show j = 0 ∨ j = 1 ∨ j = 2 ∨ j = 3 ∨ j = 4 by omega) with e | e | e | e | e <;> subst e
  · refine Prod.ext rfl (funext fun k => ?_)
    have := jdf_9 k
    simp [dSet, dApp, dNew, dRid]
    rw [this]
    repeat' split
    all_goals omega
  all_goals rfl
end

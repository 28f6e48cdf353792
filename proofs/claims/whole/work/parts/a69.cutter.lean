/-! Constructors: Way, Ride, Cutter. -/
def dCut (u n : Nat) (j : Nat) : jK × (Nat → Int) := if j = 0 then ((0, 2, 0, jno), fun k => if k = 0 then ((u + 5 : Nat) : Int) else if k = 1 then ((u + 6 : Nat) : Int) else if k = 2 then ((u + 1 : Nat) : Int) else if k = 3 then ((u + 2 : Nat) : Int) else if k = 4 then ((u + 3 : Nat) : Int) else if k = 5 then ((u + 4 : Nat) : Int) else if k = 6 then -1 else 0) else if j < 3 then dArr 2 24 else if j < 5 then dArr 1 24 else if j = 5 then ((7, 0, 25, jno), fun k => if k < n then ((u + (7 + 2 * k) : Nat) : Int) else -1) else if j = 6 then ((7, 0, 25, jno), fun k => if k < n then ((u + (8 + 2 * k) : Nat) : Int) else -1) else dRat
def dCutN (u j : Nat) : jK × (Nat → Int) := if j < 57 then (if j = 0 then ((0, 2, 0, jno), fun k => if k = 6 then ((u + 57 : Nat) : Int) else (dCut u 25 0).2 k) else dCut u 25 j) else dNrm (u + 57) (j - 57)
theorem jdf_2 (k : Nat) : jdf 2 k = if k < 7 then -1 else 0 := by
  match k with
  | 0 => rfl
  | 1 => rfl
  | 2 => rfl
  | 3 => rfl
  | 4 => rfl
  | 5 => rfl
  | 6 => rfl
  | 7 => rfl
  | 8 => rfl
  | k + 9 => rw [if_neg (by omega)]; rfl
theorem jarr_v {n' n : Nat} {L : Nat → jK} {S : jS} {p : Nat} {x : Int} {s m : Nat} (h : p < n) (hl : L p = (s, 0, m, jno)) (hx : 0 ≤ x) (hm : x < (m : Int)) (h2 : m ≤ 2147483647) : jarr (n', n, L, S) (p : Int) x s := by
  rw [jarr_e, hl]
  exact ⟨h, rfl, hx, hm, h2⟩
section
variable {G : jG} {u : Nat} {L : Nat → jK} {S : jS} {P : jM → Prop}
set_option maxHeartbeats 1000000 in
set_option maxRecDepth 100000 in
theorem i_cutL (out : ∀ L' S', bk u 61 (dCutN u) L S L' S' → P (u + 61, u + 61, L', S')) : ∀ (m n c s v : Nat), n + m = 25 → c = 6 + 2 * n → s = 146 + 4 * n → v = u + (7 + 2 * n) → ∀ L' S', bk u (7 + 2 * n) (dCut u n) L S L' S' → zJ G mX2_init 60 322 iP (zmQ G (fun r M' => r = none ∧ P M') 60 322) c s 56 [(0, (2, (u : Int))), (1, (0, (n : Int)))] [] (v, v, L', S')
  | 0, n, c, s, v, hm, hc, hs, hv, L', S', hb => by
    have e : n = 25 := by omega
    subst e
    subst hc
    subst hs
    have q0 : jI32 ((25 : Nat) : Int) := ⟨by omega, by omega⟩
    have q1 : ((24 : Int) < ((25 : Nat) : Int)) = True := eq_true (by omega)
    refine iJw kX2_init (fun pc => pc == 56) 40 (by omega) (by omega) ?_
    simp -implicitDefEqProofs only [Nat.reduceAdd, Nat.reduceMul, Nat.reduceEqDiff, Nat.reduceBEq, Nat.reduceLT, Nat.reduceLeDiff, Int.reduceToNat, Int.reduceLE, Int.reduceLT, Int.reduceNeg, Int.reduceAdd, Int.reduceMul, Bool.or_false, Bool.or_true, Bool.true_or, Bool.false_or, jwq_s, jwp_sn, jwp_sc, jwp_0, jsum, jwx_s, ↓jol_c, ↓jo1_c, ↓jo2_c, ↓jo3_c, Bool.false_eq_true, beq_iff_eq, jst, jins_c, jins_n, jdrop_c, jdrop_n, jargs, jtg, jtag, jcnd, true_and, and_true, false_or, or_false, true_or, or_true, forall_const, ↓reduceIte, Option.toList, List.cons_append, List.nil_append, false_and, and_false, reduceCtorEq, false_imp_iff, forall_eq, true_imp_iff, joc_c, List.drop_succ_cons, List.drop_zero, List.take_succ_cons, List.take_zero, List.reverse_cons, List.reverse_nil, List.length_cons, List.length_nil, Int.reduceEq, not_true_eq_false, not_false_eq_true, Int.toNat_natCast, Int.natCast_nonneg, ne21, ne01, xwx_s, xwp_sn, xwp_sc, xwp_0, xoi_c, joc_c, zcs, jnw_e, jset_e, jobj_e, jarr_e, jno_e, jfd_e, zl1, zl2, zl3, zl4, Nat.add_assoc, if_true, if_false, jL32_0, jL32_1, jL32_2, jL32_3, jL32_4, jL32_5, jL32_6, jL32_7, jL32_8, jL32_9, jL32_10, jL32_11, jL32_12, jL32_13, jL32_14, jL32_15, jL32_16, jL32_17, jL32_18, jL32_19, jL32_20, jL32_21, jL32_22, jL32_23, jL32_24, jL32_25, jL32_26, jL32_27, jL32_28, jL32_29, jL32_30, jL32_31, jL32_32, jL32_33, jL32_34, jL32_35, jL32_36, jL32_37, jL32_38, jL32_39, jL32_57, jL32_60, jL32_97, jL32_122, jL32_255, jLm32_1, jLm32_2, jLm32_3, jLm32_1000, jL64_0, jL64_1, zne_10, zne_00, zne_01, zne_11, false_imp_iff, true_imp_iff, fX2_init_0, fX2_init_1, fX2_init_4, fX2_init_5, fX2_init_7, fX2_init_9, fX2_init_12, fX2_init_13, fX2_init_15, fX2_init_17, fX2_init_20, fX2_init_21, fX2_init_23, fX2_init_25, fX2_init_28, fX2_init_29, fX2_init_31, fX2_init_33, fX2_init_36, fX2_init_37, fX2_init_39, fX2_init_42, fX2_init_45, fX2_init_46, fX2_init_48, fX2_init_51, fX2_init_54, fX2_init_55, fX2_init_56, fX2_init_57, fX2_init_59, fX2_init_62, fX2_init_63, fX2_init_66, fX2_init_67, fX2_init_70, fX2_init_71, fX2_init_74, fX2_init_75, fX2_init_76, fX2_init_79, fX2_init_80, fX2_init_83, fX2_init_84, fX2_init_87, fX2_init_88, fX2_init_91, fX2_init_94, fX2_init_95, fX2_init_98, fX2_init_99, fX2_init_102, fX2_init_105, jtm_2, jtm_9, ↓xo_0, ↓jo_0, ↓xo_1, ↓jo_1, ↓xo_2, ↓jo_2, ↓xo_3, ↓jo_3, ↓xo_20, ↓jo_20, ↓xo_21, ↓jo_21, ↓xo_31v, ↓xo_32, ↓jo_32, ↓xo_50, ↓xo_51, ↓xo_52, ↓xo_53, ↓xo_54, ↓xo_55, ↓xo_56, ↓xo_57, ↓xo_58, q0, q1]
    have hv : v = u + 57 := hv
    refine i_normals (u := v) (if_pos rfl) (if_pos rfl) fun L1 S1 h1 => ?_
    have b1 := bk_call (bk_new (kd := (0, 4, 0, jno)) (f := jdf 4) hb hv) h1 hv rfl
    have x1 := (bk_at (e := u) b1 (j := 0) (by omega) rfl).1
    simp [dApp, dNew, dCut] at x1
    have uv : u < v + 4 := by omega
    simp -implicitDefEqProofs only [Nat.reduceAdd, Nat.reduceMul, Nat.reduceEqDiff, Nat.reduceBEq, Nat.reduceLT, Nat.reduceLeDiff, Int.reduceToNat, Int.reduceLE, Int.reduceLT, Int.reduceNeg, Int.reduceAdd, Int.reduceMul, Bool.or_false, Bool.or_true, Bool.true_or, Bool.false_or, jwq_s, jwp_sn, jwp_sc, jwp_0, jsum, jwx_s, ↓jol_c, ↓jo1_c, ↓jo2_c, ↓jo3_c, Bool.false_eq_true, beq_iff_eq, jst, jins_c, jins_n, jdrop_c, jdrop_n, jargs, jtg, jtag, jcnd, true_and, and_true, false_or, or_false, true_or, or_true, forall_const, ↓reduceIte, Option.toList, List.cons_append, List.nil_append, false_and, and_false, reduceCtorEq, false_imp_iff, forall_eq, true_imp_iff, joc_c, List.drop_succ_cons, List.drop_zero, List.take_succ_cons, List.take_zero, List.reverse_cons, List.reverse_nil, List.length_cons, List.length_nil, Int.reduceEq, not_true_eq_false, not_false_eq_true, Int.toNat_natCast, Int.natCast_nonneg, ne21, ne01, xwx_s, xwp_sn, xwp_sc, xwp_0, xoi_c, joc_c, zcs, jnw_e, jset_e, jobj_e, jarr_e, jno_e, jfd_e, zl1, zl2, zl3, zl4, Nat.add_assoc, if_true, if_false, jL32_0, jL32_1, jL32_2, jL32_3, jL32_4, jL32_5, jL32_6, jL32_7, jL32_8, jL32_9, jL32_10, jL32_11, jL32_12, jL32_13, jL32_14, jL32_15, jL32_16, jL32_17, jL32_18, jL32_19, jL32_20, jL32_21, jL32_22, jL32_23, jL32_24, jL32_25, jL32_26, jL32_27, jL32_28, jL32_29, jL32_30, jL32_31, jL32_32, jL32_33, jL32_34, jL32_35, jL32_36, jL32_37, jL32_38, jL32_39, jL32_57, jL32_60, jL32_97, jL32_122, jL32_255, jLm32_1, jLm32_2, jLm32_3, jLm32_1000, jL64_0, jL64_1, zne_10, zne_00, zne_01, zne_11, false_imp_iff, true_imp_iff, x1, uv]
    have b2 := bk_set (e := u) (p := 0) (k := 6) (v := (v : Int)) b1 rfl
    rw [show v + 4 = u + 61 by omega]
    refine out _ _ (bk_cg b2 rfl fun j hj => ?_)
    unfold dCutN
    by_cases e0 : j = 0
    · subst e0
      simp [dSet, dApp, dNew, dCut, hv]
    · by_cases e1 : j < 57
      · rw [if_pos e1, if_neg e0]
        simp only [dSet, dApp, dNew]
        rw [if_neg e0, if_pos (by omega), if_neg (by omega)]
      · rw [if_neg e1]
        simp only [dSet, dApp, dNew]
        rw [if_neg e0, if_neg (by omega), hv]
  | m + 1, n, c, s, v, hm, hc, hs, hv, L', S', hb => by
    have q0 : jI32 (n : Int) := ⟨by omega, by omega⟩
    have q1 : ((24 : Int) < (n : Int)) = False := eq_false (by omega)
    have q2 : (n : Int) < ((25 : Nat) : Int) := by omega
    have g1 : c ≤ 59 := by omega
    have g2 : s ≤ 320 := by omega
    have g3 : c ≤ 58 := by omega
    have g4 : s ≤ 318 := by omega
    have uv : u < v := by omega
    have uv1 : u < v + 1 := by omega
    have uv2 : u < v + 2 := by omega
    have w5 : u + 5 < v + 1 := by omega
    have w6 : u + 6 < v + 2 := by omega
    have x0 : L' u = (0, 2, 0, jno) := (bk_at (e := u) hb (j := 0) (by omega) rfl).1
    have y0 : S' u 0 = ((u + 5 : Nat) : Int) := by rw [(bk_at (e := u) hb (j := 0) (by omega) rfl).2]; rfl
    refine iJw kX2_init (fun pc => pc == 56) 40 (by omega) (by omega) ?_
    simp -implicitDefEqProofs only [Nat.reduceAdd, Nat.reduceMul, Nat.reduceEqDiff, Nat.reduceBEq, Nat.reduceLT, Nat.reduceLeDiff, Int.reduceToNat, Int.reduceLE, Int.reduceLT, Int.reduceNeg, Int.reduceAdd, Int.reduceMul, Bool.or_false, Bool.or_true, Bool.true_or, Bool.false_or, jwq_s, jwp_sn, jwp_sc, jwp_0, jsum, jwx_s, ↓jol_c, ↓jo1_c, ↓jo2_c, ↓jo3_c, Bool.false_eq_true, beq_iff_eq, jst, jins_c, jins_n, jdrop_c, jdrop_n, jargs, jtg, jtag, jcnd, true_and, and_true, false_or, or_false, true_or, or_true, forall_const, ↓reduceIte, Option.toList, List.cons_append, List.nil_append, false_and, and_false, reduceCtorEq, false_imp_iff, forall_eq, true_imp_iff, joc_c, List.drop_succ_cons, List.drop_zero, List.take_succ_cons, List.take_zero, List.reverse_cons, List.reverse_nil, List.length_cons, List.length_nil, Int.reduceEq, not_true_eq_false, not_false_eq_true, Int.toNat_natCast, Int.natCast_nonneg, ne21, ne01, xwx_s, xwp_sn, xwp_sc, xwp_0, xoi_c, joc_c, zcs, jnw_e, jset_e, jobj_e, jarr_e, jno_e, jfd_e, zl1, zl2, zl3, zl4, Nat.add_assoc, if_true, if_false, jL32_0, jL32_1, jL32_2, jL32_3, jL32_4, jL32_5, jL32_6, jL32_7, jL32_8, jL32_9, jL32_10, jL32_11, jL32_12, jL32_13, jL32_14, jL32_15, jL32_16, jL32_17, jL32_18, jL32_19, jL32_20, jL32_21, jL32_22, jL32_23, jL32_24, jL32_25, jL32_26, jL32_27, jL32_28, jL32_29, jL32_30, jL32_31, jL32_32, jL32_33, jL32_34, jL32_35, jL32_36, jL32_37, jL32_38, jL32_39, jL32_57, jL32_60, jL32_97, jL32_122, jL32_255, jLm32_1, jLm32_2, jLm32_3, jLm32_1000, jL64_0, jL64_1, zne_10, zne_00, zne_01, zne_11, false_imp_iff, true_imp_iff, fX2_init_0, fX2_init_1, fX2_init_4, fX2_init_5, fX2_init_7, fX2_init_9, fX2_init_12, fX2_init_13, fX2_init_15, fX2_init_17, fX2_init_20, fX2_init_21, fX2_init_23, fX2_init_25, fX2_init_28, fX2_init_29, fX2_init_31, fX2_init_33, fX2_init_36, fX2_init_37, fX2_init_39, fX2_init_42, fX2_init_45, fX2_init_46, fX2_init_48, fX2_init_51, fX2_init_54, fX2_init_55, fX2_init_56, fX2_init_57, fX2_init_59, fX2_init_62, fX2_init_63, fX2_init_66, fX2_init_67, fX2_init_70, fX2_init_71, fX2_init_74, fX2_init_75, fX2_init_76, fX2_init_79, fX2_init_80, fX2_init_83, fX2_init_84, fX2_init_87, fX2_init_88, fX2_init_91, fX2_init_94, fX2_init_95, fX2_init_98, fX2_init_99, fX2_init_102, fX2_init_105, jtm_2, jtm_9, ↓xo_0, ↓jo_0, ↓xo_1, ↓jo_1, ↓xo_2, ↓jo_2, ↓xo_3, ↓jo_3, ↓xo_20, ↓jo_20, ↓xo_21, ↓jo_21, ↓xo_31v, ↓xo_32, ↓jo_32, ↓xo_50, ↓xo_51, ↓xo_52, ↓xo_53, ↓xo_54, ↓xo_55, ↓xo_56, ↓xo_57, ↓xo_58, q0, q1, g1, g2, x0, y0, uv]
    refine i_ratio (u := v) (if_pos rfl) (if_pos rfl) fun L1 S1 h1 => ?_
    have b1 := bk_call (bk_new (kd := (0, 6, 0, jno)) (f := jdf 6) hb hv) h1 hv rfl
    have x1 : L1 u = (0, 2, 0, jno) := by
      rw [(bk_at (e := u) b1 (j := 0) (by omega) rfl).1]
      simp [dApp, dNew, dCut, show 0 < 7 + 2 * n by omega, show ¬ 0 = 7 + 2 * n by omega]
    have y1 : S1 u 1 = ((u + 6 : Nat) : Int) := by
      rw [(bk_at (e := u) b1 (j := 0) (by omega) rfl).2]
      simp [dApp, dNew, dCut, show 0 < 7 + 2 * n by omega, show ¬ 0 = 7 + 2 * n by omega]
    have z1 : L1 (u + 5) = (7, 0, 25, jno) := by
      rw [(bk_at (e := u + 5) b1 (j := 5) (by omega) rfl).1]
      simp [dApp, dNew, dCut, show 5 < 7 + 2 * n by omega, show ¬ 5 = 7 + 2 * n by omega]
    have r1 : L1 v = (0, 6, 0, jno) := by
      rw [(bk_at (e := v) b1 (j := 7 + 2 * n) (by omega) hv).1]
      simp [dApp, dRat]
    simp -implicitDefEqProofs only [Nat.reduceAdd, Nat.reduceMul, Nat.reduceEqDiff, Nat.reduceBEq, Nat.reduceLT, Nat.reduceLeDiff, Int.reduceToNat, Int.reduceLE, Int.reduceLT, Int.reduceNeg, Int.reduceAdd, Int.reduceMul, Bool.or_false, Bool.or_true, Bool.true_or, Bool.false_or, jwq_s, jwp_sn, jwp_sc, jwp_0, jsum, jwx_s, ↓jol_c, ↓jo1_c, ↓jo2_c, ↓jo3_c, Bool.false_eq_true, beq_iff_eq, jst, jins_c, jins_n, jdrop_c, jdrop_n, jargs, jtg, jtag, jcnd, true_and, and_true, false_or, or_false, true_or, or_true, forall_const, ↓reduceIte, Option.toList, List.cons_append, List.nil_append, false_and, and_false, reduceCtorEq, false_imp_iff, forall_eq, true_imp_iff, joc_c, List.drop_succ_cons, List.drop_zero, List.take_succ_cons, List.take_zero, List.reverse_cons, List.reverse_nil, List.length_cons, List.length_nil, Int.reduceEq, not_true_eq_false, not_false_eq_true, Int.toNat_natCast, Int.natCast_nonneg, ne21, ne01, xwx_s, xwp_sn, xwp_sc, xwp_0, xoi_c, joc_c, zcs, jnw_e, jset_e, jobj_e, jarr_e, jno_e, jfd_e, zl1, zl2, zl3, zl4, Nat.add_assoc, if_true, if_false, jL32_0, jL32_1, jL32_2, jL32_3, jL32_4, jL32_5, jL32_6, jL32_7, jL32_8, jL32_9, jL32_10, jL32_11, jL32_12, jL32_13, jL32_14, jL32_15, jL32_16, jL32_17, jL32_18, jL32_19, jL32_20, jL32_21, jL32_22, jL32_23, jL32_24, jL32_25, jL32_26, jL32_27, jL32_28, jL32_29, jL32_30, jL32_31, jL32_32, jL32_33, jL32_34, jL32_35, jL32_36, jL32_37, jL32_38, jL32_39, jL32_57, jL32_60, jL32_97, jL32_122, jL32_255, jLm32_1, jLm32_2, jLm32_3, jLm32_1000, jL64_0, jL64_1, zne_10, zne_00, zne_01, zne_11, false_imp_iff, true_imp_iff, ju_at, q0, q2, g1, g2, x1, y1, z1, r1, uv, uv1, uv2, w5, g3, g4]
    have b2 := bk_set (e := u + 5) (p := 5) (k := n) (v := (v : Int)) b1 rfl
    have hv1 : v + 1 = u + (7 + 2 * n + 1) := by omega
    refine i_ratio (u := v + 1) (if_pos rfl) (if_pos rfl) fun L2 S2 h2 => ?_
    have b3 := bk_call (bk_new (kd := (0, 6, 0, jno)) (f := jdf 6) b2 hv1) h2 hv1 rfl
    have z2 : L2 (u + 6) = (7, 0, 25, jno) := by
      rw [(bk_at (e := u + 6) b3 (j := 6) (by omega) rfl).1]
      simp [dApp, dNew, dSet, dCut, show 6 < 7 + 2 * n + 1 by omega, show ¬ 6 = 7 + 2 * n + 1 by omega, show 6 < 7 + 2 * n by omega, show ¬ 6 = 7 + 2 * n by omega]
    have r2 : L2 (v + 1) = (0, 6, 0, jno) := by
      rw [(bk_at (e := v + 1) b3 (j := 7 + 2 * n + 1) (by omega) hv1).1]
      simp [dApp, dRat]
    have v12 : v + 1 < v + 2 := by omega
    simp -implicitDefEqProofs only [Nat.reduceAdd, Nat.reduceMul, Nat.reduceEqDiff, Nat.reduceBEq, Nat.reduceLT, Nat.reduceLeDiff, Int.reduceToNat, Int.reduceLE, Int.reduceLT, Int.reduceNeg, Int.reduceAdd, Int.reduceMul, Bool.or_false, Bool.or_true, Bool.true_or, Bool.false_or, jwq_s, jwp_sn, jwp_sc, jwp_0, jsum, jwx_s, ↓jol_c, ↓jo1_c, ↓jo2_c, ↓jo3_c, Bool.false_eq_true, beq_iff_eq, jst, jins_c, jins_n, jdrop_c, jdrop_n, jargs, jtg, jtag, jcnd, true_and, and_true, false_or, or_false, true_or, or_true, forall_const, ↓reduceIte, Option.toList, List.cons_append, List.nil_append, false_and, and_false, reduceCtorEq, false_imp_iff, forall_eq, true_imp_iff, joc_c, List.drop_succ_cons, List.drop_zero, List.take_succ_cons, List.take_zero, List.reverse_cons, List.reverse_nil, List.length_cons, List.length_nil, Int.reduceEq, not_true_eq_false, not_false_eq_true, Int.toNat_natCast, Int.natCast_nonneg, ne21, ne01, xwx_s, xwp_sn, xwp_sc, xwp_0, xoi_c, joc_c, zcs, jnw_e, jset_e, jobj_e, jarr_e, jno_e, jfd_e, zl1, zl2, zl3, zl4, Nat.add_assoc, if_true, if_false, jL32_0, jL32_1, jL32_2, jL32_3, jL32_4, jL32_5, jL32_6, jL32_7, jL32_8, jL32_9, jL32_10, jL32_11, jL32_12, jL32_13, jL32_14, jL32_15, jL32_16, jL32_17, jL32_18, jL32_19, jL32_20, jL32_21, jL32_22, jL32_23, jL32_24, jL32_25, jL32_26, jL32_27, jL32_28, jL32_29, jL32_30, jL32_31, jL32_32, jL32_33, jL32_34, jL32_35, jL32_36, jL32_37, jL32_38, jL32_39, jL32_57, jL32_60, jL32_97, jL32_122, jL32_255, jLm32_1, jLm32_2, jLm32_3, jLm32_1000, jL64_0, jL64_1, zne_10, zne_00, zne_01, zne_11, false_imp_iff, true_imp_iff, ju_at, q0, q2, z2, r2, w6, v12]
    have b4 := bk_set (e := u + 6) (p := 6) (k := n) (v := ((v + 1 : Nat) : Int)) b3 rfl
    refine i_cutL out m (n + 1) (c + 2) (s + 4) (v + 2) (by omega) (by omega) (by omega) (by omega) _ _ (bk_cg b4 (by omega) fun j hj => ?_)
    by_cases e5 : j = 5
    · subst e5
      simp only [dSet, dApp, dNew, dCut, show 5 < 7 + 2 * n + 1 by omega, show ¬ 5 = 7 + 2 * n + 1 by omega, show 5 < 7 + 2 * n by omega, show ¬ 5 = 7 + 2 * n by omega, if_true, if_false, ↓reduceIte, Nat.reduceEqDiff, Nat.reduceLT]
      refine Prod.ext rfl (funext fun k => ?_)
      dsimp only
      by_cases k1 : k = n
      · subst k1
        rw [if_pos rfl, if_pos (by omega), hv]
      · rw [if_neg k1]
        by_cases k2 : k < n
        · rw [if_pos k2, if_pos (by omega)]
        · rw [if_neg k2, if_neg (by omega)]
    · by_cases e6 : j = 6
      · subst e6
        simp only [dSet, dApp, dNew, dCut, show 6 < 7 + 2 * n + 1 by omega, show ¬ 6 = 7 + 2 * n + 1 by omega, show 6 < 7 + 2 * n by omega, show ¬ 6 = 7 + 2 * n by omega, if_true, if_false, ↓reduceIte, Nat.reduceEqDiff, Nat.reduceLT]
        refine Prod.ext rfl (funext fun k => ?_)
        dsimp only
        by_cases k1 : k = n
        · subst k1
          rw [if_pos rfl, if_pos (by omega), hv]
          omega
        · rw [if_neg k1]
          by_cases k2 : k < n
          · rw [if_pos k2, if_pos (by omega)]
          · rw [if_neg k2, if_neg (by omega)]
      · have ed : ∀ n', dCut u n' j = dCut u 0 j := fun n' => by
          unfold dCut
          rw [if_neg e5, if_neg e6, if_neg e5, if_neg e6]
        have er : 7 ≤ j → dCut u 0 j = dRat := fun h => by
          unfold dCut
          rw [if_neg (by omega), if_neg (by omega), if_neg (by omega), if_neg (by omega), if_neg (by omega)]
        rw [ed]
        unfold dSet
        rw [if_neg e6]
        unfold dApp
        by_cases e7 : j < 7 + 2 * n + 1
        · rw [if_pos e7]
          unfold dNew
          rw [if_neg (by omega)]
          dsimp only
          rw [if_neg e5]
          by_cases e8 : j < 7 + 2 * n
          · rw [if_pos e8, if_neg (by omega), ed]
          · rw [if_neg e8, er (by omega)]
        · rw [if_neg e7, er (by omega)]
end

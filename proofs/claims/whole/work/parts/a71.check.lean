/-! Constructors: Check. -/
theorem jdf_1 (k : Nat) : jdf 1 k = if k < 2 ∨ k = 9 ∨ k = 10 ∨ k = 11 then -1 else 0 := by
  match k with
  | 0 => rfl
  | 1 => rfl
  | 2 => rfl
  | 3 => rfl
  | 4 => rfl
  | 5 => rfl
  | 6 => rfl
  | 7 => rfl
  | 8 => rfl
  | 9 => rfl
  | 10 => rfl
  | 11 => rfl
  | k + 12 => rw [if_neg (by omega)]; rfl
def dChk (u n : Nat) (j : Nat) : jK × (Nat → Int) := if j = 0 then ((0, 1, 0, jno), fun k => if k = 0 then ((u + 1 : Nat) : Int) else jdf 1 k) else if j = 1 then ((6, 0, 61, jno), fun k => if k < n then ((u + (2 + 7 * k) : Nat) : Int) else -1) else dPart (u + (2 + 7 * ((j - 2) / 7))) ((j - 2) % 7)
def dChkN (u v x j : Nat) : jK × (Nat → Int) := if j < 429 then (if j = 0 then ((0, 1, 0, jno), fun k => if k = 0 then ((u + 1 : Nat) : Int) else if k = 1 then ((u + 429 : Nat) : Int) else if k = 9 then (v : Int) else if k = 10 then (x : Int) else if k = 11 then ((u + 430 : Nat) : Int) else 0) else dChk u 61 j) else if j = 429 then dArr 1 4 else dReg (u + 430) (j - 430)
section
variable {G : jG} {u v x : Nat} {L : Nat → jK} {S : jS} {P : jM → Prop}
set_option maxHeartbeats 1000000 in
set_option maxRecDepth 100000 in
theorem i_chkL (out : ∀ L' S', bk u 433 (dChkN u v x) L S L' S' → P (u + 433, u + 433, L', S')) : ∀ (m n c s w : Nat), n + m = 61 → c = 1 + 7 * n → s = 61 + 110 * n → w = u + (2 + 7 * n) → ∀ L' S', bk u (2 + 7 * n) (dChk u n) L S L' S' → zJ G mX1_init 432 6825 iP (zmQ G (fun r M' => r = none ∧ P M') 432 6825) c s 15 [(0, (2, (u : Int))), (1, (2, (v : Int))), (2, (2, (x : Int))), (3, (0, (n : Int)))] [] (w, w, L', S')
  | 0, n, c, s, w, hm, hc, hs, hw, L', S', hb => by
    have e : n = 61 := by omega
    subst e
    subst hc
    subst hs
    have q0 : jI32 ((61 : Nat) : Int) := ⟨by omega, by omega⟩
    have q1 : ((60 : Int) < ((61 : Nat) : Int)) = True := eq_true (by omega)
    have hw : w = u + 429 := hw
    subst hw
    have x0 : L' u = (0, 1, 0, jno) := (bk_at (e := u) hb (j := 0) (by omega) rfl).1
    refine iJw kX1_init (fun pc => pc == 15) 40 (by omega) (by omega) ?_
    simp -implicitDefEqProofs only [Nat.reduceAdd, Nat.reduceMul, Nat.reduceEqDiff, Nat.reduceBEq, Nat.reduceLT, Nat.reduceLeDiff, Int.reduceToNat, Int.reduceLE, Int.reduceLT, Int.reduceNeg, Int.reduceAdd, Int.reduceMul, Bool.or_false, Bool.or_true, Bool.true_or, Bool.false_or, jwq_s, jwp_sn, jwp_sc, jwp_0, jsum, jwx_s, ↓jol_c, ↓jo1_c, ↓jo2_c, ↓jo3_c, Bool.false_eq_true, beq_iff_eq, jst, jins_c, jins_n, jdrop_c, jdrop_n, jargs, jtg, jtag, jcnd, true_and, and_true, false_or, or_false, true_or, or_true, forall_const, ↓reduceIte, Option.toList, List.cons_append, List.nil_append, false_and, and_false, reduceCtorEq, false_imp_iff, forall_eq, true_imp_iff, joc_c, List.drop_succ_cons, List.drop_zero, List.take_succ_cons, List.take_zero, List.reverse_cons, List.reverse_nil, List.length_cons, List.length_nil, Int.reduceEq, not_true_eq_false, not_false_eq_true, Int.toNat_natCast, Int.natCast_nonneg, ne21, ne01, xwx_s, xwp_sn, xwp_sc, xwp_0, xoi_c, joc_c, zcs, jnw_e, jset_e, jobj_e, jarr_e, jno_e, jfd_e, zl1, zl2, zl3, zl4, Nat.add_assoc, if_true, if_false, jL32_0, jL32_1, jL32_2, jL32_3, jL32_4, jL32_5, jL32_6, jL32_7, jL32_8, jL32_9, jL32_10, jL32_11, jL32_12, jL32_13, jL32_14, jL32_15, jL32_16, jL32_17, jL32_18, jL32_19, jL32_20, jL32_21, jL32_22, jL32_23, jL32_24, jL32_25, jL32_26, jL32_27, jL32_28, jL32_29, jL32_30, jL32_31, jL32_32, jL32_33, jL32_34, jL32_35, jL32_36, jL32_37, jL32_38, jL32_39, jL32_57, jL32_60, jL32_97, jL32_122, jL32_255, jLm32_1, jLm32_2, jLm32_3, jLm32_1000, jL64_0, jL64_1, zne_10, zne_00, zne_01, zne_11, false_imp_iff, true_imp_iff, fX1_init_0, fX1_init_1, fX1_init_4, fX1_init_5, fX1_init_7, fX1_init_10, fX1_init_13, fX1_init_14, fX1_init_15, fX1_init_16, fX1_init_18, fX1_init_21, fX1_init_22, fX1_init_25, fX1_init_26, fX1_init_29, fX1_init_30, fX1_init_33, fX1_init_34, fX1_init_37, fX1_init_40, fX1_init_41, fX1_init_42, fX1_init_44, fX1_init_47, fX1_init_48, fX1_init_49, fX1_init_52, fX1_init_53, fX1_init_56, fX1_init_57, fX1_init_60, fX1_init_63, fX1_init_64, fX1_init_65, fX1_init_68, jtm_11, jtm_12, ↓xo_0, ↓jo_0, ↓xo_1, ↓jo_1, ↓xo_2, ↓jo_2, ↓xo_3, ↓jo_3, ↓xo_20, ↓jo_20, ↓xo_21, ↓jo_21, ↓xo_31v, ↓xo_32, ↓jo_32, ↓xo_50, ↓xo_51, ↓xo_52, ↓xo_53, ↓xo_54, ↓xo_55, ↓xo_56, ↓xo_57, ↓xo_58, q0, q1, x0]
    have b1 := bk_set (e := u) (p := 0) (k := 10) (v := (x : Int)) (bk_set (e := u) (p := 0) (k := 1) (v := ((u + 429 : Nat) : Int)) (bk_new (e := u + 429) (kd := (1, 0, 4, jno)) (f := fun _ => 0) hb rfl) rfl) rfl
    refine i_region (u := u + 430) (if_pos rfl) (if_pos rfl) fun L1 S1 h1 => ?_
    have b2 := bk_call (bk_new (e := u + 430) (kd := (0, 8, 0, jno)) (f := jdf 8) b1 rfl) h1 rfl rfl
    have x1 : L1 u = (0, 1, 0, jno) := by
      rw [(bk_at (e := u) b2 (j := 0) (by omega) rfl).1]
      simp [dApp, dNew, dSet, dChk]
    simp -implicitDefEqProofs only [Nat.reduceAdd, Nat.reduceMul, Nat.reduceEqDiff, Nat.reduceBEq, Nat.reduceLT, Nat.reduceLeDiff, Int.reduceToNat, Int.reduceLE, Int.reduceLT, Int.reduceNeg, Int.reduceAdd, Int.reduceMul, Bool.or_false, Bool.or_true, Bool.true_or, Bool.false_or, jwq_s, jwp_sn, jwp_sc, jwp_0, jsum, jwx_s, ↓jol_c, ↓jo1_c, ↓jo2_c, ↓jo3_c, Bool.false_eq_true, beq_iff_eq, jst, jins_c, jins_n, jdrop_c, jdrop_n, jargs, jtg, jtag, jcnd, true_and, and_true, false_or, or_false, true_or, or_true, forall_const, ↓reduceIte, Option.toList, List.cons_append, List.nil_append, false_and, and_false, reduceCtorEq, false_imp_iff, forall_eq, true_imp_iff, joc_c, List.drop_succ_cons, List.drop_zero, List.take_succ_cons, List.take_zero, List.reverse_cons, List.reverse_nil, List.length_cons, List.length_nil, Int.reduceEq, not_true_eq_false, not_false_eq_true, Int.toNat_natCast, Int.natCast_nonneg, ne21, ne01, xwx_s, xwp_sn, xwp_sc, xwp_0, xoi_c, joc_c, zcs, jnw_e, jset_e, jobj_e, jarr_e, jno_e, jfd_e, zl1, zl2, zl3, zl4, Nat.add_assoc, if_true, if_false, jL32_0, jL32_1, jL32_2, jL32_3, jL32_4, jL32_5, jL32_6, jL32_7, jL32_8, jL32_9, jL32_10, jL32_11, jL32_12, jL32_13, jL32_14, jL32_15, jL32_16, jL32_17, jL32_18, jL32_19, jL32_20, jL32_21, jL32_22, jL32_23, jL32_24, jL32_25, jL32_26, jL32_27, jL32_28, jL32_29, jL32_30, jL32_31, jL32_32, jL32_33, jL32_34, jL32_35, jL32_36, jL32_37, jL32_38, jL32_39, jL32_57, jL32_60, jL32_97, jL32_122, jL32_255, jLm32_1, jLm32_2, jLm32_3, jLm32_1000, jL64_0, jL64_1, zne_10, zne_00, zne_01, zne_11, false_imp_iff, true_imp_iff, x1]
    have b3 := bk_set (e := u) (p := 0) (k := 9) (v := (v : Int)) (bk_set (e := u) (p := 0) (k := 11) (v := ((u + 430 : Nat) : Int)) b2 rfl) rfl
    refine out _ _ (bk_cg b3 rfl fun j hj => ?_)
    have hj : j < 433 := hj
    unfold dChkN
    by_cases e0 : j = 0
    · subst e0
      rw [if_pos (by omega), if_pos rfl]
      refine Prod.ext rfl (funext fun k => ?_)
      have := jdf_1 k
      simp [dSet, dApp, dNew, dChk]
      rw [this]
      repeat' split
      all_goals omega
    · simp only [dSet, dApp, dNew]
      rw [if_neg e0]
      by_cases e1 : j < 429
      · rw [if_pos e1, if_neg e0, if_neg e0, if_neg e0, if_neg e0, if_pos (by omega), if_neg (by omega), if_neg (by omega)]
      · rw [if_neg e1]
        by_cases e2 : j = 429
        · subst e2; rfl
        · rw [if_neg e2, if_neg e0, if_neg (by omega), if_neg e2]
  | m + 1, n, c, s, w, hm, hc, hs, hw, L', S', hb => by
    have q0 : jI32 (n : Int) := ⟨by omega, by omega⟩
    have q1 : ((60 : Int) < (n : Int)) = False := eq_false (by omega)
    have q2 : (n : Int) < ((61 : Nat) : Int) := by omega
    have g1 : c ≤ 431 := by omega
    have g2 : s ≤ 6815 := by omega
    have g3 : c ≤ 425 := by omega
    have g4 : s ≤ 6715 := by omega
    have uw : u < w := by omega
    have uw1 : u + 1 < w + 7 := by omega
    have w7 : w < w + 7 := by omega
    have x0 : L' u = (0, 1, 0, jno) := (bk_at (e := u) hb (j := 0) (by omega) rfl).1
    have y0 : S' u 0 = ((u + 1 : Nat) : Int) := by rw [(bk_at (e := u) hb (j := 0) (by omega) rfl).2]; rfl
    refine iJw kX1_init (fun pc => pc == 15) 40 (by omega) (by omega) ?_
    simp -implicitDefEqProofs only [Nat.reduceAdd, Nat.reduceMul, Nat.reduceEqDiff, Nat.reduceBEq, Nat.reduceLT, Nat.reduceLeDiff, Int.reduceToNat, Int.reduceLE, Int.reduceLT, Int.reduceNeg, Int.reduceAdd, Int.reduceMul, Bool.or_false, Bool.or_true, Bool.true_or, Bool.false_or, jwq_s, jwp_sn, jwp_sc, jwp_0, jsum, jwx_s, ↓jol_c, ↓jo1_c, ↓jo2_c, ↓jo3_c, Bool.false_eq_true, beq_iff_eq, jst, jins_c, jins_n, jdrop_c, jdrop_n, jargs, jtg, jtag, jcnd, true_and, and_true, false_or, or_false, true_or, or_true, forall_const, ↓reduceIte, Option.toList, List.cons_append, List.nil_append, false_and, and_false, reduceCtorEq, false_imp_iff, forall_eq, true_imp_iff, joc_c, List.drop_succ_cons, List.drop_zero, List.take_succ_cons, List.take_zero, List.reverse_cons, List.reverse_nil, List.length_cons, List.length_nil, Int.reduceEq, not_true_eq_false, not_false_eq_true, Int.toNat_natCast, Int.natCast_nonneg, ne21, ne01, xwx_s, xwp_sn, xwp_sc, xwp_0, xoi_c, joc_c, zcs, jnw_e, jset_e, jobj_e, jarr_e, jno_e, jfd_e, zl1, zl2, zl3, zl4, Nat.add_assoc, if_true, if_false, jL32_0, jL32_1, jL32_2, jL32_3, jL32_4, jL32_5, jL32_6, jL32_7, jL32_8, jL32_9, jL32_10, jL32_11, jL32_12, jL32_13, jL32_14, jL32_15, jL32_16, jL32_17, jL32_18, jL32_19, jL32_20, jL32_21, jL32_22, jL32_23, jL32_24, jL32_25, jL32_26, jL32_27, jL32_28, jL32_29, jL32_30, jL32_31, jL32_32, jL32_33, jL32_34, jL32_35, jL32_36, jL32_37, jL32_38, jL32_39, jL32_57, jL32_60, jL32_97, jL32_122, jL32_255, jLm32_1, jLm32_2, jLm32_3, jLm32_1000, jL64_0, jL64_1, zne_10, zne_00, zne_01, zne_11, false_imp_iff, true_imp_iff, fX1_init_0, fX1_init_1, fX1_init_4, fX1_init_5, fX1_init_7, fX1_init_10, fX1_init_13, fX1_init_14, fX1_init_15, fX1_init_16, fX1_init_18, fX1_init_21, fX1_init_22, fX1_init_25, fX1_init_26, fX1_init_29, fX1_init_30, fX1_init_33, fX1_init_34, fX1_init_37, fX1_init_40, fX1_init_41, fX1_init_42, fX1_init_44, fX1_init_47, fX1_init_48, fX1_init_49, fX1_init_52, fX1_init_53, fX1_init_56, fX1_init_57, fX1_init_60, fX1_init_63, fX1_init_64, fX1_init_65, fX1_init_68, jtm_11, jtm_12, ↓xo_0, ↓jo_0, ↓xo_1, ↓jo_1, ↓xo_2, ↓jo_2, ↓xo_3, ↓jo_3, ↓xo_20, ↓jo_20, ↓xo_21, ↓jo_21, ↓xo_31v, ↓xo_32, ↓jo_32, ↓xo_50, ↓xo_51, ↓xo_52, ↓xo_53, ↓xo_54, ↓xo_55, ↓xo_56, ↓xo_57, ↓xo_58, q0, q1, g1, g2, g3, g4, x0, y0, uw]
    refine i_part (u := w) (if_pos rfl) (if_pos rfl) fun L1 S1 h1 => ?_
    have b1 := bk_call (bk_new (kd := (0, 5, 0, jno)) (f := jdf 5) hb hw) h1 hw rfl
    have z1 : L1 (u + 1) = (6, 0, 61, jno) := by
      rw [(bk_at (e := u + 1) b1 (j := 1) (by omega) rfl).1]
      simp [dApp, dNew, dChk, show 1 < 2 + 7 * n by omega, show ¬ 1 = 2 + 7 * n by omega]
    have r1 : L1 w = (0, 5, 0, jno) := by
      rw [(bk_at (e := w) b1 (j := 2 + 7 * n) (by omega) hw).1]
      simp [dApp, dPart]
    simp -implicitDefEqProofs only [Nat.reduceAdd, Nat.reduceMul, Nat.reduceEqDiff, Nat.reduceBEq, Nat.reduceLT, Nat.reduceLeDiff, Int.reduceToNat, Int.reduceLE, Int.reduceLT, Int.reduceNeg, Int.reduceAdd, Int.reduceMul, Bool.or_false, Bool.or_true, Bool.true_or, Bool.false_or, jwq_s, jwp_sn, jwp_sc, jwp_0, jsum, jwx_s, ↓jol_c, ↓jo1_c, ↓jo2_c, ↓jo3_c, Bool.false_eq_true, beq_iff_eq, jst, jins_c, jins_n, jdrop_c, jdrop_n, jargs, jtg, jtag, jcnd, true_and, and_true, false_or, or_false, true_or, or_true, forall_const, ↓reduceIte, Option.toList, List.cons_append, List.nil_append, false_and, and_false, reduceCtorEq, false_imp_iff, forall_eq, true_imp_iff, joc_c, List.drop_succ_cons, List.drop_zero, List.take_succ_cons, List.take_zero, List.reverse_cons, List.reverse_nil, List.length_cons, List.length_nil, Int.reduceEq, not_true_eq_false, not_false_eq_true, Int.toNat_natCast, Int.natCast_nonneg, ne21, ne01, xwx_s, xwp_sn, xwp_sc, xwp_0, xoi_c, joc_c, zcs, jnw_e, jset_e, jobj_e, jarr_e, jno_e, jfd_e, zl1, zl2, zl3, zl4, Nat.add_assoc, if_true, if_false, jL32_0, jL32_1, jL32_2, jL32_3, jL32_4, jL32_5, jL32_6, jL32_7, jL32_8, jL32_9, jL32_10, jL32_11, jL32_12, jL32_13, jL32_14, jL32_15, jL32_16, jL32_17, jL32_18, jL32_19, jL32_20, jL32_21, jL32_22, jL32_23, jL32_24, jL32_25, jL32_26, jL32_27, jL32_28, jL32_29, jL32_30, jL32_31, jL32_32, jL32_33, jL32_34, jL32_35, jL32_36, jL32_37, jL32_38, jL32_39, jL32_57, jL32_60, jL32_97, jL32_122, jL32_255, jLm32_1, jLm32_2, jLm32_3, jLm32_1000, jL64_0, jL64_1, zne_10, zne_00, zne_01, zne_11, false_imp_iff, true_imp_iff, ju_at, q0, q2, z1, r1, uw, uw1, w7]
    have b2 := bk_set (e := u + 1) (p := 1) (k := n) (v := (w : Int)) b1 rfl
    refine i_chkL out m (n + 1) (c + 7) (s + 110) (w + 7) (by omega) (by omega) (by omega) (by omega) _ _ (bk_cg b2 (by omega) fun j hj => ?_)
    by_cases e1 : j = 1
    · subst e1
      simp only [dSet, dApp, dNew, dChk, show 1 < 2 + 7 * n by omega, show ¬ 1 = 2 + 7 * n by omega, if_true, if_false, ↓reduceIte, Nat.reduceEqDiff, Nat.reduceLT]
      refine Prod.ext rfl (funext fun k => ?_)
      dsimp only
      by_cases k1 : k = n
      · subst k1
        rw [if_pos rfl, if_pos (by omega), hw]
      · rw [if_neg k1]
        by_cases k2 : k < n
        · rw [if_pos k2, if_pos (by omega)]
        · rw [if_neg k2, if_neg (by omega)]
    · have ed : ∀ n', dChk u n' j = dChk u 0 j := fun n' => by
        unfold dChk
        rw [if_neg e1, if_neg e1]
      rw [ed]
      unfold dSet
      rw [if_neg e1]
      unfold dApp
      by_cases e7 : j < 2 + 7 * n
      · rw [if_pos e7]
        unfold dNew
        rw [if_neg (by omega), ed]
      · rw [if_neg e7]
        unfold dChk
        rw [if_neg (by omega), if_neg e1, show (j - 2) / 7 = n by omega, show (j - 2) % 7 = j - (2 + 7 * n) by omega, hw]
set_option maxHeartbeats 1000000 in
set_option maxRecDepth 100000 in
theorem i_check (hL : L u = (0, 1, 0, jno)) (hS : S u = jdf 1) (out : ∀ L' S', bk u 433 (dChkN u v x) L S L' S' → P (u + 433, u + 433, L', S')) : iC G mX1_init 432 6825 (u + 1, u + 1, L, S) [(2, (u : Int)), (2, (v : Int)), (2, (x : Int))] P := by
  have q0 : jI32 (61 : Int) := ⟨by omega, by omega⟩
  refine iCw kX1_init jn_X1 rfl (fun pc => pc == 15) 40 (Nat.le_of_ble_eq_true rfl) ?_
  simp -implicitDefEqProofs only [Nat.reduceAdd, Nat.reduceMul, Nat.reduceEqDiff, Nat.reduceBEq, Nat.reduceLT, Nat.reduceLeDiff, Int.reduceToNat, Int.reduceLE, Int.reduceLT, Int.reduceNeg, Int.reduceAdd, Int.reduceMul, Bool.or_false, Bool.or_true, Bool.true_or, Bool.false_or, jwq_s, jwp_sn, jwp_sc, jwp_0, jsum, jwx_s, ↓jol_c, ↓jo1_c, ↓jo2_c, ↓jo3_c, Bool.false_eq_true, beq_iff_eq, jst, jins_c, jins_n, jdrop_c, jdrop_n, jargs, jtg, jtag, jcnd, true_and, and_true, false_or, or_false, true_or, or_true, forall_const, ↓reduceIte, Option.toList, List.cons_append, List.nil_append, false_and, and_false, reduceCtorEq, false_imp_iff, forall_eq, true_imp_iff, joc_c, List.drop_succ_cons, List.drop_zero, List.take_succ_cons, List.take_zero, List.reverse_cons, List.reverse_nil, List.length_cons, List.length_nil, Int.reduceEq, not_true_eq_false, not_false_eq_true, Int.toNat_natCast, Int.natCast_nonneg, ne21, ne01, xwx_s, xwp_sn, xwp_sc, xwp_0, xoi_c, joc_c, zcs, jnw_e, jset_e, jobj_e, jarr_e, jno_e, jfd_e, zl1, zl2, zl3, zl4, Nat.add_assoc, if_true, if_false, jL32_0, jL32_1, jL32_2, jL32_3, jL32_4, jL32_5, jL32_6, jL32_7, jL32_8, jL32_9, jL32_10, jL32_11, jL32_12, jL32_13, jL32_14, jL32_15, jL32_16, jL32_17, jL32_18, jL32_19, jL32_20, jL32_21, jL32_22, jL32_23, jL32_24, jL32_25, jL32_26, jL32_27, jL32_28, jL32_29, jL32_30, jL32_31, jL32_32, jL32_33, jL32_34, jL32_35, jL32_36, jL32_37, jL32_38, jL32_39, jL32_57, jL32_60, jL32_97, jL32_122, jL32_255, jLm32_1, jLm32_2, jLm32_3, jLm32_1000, jL64_0, jL64_1, zne_10, zne_00, zne_01, zne_11, false_imp_iff, true_imp_iff, fX1_init_0, fX1_init_1, fX1_init_4, fX1_init_5, fX1_init_7, fX1_init_10, fX1_init_13, fX1_init_14, fX1_init_15, fX1_init_16, fX1_init_18, fX1_init_21, fX1_init_22, fX1_init_25, fX1_init_26, fX1_init_29, fX1_init_30, fX1_init_33, fX1_init_34, fX1_init_37, fX1_init_40, fX1_init_41, fX1_init_42, fX1_init_44, fX1_init_47, fX1_init_48, fX1_init_49, fX1_init_52, fX1_init_53, fX1_init_56, fX1_init_57, fX1_init_60, fX1_init_63, fX1_init_64, fX1_init_65, fX1_init_68, jtm_11, jtm_12, ↓xo_0, ↓jo_0, ↓xo_1, ↓jo_1, ↓xo_2, ↓jo_2, ↓xo_3, ↓jo_3, ↓xo_20, ↓jo_20, ↓xo_21, ↓jo_21, ↓xo_31v, ↓xo_32, ↓jo_32, ↓xo_50, ↓xo_51, ↓xo_52, ↓xo_53, ↓xo_54, ↓xo_55, ↓xo_56, ↓xo_57, ↓xo_58, hL, q0]
  have b1 := bk_set (e := u) (p := 0) (k := 0) (v := ((u + 1 : Nat) : Int)) (bk_new (e := u + 1) (kd := (6, 0, 61, jno)) (f := fun _ => -1) (bk_start hL hS) rfl) rfl
  refine i_chkL (L := L) (S := S) out 61 0 1 61 (u + 2) (by omega) (by omega) (by omega) (by omega) _ _ (bk_cg b1 rfl fun j hj => ?_)
  rcases (show j = 0 ∨ j = 1 by omega) with e | e <;> subst e
  · rfl
  · rfl
end

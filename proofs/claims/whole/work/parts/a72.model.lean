/-! Constructors: Model. -/
theorem jdf_3 (k : Nat) : jdf 3 k = if k < 12 then -1 else 0 := by
  match k with
  | 0 => rfl
  | 1 => rfl
  | 2 => rfl
  | 3 => rfl
  | 4 => rfl
  | 5 => rfl
  | 6 => rfl
  | 7 => rfl
  | 8 => rfl
  | 9 => rfl
  | 10 => rfl
  | 11 => rfl
  | 12 => rfl
  | 13 => rfl
  | 14 => rfl
  | 15 => rfl
  | k + 16 => rw [if_neg (by omega)]; rfl
/-- the cells that a model's fields point to -/
def mfp (k : Nat) : Nat := if k = 0 then 1 else if k < 6 then k + 4 else if k < 9 then k + 76 else k + 136
/-- a model's row with the first m fields set -/
def mrw (u m : Nat) (k : Nat) : Int := if k < m then ((u + mfp k : Nat) : Int) else jdf 3 k
def dMo1 (u n : Nat) (j : Nat) : jK × (Nat → Int) := if j = 0 then ((0, 3, 0, jno), mrw u 6) else if j < 5 then dNrm (u + 1) (j - 1) else if j < 8 then dArr 1 6 else if j = 8 then ((5, 0, 6, jno), fun k => if k < n then ((u + (10 + 12 * k) : Nat) : Int) else -1) else if j = 9 then ((5, 0, 6, jno), fun k => if k < n then ((u + (16 + 12 * k) : Nat) : Int) else -1) else dBnd (u + (10 + 6 * ((j - 10) / 6))) ((j - 10) % 6)
def dMo2 (u n : Nat) (j : Nat) : jK × (Nat → Int) := if j = 0 then ((0, 3, 0, jno), mrw u 9) else if j < 82 then dMo1 u 6 j else if j < 84 then dArr 1 10 else if j = 84 then ((5, 0, 10, jno), fun k => if k < n then ((u + (85 + 6 * k) : Nat) : Int) else -1) else dBnd (u + (85 + 6 * ((j - 85) / 6))) ((j - 85) % 6)
def dMod (u : Nat) (j : Nat) : jK × (Nat → Int) := if j = 0 then ((0, 3, 0, jno), fun k => if k = 14 then -1 else if k = 15 then 4 else mrw u 12 k) else if j < 145 then dMo2 u 10 j else if j < 147 then dArr 1 20 else dArr 1 4
section
variable {G : jG} {n' n u w : Nat} {L : Nat → jK} {S : jS} {P : Option jV → jM → Prop}
set_option maxHeartbeats 1000000 in
set_option maxRecDepth 100000 in
theorem g_mclear (hn : nC n L S w) (hu : u < w) (h0 : L u = (0, 3, 0, jno)) (s0 : S u 0 = (w : Int)) (out : ∀ S', ncl w S S' → P none (n', n, L, ju (ju (ju (ju S' u 12 0) u 13 0) u 14 (-1)) u 15 4)) : jC G mX3_clear 0 0 (n', n, L, S) [(2, (u : Int))] P := by
  have m0 : u < n := by have := hn.1; omega
  refine jCw kX3_clear jn_X3 (fun pc => false) 60 (Nat.le_of_ble_eq_true rfl) ?_
  simp -implicitDefEqProofs only [Nat.reduceAdd, Nat.reduceMul, Nat.reduceEqDiff, Nat.reduceBEq, Nat.reduceLT, Nat.reduceLeDiff, Int.reduceToNat, Int.reduceLE, Int.reduceLT, Int.reduceNeg, Int.reduceAdd, Int.reduceMul, Bool.or_false, Bool.or_true, Bool.true_or, Bool.false_or, jwq_s, jwp_sn, jwp_sc, jwp_0, jsum, jwx_s, ↓jol_c, ↓jo1_c, ↓jo2_c, ↓jo3_c, Bool.false_eq_true, beq_iff_eq, jst, jins_c, jins_n, jdrop_c, jdrop_n, jargs, jtg, jtag, jcnd, true_and, and_true, false_or, or_false, true_or, or_true, forall_const, ↓reduceIte, Option.toList, List.cons_append, List.nil_append, false_and, and_false, reduceCtorEq, false_imp_iff, forall_eq, true_imp_iff, joc_c, List.drop_succ_cons, List.drop_zero, List.take_succ_cons, List.take_zero, List.reverse_cons, List.reverse_nil, List.length_cons, List.length_nil, Int.reduceEq, not_true_eq_false, not_false_eq_true, Int.toNat_natCast, Int.natCast_nonneg, ne21, ne01, xwx_s, xwp_sn, xwp_sc, xwp_0, xoi_c, joc_c, zcs, jnw_e, jset_e, jobj_e, jarr_e, jno_e, jfd_e, zl1, zl2, zl3, zl4, Nat.add_assoc, if_true, if_false, jL32_0, jL32_1, jL32_2, jL32_3, jL32_4, jL32_5, jL32_6, jL32_7, jL32_8, jL32_9, jL32_10, jL32_11, jL32_12, jL32_13, jL32_14, jL32_15, jL32_16, jL32_17, jL32_18, jL32_19, jL32_20, jL32_21, jL32_22, jL32_23, jL32_24, jL32_25, jL32_26, jL32_27, jL32_28, jL32_29, jL32_30, jL32_31, jL32_32, jL32_33, jL32_34, jL32_35, jL32_36, jL32_37, jL32_38, jL32_39, jL32_57, jL32_60, jL32_97, jL32_122, jL32_255, jLm32_1, jLm32_2, jLm32_3, jLm32_1000, jL64_0, jL64_1, zne_10, zne_00, zne_01, zne_11, false_imp_iff, true_imp_iff, fX3_clear_0, fX3_clear_1, fX3_clear_4, fX3_clear_7, fX3_clear_8, fX3_clear_9, fX3_clear_12, fX3_clear_13, fX3_clear_14, fX3_clear_17, fX3_clear_18, fX3_clear_19, fX3_clear_22, fX3_clear_23, fX3_clear_24, fX3_clear_27, jtm_3, ↓jo_0, ↓jo_1, ↓jo_23, ↓jo_24, ↓jo_28, ↓jo_31v, h0, m0, s0]
  refine ⟨⟨by have := hn.1; omega, by rw [hn.2.1], by rw [hn.2.1]⟩, g_nclear hn fun S' hc => ?_⟩
  simp -implicitDefEqProofs only [Nat.reduceAdd, Nat.reduceMul, Nat.reduceEqDiff, Nat.reduceBEq, Nat.reduceLT, Nat.reduceLeDiff, Int.reduceToNat, Int.reduceLE, Int.reduceLT, Int.reduceNeg, Int.reduceAdd, Int.reduceMul, Bool.or_false, Bool.or_true, Bool.true_or, Bool.false_or, jwq_s, jwp_sn, jwp_sc, jwp_0, jsum, jwx_s, ↓jol_c, ↓jo1_c, ↓jo2_c, ↓jo3_c, Bool.false_eq_true, beq_iff_eq, jst, jins_c, jins_n, jdrop_c, jdrop_n, jargs, jtg, jtag, jcnd, true_and, and_true, false_or, or_false, true_or, or_true, forall_const, ↓reduceIte, Option.toList, List.cons_append, List.nil_append, false_and, and_false, reduceCtorEq, false_imp_iff, forall_eq, true_imp_iff, joc_c, List.drop_succ_cons, List.drop_zero, List.take_succ_cons, List.take_zero, List.reverse_cons, List.reverse_nil, List.length_cons, List.length_nil, Int.reduceEq, not_true_eq_false, not_false_eq_true, Int.toNat_natCast, Int.natCast_nonneg, ne21, ne01, xwx_s, xwp_sn, xwp_sc, xwp_0, xoi_c, joc_c, zcs, jnw_e, jset_e, jobj_e, jarr_e, jno_e, jfd_e, zl1, zl2, zl3, zl4, Nat.add_assoc, if_true, if_false, jL32_0, jL32_1, jL32_2, jL32_3, jL32_4, jL32_5, jL32_6, jL32_7, jL32_8, jL32_9, jL32_10, jL32_11, jL32_12, jL32_13, jL32_14, jL32_15, jL32_16, jL32_17, jL32_18, jL32_19, jL32_20, jL32_21, jL32_22, jL32_23, jL32_24, jL32_25, jL32_26, jL32_27, jL32_28, jL32_29, jL32_30, jL32_31, jL32_32, jL32_33, jL32_34, jL32_35, jL32_36, jL32_37, jL32_38, jL32_39, jL32_57, jL32_60, jL32_97, jL32_122, jL32_255, jLm32_1, jLm32_2, jLm32_3, jLm32_1000, jL64_0, jL64_1, zne_10, zne_00, zne_01, zne_11, false_imp_iff, true_imp_iff, fX3_clear_0, fX3_clear_1, fX3_clear_4, fX3_clear_7, fX3_clear_8, fX3_clear_9, fX3_clear_12, fX3_clear_13, fX3_clear_14, fX3_clear_17, fX3_clear_18, fX3_clear_19, fX3_clear_22, fX3_clear_23, fX3_clear_24, fX3_clear_27, jtm_3, ↓jo_0, ↓jo_1, ↓jo_23, ↓jo_24, ↓jo_28, ↓jo_31v, h0, m0, s0]
  exact out S' hc
end
def dMo3 (u : Nat) (j : Nat) : jK × (Nat → Int) := if j = 0 then ((0, 3, 0, jno), mrw u 12) else if j < 145 then dMo2 u 10 j else if j < 147 then dArr 1 20 else dArr 1 4
theorem dMo3_e (u j : Nat) (hj : j < 148) : dMo3 u j = dSet (dNew 147 (dSet (dNew 146 (dSet (dNew 145 (dMo2 u 10) (1, 0, 20, jno) (fun _ => 0)) 0 9 ((u + 145 : Nat) : Int)) (1, 0, 20, jno) (fun _ => 0)) 0 10 ((u + 146 : Nat) : Int)) (1, 0, 4, jno) (fun _ => 0)) 0 11 ((u + 147 : Nat) : Int) j := by
  by_cases e0 : j = 0
  · subst e0
    refine Prod.ext rfl (funext fun k => ?_)
    have := jdf_3 k
    simp [dSet, dNew, dMo3, dMo2, mrw, mfp]
    rw [this]
    repeat' split
    all_goals omega
  · simp only [dSet, dNew, dMo3]
    rw [if_neg e0, if_neg e0, if_neg e0, if_neg e0]
    by_cases e1 : j < 145
    · rw [if_pos e1, if_neg (by omega), if_neg (by omega), if_neg (by omega)]
    · rw [if_neg e1]
      by_cases e2 : j < 147
      · rw [if_pos e2, if_neg (by omega)]
        by_cases e3 : j = 146
        · rw [if_pos e3]; rfl
        · rw [if_neg e3, if_pos (by omega)]; rfl
      · rw [if_neg e2, if_pos (by omega)]; rfl
theorem dMo3_n (u i : Nat) (hi : i < 4) : dMo3 u (1 + i) = dNrm (u + 1) i := by
  unfold dMo3 dMo2 dMo1
  rw [if_neg (by omega), if_pos (by omega), if_neg (by omega), if_pos (by omega), if_neg (by omega), if_pos (by omega), show 1 + i - 1 = i by omega]
theorem nC_mo {u : Nat} {L L' : Nat → jK} {S S' : jS} (h : bk u 148 (dMo3 u) L S L' S') : nC (u + 148) L' S' (u + 1) := by
  have y : ∀ i, i < 4 → L' (u + 1 + i) = (dNrm (u + 1) i).1 ∧ S' (u + 1 + i) = (dNrm (u + 1) i).2 := fun i hi => by
    rw [← dMo3_n u i hi]
    exact bk_at h (by omega) (by omega)
  exact ⟨by omega, (y 0 (by omega)).1, (y 1 (by omega)).1, (y 2 (by omega)).1, (y 3 (by omega)).1, by rw [(y 0 (by omega)).2]; rfl, by rw [(y 0 (by omega)).2]; rfl, by rw [(y 0 (by omega)).2]; rfl⟩
theorem ncl_mo {u : Nat} {L L' : Nat → jK} {S S' S1 : jS} (h : bk u 148 (dMo3 u) L S L' S') (hc : ncl (u + 1) S' S1) : bk u 148 (dMo3 u) L S L' S1 := by
  have y : ∀ i, i < 4 → S' (u + 1 + i) = (dNrm (u + 1) i).2 := fun i hi => by
    rw [← dMo3_n u i hi]
    exact (bk_at h (by omega) (by omega)).2
  obtain ⟨c, c0, c1, c2, c3⟩ := hc
  refine ⟨fun q hq => ⟨(h.1 q hq).1, (c q (by omega)).trans (h.1 q hq).2⟩, fun j hj => ⟨(h.2 j hj).1, ?_⟩⟩
  by_cases e : 1 ≤ j ∧ j < 5
  · obtain ⟨i, hi, rfl⟩ : ∃ i, i < 4 ∧ j = 1 + i := ⟨j - 1, by omega, by omega⟩
    rw [dMo3_n u i hi, ← Nat.add_assoc]
    rcases (show i = 0 ∨ i = 1 ∨ i = 2 ∨ i = 3 by omega) with e | e | e | e <;> subst e
    · refine c0.trans (funext fun k => ?_)
      have y0 := congrFun (y 0 (by omega)) k
      by_cases k3 : k = 3
      · subst k3; rfl
      · exact (if_neg k3).trans y0
    · refine c1.trans (funext fun k => ?_)
      have y0 := congrFun (y 1 (by omega)) k
      by_cases k3 : k < 4
      · refine (if_pos k3).trans ?_
        simp [dNrm, k3]
      · exact (if_neg k3).trans y0
    · refine c2.trans (funext fun k => ?_)
      have y0 := congrFun (y 2 (by omega)) k
      by_cases k3 : k < 4
      · refine (if_pos k3).trans ?_
        simp [dNrm, k3]
      · exact (if_neg k3).trans y0
    · refine c3.trans (funext fun k => ?_)
      have y0 := congrFun (y 3 (by omega)) k
      by_cases k3 : k < 4
      · refine (if_pos k3).trans ?_
        simp [dNrm, k3]
      · exact (if_neg k3).trans y0
  · exact (c (u + j) (by omega)).trans (h.2 j hj).2
section
variable {G : jG} {u : Nat} {L : Nat → jK} {S : jS} {P : jM → Prop}
set_option maxHeartbeats 1000000 in
set_option maxRecDepth 100000 in
theorem i_mo2 (out : ∀ L' S', bk u 148 (dMod u) L S L' S' → P (u + 148, u + 148, L', S')) : ∀ (m n c s v : Nat), n + m = 10 → c = 84 + 6 * n → s = 448 + 26 * n → v = u + (85 + 6 * n) → ∀ L' S', bk u (85 + 6 * n) (dMo2 u n) L S L' S' → zJ G mX3_init 147 752 iP (zmQ G (fun r M' => r = none ∧ P M') 147 752) c s 124 [(0, (2, (u : Int))), (1, (0, (n : Int)))] [] (v, v, L', S')
  | 0, n, c, s, v, hm, hc, hs, hv, L', S', hb => by
    have e : n = 10 := by omega
    subst e
    subst hc
    subst hs
    have q0 : jI32 ((10 : Nat) : Int) := ⟨by omega, by omega⟩
    have q1 : ((10 : Int) ≤ ((10 : Nat) : Int)) = True := eq_true (by omega)
    have hv : v = u + 145 := hv
    subst hv
    have x0 : L' u = (0, 3, 0, jno) := (bk_at (e := u) hb (j := 0) (by omega) rfl).1
    refine iJw kX3_init (fun pc => pc == 124) 60 (by omega) (by omega) ?_
    simp -implicitDefEqProofs only [Nat.reduceAdd, Nat.reduceMul, Nat.reduceEqDiff, Nat.reduceBEq, Nat.reduceLT, Nat.reduceLeDiff, Int.reduceToNat, Int.reduceLE, Int.reduceLT, Int.reduceNeg, Int.reduceAdd, Int.reduceMul, Bool.or_false, Bool.or_true, Bool.true_or, Bool.false_or, jwq_s, jwp_sn, jwp_sc, jwp_0, jsum, jwx_s, ↓jol_c, ↓jo1_c, ↓jo2_c, ↓jo3_c, Bool.false_eq_true, beq_iff_eq, jst, jins_c, jins_n, jdrop_c, jdrop_n, jargs, jtg, jtag, jcnd, true_and, and_true, false_or, or_false, true_or, or_true, forall_const, ↓reduceIte, Option.toList, List.cons_append, List.nil_append, false_and, and_false, reduceCtorEq, false_imp_iff, forall_eq, true_imp_iff, joc_c, List.drop_succ_cons, List.drop_zero, List.take_succ_cons, List.take_zero, List.reverse_cons, List.reverse_nil, List.length_cons, List.length_nil, Int.reduceEq, not_true_eq_false, not_false_eq_true, Int.toNat_natCast, Int.natCast_nonneg, ne21, ne01, xwx_s, xwp_sn, xwp_sc, xwp_0, xoi_c, joc_c, zcs, jnw_e, jset_e, jobj_e, jarr_e, jno_e, jfd_e, zl1, zl2, zl3, zl4, Nat.add_assoc, if_true, if_false, jL32_0, jL32_1, jL32_2, jL32_3, jL32_4, jL32_5, jL32_6, jL32_7, jL32_8, jL32_9, jL32_10, jL32_11, jL32_12, jL32_13, jL32_14, jL32_15, jL32_16, jL32_17, jL32_18, jL32_19, jL32_20, jL32_21, jL32_22, jL32_23, jL32_24, jL32_25, jL32_26, jL32_27, jL32_28, jL32_29, jL32_30, jL32_31, jL32_32, jL32_33, jL32_34, jL32_35, jL32_36, jL32_37, jL32_38, jL32_39, jL32_57, jL32_60, jL32_97, jL32_122, jL32_255, jLm32_1, jLm32_2, jLm32_3, jLm32_1000, jL64_0, jL64_1, zne_10, zne_00, zne_01, zne_11, false_imp_iff, true_imp_iff, fX3_init_0, fX3_init_1, fX3_init_4, fX3_init_5, fX3_init_8, fX3_init_9, fX3_init_12, fX3_init_15, fX3_init_16, fX3_init_18, fX3_init_20, fX3_init_23, fX3_init_24, fX3_init_26, fX3_init_28, fX3_init_31, fX3_init_32, fX3_init_34, fX3_init_36, fX3_init_39, fX3_init_40, fX3_init_42, fX3_init_45, fX3_init_48, fX3_init_49, fX3_init_51, fX3_init_54, fX3_init_57, fX3_init_58, fX3_init_59, fX3_init_60, fX3_init_62, fX3_init_65, fX3_init_66, fX3_init_69, fX3_init_70, fX3_init_73, fX3_init_74, fX3_init_77, fX3_init_78, fX3_init_79, fX3_init_82, fX3_init_83, fX3_init_86, fX3_init_87, fX3_init_90, fX3_init_91, fX3_init_94, fX3_init_97, fX3_init_98, fX3_init_100, fX3_init_102, fX3_init_105, fX3_init_106, fX3_init_108, fX3_init_110, fX3_init_113, fX3_init_114, fX3_init_116, fX3_init_119, fX3_init_122, fX3_init_123, fX3_init_124, fX3_init_125, fX3_init_127, fX3_init_130, fX3_init_131, fX3_init_134, fX3_init_135, fX3_init_138, fX3_init_139, fX3_init_142, fX3_init_143, fX3_init_146, fX3_init_149, fX3_init_150, fX3_init_152, fX3_init_154, fX3_init_157, fX3_init_158, fX3_init_160, fX3_init_162, fX3_init_165, fX3_init_166, fX3_init_167, fX3_init_169, fX3_init_172, fX3_init_173, fX3_init_176, jtm_2, jtm_5, jtm_6, ↓xo_0, ↓jo_0, ↓xo_1, ↓jo_1, ↓xo_2, ↓jo_2, ↓xo_3, ↓jo_3, ↓xo_20, ↓jo_20, ↓xo_21, ↓jo_21, ↓xo_31v, ↓xo_32, ↓jo_32, ↓xo_50, ↓xo_51, ↓xo_52, ↓xo_53, ↓xo_54, ↓xo_55, ↓xo_56, ↓xo_58, ↓xo_59, q0, q1, x0]
    have b1 := bk_set (e := u) (p := 0) (k := 9) (v := ((u + 145 : Nat) : Int)) (bk_new (e := u + 145) (kd := (1, 0, 20, jno)) (f := fun _ => 0) hb rfl) rfl
    have b2 := bk_set (e := u) (p := 0) (k := 10) (v := ((u + 146 : Nat) : Int)) (bk_new (e := u + 146) (kd := (1, 0, 20, jno)) (f := fun _ => 0) b1 rfl) rfl
    have b3 := bk_set (e := u) (p := 0) (k := 11) (v := ((u + 147 : Nat) : Int)) (bk_new (e := u + 147) (kd := (1, 0, 4, jno)) (f := fun _ => 0) b2 rfl) rfl
    have b4 : bk u 148 (dMo3 u) L S _ _ := bk_cg b3 rfl fun j hj => (dMo3_e u j hj).symm
    refine g_mclear (n := u + 148) (w := u + 1) (nC_mo b4) (by omega) (bk_at (e := u) b4 (j := 0) (by omega) rfl).1 (by rw [(bk_at (e := u) b4 (j := 0) (by omega) rfl).2]; rfl) fun S1 hc => ?_
    simp -implicitDefEqProofs only [Nat.reduceAdd, Nat.reduceMul, Nat.reduceEqDiff, Nat.reduceBEq, Nat.reduceLT, Nat.reduceLeDiff, Int.reduceToNat, Int.reduceLE, Int.reduceLT, Int.reduceNeg, Int.reduceAdd, Int.reduceMul, Bool.or_false, Bool.or_true, Bool.true_or, Bool.false_or, jwq_s, jwp_sn, jwp_sc, jwp_0, jsum, jwx_s, ↓jol_c, ↓jo1_c, ↓jo2_c, ↓jo3_c, Bool.false_eq_true, beq_iff_eq, jst, jins_c, jins_n, jdrop_c, jdrop_n, jargs, jtg, jtag, jcnd, true_and, and_true, false_or, or_false, true_or, or_true, forall_const, ↓reduceIte, Option.toList, List.cons_append, List.nil_append, false_and, and_false, reduceCtorEq, false_imp_iff, forall_eq, true_imp_iff, joc_c, List.drop_succ_cons, List.drop_zero, List.take_succ_cons, List.take_zero, List.reverse_cons, List.reverse_nil, List.length_cons, List.length_nil, Int.reduceEq, not_true_eq_false, not_false_eq_true, Int.toNat_natCast, Int.natCast_nonneg, ne21, ne01, xwx_s, xwp_sn, xwp_sc, xwp_0, xoi_c, joc_c, zcs, jnw_e, jset_e, jobj_e, jarr_e, jno_e, jfd_e, zl1, zl2, zl3, zl4, Nat.add_assoc, if_true, if_false, jL32_0, jL32_1, jL32_2, jL32_3, jL32_4, jL32_5, jL32_6, jL32_7, jL32_8, jL32_9, jL32_10, jL32_11, jL32_12, jL32_13, jL32_14, jL32_15, jL32_16, jL32_17, jL32_18, jL32_19, jL32_20, jL32_21, jL32_22, jL32_23, jL32_24, jL32_25, jL32_26, jL32_27, jL32_28, jL32_29, jL32_30, jL32_31, jL32_32, jL32_33, jL32_34, jL32_35, jL32_36, jL32_37, jL32_38, jL32_39, jL32_57, jL32_60, jL32_97, jL32_122, jL32_255, jLm32_1, jLm32_2, jLm32_3, jLm32_1000, jL64_0, jL64_1, zne_10, zne_00, zne_01, zne_11, false_imp_iff, true_imp_iff, fX3_init_0, fX3_init_1, fX3_init_4, fX3_init_5, fX3_init_8, fX3_init_9, fX3_init_12, fX3_init_15, fX3_init_16, fX3_init_18, fX3_init_20, fX3_init_23, fX3_init_24, fX3_init_26, fX3_init_28, fX3_init_31, fX3_init_32, fX3_init_34, fX3_init_36, fX3_init_39, fX3_init_40, fX3_init_42, fX3_init_45, fX3_init_48, fX3_init_49, fX3_init_51, fX3_init_54, fX3_init_57, fX3_init_58, fX3_init_59, fX3_init_60, fX3_init_62, fX3_init_65, fX3_init_66, fX3_init_69, fX3_init_70, fX3_init_73, fX3_init_74, fX3_init_77, fX3_init_78, fX3_init_79, fX3_init_82, fX3_init_83, fX3_init_86, fX3_init_87, fX3_init_90, fX3_init_91, fX3_init_94, fX3_init_97, fX3_init_98, fX3_init_100, fX3_init_102, fX3_init_105, fX3_init_106, fX3_init_108, fX3_init_110, fX3_init_113, fX3_init_114, fX3_init_116, fX3_init_119, fX3_init_122, fX3_init_123, fX3_init_124, fX3_init_125, fX3_init_127, fX3_init_130, fX3_init_131, fX3_init_134, fX3_init_135, fX3_init_138, fX3_init_139, fX3_init_142, fX3_init_143, fX3_init_146, fX3_init_149, fX3_init_150, fX3_init_152, fX3_init_154, fX3_init_157, fX3_init_158, fX3_init_160, fX3_init_162, fX3_init_165, fX3_init_166, fX3_init_167, fX3_init_169, fX3_init_172, fX3_init_173, fX3_init_176, jtm_2, jtm_5, jtm_6, ↓xo_0, ↓jo_0, ↓xo_1, ↓jo_1, ↓xo_2, ↓jo_2, ↓xo_3, ↓jo_3, ↓xo_20, ↓jo_20, ↓xo_21, ↓jo_21, ↓xo_31v, ↓xo_32, ↓jo_32, ↓xo_50, ↓xo_51, ↓xo_52, ↓xo_53, ↓xo_54, ↓xo_55, ↓xo_56, ↓xo_58, ↓xo_59]
    have b5 := ncl_mo b4 hc
    have b6 := bk_set (e := u) (p := 0) (k := 15) (v := 4) (bk_set (e := u) (p := 0) (k := 14) (v := -1) (bk_set (e := u) (p := 0) (k := 13) (v := 0) (bk_set (e := u) (p := 0) (k := 12) (v := 0) b5 rfl) rfl) rfl) rfl
    refine out _ _ (bk_cg b6 rfl fun j hj => ?_)
    by_cases e0 : j = 0
    · subst e0
      refine Prod.ext rfl (funext fun k => ?_)
      have := jdf_3 k
      simp [dSet, dMo3, dMod, mrw]
      rw [this]
      repeat' split
      all_goals omega
    · simp only [dSet, dMo3, dMod]
      rw [if_neg e0, if_neg e0, if_neg e0, if_neg e0, if_neg e0, if_neg e0]
  | m + 1, n, c, s, v, hm, hc, hs, hv, L', S', hb => by
    have q0 : jI32 (n : Int) := ⟨by omega, by omega⟩
    have q1 : ((10 : Int) ≤ (n : Int)) = False := eq_false (by omega)
    have q2 : (n : Int) < ((10 : Nat) : Int) := by omega
    have g1 : c ≤ 146 := by omega
    have g2 : s ≤ 746 := by omega
    have g3 : c ≤ 141 := by omega
    have g4 : s ≤ 726 := by omega
    have uw : u < v := by omega
    have uw1 : u + 84 < v + 6 := by omega
    have w7 : v < v + 6 := by omega
    have x0 : L' u = (0, 3, 0, jno) := (bk_at (e := u) hb (j := 0) (by omega) rfl).1
    have y0 : S' u 8 = ((u + 84 : Nat) : Int) := by rw [(bk_at (e := u) hb (j := 0) (by omega) rfl).2]; rfl
    refine iJw kX3_init (fun pc => pc == 124) 60 (by omega) (by omega) ?_
    simp -implicitDefEqProofs only [Nat.reduceAdd, Nat.reduceMul, Nat.reduceEqDiff, Nat.reduceBEq, Nat.reduceLT, Nat.reduceLeDiff, Int.reduceToNat, Int.reduceLE, Int.reduceLT, Int.reduceNeg, Int.reduceAdd, Int.reduceMul, Bool.or_false, Bool.or_true, Bool.true_or, Bool.false_or, jwq_s, jwp_sn, jwp_sc, jwp_0, jsum, jwx_s, ↓jol_c, ↓jo1_c, ↓jo2_c, ↓jo3_c, Bool.false_eq_true, beq_iff_eq, jst, jins_c, jins_n, jdrop_c, jdrop_n, jargs, jtg, jtag, jcnd, true_and, and_true, false_or, or_false, true_or, or_true, forall_const, ↓reduceIte, Option.toList, List.cons_append, List.nil_append, false_and, and_false, reduceCtorEq, false_imp_iff, forall_eq, true_imp_iff, joc_c, List.drop_succ_cons, List.drop_zero, List.take_succ_cons, List.take_zero, List.reverse_cons, List.reverse_nil, List.length_cons, List.length_nil, Int.reduceEq, not_true_eq_false, not_false_eq_true, Int.toNat_natCast, Int.natCast_nonneg, ne21, ne01, xwx_s, xwp_sn, xwp_sc, xwp_0, xoi_c, joc_c, zcs, jnw_e, jset_e, jobj_e, jarr_e, jno_e, jfd_e, zl1, zl2, zl3, zl4, Nat.add_assoc, if_true, if_false, jL32_0, jL32_1, jL32_2, jL32_3, jL32_4, jL32_5, jL32_6, jL32_7, jL32_8, jL32_9, jL32_10, jL32_11, jL32_12, jL32_13, jL32_14, jL32_15, jL32_16, jL32_17, jL32_18, jL32_19, jL32_20, jL32_21, jL32_22, jL32_23, jL32_24, jL32_25, jL32_26, jL32_27, jL32_28, jL32_29, jL32_30, jL32_31, jL32_32, jL32_33, jL32_34, jL32_35, jL32_36, jL32_37, jL32_38, jL32_39, jL32_57, jL32_60, jL32_97, jL32_122, jL32_255, jLm32_1, jLm32_2, jLm32_3, jLm32_1000, jL64_0, jL64_1, zne_10, zne_00, zne_01, zne_11, false_imp_iff, true_imp_iff, fX3_init_0, fX3_init_1, fX3_init_4, fX3_init_5, fX3_init_8, fX3_init_9, fX3_init_12, fX3_init_15, fX3_init_16, fX3_init_18, fX3_init_20, fX3_init_23, fX3_init_24, fX3_init_26, fX3_init_28, fX3_init_31, fX3_init_32, fX3_init_34, fX3_init_36, fX3_init_39, fX3_init_40, fX3_init_42, fX3_init_45, fX3_init_48, fX3_init_49, fX3_init_51, fX3_init_54, fX3_init_57, fX3_init_58, fX3_init_59, fX3_init_60, fX3_init_62, fX3_init_65, fX3_init_66, fX3_init_69, fX3_init_70, fX3_init_73, fX3_init_74, fX3_init_77, fX3_init_78, fX3_init_79, fX3_init_82, fX3_init_83, fX3_init_86, fX3_init_87, fX3_init_90, fX3_init_91, fX3_init_94, fX3_init_97, fX3_init_98, fX3_init_100, fX3_init_102, fX3_init_105, fX3_init_106, fX3_init_108, fX3_init_110, fX3_init_113, fX3_init_114, fX3_init_116, fX3_init_119, fX3_init_122, fX3_init_123, fX3_init_124, fX3_init_125, fX3_init_127, fX3_init_130, fX3_init_131, fX3_init_134, fX3_init_135, fX3_init_138, fX3_init_139, fX3_init_142, fX3_init_143, fX3_init_146, fX3_init_149, fX3_init_150, fX3_init_152, fX3_init_154, fX3_init_157, fX3_init_158, fX3_init_160, fX3_init_162, fX3_init_165, fX3_init_166, fX3_init_167, fX3_init_169, fX3_init_172, fX3_init_173, fX3_init_176, jtm_2, jtm_5, jtm_6, ↓xo_0, ↓jo_0, ↓xo_1, ↓jo_1, ↓xo_2, ↓jo_2, ↓xo_3, ↓jo_3, ↓xo_20, ↓jo_20, ↓xo_21, ↓jo_21, ↓xo_31v, ↓xo_32, ↓jo_32, ↓xo_50, ↓xo_51, ↓xo_52, ↓xo_53, ↓xo_54, ↓xo_55, ↓xo_56, ↓xo_58, ↓xo_59, q0, q1, g1, g2, g3, g4, x0, y0, uw]
    refine i_bounds (u := v) (if_pos rfl) (if_pos rfl) fun L1 S1 h1 => ?_
    have b1 := bk_call (bk_new (kd := (0, 0, 0, jno)) (f := jdf 0) hb hv) h1 hv rfl
    have z1 : L1 (u + 84) = (5, 0, 10, jno) := by
      rw [(bk_at (e := u + 84) b1 (j := 84) (by omega) rfl).1]
      simp [dApp, dNew, dMo2, show 84 < 85 + 6 * n by omega, show ¬ 84 = 85 + 6 * n by omega]
    have r1 : L1 v = (0, 0, 0, jno) := by
      rw [(bk_at (e := v) b1 (j := 85 + 6 * n) (by omega) hv).1]
      simp [dApp, dBnd]
    simp -implicitDefEqProofs only [Nat.reduceAdd, Nat.reduceMul, Nat.reduceEqDiff, Nat.reduceBEq, Nat.reduceLT, Nat.reduceLeDiff, Int.reduceToNat, Int.reduceLE, Int.reduceLT, Int.reduceNeg, Int.reduceAdd, Int.reduceMul, Bool.or_false, Bool.or_true, Bool.true_or, Bool.false_or, jwq_s, jwp_sn, jwp_sc, jwp_0, jsum, jwx_s, ↓jol_c, ↓jo1_c, ↓jo2_c, ↓jo3_c, Bool.false_eq_true, beq_iff_eq, jst, jins_c, jins_n, jdrop_c, jdrop_n, jargs, jtg, jtag, jcnd, true_and, and_true, false_or, or_false, true_or, or_true, forall_const, ↓reduceIte, Option.toList, List.cons_append, List.nil_append, false_and, and_false, reduceCtorEq, false_imp_iff, forall_eq, true_imp_iff, joc_c, List.drop_succ_cons, List.drop_zero, List.take_succ_cons, List.take_zero, List.reverse_cons, List.reverse_nil, List.length_cons, List.length_nil, Int.reduceEq, not_true_eq_false, not_false_eq_true, Int.toNat_natCast, Int.natCast_nonneg, ne21, ne01, xwx_s, xwp_sn, xwp_sc, xwp_0, xoi_c, joc_c, zcs, jnw_e, jset_e, jobj_e, jarr_e, jno_e, jfd_e, zl1, zl2, zl3, zl4, Nat.add_assoc, if_true, if_false, jL32_0, jL32_1, jL32_2, jL32_3, jL32_4, jL32_5, jL32_6, jL32_7, jL32_8, jL32_9, jL32_10, jL32_11, jL32_12, jL32_13, jL32_14, jL32_15, jL32_16, jL32_17, jL32_18, jL32_19, jL32_20, jL32_21, jL32_22, jL32_23, jL32_24, jL32_25, jL32_26, jL32_27, jL32_28, jL32_29, jL32_30, jL32_31, jL32_32, jL32_33, jL32_34, jL32_35, jL32_36, jL32_37, jL32_38, jL32_39, jL32_57, jL32_60, jL32_97, jL32_122, jL32_255, jLm32_1, jLm32_2, jLm32_3, jLm32_1000, jL64_0, jL64_1, zne_10, zne_00, zne_01, zne_11, false_imp_iff, true_imp_iff, ju_at, q0, q2, z1, r1, uw, uw1, w7]
    have b2 := bk_set (e := u + 84) (p := 84) (k := n) (v := (v : Int)) b1 rfl
    refine i_mo2 out m (n + 1) (c + 6) (s + 26) (v + 6) (by omega) (by omega) (by omega) (by omega) _ _ (bk_cg b2 (by omega) fun j hj => ?_)
    by_cases e1 : j = 84
    · subst e1
      simp only [dSet, dApp, dNew, dMo2, show 84 < 85 + 6 * n by omega, show ¬ 84 = 85 + 6 * n by omega, if_true, if_false, ↓reduceIte, Nat.reduceEqDiff, Nat.reduceLT]
      refine Prod.ext rfl (funext fun k => ?_)
      dsimp only
      by_cases k1 : k = n
      · subst k1
        rw [if_pos rfl, if_pos (by omega), hv]
      · rw [if_neg k1]
        by_cases k2 : k < n
        · rw [if_pos k2, if_pos (by omega)]
        · rw [if_neg k2, if_neg (by omega)]
    · have ed : ∀ n', dMo2 u n' j = dMo2 u 0 j := fun n' => by
        unfold dMo2
        rw [if_neg e1, if_neg e1]
      rw [ed]
      unfold dSet
      rw [if_neg e1]
      unfold dApp
      by_cases e7 : j < 85 + 6 * n
      · rw [if_pos e7]
        unfold dNew
        rw [if_neg (by omega), ed]
      · rw [if_neg e7]
        unfold dMo2
        rw [if_neg (by omega), if_neg (by omega), if_neg (by omega), if_neg e1, show (j - 85) / 6 = n by omega, show (j - 85) % 6 = j - (85 + 6 * n) by omega, hv]
end

/-! Constructors: Ratio, Bounds, Region, Part. -/
theorem jnw_e (n' n : Nat) (L : Nat → jK) (S : jS) (kd : jK) (f : Nat → Int) : jnw (n', n, L, S) kd f = (n' + 1, n + 1, (fun q => if q = n then kd else L q), (fun q => if q = n then f else S q)) := rfl
theorem jset_e (n' n : Nat) (L : Nat → jK) (S : jS) (q : Int) (k : Nat) (v : Int) : jset (n', n, L, S) q k v = (n', n, L, ju S q.toNat k v) := rfl
theorem jobj_e (n' n : Nat) (L : Nat → jK) (S : jS) (p ci : Nat) : jobj (n', n, L, S) (p : Int) ci = (p < n ∧ (L p).1 = 0 ∧ (L p).2.1 = ci) := by
  unfold jobj jptr
  rw [Int.toNat_natCast]
  exact propext ⟨fun h => ⟨h.1.2, h.2⟩, fun h => ⟨⟨Int.natCast_nonneg _, h.1⟩, h.2⟩⟩
theorem jarr_e (n' n : Nat) (L : Nat → jK) (S : jS) (p : Nat) (x : Int) (s : Nat) : jarr (n', n, L, S) (p : Int) x s = (p < n ∧ (L p).1 = s ∧ 0 ≤ x ∧ x < ((L p).2.2.1 : Int) ∧ (L p).2.2.1 ≤ 2147483647) := by
  unfold jarr jptr
  rw [Int.toNat_natCast]
  exact propext ⟨fun h => ⟨h.1.2, h.2⟩, fun h => ⟨⟨Int.natCast_nonneg _, h.1⟩, h.2⟩⟩
theorem jno_e (k : Nat) : jno k = none := rfl
theorem jfd_e (s c n : Nat) (t k : Nat) (x : Int) : jfd (s, c, n, jno) t k x = (jtg t, x) := rfl
theorem zl1 (u k : Nat) : (u = u + (k + 1)) = False := eq_false (by omega)
theorem zl2 (u k : Nat) : (u + (k + 1) = u) = False := eq_false (by omega)
theorem zl3 (u k : Nat) : (u < u + (k + 1)) = True := eq_true (by omega)
theorem zl4 (u : Nat) : ((u : Int) + 1) = ((u + 1 : Nat) : Int) := by omega
/-- cells from u on are as told, those ahead of them stay -/
def bk (u cnt : Nat) (D : Nat → jK × (Nat → Int)) (L : Nat → jK) (S : jS) (L' : Nat → jK) (S' : jS) : Prop := (∀ q, q < u → L' q = L q ∧ S' q = S q) ∧ ∀ j, j < cnt → L' (u + j) = (D j).1 ∧ S' (u + j) = (D j).2
def dNew (c : Nat) (D : Nat → jK × (Nat → Int)) (kd : jK) (f : Nat → Int) (j : Nat) : jK × (Nat → Int) := if j = c then (kd, f) else D j
def dSet (D : Nat → jK × (Nat → Int)) (p k : Nat) (v : Int) (j : Nat) : jK × (Nat → Int) := if j = p then ((D j).1, fun i => if i = k then v else (D j).2 i) else D j
def dApp (c : Nat) (D D' : Nat → jK × (Nat → Int)) (j : Nat) : jK × (Nat → Int) := if j < c then D j else D' (j - c)
theorem bk_start {u : Nat} {L : Nat → jK} {S : jS} {kd : jK} {f : Nat → Int} (h1 : L u = kd) (h2 : S u = f) : bk u 1 (fun _ => (kd, f)) L S L S :=
  ⟨fun _ _ => ⟨rfl, rfl⟩, fun j hj => by rw [show j = 0 by omega]; exact ⟨h1, h2⟩⟩
theorem bk_new {u c e : Nat} {D : Nat → jK × (Nat → Int)} {L : Nat → jK} {S : jS} {L1 : Nat → jK} {S1 : jS} {kd : jK} {f : Nat → Int} (h : bk u c D L S L1 S1) (he : e = u + c) : bk u (c + 1) (dNew c D kd f) L S (fun q => if q = e then kd else L1 q) (fun q => if q = e then f else S1 q) := by
  subst he
  refine ⟨fun q hq => ?_, fun j hj => ?_⟩
  · dsimp only
    rw [if_neg (by omega), if_neg (by omega)]
    exact h.1 q hq
  · dsimp only
    unfold dNew
    by_cases e : j = c
    · rw [if_pos e, if_pos (by omega), if_pos (by omega)]
      exact ⟨rfl, rfl⟩
    · rw [if_neg e, if_neg (by omega), if_neg (by omega)]
      exact h.2 j (by omega)
theorem bk_set {u c e p : Nat} {D : Nat → jK × (Nat → Int)} {L : Nat → jK} {S : jS} {L1 : Nat → jK} {S1 : jS} {k : Nat} {v : Int} (h : bk u c D L S L1 S1) (he : e = u + p) : bk u c (dSet D p k v) L S L1 (ju S1 e k v) := by
  subst he
  refine ⟨fun q hq => ⟨(h.1 q hq).1, ?_⟩, fun j hj => ?_⟩
  · funext i
    rw [ju_at, if_neg (by omega), (h.1 q hq).2]
  · unfold dSet
    by_cases e : j = p
    · rw [if_pos e]
      refine ⟨(h.2 j hj).1, ?_⟩
      funext i
      rw [ju_at]
      by_cases e2 : i = k
      · rw [if_pos ⟨by omega, e2⟩]
        exact (if_pos e2).symm
      · rw [if_neg (fun w => e2 w.2), (h.2 j hj).2]
        exact (if_neg e2).symm
    · rw [if_neg e]
      refine ⟨(h.2 j hj).1, ?_⟩
      funext i
      rw [ju_at, if_neg (fun w => e (by omega)), (h.2 j hj).2]
theorem bk_call {u c c' e n : Nat} {D D' : Nat → jK × (Nat → Int)} {L : Nat → jK} {S : jS} {L1 L2 : Nat → jK} {S1 S2 : jS} (h : bk u n D L S L1 S1) (h' : bk e c' D' L1 S1 L2 S2) (he : e = u + c) (hn : n = c + 1) : bk u (c + c') (dApp c D D') L S L2 S2 := by
  subst he
  refine ⟨fun q hq => ⟨(h'.1 q (by omega)).1.trans (h.1 q hq).1, (h'.1 q (by omega)).2.trans (h.1 q hq).2⟩, fun j hj => ?_⟩
  unfold dApp
  by_cases e : j < c
  · rw [if_pos e]
    exact ⟨(h'.1 (u + j) (by omega)).1.trans (h.2 j (by omega)).1, (h'.1 (u + j) (by omega)).2.trans (h.2 j (by omega)).2⟩
  · rw [if_neg e]
    have := h'.2 (j - c) (by omega)
    rw [show u + c + (j - c) = u + j by omega] at this
    exact this
theorem bk_cg {u c c' : Nat} {D D' : Nat → jK × (Nat → Int)} {L : Nat → jK} {S : jS} {L1 : Nat → jK} {S1 : jS} (h : bk u c D L S L1 S1) (hc : c = c') (hd : ∀ j, j < c → D j = D' j) : bk u c' D' L S L1 S1 := by
  subst hc
  exact ⟨h.1, fun j hj => by rw [← hd j hj]; exact h.2 j hj⟩
theorem bk_at {u c e j : Nat} {D : Nat → jK × (Nat → Int)} {L : Nat → jK} {S : jS} {L1 : Nat → jK} {S1 : jS} (h : bk u c D L S L1 S1) (hj : j < c) (he : e = u + j) : L1 e = (D j).1 ∧ S1 e = (D j).2 := by
  subst he
  exact h.2 j hj
def dArr (k n : Nat) : jK × (Nat → Int) := ((k, 0, n, jno), fun _ => 0)
def dRat : jK × (Nat → Int) := ((0, 6, 0, jno), fun k => if k = 1 then 1 else 0)
def dBnd (u : Nat) (j : Nat) : jK × (Nat → Int) := if j = 0 then ((0, 0, 0, jno), fun k => if k < 5 then ((u + 1 + k : Nat) : Int) else 0) else dArr 1 4
def dReg (u : Nat) (j : Nat) : jK × (Nat → Int) := if j = 0 then ((0, 8, 0, jno), fun k => if k < 2 then ((u + 1 + k : Nat) : Int) else 0) else dArr 1 24
def dPart (u : Nat) (j : Nat) : jK × (Nat → Int) := if j = 0 then ((0, 5, 0, jno), fun k => if k = 0 then ((u + 1 : Nat) : Int) else if k = 1 then ((u + 4 : Nat) : Int) else 0) else if j < 4 then dReg (u + 1) (j - 1) else dReg (u + 4) (j - 4)
theorem jdf_0 (k : Nat) : jdf 0 k = if k < 5 then -1 else 0 := by
  match k with
  | 0 => rfl
  | 1 => rfl
  | 2 => rfl
  | 3 => rfl
  | 4 => rfl
  | 5 => rfl
  | k + 6 => rw [if_neg (by omega)]; rfl
theorem jdf_6 (k : Nat) : jdf 6 k = 0 := by
  match k with
  | 0 => rfl
  | 1 => rfl
  | k + 2 => rfl
theorem jdf_8 (k : Nat) : jdf 8 k = if k < 2 then -1 else 0 := by
  match k with
  | 0 => rfl
  | 1 => rfl
  | k + 2 => rw [if_neg (by omega)]; rfl
theorem jdf_5 (k : Nat) : jdf 5 k = if k < 2 then -1 else 0 := by
  match k with
  | 0 => rfl
  | 1 => rfl
  | 2 => rfl
  | 3 => rfl
  | 4 => rfl
  | 5 => rfl
  | 6 => rfl
  | 7 => rfl
  | 8 => rfl
  | 9 => rfl
  | k + 10 => rw [if_neg (by omega)]; rfl
section
variable {G : jG} {u : Nat} {L : Nat → jK} {S : jS} {P : jM → Prop}
theorem i_ratio (hL : L u = (0, 6, 0, jno)) (hS : S u = jdf 6) (out : ∀ L' S', bk u 1 (fun _ => dRat) L S L' S' → P (u + 1, u + 1, L', S')) : iC G mX6_init 0 0 (u + 1, u + 1, L, S) [(2, (u : Int))] P := by
  refine iCw kX6_init jn_X6 rfl (fun pc => false) 20 (Nat.le_of_ble_eq_true rfl) ?_
  simp -implicitDefEqProofs only [Nat.reduceAdd, Nat.reduceMul, Nat.reduceEqDiff, Nat.reduceBEq, Nat.reduceLT, Nat.reduceLeDiff, Int.reduceToNat, Int.reduceLE, Int.reduceLT, Int.reduceNeg, Int.reduceAdd, Int.reduceMul, Bool.or_false, Bool.or_true, Bool.true_or, Bool.false_or, jwq_s, jwp_sn, jwp_sc, jwp_0, jsum, jwx_s, ↓jol_c, ↓jo1_c, ↓jo2_c, ↓jo3_c, Bool.false_eq_true, beq_iff_eq, jst, jins_c, jins_n, jdrop_c, jdrop_n, jargs, jtg, jtag, jcnd, true_and, and_true, false_or, or_false, true_or, or_true, forall_const, ↓reduceIte, Option.toList, List.cons_append, List.nil_append, false_and, and_false, reduceCtorEq, false_imp_iff, forall_eq, true_imp_iff, joc_c, List.drop_succ_cons, List.drop_zero, List.take_succ_cons, List.take_zero, List.reverse_cons, List.reverse_nil, List.length_cons, List.length_nil, Int.reduceEq, not_true_eq_false, not_false_eq_true, Int.toNat_natCast, Int.natCast_nonneg, ne21, ne01, xwx_s, xwp_sn, xwp_sc, xwp_0, xoi_c, joc_c, zcs, jnw_e, jset_e, jobj_e, jarr_e, jno_e, jfd_e, zl1, zl2, zl3, zl4, Nat.add_assoc, if_true, if_false, jL32_0, jL32_1, jL32_2, jL32_3, jL32_4, jL32_5, jL32_6, jL32_7, jL32_8, jL32_9, jL32_10, jL32_11, jL32_12, jL32_13, jL32_14, jL32_15, jL32_16, jL32_17, jL32_18, jL32_19, jL32_20, jL32_21, jL32_22, jL32_23, jL32_24, jL32_25, jL32_26, jL32_27, jL32_28, jL32_29, jL32_30, jL32_31, jL32_32, jL32_33, jL32_34, jL32_35, jL32_36, jL32_37, jL32_38, jL32_39, jL32_57, jL32_60, jL32_97, jL32_122, jL32_255, jLm32_1, jLm32_2, jLm32_3, jLm32_1000, jL64_0, jL64_1, zne_10, zne_00, zne_01, zne_11, false_imp_iff, true_imp_iff, fX6_init_0, fX6_init_1, fX6_init_4, fX6_init_5, fX6_init_6, fX6_init_9, ↓xo_1, ↓jo_1, ↓xo_31v, ↓xo_41, ↓jo_41, ↓xo_54, ↓xo_57, hL]
  refine out _ _ ⟨fun q hq => ⟨rfl, ?_⟩, fun j hj => ?_⟩
  · funext k
    rw [ju_at, if_neg (by omega)]
  · have : j = 0 := by omega
    subst this
    refine ⟨hL, ?_⟩
    funext k
    show ju S u 1 1 u k = if k = 1 then 1 else 0
    rw [ju_at, hS, jdf_6]
    by_cases c : k = 1
    · rw [if_pos ⟨rfl, c⟩, if_pos c]
    · rw [if_neg (fun w => c w.2), if_neg c]
theorem i_bounds (hL : L u = (0, 0, 0, jno)) (hS : S u = jdf 0) (out : ∀ L' S', bk u 6 (dBnd u) L S L' S' → P (u + 6, u + 6, L', S')) : iC G mX0_init 5 20 (u + 1, u + 1, L, S) [(2, (u : Int))] P := by
  refine iCw kX0_init jn_X0 rfl (fun pc => false) 40 (Nat.le_of_ble_eq_true rfl) ?_
  simp -implicitDefEqProofs only [Nat.reduceAdd, Nat.reduceMul, Nat.reduceEqDiff, Nat.reduceBEq, Nat.reduceLT, Nat.reduceLeDiff, Int.reduceToNat, Int.reduceLE, Int.reduceLT, Int.reduceNeg, Int.reduceAdd, Int.reduceMul, Bool.or_false, Bool.or_true, Bool.true_or, Bool.false_or, jwq_s, jwp_sn, jwp_sc, jwp_0, jsum, jwx_s, ↓jol_c, ↓jo1_c, ↓jo2_c, ↓jo3_c, Bool.false_eq_true, beq_iff_eq, jst, jins_c, jins_n, jdrop_c, jdrop_n, jargs, jtg, jtag, jcnd, true_and, and_true, false_or, or_false, true_or, or_true, forall_const, ↓reduceIte, Option.toList, List.cons_append, List.nil_append, false_and, and_false, reduceCtorEq, false_imp_iff, forall_eq, true_imp_iff, joc_c, List.drop_succ_cons, List.drop_zero, List.take_succ_cons, List.take_zero, List.reverse_cons, List.reverse_nil, List.length_cons, List.length_nil, Int.reduceEq, not_true_eq_false, not_false_eq_true, Int.toNat_natCast, Int.natCast_nonneg, ne21, ne01, xwx_s, xwp_sn, xwp_sc, xwp_0, xoi_c, joc_c, zcs, jnw_e, jset_e, jobj_e, jarr_e, jno_e, jfd_e, zl1, zl2, zl3, zl4, Nat.add_assoc, if_true, if_false, jL32_0, jL32_1, jL32_2, jL32_3, jL32_4, jL32_5, jL32_6, jL32_7, jL32_8, jL32_9, jL32_10, jL32_11, jL32_12, jL32_13, jL32_14, jL32_15, jL32_16, jL32_17, jL32_18, jL32_19, jL32_20, jL32_21, jL32_22, jL32_23, jL32_24, jL32_25, jL32_26, jL32_27, jL32_28, jL32_29, jL32_30, jL32_31, jL32_32, jL32_33, jL32_34, jL32_35, jL32_36, jL32_37, jL32_38, jL32_39, jL32_57, jL32_60, jL32_97, jL32_122, jL32_255, jLm32_1, jLm32_2, jLm32_3, jLm32_1000, jL64_0, jL64_1, zne_10, zne_00, zne_01, zne_11, false_imp_iff, true_imp_iff, fX0_init_0, fX0_init_1, fX0_init_4, fX0_init_5, fX0_init_6, fX0_init_8, fX0_init_11, fX0_init_12, fX0_init_13, fX0_init_15, fX0_init_18, fX0_init_19, fX0_init_20, fX0_init_22, fX0_init_25, fX0_init_26, fX0_init_27, fX0_init_29, fX0_init_32, fX0_init_33, fX0_init_34, fX0_init_36, fX0_init_39, ↓xo_0, ↓jo_0, ↓xo_1, ↓jo_1, ↓xo_31v, ↓xo_51, ↓xo_54, ↓xo_55, hL]
  refine out _ _ ⟨fun q hq => ⟨?_, ?_⟩, fun j hj => ?_⟩
  · dsimp only
    rw [if_neg (by omega), if_neg (by omega), if_neg (by omega), if_neg (by omega), if_neg (by omega)]
  · funext k
    unfold ju
    simp only
    repeat rw [if_neg (by omega)]
  · rcases (show j = 0 ∨ j = 1 ∨ j = 2 ∨ j = 3 ∨ j = 4 ∨ j = 5 by omega) with e | e | e | e | e | e <;> subst e
    · refine ⟨by simp [dBnd, hL], ?_⟩
      funext k
      have := jdf_0 k
      simp [ju, dBnd, hS]
      rw [this]
      repeat' split
      all_goals omega
    · exact ⟨by simp [dBnd, dArr], by funext k; simp [ju, dBnd, dArr]⟩
    · exact ⟨by simp [dBnd, dArr], by funext k; simp [ju, dBnd, dArr]⟩
    · exact ⟨by simp [dBnd, dArr], by funext k; simp [ju, dBnd, dArr]⟩
    · exact ⟨by simp [dBnd, dArr], by funext k; simp [ju, dBnd, dArr]⟩
    · exact ⟨by simp [dBnd, dArr], by funext k; simp [ju, dBnd, dArr]⟩
theorem i_region (hL : L u = (0, 8, 0, jno)) (hS : S u = jdf 8) (out : ∀ L' S', bk u 3 (dReg u) L S L' S' → P (u + 3, u + 3, L', S')) : iC G mX8_init 2 48 (u + 1, u + 1, L, S) [(2, (u : Int))] P := by
  refine iCw kX8_init jn_X8 rfl (fun pc => false) 40 (Nat.le_of_ble_eq_true rfl) ?_
  simp -implicitDefEqProofs only [Nat.reduceAdd, Nat.reduceMul, Nat.reduceEqDiff, Nat.reduceBEq, Nat.reduceLT, Nat.reduceLeDiff, Int.reduceToNat, Int.reduceLE, Int.reduceLT, Int.reduceNeg, Int.reduceAdd, Int.reduceMul, Bool.or_false, Bool.or_true, Bool.true_or, Bool.false_or, jwq_s, jwp_sn, jwp_sc, jwp_0, jsum, jwx_s, ↓jol_c, ↓jo1_c, ↓jo2_c, ↓jo3_c, Bool.false_eq_true, beq_iff_eq, jst, jins_c, jins_n, jdrop_c, jdrop_n, jargs, jtg, jtag, jcnd, true_and, and_true, false_or, or_false, true_or, or_true, forall_const, ↓reduceIte, Option.toList, List.cons_append, List.nil_append, false_and, and_false, reduceCtorEq, false_imp_iff, forall_eq, true_imp_iff, joc_c, List.drop_succ_cons, List.drop_zero, List.take_succ_cons, List.take_zero, List.reverse_cons, List.reverse_nil, List.length_cons, List.length_nil, Int.reduceEq, not_true_eq_false, not_false_eq_true, Int.toNat_natCast, Int.natCast_nonneg, ne21, ne01, xwx_s, xwp_sn, xwp_sc, xwp_0, xoi_c, joc_c, zcs, jnw_e, jset_e, jobj_e, jarr_e, jno_e, jfd_e, zl1, zl2, zl3, zl4, Nat.add_assoc, if_true, if_false, jL32_0, jL32_1, jL32_2, jL32_3, jL32_4, jL32_5, jL32_6, jL32_7, jL32_8, jL32_9, jL32_10, jL32_11, jL32_12, jL32_13, jL32_14, jL32_15, jL32_16, jL32_17, jL32_18, jL32_19, jL32_20, jL32_21, jL32_22, jL32_23, jL32_24, jL32_25, jL32_26, jL32_27, jL32_28, jL32_29, jL32_30, jL32_31, jL32_32, jL32_33, jL32_34, jL32_35, jL32_36, jL32_37, jL32_38, jL32_39, jL32_57, jL32_60, jL32_97, jL32_122, jL32_255, jLm32_1, jLm32_2, jLm32_3, jLm32_1000, jL64_0, jL64_1, zne_10, zne_00, zne_01, zne_11, false_imp_iff, true_imp_iff, fX8_init_0, fX8_init_1, fX8_init_4, fX8_init_5, fX8_init_7, fX8_init_9, fX8_init_12, fX8_init_13, fX8_init_15, fX8_init_17, fX8_init_20, ↓xo_0, ↓jo_0, ↓xo_1, ↓jo_1, ↓xo_31v, ↓xo_51, ↓xo_54, ↓xo_55, hL]
  refine out _ _ ⟨fun q hq => ⟨?_, ?_⟩, fun j hj => ?_⟩
  · dsimp only
    rw [if_neg (by omega), if_neg (by omega)]
  · funext k
    unfold ju
    simp only
    repeat rw [if_neg (by omega)]
  · rcases (show j = 0 ∨ j = 1 ∨ j = 2 by omega) with e | e | e <;> subst e
    · refine ⟨by simp [dReg, hL], ?_⟩
      funext k
      have := jdf_8 k
      simp [ju, dReg, hS]
      rw [this]
      repeat' split
      all_goals omega
    · exact ⟨by simp [dReg, dArr], by funext k; simp [ju, dReg, dArr]⟩
    · exact ⟨by simp [dReg, dArr], by funext k; simp [ju, dReg, dArr]⟩
end

/-! Numbers that don't matter may be put right: the reference's token value, what lies beyond its row. -/
theorem jh_cg {G : jG} {z : Nat} {S S' : jS} {H : Heap} (h : ∀ p, p < (mm z S).2.1 → ∀ a, va_at G.2.1 vwCl (a, jc G.2.2.1 G.2.2.2 (LAY p) (S p)) H → va_at G.2.1 vwCl (a, jc G.2.2.1 G.2.2.2 (LAY p) (S' p)) H) (k : jh G (mm z S) H) : jh G (mm z S') H := by
  refine ⟨k.1, k.2.1, fun i q hq => ?_⟩
  obtain ⟨hi, rfl⟩ := jw_of hq
  exact h i hi _ (k.2.2 i _ (jw_get hi))
theorem arrV_cg {c : ClassId} {n : Nat} {f g : Nat → Value} (h : ∀ j, j < n → f j = g j) : arrV c n f = arrV c n g := by
  unfold arrV
  congr 2
  funext j
  exact h j.val j.isLt
def w32 (x : Int) : Int := (Int32.ofInt x).toInt
theorem w32_b (x : Int) : jI32 (w32 x) := ⟨Int32.le_toInt _, by have := Int32.toInt_lt (Int32.ofInt x); unfold w32; omega⟩
theorem w32_o (x : Int) : Int32.ofInt (w32 x) = Int32.ofInt x := by unfold w32; exact Int32.ofInt_toInt ..
def nr1 (S : jS) : jS := fun p k => if p = RB ∧ k = 10 then w32 (S RB 10) else if p = RB + 3 ∧ 399 ≤ k then 0 else S p k
theorem nr1_h {G : jG} {z : Nat} {S : jS} {H : Heap} (k : jh G (mm z S) H) : jh G (mm z (nr1 S)) H := by
  refine jh_cg (fun p hp a q => ?_) k
  by_cases c : p = RB
  · subst c
    have e : nr1 S RB = fun j => if j = 10 then w32 (S RB 10) else S RB j := by
      funext j
      unfold nr1
      by_cases d : j = 10
      · rw [if_pos ⟨rfl, d⟩, if_pos d]
      · rw [if_neg (fun w => d w.2), if_neg (by simp), if_neg d]
    have e2 : jfs G.2.2.1 12 (LAY RB).2.2.2 (nr1 S RB) = jfs G.2.2.1 12 (LAY RB).2.2.2 (S RB) := by
      rw [e, ← jfs_set (b := G.2.2.1) (c := 12) (sf := (LAY RB).2.2.2) (f := S RB) (k := 10) (t := 0) (v := w32 (S RB 10)) rfl (by rw [LR_0]; rfl)]
      have g := jfs_get (b := G.2.2.1) (c := 12) (sf := (LAY RB).2.2.2) (f := S RB) (k := 10) (t := 0) rfl
      have v : jfv G.2.2.1 (LAY RB).2.2.2 0 10 (S RB 10) = jv G.2.2.1 (jtg 0, w32 (S RB 10)) := by
        have s : (LAY RB).2.2.2 10 = none := by rw [LR_0]; rfl
        unfold jfv
        rw [s]
        show Value.int _ = Value.int _
        rw [w32_o]
      rw [v] at g
      apply List.ext_getElem?
      intro i
      rw [List.getElem?_set]
      by_cases d : 10 = i
      · subst d
        rw [if_pos rfl, if_pos (List.getElem?_eq_some_iff.mp g).1, g]
      · rw [if_neg d]
    have e3 : ∀ f, jc G.2.2.1 G.2.2.2 (LAY RB) f = .inr (12, jfs G.2.2.1 12 (LAY RB).2.2.2 f) := fun f => by rw [LR_0]; rfl
    rw [e3] at q ⊢
    rw [e2]
    exact q
  · by_cases d : p = RB + 3
    · subst d
      have e3 : ∀ f, jc G.2.2.1 G.2.2.2 (LAY (RB + 3)) f = .inl (G.2.2.2 0, 399, .inl (fun j => Int32.ofInt (f j))) := fun f => by rw [LR_at]; rfl
      rw [e3] at q ⊢
      have q' : H[a]? = some (arrV (G.2.2.2 0) 399 (fun j => Value.int (Int32.ofInt (S (RB + 3) j)))) := q
      show H[a]? = some (arrV (G.2.2.2 0) 399 (fun j => Value.int (Int32.ofInt (nr1 S (RB + 3) j))))
      rw [q']
      refine congrArg some (arrV_cg (fun j hj => ?_))
      have : nr1 S (RB + 3) j = S (RB + 3) j := by
        unfold nr1
        rw [if_neg (by simp), if_neg (by omega)]
      rw [this]
    · have : nr1 S p = S p := by
        funext j
        unfold nr1
        rw [if_neg (fun w => c w.1), if_neg (fun w => d w.1)]
      rw [this]
      exact q
theorem jJ.nrm {G : jG} {i : jI} {mc ms : Nat} {P : Option jV → jM → Prop} {c0 s0 pc : Nat} {lv : List (Nat × jV)} {st : List jV} {z : Nat} {S : jS} (k : jJ G i mc ms P c0 s0 pc lv st (mm z (nr1 S))) : jJ G i mc ms P c0 s0 pc lv st (mm z S) :=
  fun p e s m args below meth c H locs ls X hh hS hl => k p e s m args below meth c H locs ls X (nr1_h hh) hS hl
/-- what the reading of a text may change -/
def fT (S S' : jS) : Prop := (∀ r j, r ≠ RB → r ≠ RB + 3 → r ≠ RB + 4 → S' r j = S r j) ∧ ∀ k, (k < 6 ∨ 13 < k) → k ≠ 16 → S' RB k = S RB k
theorem fT.ofE {S S' : jS} (h : fE S S') : fT S S' := ⟨h.1, fun k a b => h.2 k (by omega) b⟩
theorem fT.trans {S S' S'' : jS} (h : fT S S') (h' : fT S' S'') : fT S S'' := ⟨fun r j a b c => by rw [h'.1 r j a b c, h.1 r j a b c], fun k a b => by rw [h'.2 k a b, h.2 k a b]⟩
theorem fT.ofn (S : jS) : fT S (nr1 S) := ⟨fun r j a b c => by unfold nr1; rw [if_neg (fun w => a w.1), if_neg (fun w => b w.1)], fun k a b => by unfold nr1; rw [if_neg (by omega), if_neg (by simp)]⟩
theorem fT.set (S : jS) {k : Nat} (v : Int) (h : (6 ≤ k ∧ k ≤ 13) ∨ k = 16) : fT S (ju S RB k v) := ⟨fun r j a _ _ => by rw [ju_at, if_neg (fun w => a w.1)], fun i a b => by rw [ju_at, if_neg (by omega)]⟩
theorem fT.set3 (S : jS) (k : Nat) (v : Int) : fT S (ju S (RB + 3) k v) := fT.ofE (fE.set3 S k v)
/-- the lines, one behind the other -/
theorem gLp_go {tp : Nat → Int} {n : Nat} : ∀ (c c' : Nat) (s : gS) (p : Nat), gI s → p ≤ n → n - p < c → n - p < c' → gLp tp n c s p = gLp tp n c' s p := by
  intro c
  induction c with
  | zero => intro c' s p _ _ h; omega
  | succ c ih =>
    intro c' s p hI hp h1 h2
    cases c' with
    | zero => omega
    | succ c' =>
      unfold gLp
      by_cases q : teS tp n p = 3
      · rw [if_pos q, if_pos q]
      · rw [if_neg q, if_neg q]
        cases r : gLine tp n s p with
        | inl e => rfl
        | inr x =>
          obtain ⟨s', p'⟩ := x
          have o := gLine_ok (teS_lt q) hI r
          exact ih c' s' p' o.1 o.2.2.1 (by omega) (by omega)
set_option maxHeartbeats 4000000 in
set_option maxRecDepth 100000 in
theorem l_readText {G : jG} {z n : Nat} {tp : Nat → Int} {P : Option jV → jM → Prop} {S0 : jS} {lv : List (Nat × jV)} (h0 : (0, (2, (RB : Int))) ∈ lv) {R : rR gS}
    (bad : ∀ S' e, fE S0 S' → rdX S' e → R = .inl e → P none (mm z S'))
    (ok : ∀ S' s, fE S0 S' → S' RB 12 = 0 → S' (RB + 3) = s.1 → S' (RB + 4) = s.2.1 → gI s → R = .inr s → P none (mm z S')) :
    ∀ (c : Nat) (S : jS) (s : gS) (p : Nat), fE S0 S → tkH G z n S tp → rdK tp n S s p → gI s → n - p < c → gLp tp n c s p = R → jJ G mX12_readText 0 0 P 0 0 109 [(0, (2, (RB : Int)))] [] (mm z S) := by
  intro c
  induction c with
  | zero => intro S s p _ _ _ _ h; omega
  | succ c ih =>
    intro S s p f H K hI hc eR
    have s9 := K.2.2.2.2.1
    have sb := teS_bd (tp := tp) (n := n) p
    unfold gLp at eR
    refine jJw kX12_readText (fun pc => pc == 109 || pc == 131) 60 109 ?_
    simp -implicitDefEqProofs only [Nat.reduceAdd, Nat.reduceMul, Nat.reduceEqDiff, Nat.reduceBEq, Nat.reduceLT, Nat.reduceLeDiff, Int.reduceToNat, Int.reduceLE, Int.reduceLT, Int.reduceNeg, Int.reduceAdd, Int.reduceMul, Bool.or_false, Bool.or_true, Bool.true_or, Bool.false_or, jwq_s, jwp_sn, jwp_sc, jwp_0, jsum, jwx_s, ↓jol_c, ↓jo1_c, ↓jo2_c, ↓jo3_c, Bool.false_eq_true, beq_iff_eq, jst, jins_c, jins_n, jdrop_c, jdrop_n, jargs, jtg, jtag, jcnd, true_and, and_true, false_or, or_false, true_or, or_true, forall_const, ↓reduceIte, Option.toList, List.cons_append, List.nil_append, false_and, and_false, reduceCtorEq, false_imp_iff, forall_eq, true_imp_iff, joc_c, List.drop_succ_cons, List.drop_zero, List.take_succ_cons, List.take_zero, List.reverse_cons, List.reverse_nil, List.length_cons, List.length_nil, Int.reduceEq, not_true_eq_false, not_false_eq_true, mm_S, mm_L, mm_set, Int.toNat_natCast, Int.natCast_nonneg, ju_at, ne21, ne01, rb_ne, rb_ne', jobj_R, jfd_R0, jsn_R0, jfd_R1, jfd_R2, jsn_R2, jfd_R3, jfd_R4, jfd_R5, jfd_R6, jsn_R6, jfd_R7, jsn_R7, jfd_R8, jsn_R8, jfd_R9, jsn_R9, jfd_R10, jsn_R10, jfd_R11, jsn_R11, jfd_R12, jsn_R12, jfd_R13, jsn_R13, jfd_R14, jsn_R14, jfd_R15, jsn_R15, jfd_R16, jsn_R16, jfd_R17, jfd_R18, jfd_R19, jfd_R20, jfd_R21, jfd_R22, jsn_R22, jfd_R23, jsn_R23, jfd_R24, jsn_R24, jfd_R25, jfd_R26, jfd_R27, jsn_R27, jfd_R28, jsn_R28, jfd_R29, jsn_R29, jfd_R30, jsn_R30, jfd_R31, jsn_R31, jfd_R32, jsn_R32, jfd_R33, jsn_R33, jfd_R34, jfd_R35, jsn_R35, jfd_R36, jfd_R37, jfd_R38, jsn_R38, jfd_R39, jfd_R40, jsn_R40, jfd_R41, jsn_R41, jfd_R42, jsn_R42, jfd_R43, jsn_R43, jfd_R44, jsn_R44, jfd_R45, jsn_R45, jfd_R46, jfd_R47, jsn_R47, jfd_R48, jsn_R48, jfd_R49, jfd_R50, jsn_R50, jfd_R51, jsn_R51, jfd_R52, jfd_R53, jfd_R54, jarr_R1, jrd_R1, jarr_R2, jrd_R2, jarr_R3, jrd_R3, jarr_R4, jrd_R4, jarr_R5, jrd_R5, jarr_R6, jrd_R6, jarr_R7, jrd_R7, jarr_R8, jrd_R8, jarr_R9, jrd_R9, jarr_R10, jrd_R10, jarr_R11, jrd_R11, jarr_R12, jrd_R12, jarr_R13, jrd_R13, jarr_R14, jrd_R14, jarr_R15, jrd_R15, jarr_R16, jrd_R16, jarr_R17, jrd_R17, jarr_R18, jrd_R18, jarr_R19, jrd_R19, jarr_R20, jrd_R20, jL32_0, jL32_1, jL32_2, jL32_3, jL32_4, jL32_5, jL32_6, jL32_7, jL32_8, jL32_9, jL32_10, jL32_11, jL32_12, jL32_13, jL32_14, jL32_15, jL32_16, jL32_17, jL32_18, jL32_19, jL32_20, jL32_21, jL32_22, jL32_23, jL32_24, jL32_25, jL32_26, jL32_27, jL32_28, jL32_29, jL32_30, jL32_31, jL32_32, jL32_33, jL32_34, jL32_35, jL32_36, jL32_37, jL32_38, jL32_39, jL32_57, jL32_60, jL32_97, jL32_122, jL32_255, jLm32_1, jLm32_2, jLm32_3, jLm32_1000, jL64_0, jL64_1, zne_10, zne_00, zne_01, zne_11, false_imp_iff, true_imp_iff, fX12_readText_0, fX12_readText_1, fX12_readText_2, fX12_readText_3, fX12_readText_6, fX12_readText_9, fX12_readText_10, fX12_readText_13, fX12_readText_14, fX12_readText_15, fX12_readText_16, fX12_readText_19, fX12_readText_22, fX12_readText_23, fX12_readText_26, fX12_readText_27, fX12_readText_28, fX12_readText_29, fX12_readText_30, fX12_readText_31, fX12_readText_34, fX12_readText_35, fX12_readText_36, fX12_readText_39, fX12_readText_40, fX12_readText_41, fX12_readText_44, fX12_readText_45, fX12_readText_46, fX12_readText_49, fX12_readText_50, fX12_readText_51, fX12_readText_52, fX12_readText_53, fX12_readText_56, fX12_readText_57, fX12_readText_58, fX12_readText_61, fX12_readText_62, fX12_readText_65, fX12_readText_66, fX12_readText_67, fX12_readText_70, fX12_readText_71, fX12_readText_74, fX12_readText_75, fX12_readText_76, fX12_readText_77, fX12_readText_80, fX12_readText_81, fX12_readText_84, fX12_readText_85, fX12_readText_86, fX12_readText_89, fX12_readText_90, fX12_readText_93, fX12_readText_94, fX12_readText_95, fX12_readText_98, fX12_readText_99, fX12_readText_102, fX12_readText_105, fX12_readText_106, fX12_readText_109, fX12_readText_110, fX12_readText_113, fX12_readText_116, fX12_readText_117, fX12_readText_120, fX12_readText_121, fX12_readText_124, fX12_readText_125, fX12_readText_128, fX12_readText_131, jtm_157, jtm_161, jtm_166, ↓jo_0, ↓jo_1, ↓jo_19, ↓jo_2, ↓jo_20, ↓jo_21, ↓jo_23, ↓jo_24, ↓jo_26, ↓jo_28, ↓jo_3, ↓jo_31v, ↓jo_34, K.1, s9]
    refine ⟨⟨by omega, by omega⟩, fun q => ?_, fun q => ?_⟩
    · rw [if_pos q] at eR
      refine jJw kX12_readText (fun pc => false) 60 131 ?_
      simp -implicitDefEqProofs only [Nat.reduceAdd, Nat.reduceMul, Nat.reduceEqDiff, Nat.reduceBEq, Nat.reduceLT, Nat.reduceLeDiff, Int.reduceToNat, Int.reduceLE, Int.reduceLT, Int.reduceNeg, Int.reduceAdd, Int.reduceMul, Bool.or_false, Bool.or_true, Bool.true_or, Bool.false_or, jwq_s, jwp_sn, jwp_sc, jwp_0, jsum, jwx_s, ↓jol_c, ↓jo1_c, ↓jo2_c, ↓jo3_c, Bool.false_eq_true, beq_iff_eq, jst, jins_c, jins_n, jdrop_c, jdrop_n, jargs, jtg, jtag, jcnd, true_and, and_true, false_or, or_false, true_or, or_true, forall_const, ↓reduceIte, Option.toList, List.cons_append, List.nil_append, false_and, and_false, reduceCtorEq, false_imp_iff, forall_eq, true_imp_iff, joc_c, List.drop_succ_cons, List.drop_zero, List.take_succ_cons, List.take_zero, List.reverse_cons, List.reverse_nil, List.length_cons, List.length_nil, Int.reduceEq, not_true_eq_false, not_false_eq_true, mm_S, mm_L, mm_set, Int.toNat_natCast, Int.natCast_nonneg, ju_at, ne21, ne01, rb_ne, rb_ne', jobj_R, jfd_R0, jsn_R0, jfd_R1, jfd_R2, jsn_R2, jfd_R3, jfd_R4, jfd_R5, jfd_R6, jsn_R6, jfd_R7, jsn_R7, jfd_R8, jsn_R8, jfd_R9, jsn_R9, jfd_R10, jsn_R10, jfd_R11, jsn_R11, jfd_R12, jsn_R12, jfd_R13, jsn_R13, jfd_R14, jsn_R14, jfd_R15, jsn_R15, jfd_R16, jsn_R16, jfd_R17, jfd_R18, jfd_R19, jfd_R20, jfd_R21, jfd_R22, jsn_R22, jfd_R23, jsn_R23, jfd_R24, jsn_R24, jfd_R25, jfd_R26, jfd_R27, jsn_R27, jfd_R28, jsn_R28, jfd_R29, jsn_R29, jfd_R30, jsn_R30, jfd_R31, jsn_R31, jfd_R32, jsn_R32, jfd_R33, jsn_R33, jfd_R34, jfd_R35, jsn_R35, jfd_R36, jfd_R37, jfd_R38, jsn_R38, jfd_R39, jfd_R40, jsn_R40, jfd_R41, jsn_R41, jfd_R42, jsn_R42, jfd_R43, jsn_R43, jfd_R44, jsn_R44, jfd_R45, jsn_R45, jfd_R46, jfd_R47, jsn_R47, jfd_R48, jsn_R48, jfd_R49, jfd_R50, jsn_R50, jfd_R51, jsn_R51, jfd_R52, jfd_R53, jfd_R54, jarr_R1, jrd_R1, jarr_R2, jrd_R2, jarr_R3, jrd_R3, jarr_R4, jrd_R4, jarr_R5, jrd_R5, jarr_R6, jrd_R6, jarr_R7, jrd_R7, jarr_R8, jrd_R8, jarr_R9, jrd_R9, jarr_R10, jrd_R10, jarr_R11, jrd_R11, jarr_R12, jrd_R12, jarr_R13, jrd_R13, jarr_R14, jrd_R14, jarr_R15, jrd_R15, jarr_R16, jrd_R16, jarr_R17, jrd_R17, jarr_R18, jrd_R18, jarr_R19, jrd_R19, jarr_R20, jrd_R20, jL32_0, jL32_1, jL32_2, jL32_3, jL32_4, jL32_5, jL32_6, jL32_7, jL32_8, jL32_9, jL32_10, jL32_11, jL32_12, jL32_13, jL32_14, jL32_15, jL32_16, jL32_17, jL32_18, jL32_19, jL32_20, jL32_21, jL32_22, jL32_23, jL32_24, jL32_25, jL32_26, jL32_27, jL32_28, jL32_29, jL32_30, jL32_31, jL32_32, jL32_33, jL32_34, jL32_35, jL32_36, jL32_37, jL32_38, jL32_39, jL32_57, jL32_60, jL32_97, jL32_122, jL32_255, jLm32_1, jLm32_2, jLm32_3, jLm32_1000, jL64_0, jL64_1, zne_10, zne_00, zne_01, zne_11, false_imp_iff, true_imp_iff, fX12_readText_0, fX12_readText_1, fX12_readText_2, fX12_readText_3, fX12_readText_6, fX12_readText_9, fX12_readText_10, fX12_readText_13, fX12_readText_14, fX12_readText_15, fX12_readText_16, fX12_readText_19, fX12_readText_22, fX12_readText_23, fX12_readText_26, fX12_readText_27, fX12_readText_28, fX12_readText_29, fX12_readText_30, fX12_readText_31, fX12_readText_34, fX12_readText_35, fX12_readText_36, fX12_readText_39, fX12_readText_40, fX12_readText_41, fX12_readText_44, fX12_readText_45, fX12_readText_46, fX12_readText_49, fX12_readText_50, fX12_readText_51, fX12_readText_52, fX12_readText_53, fX12_readText_56, fX12_readText_57, fX12_readText_58, fX12_readText_61, fX12_readText_62, fX12_readText_65, fX12_readText_66, fX12_readText_67, fX12_readText_70, fX12_readText_71, fX12_readText_74, fX12_readText_75, fX12_readText_76, fX12_readText_77, fX12_readText_80, fX12_readText_81, fX12_readText_84, fX12_readText_85, fX12_readText_86, fX12_readText_89, fX12_readText_90, fX12_readText_93, fX12_readText_94, fX12_readText_95, fX12_readText_98, fX12_readText_99, fX12_readText_102, fX12_readText_105, fX12_readText_106, fX12_readText_109, fX12_readText_110, fX12_readText_113, fX12_readText_116, fX12_readText_117, fX12_readText_120, fX12_readText_121, fX12_readText_124, fX12_readText_125, fX12_readText_128, fX12_readText_131, jtm_157, jtm_161, jtm_166, ↓jo_0, ↓jo_1, ↓jo_19, ↓jo_2, ↓jo_20, ↓jo_21, ↓jo_23, ↓jo_24, ↓jo_26, ↓jo_28, ↓jo_3, ↓jo_31v, ↓jo_34]
      exact ok S s f K.1 K.2.2.2.2.2.2.2.2.1 K.2.2.2.2.2.2.2.2.2.1 hI eR.symm
    · rw [if_neg q] at eR
      have hp := teS_lt q
      refine c_readLine H K hI hp (fun S1 e f1 X eg => ?_) (fun S1 s1 p1 f1 K1 e1 => ?_)
      · simp -implicitDefEqProofs only [Nat.reduceAdd, Nat.reduceMul, Nat.reduceEqDiff, Nat.reduceBEq, Nat.reduceLT, Nat.reduceLeDiff, Int.reduceToNat, Int.reduceLE, Int.reduceLT, Int.reduceNeg, Int.reduceAdd, Int.reduceMul, Bool.or_false, Bool.or_true, Bool.true_or, Bool.false_or, jwq_s, jwp_sn, jwp_sc, jwp_0, jsum, jwx_s, ↓jol_c, ↓jo1_c, ↓jo2_c, ↓jo3_c, Bool.false_eq_true, beq_iff_eq, jst, jins_c, jins_n, jdrop_c, jdrop_n, jargs, jtg, jtag, jcnd, true_and, and_true, false_or, or_false, true_or, or_true, forall_const, ↓reduceIte, Option.toList, List.cons_append, List.nil_append, false_and, and_false, reduceCtorEq, false_imp_iff, forall_eq, true_imp_iff, joc_c, List.drop_succ_cons, List.drop_zero, List.take_succ_cons, List.take_zero, List.reverse_cons, List.reverse_nil, List.length_cons, List.length_nil, Int.reduceEq, not_true_eq_false, not_false_eq_true, mm_S, mm_L, mm_set, Int.toNat_natCast, Int.natCast_nonneg, ju_at, ne21, ne01, rb_ne, rb_ne', jobj_R, jfd_R0, jsn_R0, jfd_R1, jfd_R2, jsn_R2, jfd_R3, jfd_R4, jfd_R5, jfd_R6, jsn_R6, jfd_R7, jsn_R7, jfd_R8, jsn_R8, jfd_R9, jsn_R9, jfd_R10, jsn_R10, jfd_R11, jsn_R11, jfd_R12, jsn_R12, jfd_R13, jsn_R13, jfd_R14, jsn_R14, jfd_R15, jsn_R15, jfd_R16, jsn_R16, jfd_R17, jfd_R18, jfd_R19, jfd_R20, jfd_R21, jfd_R22, jsn_R22, jfd_R23, jsn_R23, jfd_R24, jsn_R24, jfd_R25, jfd_R26, jfd_R27, jsn_R27, jfd_R28, jsn_R28, jfd_R29, jsn_R29, jfd_R30, jsn_R30, jfd_R31, jsn_R31, jfd_R32, jsn_R32, jfd_R33, jsn_R33, jfd_R34, jfd_R35, jsn_R35, jfd_R36, jfd_R37, jfd_R38, jsn_R38, jfd_R39, jfd_R40, jsn_R40, jfd_R41, jsn_R41, jfd_R42, jsn_R42, jfd_R43, jsn_R43, jfd_R44, jsn_R44, jfd_R45, jsn_R45, jfd_R46, jfd_R47, jsn_R47, jfd_R48, jsn_R48, jfd_R49, jfd_R50, jsn_R50, jfd_R51, jsn_R51, jfd_R52, jfd_R53, jfd_R54, jarr_R1, jrd_R1, jarr_R2, jrd_R2, jarr_R3, jrd_R3, jarr_R4, jrd_R4, jarr_R5, jrd_R5, jarr_R6, jrd_R6, jarr_R7, jrd_R7, jarr_R8, jrd_R8, jarr_R9, jrd_R9, jarr_R10, jrd_R10, jarr_R11, jrd_R11, jarr_R12, jrd_R12, jarr_R13, jrd_R13, jarr_R14, jrd_R14, jarr_R15, jrd_R15, jarr_R16, jrd_R16, jarr_R17, jrd_R17, jarr_R18, jrd_R18, jarr_R19, jrd_R19, jarr_R20, jrd_R20, jL32_0, jL32_1, jL32_2, jL32_3, jL32_4, jL32_5, jL32_6, jL32_7, jL32_8, jL32_9, jL32_10, jL32_11, jL32_12, jL32_13, jL32_14, jL32_15, jL32_16, jL32_17, jL32_18, jL32_19, jL32_20, jL32_21, jL32_22, jL32_23, jL32_24, jL32_25, jL32_26, jL32_27, jL32_28, jL32_29, jL32_30, jL32_31, jL32_32, jL32_33, jL32_34, jL32_35, jL32_36, jL32_37, jL32_38, jL32_39, jL32_57, jL32_60, jL32_97, jL32_122, jL32_255, jLm32_1, jLm32_2, jLm32_3, jLm32_1000, jL64_0, jL64_1, zne_10, zne_00, zne_01, zne_11, false_imp_iff, true_imp_iff, fX12_readText_0, fX12_readText_1, fX12_readText_2, fX12_readText_3, fX12_readText_6, fX12_readText_9, fX12_readText_10, fX12_readText_13, fX12_readText_14, fX12_readText_15, fX12_readText_16, fX12_readText_19, fX12_readText_22, fX12_readText_23, fX12_readText_26, fX12_readText_27, fX12_readText_28, fX12_readText_29, fX12_readText_30, fX12_readText_31, fX12_readText_34, fX12_readText_35, fX12_readText_36, fX12_readText_39, fX12_readText_40, fX12_readText_41, fX12_readText_44, fX12_readText_45, fX12_readText_46, fX12_readText_49, fX12_readText_50, fX12_readText_51, fX12_readText_52, fX12_readText_53, fX12_readText_56, fX12_readText_57, fX12_readText_58, fX12_readText_61, fX12_readText_62, fX12_readText_65, fX12_readText_66, fX12_readText_67, fX12_readText_70, fX12_readText_71, fX12_readText_74, fX12_readText_75, fX12_readText_76, fX12_readText_77, fX12_readText_80, fX12_readText_81, fX12_readText_84, fX12_readText_85, fX12_readText_86, fX12_readText_89, fX12_readText_90, fX12_readText_93, fX12_readText_94, fX12_readText_95, fX12_readText_98, fX12_readText_99, fX12_readText_102, fX12_readText_105, fX12_readText_106, fX12_readText_109, fX12_readText_110, fX12_readText_113, fX12_readText_116, fX12_readText_117, fX12_readText_120, fX12_readText_121, fX12_readText_124, fX12_readText_125, fX12_readText_128, fX12_readText_131, jtm_157, jtm_161, jtm_166, ↓jo_0, ↓jo_1, ↓jo_19, ↓jo_2, ↓jo_20, ↓jo_21, ↓jo_23, ↓jo_24, ↓jo_26, ↓jo_28, ↓jo_3, ↓jo_31v, ↓jo_34]
        refine jJw kX12_readText (fun pc => pc == 131 || pc == 116) 60 109 ?_
        have xn := X.ne
        simp -implicitDefEqProofs only [Nat.reduceAdd, Nat.reduceMul, Nat.reduceEqDiff, Nat.reduceBEq, Nat.reduceLT, Nat.reduceLeDiff, Int.reduceToNat, Int.reduceLE, Int.reduceLT, Int.reduceNeg, Int.reduceAdd, Int.reduceMul, Bool.or_false, Bool.or_true, Bool.true_or, Bool.false_or, jwq_s, jwp_sn, jwp_sc, jwp_0, jsum, jwx_s, ↓jol_c, ↓jo1_c, ↓jo2_c, ↓jo3_c, Bool.false_eq_true, beq_iff_eq, jst, jins_c, jins_n, jdrop_c, jdrop_n, jargs, jtg, jtag, jcnd, true_and, and_true, false_or, or_false, true_or, or_true, forall_const, ↓reduceIte, Option.toList, List.cons_append, List.nil_append, false_and, and_false, reduceCtorEq, false_imp_iff, forall_eq, true_imp_iff, joc_c, List.drop_succ_cons, List.drop_zero, List.take_succ_cons, List.take_zero, List.reverse_cons, List.reverse_nil, List.length_cons, List.length_nil, Int.reduceEq, not_true_eq_false, not_false_eq_true, mm_S, mm_L, mm_set, Int.toNat_natCast, Int.natCast_nonneg, ju_at, ne21, ne01, rb_ne, rb_ne', jobj_R, jfd_R0, jsn_R0, jfd_R1, jfd_R2, jsn_R2, jfd_R3, jfd_R4, jfd_R5, jfd_R6, jsn_R6, jfd_R7, jsn_R7, jfd_R8, jsn_R8, jfd_R9, jsn_R9, jfd_R10, jsn_R10, jfd_R11, jsn_R11, jfd_R12, jsn_R12, jfd_R13, jsn_R13, jfd_R14, jsn_R14, jfd_R15, jsn_R15, jfd_R16, jsn_R16, jfd_R17, jfd_R18, jfd_R19, jfd_R20, jfd_R21, jfd_R22, jsn_R22, jfd_R23, jsn_R23, jfd_R24, jsn_R24, jfd_R25, jfd_R26, jfd_R27, jsn_R27, jfd_R28, jsn_R28, jfd_R29, jsn_R29, jfd_R30, jsn_R30, jfd_R31, jsn_R31, jfd_R32, jsn_R32, jfd_R33, jsn_R33, jfd_R34, jfd_R35, jsn_R35, jfd_R36, jfd_R37, jfd_R38, jsn_R38, jfd_R39, jfd_R40, jsn_R40, jfd_R41, jsn_R41, jfd_R42, jsn_R42, jfd_R43, jsn_R43, jfd_R44, jsn_R44, jfd_R45, jsn_R45, jfd_R46, jfd_R47, jsn_R47, jfd_R48, jsn_R48, jfd_R49, jfd_R50, jsn_R50, jfd_R51, jsn_R51, jfd_R52, jfd_R53, jfd_R54, jarr_R1, jrd_R1, jarr_R2, jrd_R2, jarr_R3, jrd_R3, jarr_R4, jrd_R4, jarr_R5, jrd_R5, jarr_R6, jrd_R6, jarr_R7, jrd_R7, jarr_R8, jrd_R8, jarr_R9, jrd_R9, jarr_R10, jrd_R10, jarr_R11, jrd_R11, jarr_R12, jrd_R12, jarr_R13, jrd_R13, jarr_R14, jrd_R14, jarr_R15, jrd_R15, jarr_R16, jrd_R16, jarr_R17, jrd_R17, jarr_R18, jrd_R18, jarr_R19, jrd_R19, jarr_R20, jrd_R20, jL32_0, jL32_1, jL32_2, jL32_3, jL32_4, jL32_5, jL32_6, jL32_7, jL32_8, jL32_9, jL32_10, jL32_11, jL32_12, jL32_13, jL32_14, jL32_15, jL32_16, jL32_17, jL32_18, jL32_19, jL32_20, jL32_21, jL32_22, jL32_23, jL32_24, jL32_25, jL32_26, jL32_27, jL32_28, jL32_29, jL32_30, jL32_31, jL32_32, jL32_33, jL32_34, jL32_35, jL32_36, jL32_37, jL32_38, jL32_39, jL32_57, jL32_60, jL32_97, jL32_122, jL32_255, jLm32_1, jLm32_2, jLm32_3, jLm32_1000, jL64_0, jL64_1, zne_10, zne_00, zne_01, zne_11, false_imp_iff, true_imp_iff, fX12_readText_0, fX12_readText_1, fX12_readText_2, fX12_readText_3, fX12_readText_6, fX12_readText_9, fX12_readText_10, fX12_readText_13, fX12_readText_14, fX12_readText_15, fX12_readText_16, fX12_readText_19, fX12_readText_22, fX12_readText_23, fX12_readText_26, fX12_readText_27, fX12_readText_28, fX12_readText_29, fX12_readText_30, fX12_readText_31, fX12_readText_34, fX12_readText_35, fX12_readText_36, fX12_readText_39, fX12_readText_40, fX12_readText_41, fX12_readText_44, fX12_readText_45, fX12_readText_46, fX12_readText_49, fX12_readText_50, fX12_readText_51, fX12_readText_52, fX12_readText_53, fX12_readText_56, fX12_readText_57, fX12_readText_58, fX12_readText_61, fX12_readText_62, fX12_readText_65, fX12_readText_66, fX12_readText_67, fX12_readText_70, fX12_readText_71, fX12_readText_74, fX12_readText_75, fX12_readText_76, fX12_readText_77, fX12_readText_80, fX12_readText_81, fX12_readText_84, fX12_readText_85, fX12_readText_86, fX12_readText_89, fX12_readText_90, fX12_readText_93, fX12_readText_94, fX12_readText_95, fX12_readText_98, fX12_readText_99, fX12_readText_102, fX12_readText_105, fX12_readText_106, fX12_readText_109, fX12_readText_110, fX12_readText_113, fX12_readText_116, fX12_readText_117, fX12_readText_120, fX12_readText_121, fX12_readText_124, fX12_readText_125, fX12_readText_128, fX12_readText_131, jtm_157, jtm_161, jtm_166, ↓jo_0, ↓jo_1, ↓jo_19, ↓jo_2, ↓jo_20, ↓jo_21, ↓jo_23, ↓jo_24, ↓jo_26, ↓jo_28, ↓jo_3, ↓jo_31v, ↓jo_34]
        refine ⟨xn.2, fun _ => ?_, fun w => absurd (Decidable.byContradiction w) xn.1⟩
        refine jJw kX12_readText (fun pc => false) 60 131 ?_
        simp -implicitDefEqProofs only [Nat.reduceAdd, Nat.reduceMul, Nat.reduceEqDiff, Nat.reduceBEq, Nat.reduceLT, Nat.reduceLeDiff, Int.reduceToNat, Int.reduceLE, Int.reduceLT, Int.reduceNeg, Int.reduceAdd, Int.reduceMul, Bool.or_false, Bool.or_true, Bool.true_or, Bool.false_or, jwq_s, jwp_sn, jwp_sc, jwp_0, jsum, jwx_s, ↓jol_c, ↓jo1_c, ↓jo2_c, ↓jo3_c, Bool.false_eq_true, beq_iff_eq, jst, jins_c, jins_n, jdrop_c, jdrop_n, jargs, jtg, jtag, jcnd, true_and, and_true, false_or, or_false, true_or, or_true, forall_const, ↓reduceIte, Option.toList, List.cons_append, List.nil_append, false_and, and_false, reduceCtorEq, false_imp_iff, forall_eq, true_imp_iff, joc_c, List.drop_succ_cons, List.drop_zero, List.take_succ_cons, List.take_zero, List.reverse_cons, List.reverse_nil, List.length_cons, List.length_nil, Int.reduceEq, not_true_eq_false, not_false_eq_true, mm_S, mm_L, mm_set, Int.toNat_natCast, Int.natCast_nonneg, ju_at, ne21, ne01, rb_ne, rb_ne', jobj_R, jfd_R0, jsn_R0, jfd_R1, jfd_R2, jsn_R2, jfd_R3, jfd_R4, jfd_R5, jfd_R6, jsn_R6, jfd_R7, jsn_R7, jfd_R8, jsn_R8, jfd_R9, jsn_R9, jfd_R10, jsn_R10, jfd_R11, jsn_R11, jfd_R12, jsn_R12, jfd_R13, jsn_R13, jfd_R14, jsn_R14, jfd_R15, jsn_R15, jfd_R16, jsn_R16, jfd_R17, jfd_R18, jfd_R19, jfd_R20, jfd_R21, jfd_R22, jsn_R22, jfd_R23, jsn_R23, jfd_R24, jsn_R24, jfd_R25, jfd_R26, jfd_R27, jsn_R27, jfd_R28, jsn_R28, jfd_R29, jsn_R29, jfd_R30, jsn_R30, jfd_R31, jsn_R31, jfd_R32, jsn_R32, jfd_R33, jsn_R33, jfd_R34, jfd_R35, jsn_R35, jfd_R36, jfd_R37, jfd_R38, jsn_R38, jfd_R39, jfd_R40, jsn_R40, jfd_R41, jsn_R41, jfd_R42, jsn_R42, jfd_R43, jsn_R43, jfd_R44, jsn_R44, jfd_R45, jsn_R45, jfd_R46, jfd_R47, jsn_R47, jfd_R48, jsn_R48, jfd_R49, jfd_R50, jsn_R50, jfd_R51, jsn_R51, jfd_R52, jfd_R53, jfd_R54, jarr_R1, jrd_R1, jarr_R2, jrd_R2, jarr_R3, jrd_R3, jarr_R4, jrd_R4, jarr_R5, jrd_R5, jarr_R6, jrd_R6, jarr_R7, jrd_R7, jarr_R8, jrd_R8, jarr_R9, jrd_R9, jarr_R10, jrd_R10, jarr_R11, jrd_R11, jarr_R12, jrd_R12, jarr_R13, jrd_R13, jarr_R14, jrd_R14, jarr_R15, jrd_R15, jarr_R16, jrd_R16, jarr_R17, jrd_R17, jarr_R18, jrd_R18, jarr_R19, jrd_R19, jarr_R20, jrd_R20, jL32_0, jL32_1, jL32_2, jL32_3, jL32_4, jL32_5, jL32_6, jL32_7, jL32_8, jL32_9, jL32_10, jL32_11, jL32_12, jL32_13, jL32_14, jL32_15, jL32_16, jL32_17, jL32_18, jL32_19, jL32_20, jL32_21, jL32_22, jL32_23, jL32_24, jL32_25, jL32_26, jL32_27, jL32_28, jL32_29, jL32_30, jL32_31, jL32_32, jL32_33, jL32_34, jL32_35, jL32_36, jL32_37, jL32_38, jL32_39, jL32_57, jL32_60, jL32_97, jL32_122, jL32_255, jLm32_1, jLm32_2, jLm32_3, jLm32_1000, jL64_0, jL64_1, zne_10, zne_00, zne_01, zne_11, false_imp_iff, true_imp_iff, fX12_readText_0, fX12_readText_1, fX12_readText_2, fX12_readText_3, fX12_readText_6, fX12_readText_9, fX12_readText_10, fX12_readText_13, fX12_readText_14, fX12_readText_15, fX12_readText_16, fX12_readText_19, fX12_readText_22, fX12_readText_23, fX12_readText_26, fX12_readText_27, fX12_readText_28, fX12_readText_29, fX12_readText_30, fX12_readText_31, fX12_readText_34, fX12_readText_35, fX12_readText_36, fX12_readText_39, fX12_readText_40, fX12_readText_41, fX12_readText_44, fX12_readText_45, fX12_readText_46, fX12_readText_49, fX12_readText_50, fX12_readText_51, fX12_readText_52, fX12_readText_53, fX12_readText_56, fX12_readText_57, fX12_readText_58, fX12_readText_61, fX12_readText_62, fX12_readText_65, fX12_readText_66, fX12_readText_67, fX12_readText_70, fX12_readText_71, fX12_readText_74, fX12_readText_75, fX12_readText_76, fX12_readText_77, fX12_readText_80, fX12_readText_81, fX12_readText_84, fX12_readText_85, fX12_readText_86, fX12_readText_89, fX12_readText_90, fX12_readText_93, fX12_readText_94, fX12_readText_95, fX12_readText_98, fX12_readText_99, fX12_readText_102, fX12_readText_105, fX12_readText_106, fX12_readText_109, fX12_readText_110, fX12_readText_113, fX12_readText_116, fX12_readText_117, fX12_readText_120, fX12_readText_121, fX12_readText_124, fX12_readText_125, fX12_readText_128, fX12_readText_131, jtm_157, jtm_161, jtm_166, ↓jo_0, ↓jo_1, ↓jo_19, ↓jo_2, ↓jo_20, ↓jo_21, ↓jo_23, ↓jo_24, ↓jo_26, ↓jo_28, ↓jo_3, ↓jo_31v, ↓jo_34]
        exact bad S1 e (f.trans f1) X (by rw [← eR, eg])
      · simp -implicitDefEqProofs only [Nat.reduceAdd, Nat.reduceMul, Nat.reduceEqDiff, Nat.reduceBEq, Nat.reduceLT, Nat.reduceLeDiff, Int.reduceToNat, Int.reduceLE, Int.reduceLT, Int.reduceNeg, Int.reduceAdd, Int.reduceMul, Bool.or_false, Bool.or_true, Bool.true_or, Bool.false_or, jwq_s, jwp_sn, jwp_sc, jwp_0, jsum, jwx_s, ↓jol_c, ↓jo1_c, ↓jo2_c, ↓jo3_c, Bool.false_eq_true, beq_iff_eq, jst, jins_c, jins_n, jdrop_c, jdrop_n, jargs, jtg, jtag, jcnd, true_and, and_true, false_or, or_false, true_or, or_true, forall_const, ↓reduceIte, Option.toList, List.cons_append, List.nil_append, false_and, and_false, reduceCtorEq, false_imp_iff, forall_eq, true_imp_iff, joc_c, List.drop_succ_cons, List.drop_zero, List.take_succ_cons, List.take_zero, List.reverse_cons, List.reverse_nil, List.length_cons, List.length_nil, Int.reduceEq, not_true_eq_false, not_false_eq_true, mm_S, mm_L, mm_set, Int.toNat_natCast, Int.natCast_nonneg, ju_at, ne21, ne01, rb_ne, rb_ne', jobj_R, jfd_R0, jsn_R0, jfd_R1, jfd_R2, jsn_R2, jfd_R3, jfd_R4, jfd_R5, jfd_R6, jsn_R6, jfd_R7, jsn_R7, jfd_R8, jsn_R8, jfd_R9, jsn_R9, jfd_R10, jsn_R10, jfd_R11, jsn_R11, jfd_R12, jsn_R12, jfd_R13, jsn_R13, jfd_R14, jsn_R14, jfd_R15, jsn_R15, jfd_R16, jsn_R16, jfd_R17, jfd_R18, jfd_R19, jfd_R20, jfd_R21, jfd_R22, jsn_R22, jfd_R23, jsn_R23, jfd_R24, jsn_R24, jfd_R25, jfd_R26, jfd_R27, jsn_R27, jfd_R28, jsn_R28, jfd_R29, jsn_R29, jfd_R30, jsn_R30, jfd_R31, jsn_R31, jfd_R32, jsn_R32, jfd_R33, jsn_R33, jfd_R34, jfd_R35, jsn_R35, jfd_R36, jfd_R37, jfd_R38, jsn_R38, jfd_R39, jfd_R40, jsn_R40, jfd_R41, jsn_R41, jfd_R42, jsn_R42, jfd_R43, jsn_R43, jfd_R44, jsn_R44, jfd_R45, jsn_R45, jfd_R46, jfd_R47, jsn_R47, jfd_R48, jsn_R48, jfd_R49, jfd_R50, jsn_R50, jfd_R51, jsn_R51, jfd_R52, jfd_R53, jfd_R54, jarr_R1, jrd_R1, jarr_R2, jrd_R2, jarr_R3, jrd_R3, jarr_R4, jrd_R4, jarr_R5, jrd_R5, jarr_R6, jrd_R6, jarr_R7, jrd_R7, jarr_R8, jrd_R8, jarr_R9, jrd_R9, jarr_R10, jrd_R10, jarr_R11, jrd_R11, jarr_R12, jrd_R12, jarr_R13, jrd_R13, jarr_R14, jrd_R14, jarr_R15, jrd_R15, jarr_R16, jrd_R16, jarr_R17, jrd_R17, jarr_R18, jrd_R18, jarr_R19, jrd_R19, jarr_R20, jrd_R20, jL32_0, jL32_1, jL32_2, jL32_3, jL32_4, jL32_5, jL32_6, jL32_7, jL32_8, jL32_9, jL32_10, jL32_11, jL32_12, jL32_13, jL32_14, jL32_15, jL32_16, jL32_17, jL32_18, jL32_19, jL32_20, jL32_21, jL32_22, jL32_23, jL32_24, jL32_25, jL32_26, jL32_27, jL32_28, jL32_29, jL32_30, jL32_31, jL32_32, jL32_33, jL32_34, jL32_35, jL32_36, jL32_37, jL32_38, jL32_39, jL32_57, jL32_60, jL32_97, jL32_122, jL32_255, jLm32_1, jLm32_2, jLm32_3, jLm32_1000, jL64_0, jL64_1, zne_10, zne_00, zne_01, zne_11, false_imp_iff, true_imp_iff, fX12_readText_0, fX12_readText_1, fX12_readText_2, fX12_readText_3, fX12_readText_6, fX12_readText_9, fX12_readText_10, fX12_readText_13, fX12_readText_14, fX12_readText_15, fX12_readText_16, fX12_readText_19, fX12_readText_22, fX12_readText_23, fX12_readText_26, fX12_readText_27, fX12_readText_28, fX12_readText_29, fX12_readText_30, fX12_readText_31, fX12_readText_34, fX12_readText_35, fX12_readText_36, fX12_readText_39, fX12_readText_40, fX12_readText_41, fX12_readText_44, fX12_readText_45, fX12_readText_46, fX12_readText_49, fX12_readText_50, fX12_readText_51, fX12_readText_52, fX12_readText_53, fX12_readText_56, fX12_readText_57, fX12_readText_58, fX12_readText_61, fX12_readText_62, fX12_readText_65, fX12_readText_66, fX12_readText_67, fX12_readText_70, fX12_readText_71, fX12_readText_74, fX12_readText_75, fX12_readText_76, fX12_readText_77, fX12_readText_80, fX12_readText_81, fX12_readText_84, fX12_readText_85, fX12_readText_86, fX12_readText_89, fX12_readText_90, fX12_readText_93, fX12_readText_94, fX12_readText_95, fX12_readText_98, fX12_readText_99, fX12_readText_102, fX12_readText_105, fX12_readText_106, fX12_readText_109, fX12_readText_110, fX12_readText_113, fX12_readText_116, fX12_readText_117, fX12_readText_120, fX12_readText_121, fX12_readText_124, fX12_readText_125, fX12_readText_128, fX12_readText_131, jtm_157, jtm_161, jtm_166, ↓jo_0, ↓jo_1, ↓jo_19, ↓jo_2, ↓jo_20, ↓jo_21, ↓jo_23, ↓jo_24, ↓jo_26, ↓jo_28, ↓jo_3, ↓jo_31v, ↓jo_34]
        have o := gLine_ok hp hI e1
        refine ih S1 s1 p1 (f.trans f1) (H.fE f1) K1 o.1 (by omega) ?_
        rw [← eR, e1]
/-- the row before a text is read, with its first normals -/
def gF1 (k : Nat) : Nat → Int := fun j => if j = 3 then 4 else if j = 2 then (k : Int) else if j = 11 ∧ 0 < k then 1 else if j = 13 ∧ 1 < k then -1 else if j = 16 ∧ 2 < k then 1 else if j = 18 ∧ 3 < k then -1 else 0
theorem gF1_4 : gF1 4 = gF0 := by
  funext j
  unfold gF1 gF0
  by_cases h3 : j = 3
  · subst h3; simp
  · by_cases h2 : j = 2
    · subst h2; simp
    · simp [h3, h2]
def nrA (k : Nat) : Int := if k = 0 then 1 else if k = 1 then -1 else 0
def nrB (k : Nat) : Int := if k = 2 then 1 else if k = 3 then -1 else 0
theorem gF1_n {k : Nat} : wN (gF1 k) = k := by unfold wN gF1; simp
theorem gF1_ab {k i : Nat} (hi : i < k) (hk : k ≤ 4) : wA (gF1 k) i = nrA i ∧ wB (gF1 k) i = nrB i := by
  unfold wA wB gF1 nrA nrB
  rcases (show i = 0 ∨ i = 1 ∨ i = 2 ∨ i = 3 by omega) with e | e | e | e <;> subst e
  · simp; omega
  · simp; omega
  · simp; omega
  · simp; omega
theorem gF1_nor {k : Nat} (hk : k < 4) : gNor (gF1 k) (nrA k) (nrB k) 0 = .inr ((k : Int), gF1 (k + 1)) := by
  have ig1 : ig (nrA k) (nrB k) = 1 := by
    rcases (show k = 0 ∨ k = 1 ∨ k = 2 ∨ k = 3 by omega) with e | e | e | e <;> subst e <;> rfl
  have t1 : Int.tdiv (nrA k) 1 = nrA k := Int.tdiv_one _
  have t2 : Int.tdiv (nrB k) 1 = nrB k := Int.tdiv_one _
  have no : nIn (gF1 k) (nrA k) (nrB k) = -1 := by
    refine Decidable.byContradiction fun w => ?_
    obtain ⟨i, -, i2, i3, i4⟩ := nIn_yes w
    rw [gF1_n] at i2
    have ab := gF1_ab i2 (by omega)
    rw [ab.1] at i3
    rw [ab.2] at i4
    unfold nrA at i3
    unfold nrB at i4
    rcases (show k = 0 ∨ k = 1 ∨ k = 2 ∨ k = 3 by omega) with e | e | e | e <;> subst e <;> rcases (show i = 0 ∨ i = 1 ∨ i = 2 ∨ i = 3 by omega) with d | d | d | d <;> subst d <;> simp at i2 i3 i4
  have e2 : gF1 k 2 = (k : Int) := rfl
  unfold gNor
  dsimp only
  rw [ig1, t1, t2, if_neg (fun w => w no), if_neg (by rw [e2]; omega), e2]
  congr 2
  funext j
  unfold gAdd
  rw [gF1_n, fu_at, fu_at, fu_at, e2]
  unfold gF1 nrA nrB
  rcases (show k = 0 ∨ k = 1 ∨ k = 2 ∨ k = 3 by omega) with e | e | e | e <;> subst e
  all_goals
    by_cases h2 : j = 2
    · subst h2; simp
    · by_cases h3 : j = 3
      · subst h3; simp
      · by_cases h11 : j = 11
        · subst h11; simp
        · by_cases h13 : j = 13
          · subst h13; simp
          · by_cases h16 : j = 16
            · subst h16; simp
            · by_cases h18 : j = 18
              · subst h18; simp
              · simp [h2, h3, h11, h13, h16, h18]
                try omega

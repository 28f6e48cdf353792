/-! Rings: how they hang together; the class's linkRing. -/
theorem cnt_mono {f g : Nat → Bool} : ∀ n, (∀ j, j < n → f j = true → g j = true) → cnt f n ≤ cnt g n
  | 0, _ => Nat.le_refl 0
  | n + 1, h => by
    have a := cnt_mono n (fun j hj => h j (by omega))
    have b := h n (by omega)
    simp only [cnt]
    by_cases c : f n = true
    · rw [if_pos c, if_pos (b c)]; omega
    · rw [if_neg c]; omega
theorem cnt_all {f g : Nat → Bool} {n : Nat} (h : ∀ j, j < n → f j = true → g j = true) (hc : cnt g n ≤ cnt f n) {j : Nat} (hj : j < n) (gj : g j = true) : f j = true := by
  refine Decidable.byContradiction fun w => ?_
  have a := cnt_rem n hj gj
  have b := cnt_mono (f := f) (g := fun i => g i && decide (i ≠ j)) n (fun i hi fi => by
    have ne : i ≠ j := fun e => w (by rw [← e]; exact fi)
    rw [h i hi fi, decide_eq_true ne]; rfl)
  omega
theorem cnt_add {f : Nat → Bool} {k n : Nat} (hk : k < n) (h : f k = false) : cnt (fun j => f j || decide (j = k)) n = cnt f n + 1 := by
  have a := cnt_rem (f := fun j => f j || decide (j = k)) n hk (by rw [h]; simp)
  have e : (fun j => (f j || decide (j = k)) && decide (j ≠ k)) = f := by
    funext j
    by_cases c : j = k
    · subst c; rw [h]; simp
    · simp [c]
  rw [e] at a
  omega
theorem cnt_zero {f : Nat → Bool} : ∀ n, (∀ j, j < n → f j = false) → cnt f n = 0
  | 0, _ => rfl
  | n + 1, h => by
    simp only [cnt]
    rw [cnt_zero n (fun j hj => h j (by omega)), h n (by omega)]
    rfl
section
variable {a b D : Nat → Int} {n : Nat}
/-- what is closed along a ring is all of it -/
theorem ring_conn {live A : Nat → Bool} {nx bk : Nat → Nat} (hd : dirs a b n) (hr : ring a b D n live nx bk) (hA : ∀ j, A j = true → live j = true ∧ A (nx j) = true) {s : Nat} (hs : A s = true) {j : Nat} (hj : live j = true) : A j = true := by
  refine Decidable.byContradiction fun w => ?_
  obtain ⟨p, p1, p2, p3⟩ := argmin (fun p => A p = true) (fun p => cy a b p j) n ⟨s, (hr s (hA s hs).1).1, hs⟩
  have lp := (hA p p2).1
  obtain ⟨r1, r2, r3, r4, r5, r6, r7, r8⟩ := hr p lp
  have jp : j ≠ p := fun e => w (by rw [e]; exact p2)
  have m1 := r8 j hj jp
  have an := (hA p p2).2
  have nj : nx p ≠ j := fun e => w (by rw [← e]; exact an)
  have m2 := p3 (nx p) (hr _ r3).1 an
  have d1 := (hd p r1).2 (nx p) (hr _ r3).1 (fun e => by rw [e, tn_self] at r7; omega)
  have k1 := cy_k (a := a) (b := b) p (nx p)
  have k2 := cy_k (a := a) (b := b) p j
  have k3 := cy_k (a := a) (b := b) (nx p) j
  omega
/-- the next one is told by being nearest -/
theorem ring_nx {live : Nat → Bool} {nx bk : Nat → Nat} (hd : dirs a b n) (hr : ring a b D n live nx bk) {k q : Nat} (hk : live k = true) (hq : live q = true) (qk : q ≠ k) (h : ∀ j, live j = true → j ≠ k → cy a b k q ≤ cy a b k j) : nx k = q := by
  refine Decidable.byContradiction fun w => ?_
  obtain ⟨r1, r2, r3, r4, r5, r6, r7, r8⟩ := hr k hk
  have nk : nx k ≠ k := fun e => by rw [e, tn_self] at r7; omega
  have m1 := r8 q hq qk
  have m2 := h (nx k) r3 nk
  have d1 := (hd q (hr q hq).1).2 (nx k) (hr _ r3).1 w
  have k1 := cy_k (a := a) (b := b) k (nx k)
  have k2 := cy_k (a := a) (b := b) k q
  have k3 := cy_k (a := a) (b := b) q (nx k)
  omega
end
def lvS (S : jS) (n : Nat) : Nat → Bool := fun k => decide (k < n) && decide (S 302 k ≠ 0)
theorem lvS_i {S : jS} {n k : Nat} : lvS S n k = true ↔ k < n ∧ S 302 k ≠ 0 := by unfold lvS; simp
/-- what the ring's making may change -/
def frL (S S' : jS) : Prop := (∀ r j, r ≠ 300 → r ≠ 303 → r ≠ 304 → S' r j = S r j) ∧ ∀ k, k ≠ 7 → k ≠ 8 → S' 300 k = S 300 k
theorem frL.refl (S : jS) : frL S S := ⟨fun _ _ _ _ _ => rfl, fun _ _ _ => rfl⟩
theorem frL.trans {S S' S'' : jS} (h : frL S S') (h' : frL S' S'') : frL S S'' := ⟨fun r j a b c => by rw [h'.1 r j a b c, h.1 r j a b c], fun k a b => by rw [h'.2 k a b, h.2 k a b]⟩
theorem frL.set (S : jS) {r : Nat} (k : Nat) (v : Int) (h : r = 303 ∨ r = 304) : frL S (ju S r k v) := ⟨fun p j a b c => by rw [ju_at, if_neg (by omega)], fun i a b => by rw [ju_at, if_neg (by omega)]⟩
theorem frL.set0 (S : jS) {k : Nat} (v : Int) (h : k = 7 ∨ k = 8) : frL S (ju S 300 k v) := ⟨fun p j a b c => by rw [ju_at, if_neg (fun w => a w.1)], fun i a b => by rw [ju_at, if_neg (by omega)]⟩
theorem frL.U {S S' : jS} (h : frL S S') : frU S S' := fun r j q => h.1 r j (by omega) (by omega) (by omega)
set_option maxHeartbeats 2000000 in
set_option maxRecDepth 100000 in
theorem k_linkRing {G : jG} {z w : Nat} {S : jS} {W : Nat → Int} {af : Nat → Nat} {P : Option jV → jM → Prop} (hw : wfN W) (hu : nU w) (hn : nwR w S W af) (ha : afR W af) (s6 : S 300 6 = (w : Int)) (hb : cuB S (wN W)) (h4 : l4 S)
    (out : ∀ S' nx bk, frL S S' → ring (wA W) (wB W) (S 302) (wN W) (lvS S (wN W)) nx bk → (∀ j, lvS S (wN W) j = true → S' 303 j = (nx j : Int) ∧ S' 304 j = (bk j : Int)) → S' 300 7 = 0 → S' 300 8 = (cnt (lvS S (wN W)) (wN W) : Int) → P none (mm z S')) :
    jC G mX2_linkRing 0 0 (mm z S) [(2, ((300 : Nat) : Int))] P := by
  have n24 := wfN_n hw
  have hd := wfN_dirs hw
  generalize hN : wN W = n at *
  generalize hL : lvS S n = L at *
  have Li : ∀ k, L k = true ↔ k < n ∧ S 302 k ≠ 0 := fun k => by rw [← hL]; exact lvS_i
  have L0 : L 0 = true := (Li 0).mpr ⟨by omega, h4 0 (by omega)⟩
  obtain ⟨nx, bk, hr⟩ := ring_ex (D := S 302) hd n24.2.1 hw.2.2 (live := L) (fun k hk => ⟨((Li k).mp hk).1, by have := hb k ((Li k).mp hk).1; have := ((Li k).mp hk).2; omega⟩) (fun k hk => (Li k).mpr ⟨by omega, h4 k hk⟩)
  have z0 : cy (wA W) (wB W) 0 0 = 0 := cy_self 0
  -- the loop: la the last one that is linked, k the next normal, V what is behind
  have main : ∀ c i, i + c = n → ∀ (S' : jS) (la k : Nat) (V : Nat → Bool), frL S S' → k < n → la < n → V la = true → L la = true → V 0 = true →
      (∀ j, V j = true → j < n ∧ (L j = true → cy (wA W) (wB W) 0 j ≤ cy (wA W) (wB W) 0 la)) → (∀ j, j < n → (V j = true ↔ (k = 0 ∨ cy (wA W) (wB W) 0 j < cy (wA W) (wB W) 0 k))) → cnt V n = i + 1 →
      (∀ j, V j = true → L j = true → j ≠ la → S' 303 j = (nx j : Int)) → (∀ j, V j = true → L j = true → j ≠ 0 → S' 304 j = (bk j : Int)) → S' 300 8 = (cnt (fun j => V j && L j) n : Int) →
      jJ G mX2_linkRing 0 0 P 0 0 19 [(0, (2, ((300 : Nat) : Int))), (1, (0, (la : Int))), (2, (0, (k : Int))), (3, (0, (i : Int)))] [] (mm z S') := by
    intro c
    induction c with
    | zero =>
      intro i hi S' la k V f kn lan vla lla v0 hV hK hc h3 h4' h8
      exfalso
      have := cnt_le V n
      omega
    | succ c ih =>
      intro i hi S' la k V f kn lan vla lla v0 hV hK hc h3 h4' h8
      have hn' := hn.fr hu f.U
      have s6' : S' 300 6 = (w : Int) := by rw [f.2 6 (by omega) (by omega)]; exact s6
      have eD : ∀ j, S' 302 j = S 302 j := fun j => f.1 _ _ (by omega) (by omega) (by omega)
      have i24 : (la : Int) < 24 := by omega
      have k24 : (k : Int) < 24 := by omega
      refine jJw kX2_linkRing (fun pc => pc == 19 || pc == 71 || pc == 87) 60 19 ?_
      simp -implicitDefEqProofs only [Nat.reduceAdd, Nat.reduceMul, Nat.reduceEqDiff, Nat.reduceBEq, Nat.reduceLT, Nat.reduceLeDiff, Int.reduceToNat, Int.reduceLE, Int.reduceLT, Int.reduceNeg, Int.reduceAdd, Int.reduceMul, Bool.or_false, Bool.or_true, Bool.true_or, Bool.false_or, jwq_s, jwp_sn, jwp_sc, jwp_0, jsum, jwx_s, ↓jol_c, ↓jo1_c, ↓jo2_c, ↓jo3_c, Bool.false_eq_true, beq_iff_eq, jst, jins_c, jins_n, jdrop_c, jdrop_n, jargs, jtg, jtag, jcnd, true_and, and_true, false_or, or_false, true_or, or_true, forall_const, ↓reduceIte, Option.toList, List.cons_append, List.nil_append, false_and, and_false, reduceCtorEq, false_imp_iff, forall_eq, true_imp_iff, joc_c, List.drop_succ_cons, List.drop_zero, List.take_succ_cons, List.take_zero, List.reverse_cons, List.reverse_nil, List.length_cons, List.length_nil, Int.reduceEq, not_true_eq_false, not_false_eq_true, mm_S, mm_L, mm_set, Int.toNat_natCast, Int.natCast_nonneg, ju_at, ne21, ne01, jrd_1, jrd_2, jrd_3, jobj_M, jfd_M0, jfd_M1, jfd_M2, jfd_M3, jfd_M4, jfd_M5, jfd_M6, jfd_M7, jfd_M8, jfd_M9, jfd_M10, jfd_M11, jfd_M12, jsn_M12, jfd_M13, jsn_M13, jfd_M14, jsn_M14, jfd_M15, jsn_M15, jarr_M5, jarr_M6, jarr_M7, jarr_M82, jarr_M83, jarr_M145, jarr_M146, jarr_M147, jarr_M8, jrd_M8, jarr_M9, jrd_M9, jarr_M84, jrd_M84, jobj_N, jfd_N0, jfd_N1, jfd_N2, jfd_N3, jsn_N3, jarr_N1, jarr_N2, jarr_N3, jobj_B, jfd_B0, jfd_B1, jfd_B2, jfd_B3, jfd_B4, jfd_B5, jsn_B5, jarr_B1, jarr_B2, jarr_B3, jarr_B4, jarr_B5, jobj_H, jfd_H0, jfd_H1, jfd_H2, jsn_H2, jfd_H3, jsn_H3, jfd_H4, jsn_H4, jfd_H5, jsn_H5, jfd_H6, jsn_H6, jfd_H7, jsn_H7, jfd_H8, jsn_H8, jfd_H9, jsn_H9, jfd_H10, jfd_H11, jarr_H429, jarr_H1, jrd_H1, jobj_P, jfd_P0, jfd_P1, jfd_P2, jsn_P2, jfd_P3, jsn_P3, jfd_P4, jsn_P4, jfd_P5, jsn_P5, jfd_P6, jsn_P6, jfd_P7, jsn_P7, jfd_P8, jsn_P8, jfd_P9, jsn_P9, jobj_G, jfd_G0, jfd_G1, jarr_G1, jarr_G2, jobj_A, jfd_A0, jsn_A0, jfd_A1, jsn_A1, jobj_O, jfd_O0, jfd_O1, jsn_O1, jfd_O2, jsn_O2, jfd_O3, jsn_O3, jfd_O4, jsn_O4, jfd_O5, jsn_O5, jfd_O6, jfd_O7, jfd_O8, jfd_O9, jfd_O10, jfd_O11, jarr_O1, jobj_E, jfd_E0, jfd_E1, jsn_E1, jfd_E2, jsn_E2, jfd_E3, jsn_E3, jfd_E4, jsn_E4, jfd_E5, jsn_E5, jfd_E6, jsn_E6, jfd_E7, jsn_E7, jfd_E8, jsn_E8, jfd_E9, jsn_E9, jfd_E10, jsn_E10, jfd_E11, jsn_E11, jfd_E12, jsn_E12, jfd_E13, jsn_E13, jfd_E14, jsn_E14, jarr_E1, jobj_C, jfd_C0, jfd_C1, jfd_C2, jfd_C3, jfd_C4, jfd_C5, jfd_C6, jsn_C6, jfd_C7, jsn_C7, jfd_C8, jsn_C8, jarr_C1, jarr_C2, jarr_C3, jarr_C4, jarr_C5, jarr_C6, jrd_C5, jsn_Ca5, jrd_C6, jsn_Ca6, jobj_Y, jfd_Y0, jfd_Y1, jfd_Y2, jsn_Y2, jfd_Y3, jfd_Y4, jfd_Y5, jarr_Y1, jobj_D, jfd_D0, jfd_D1, jfd_D2, jfd_D3, jsn_D3, jfd_D4, jsn_D4, jfd_D5, jsn_D5, jfd_D6, jfd_D7, jsn_D7, jfd_D8, jsn_D8, jfd_D9, jsn_D9, jfd_D10, jsn_D10, jfd_D11, jsn_D11, jfd_D12, jsn_D12, jfd_D13, jsn_D13, jfd_D14, jsn_D14, jfd_D15, jsn_D15, jfd_D16, jsn_D16, jarr_D1, jL32_0, jL32_1, jL32_2, jL32_3, jL32_4, jL32_5, jL32_6, jL32_7, jL32_8, jL32_9, jL32_10, jL32_11, jL32_12, jL32_13, jL32_14, jL32_15, jL32_16, jL32_17, jL32_18, jL32_19, jL32_20, jL32_21, jL32_22, jL32_23, jL32_24, jL32_25, jL32_26, jL32_27, jL32_28, jL32_29, jL32_30, jL32_31, jL32_32, jL32_33, jL32_34, jL32_35, jL32_36, jL32_37, jL32_38, jL32_39, jL32_57, jL32_60, jL32_97, jL32_122, jL32_255, jLm32_1, jLm32_2, jLm32_3, jLm32_1000, jL64_0, jL64_1, zne_10, zne_00, zne_01, zne_11, false_imp_iff, true_imp_iff, fX2_linkRing_0, fX2_linkRing_1, fX2_linkRing_2, fX2_linkRing_3, fX2_linkRing_4, fX2_linkRing_7, fX2_linkRing_8, fX2_linkRing_11, fX2_linkRing_14, fX2_linkRing_15, fX2_linkRing_16, fX2_linkRing_17, fX2_linkRing_18, fX2_linkRing_19, fX2_linkRing_20, fX2_linkRing_21, fX2_linkRing_24, fX2_linkRing_27, fX2_linkRing_30, fX2_linkRing_31, fX2_linkRing_34, fX2_linkRing_35, fX2_linkRing_38, fX2_linkRing_39, fX2_linkRing_40, fX2_linkRing_41, fX2_linkRing_45, fX2_linkRing_46, fX2_linkRing_49, fX2_linkRing_50, fX2_linkRing_51, fX2_linkRing_52, fX2_linkRing_53, fX2_linkRing_56, fX2_linkRing_57, fX2_linkRing_58, fX2_linkRing_59, fX2_linkRing_60, fX2_linkRing_61, fX2_linkRing_62, fX2_linkRing_63, fX2_linkRing_66, fX2_linkRing_67, fX2_linkRing_68, fX2_linkRing_71, fX2_linkRing_72, fX2_linkRing_75, fX2_linkRing_78, fX2_linkRing_79, fX2_linkRing_80, fX2_linkRing_81, fX2_linkRing_84, fX2_linkRing_87, fX2_linkRing_88, fX2_linkRing_91, fX2_linkRing_92, fX2_linkRing_93, fX2_linkRing_94, fX2_linkRing_95, fX2_linkRing_98, fX2_linkRing_99, fX2_linkRing_100, fX2_linkRing_101, fX2_linkRing_102, fX2_linkRing_103, fX2_linkRing_106, ↓jo_0, ↓jo_1, ↓jo_19, ↓jo_2, ↓jo_20, ↓jo_21, ↓jo_22, ↓jo_23, ↓jo_24, ↓jo_25, ↓jo_26, ↓jo_3, ↓jo_31v, ↓jo_32, ↓jo_4, ↓jo_41, hu, s6', hn'.1, n24.1, eD]
      refine ⟨jI32_nat (by omega), jI32_nat (by omega), fun q => by omega, fun _ => ⟨jI32_nat (by omega), fun q => ?_, fun q => ⟨k24, ?_⟩⟩⟩
      · have k0 : k = 0 := by omega
        subst k0
        have Vall : ∀ j, j < n → V j = true := fun j hj => (hK j hj).mpr (Or.inl rfl)
        have la0 : la ≠ 0 := fun e => by
          subst e
          have := (hV 1 (Vall 1 (by omega))).2 ((Li 1).mpr ⟨by omega, h4 1 (by omega)⟩)
          have := (hd 0 (by omega)).2 1 (by omega) (by omega)
          have := cy_k (a := wA W) (b := wB W) 0 1
          omega
        have nla : nx la = 0 := by
          refine ring_nx hd hr lla L0 (fun e => la0 e.symm) (fun j lj jl => ?_)
          have jn := ((Li j).mp lj).1
          have m := (hV j (Vall j jn)).2 lj
          have k1 := cy_k (a := wA W) (b := wB W) la 0
          have k2 := cy_k (a := wA W) (b := wB W) la j
          have k3 := cy_k (a := wA W) (b := wB W) 0 j
          have k4 := cy_k (a := wA W) (b := wB W) 0 la
          have d1 := (hd la lan).2 j jn jl
          omega
        have b0 : bk 0 = la := by rw [← nla]; exact (hr la lla).2.2.2.2.1
        refine jJw kX2_linkRing (fun pc => false) 60 87 ?_
        simp -implicitDefEqProofs only [Nat.reduceAdd, Nat.reduceMul, Nat.reduceEqDiff, Nat.reduceBEq, Nat.reduceLT, Nat.reduceLeDiff, Int.reduceToNat, Int.reduceLE, Int.reduceLT, Int.reduceNeg, Int.reduceAdd, Int.reduceMul, Bool.or_false, Bool.or_true, Bool.true_or, Bool.false_or, jwq_s, jwp_sn, jwp_sc, jwp_0, jsum, jwx_s, ↓jol_c, ↓jo1_c, ↓jo2_c, ↓jo3_c, Bool.false_eq_true, beq_iff_eq, jst, jins_c, jins_n, jdrop_c, jdrop_n, jargs, jtg, jtag, jcnd, true_and, and_true, false_or, or_false, true_or, or_true, forall_const, ↓reduceIte, Option.toList, List.cons_append, List.nil_append, false_and, and_false, reduceCtorEq, false_imp_iff, forall_eq, true_imp_iff, joc_c, List.drop_succ_cons, List.drop_zero, List.take_succ_cons, List.take_zero, List.reverse_cons, List.reverse_nil, List.length_cons, List.length_nil, Int.reduceEq, not_true_eq_false, not_false_eq_true, mm_S, mm_L, mm_set, Int.toNat_natCast, Int.natCast_nonneg, ju_at, ne21, ne01, jrd_1, jrd_2, jrd_3, jobj_M, jfd_M0, jfd_M1, jfd_M2, jfd_M3, jfd_M4, jfd_M5, jfd_M6, jfd_M7, jfd_M8, jfd_M9, jfd_M10, jfd_M11, jfd_M12, jsn_M12, jfd_M13, jsn_M13, jfd_M14, jsn_M14, jfd_M15, jsn_M15, jarr_M5, jarr_M6, jarr_M7, jarr_M82, jarr_M83, jarr_M145, jarr_M146, jarr_M147, jarr_M8, jrd_M8, jarr_M9, jrd_M9, jarr_M84, jrd_M84, jobj_N, jfd_N0, jfd_N1, jfd_N2, jfd_N3, jsn_N3, jarr_N1, jarr_N2, jarr_N3, jobj_B, jfd_B0, jfd_B1, jfd_B2, jfd_B3, jfd_B4, jfd_B5, jsn_B5, jarr_B1, jarr_B2, jarr_B3, jarr_B4, jarr_B5, jobj_H, jfd_H0, jfd_H1, jfd_H2, jsn_H2, jfd_H3, jsn_H3, jfd_H4, jsn_H4, jfd_H5, jsn_H5, jfd_H6, jsn_H6, jfd_H7, jsn_H7, jfd_H8, jsn_H8, jfd_H9, jsn_H9, jfd_H10, jfd_H11, jarr_H429, jarr_H1, jrd_H1, jobj_P, jfd_P0, jfd_P1, jfd_P2, jsn_P2, jfd_P3, jsn_P3, jfd_P4, jsn_P4, jfd_P5, jsn_P5, jfd_P6, jsn_P6, jfd_P7, jsn_P7, jfd_P8, jsn_P8, jfd_P9, jsn_P9, jobj_G, jfd_G0, jfd_G1, jarr_G1, jarr_G2, jobj_A, jfd_A0, jsn_A0, jfd_A1, jsn_A1, jobj_O, jfd_O0, jfd_O1, jsn_O1, jfd_O2, jsn_O2, jfd_O3, jsn_O3, jfd_O4, jsn_O4, jfd_O5, jsn_O5, jfd_O6, jfd_O7, jfd_O8, jfd_O9, jfd_O10, jfd_O11, jarr_O1, jobj_E, jfd_E0, jfd_E1, jsn_E1, jfd_E2, jsn_E2, jfd_E3, jsn_E3, jfd_E4, jsn_E4, jfd_E5, jsn_E5, jfd_E6, jsn_E6, jfd_E7, jsn_E7, jfd_E8, jsn_E8, jfd_E9, jsn_E9, jfd_E10, jsn_E10, jfd_E11, jsn_E11, jfd_E12, jsn_E12, jfd_E13, jsn_E13, jfd_E14, jsn_E14, jarr_E1, jobj_C, jfd_C0, jfd_C1, jfd_C2, jfd_C3, jfd_C4, jfd_C5, jfd_C6, jsn_C6, jfd_C7, jsn_C7, jfd_C8, jsn_C8, jarr_C1, jarr_C2, jarr_C3, jarr_C4, jarr_C5, jarr_C6, jrd_C5, jsn_Ca5, jrd_C6, jsn_Ca6, jobj_Y, jfd_Y0, jfd_Y1, jfd_Y2, jsn_Y2, jfd_Y3, jfd_Y4, jfd_Y5, jarr_Y1, jobj_D, jfd_D0, jfd_D1, jfd_D2, jfd_D3, jsn_D3, jfd_D4, jsn_D4, jfd_D5, jsn_D5, jfd_D6, jfd_D7, jsn_D7, jfd_D8, jsn_D8, jfd_D9, jsn_D9, jfd_D10, jsn_D10, jfd_D11, jsn_D11, jfd_D12, jsn_D12, jfd_D13, jsn_D13, jfd_D14, jsn_D14, jfd_D15, jsn_D15, jfd_D16, jsn_D16, jarr_D1, jL32_0, jL32_1, jL32_2, jL32_3, jL32_4, jL32_5, jL32_6, jL32_7, jL32_8, jL32_9, jL32_10, jL32_11, jL32_12, jL32_13, jL32_14, jL32_15, jL32_16, jL32_17, jL32_18, jL32_19, jL32_20, jL32_21, jL32_22, jL32_23, jL32_24, jL32_25, jL32_26, jL32_27, jL32_28, jL32_29, jL32_30, jL32_31, jL32_32, jL32_33, jL32_34, jL32_35, jL32_36, jL32_37, jL32_38, jL32_39, jL32_57, jL32_60, jL32_97, jL32_122, jL32_255, jLm32_1, jLm32_2, jLm32_3, jLm32_1000, jL64_0, jL64_1, zne_10, zne_00, zne_01, zne_11, false_imp_iff, true_imp_iff, fX2_linkRing_0, fX2_linkRing_1, fX2_linkRing_2, fX2_linkRing_3, fX2_linkRing_4, fX2_linkRing_7, fX2_linkRing_8, fX2_linkRing_11, fX2_linkRing_14, fX2_linkRing_15, fX2_linkRing_16, fX2_linkRing_17, fX2_linkRing_18, fX2_linkRing_19, fX2_linkRing_20, fX2_linkRing_21, fX2_linkRing_24, fX2_linkRing_27, fX2_linkRing_30, fX2_linkRing_31, fX2_linkRing_34, fX2_linkRing_35, fX2_linkRing_38, fX2_linkRing_39, fX2_linkRing_40, fX2_linkRing_41, fX2_linkRing_45, fX2_linkRing_46, fX2_linkRing_49, fX2_linkRing_50, fX2_linkRing_51, fX2_linkRing_52, fX2_linkRing_53, fX2_linkRing_56, fX2_linkRing_57, fX2_linkRing_58, fX2_linkRing_59, fX2_linkRing_60, fX2_linkRing_61, fX2_linkRing_62, fX2_linkRing_63, fX2_linkRing_66, fX2_linkRing_67, fX2_linkRing_68, fX2_linkRing_71, fX2_linkRing_72, fX2_linkRing_75, fX2_linkRing_78, fX2_linkRing_79, fX2_linkRing_80, fX2_linkRing_81, fX2_linkRing_84, fX2_linkRing_87, fX2_linkRing_88, fX2_linkRing_91, fX2_linkRing_92, fX2_linkRing_93, fX2_linkRing_94, fX2_linkRing_95, fX2_linkRing_98, fX2_linkRing_99, fX2_linkRing_100, fX2_linkRing_101, fX2_linkRing_102, fX2_linkRing_103, fX2_linkRing_106, ↓jo_0, ↓jo_1, ↓jo_19, ↓jo_2, ↓jo_20, ↓jo_21, ↓jo_22, ↓jo_23, ↓jo_24, ↓jo_25, ↓jo_26, ↓jo_3, ↓jo_31v, ↓jo_32, ↓jo_4, ↓jo_41]
        refine ⟨i24, ?_⟩
        refine out _ nx bk (((f.trans (frL.set _ _ _ (by omega))).trans (frL.set _ _ _ (by omega))).trans (frL.set0 _ _ (by omega))) hr (fun j lj => ?_) (by simp [ju_at]) ?_
        · have jn := ((Li j).mp lj).1
          simp only [ju_at]
          constructor
          · by_cases e : j = la
            · subst e; simp [nla]
            · simp [e]; exact h3 j (Vall j jn) lj e
          · by_cases e : j = 0
            · subst e; simp [b0]
            · simp [e]; exact h4' j (Vall j jn) lj e
        · simp only [ju_at]
          simp
          rw [h8]
          congr 2
          funext j
          by_cases e : j < n
          · rw [Vall j e]; simp
          · have : L j = false := by
              cases h : L j with
              | false => rfl
              | true => exact absurd ((Li j).mp h).1 e
            rw [this]; simp
      · -- a normal more
        have k0 : k ≠ 0 := by omega
        obtain ⟨a1, a2, a3⟩ := ha k (by rw [hN]; exact kn)
        rw [hN] at a1 a3
        have vk : V k = false := by
          cases h : V k with
          | false => rfl
          | true =>
            rcases (hK k kn).mp h with e | e
            · exact absurd e k0
            · omega
        have af3 := (hn'.2 k (by omega)).2.2
        have V'k : ∀ j, j < n → ((V j || decide (j = k)) = true ↔ (af k = 0 ∨ cy (wA W) (wB W) 0 j < cy (wA W) (wB W) 0 (af k))) := by
          intro j hj
          have hKj := hK j hj
          have hK' : V j = true ↔ cy (wA W) (wB W) 0 j < cy (wA W) (wB W) 0 k := ⟨fun h => (hKj.mp h).resolve_left k0, fun h => hKj.mpr (Or.inr h)⟩
          have k1 := cy_k (a := wA W) (b := wB W) k (af k)
          have k2 := cy_k (a := wA W) (b := wB W) k j
          have k3 := cy_k (a := wA W) (b := wB W) 0 j
          have k4 := cy_k (a := wA W) (b := wB W) 0 k
          have k5 := cy_k (a := wA W) (b := wB W) 0 (af k)
          have d0 := (hd 0 (by omega)).2 k kn k0
          have d1 := (hd k kn).2 (af k) a1 a2
          have k6 := cy_k (a := wA W) (b := wB W) k 0
          have m0 := a3 0 (by omega) (fun e => k0 e.symm)
          rw [Bool.or_eq_true, decide_eq_true_eq]
          constructor
          · rintro (h | h)
            · have h' := hK'.mp h
              by_cases e : af k = 0
              · exact Or.inl e
              · refine Or.inr ?_
                have d2 := (hd 0 (by omega)).2 (af k) a1 e
                omega
            · subst h
              by_cases e : af j = 0
              · exact Or.inl e
              · refine Or.inr ?_
                have d2 := (hd 0 (by omega)).2 (af j) a1 e
                omega
          · intro h
            by_cases e : j = k
            · exact Or.inr e
            · refine Or.inl (hK'.mpr ?_)
              have m1 := a3 j hj e
              have d3 := (hd k kn).2 j hj e
              rcases h with h | h
              · rw [h] at m1 k1 k5
                omega
              · omega
        have cV : cnt (fun j => V j || decide (j = k)) n = (i + 1) + 1 := by rw [cnt_add kn vk, hc]
        have tail : ∀ (S2 : jS) (la2 : Nat), frL S S2 → la2 < n → (V la2 || decide (la2 = k)) = true → L la2 = true →
            (∀ j, (V j || decide (j = k)) = true → j < n ∧ (L j = true → cy (wA W) (wB W) 0 j ≤ cy (wA W) (wB W) 0 la2)) →
            (∀ j, (V j || decide (j = k)) = true → L j = true → j ≠ la2 → S2 303 j = (nx j : Int)) → (∀ j, (V j || decide (j = k)) = true → L j = true → j ≠ 0 → S2 304 j = (bk j : Int)) → S2 300 8 = (cnt (fun j => (V j || decide (j = k)) && L j) n : Int) →
            jJ G mX2_linkRing 0 0 P 0 0 71 [(0, (2, ((300 : Nat) : Int))), (1, (0, (la2 : Int))), (2, (0, (k : Int))), (3, (0, (i : Int)))] [] (mm z S2) := by
          intro S2 la2 f2 l1 l2 l3 g1 g2 g3 g4
          have hn2 := hn.fr hu f2.U
          have s62 : S2 300 6 = (w : Int) := by rw [f2.2 6 (by omega) (by omega)]; exact s6
          refine jJw kX2_linkRing (fun pc => pc == 19) 60 71 ?_
          simp -implicitDefEqProofs only [Nat.reduceAdd, Nat.reduceMul, Nat.reduceEqDiff, Nat.reduceBEq, Nat.reduceLT, Nat.reduceLeDiff, Int.reduceToNat, Int.reduceLE, Int.reduceLT, Int.reduceNeg, Int.reduceAdd, Int.reduceMul, Bool.or_false, Bool.or_true, Bool.true_or, Bool.false_or, jwq_s, jwp_sn, jwp_sc, jwp_0, jsum, jwx_s, ↓jol_c, ↓jo1_c, ↓jo2_c, ↓jo3_c, Bool.false_eq_true, beq_iff_eq, jst, jins_c, jins_n, jdrop_c, jdrop_n, jargs, jtg, jtag, jcnd, true_and, and_true, false_or, or_false, true_or, or_true, forall_const, ↓reduceIte, Option.toList, List.cons_append, List.nil_append, false_and, and_false, reduceCtorEq, false_imp_iff, forall_eq, true_imp_iff, joc_c, List.drop_succ_cons, List.drop_zero, List.take_succ_cons, List.take_zero, List.reverse_cons, List.reverse_nil, List.length_cons, List.length_nil, Int.reduceEq, not_true_eq_false, not_false_eq_true, mm_S, mm_L, mm_set, Int.toNat_natCast, Int.natCast_nonneg, ju_at, ne21, ne01, jrd_1, jrd_2, jrd_3, jobj_M, jfd_M0, jfd_M1, jfd_M2, jfd_M3, jfd_M4, jfd_M5, jfd_M6, jfd_M7, jfd_M8, jfd_M9, jfd_M10, jfd_M11, jfd_M12, jsn_M12, jfd_M13, jsn_M13, jfd_M14, jsn_M14, jfd_M15, jsn_M15, jarr_M5, jarr_M6, jarr_M7, jarr_M82, jarr_M83, jarr_M145, jarr_M146, jarr_M147, jarr_M8, jrd_M8, jarr_M9, jrd_M9, jarr_M84, jrd_M84, jobj_N, jfd_N0, jfd_N1, jfd_N2, jfd_N3, jsn_N3, jarr_N1, jarr_N2, jarr_N3, jobj_B, jfd_B0, jfd_B1, jfd_B2, jfd_B3, jfd_B4, jfd_B5, jsn_B5, jarr_B1, jarr_B2, jarr_B3, jarr_B4, jarr_B5, jobj_H, jfd_H0, jfd_H1, jfd_H2, jsn_H2, jfd_H3, jsn_H3, jfd_H4, jsn_H4, jfd_H5, jsn_H5, jfd_H6, jsn_H6, jfd_H7, jsn_H7, jfd_H8, jsn_H8, jfd_H9, jsn_H9, jfd_H10, jfd_H11, jarr_H429, jarr_H1, jrd_H1, jobj_P, jfd_P0, jfd_P1, jfd_P2, jsn_P2, jfd_P3, jsn_P3, jfd_P4, jsn_P4, jfd_P5, jsn_P5, jfd_P6, jsn_P6, jfd_P7, jsn_P7, jfd_P8, jsn_P8, jfd_P9, jsn_P9, jobj_G, jfd_G0, jfd_G1, jarr_G1, jarr_G2, jobj_A, jfd_A0, jsn_A0, jfd_A1, jsn_A1, jobj_O, jfd_O0, jfd_O1, jsn_O1, jfd_O2, jsn_O2, jfd_O3, jsn_O3, jfd_O4, jsn_O4, jfd_O5, jsn_O5, jfd_O6, jfd_O7, jfd_O8, jfd_O9, jfd_O10, jfd_O11, jarr_O1, jobj_E, jfd_E0, jfd_E1, jsn_E1, jfd_E2, jsn_E2, jfd_E3, jsn_E3, jfd_E4, jsn_E4, jfd_E5, jsn_E5, jfd_E6, jsn_E6, jfd_E7, jsn_E7, jfd_E8, jsn_E8, jfd_E9, jsn_E9, jfd_E10, jsn_E10, jfd_E11, jsn_E11, jfd_E12, jsn_E12, jfd_E13, jsn_E13, jfd_E14, jsn_E14, jarr_E1, jobj_C, jfd_C0, jfd_C1, jfd_C2, jfd_C3, jfd_C4, jfd_C5, jfd_C6, jsn_C6, jfd_C7, jsn_C7, jfd_C8, jsn_C8, jarr_C1, jarr_C2, jarr_C3, jarr_C4, jarr_C5, jarr_C6, jrd_C5, jsn_Ca5, jrd_C6, jsn_Ca6, jobj_Y, jfd_Y0, jfd_Y1, jfd_Y2, jsn_Y2, jfd_Y3, jfd_Y4, jfd_Y5, jarr_Y1, jobj_D, jfd_D0, jfd_D1, jfd_D2, jfd_D3, jsn_D3, jfd_D4, jsn_D4, jfd_D5, jsn_D5, jfd_D6, jfd_D7, jsn_D7, jfd_D8, jsn_D8, jfd_D9, jsn_D9, jfd_D10, jsn_D10, jfd_D11, jsn_D11, jfd_D12, jsn_D12, jfd_D13, jsn_D13, jfd_D14, jsn_D14, jfd_D15, jsn_D15, jfd_D16, jsn_D16, jarr_D1, jL32_0, jL32_1, jL32_2, jL32_3, jL32_4, jL32_5, jL32_6, jL32_7, jL32_8, jL32_9, jL32_10, jL32_11, jL32_12, jL32_13, jL32_14, jL32_15, jL32_16, jL32_17, jL32_18, jL32_19, jL32_20, jL32_21, jL32_22, jL32_23, jL32_24, jL32_25, jL32_26, jL32_27, jL32_28, jL32_29, jL32_30, jL32_31, jL32_32, jL32_33, jL32_34, jL32_35, jL32_36, jL32_37, jL32_38, jL32_39, jL32_57, jL32_60, jL32_97, jL32_122, jL32_255, jLm32_1, jLm32_2, jLm32_3, jLm32_1000, jL64_0, jL64_1, zne_10, zne_00, zne_01, zne_11, false_imp_iff, true_imp_iff, fX2_linkRing_0, fX2_linkRing_1, fX2_linkRing_2, fX2_linkRing_3, fX2_linkRing_4, fX2_linkRing_7, fX2_linkRing_8, fX2_linkRing_11, fX2_linkRing_14, fX2_linkRing_15, fX2_linkRing_16, fX2_linkRing_17, fX2_linkRing_18, fX2_linkRing_19, fX2_linkRing_20, fX2_linkRing_21, fX2_linkRing_24, fX2_linkRing_27, fX2_linkRing_30, fX2_linkRing_31, fX2_linkRing_34, fX2_linkRing_35, fX2_linkRing_38, fX2_linkRing_39, fX2_linkRing_40, fX2_linkRing_41, fX2_linkRing_45, fX2_linkRing_46, fX2_linkRing_49, fX2_linkRing_50, fX2_linkRing_51, fX2_linkRing_52, fX2_linkRing_53, fX2_linkRing_56, fX2_linkRing_57, fX2_linkRing_58, fX2_linkRing_59, fX2_linkRing_60, fX2_linkRing_61, fX2_linkRing_62, fX2_linkRing_63, fX2_linkRing_66, fX2_linkRing_67, fX2_linkRing_68, fX2_linkRing_71, fX2_linkRing_72, fX2_linkRing_75, fX2_linkRing_78, fX2_linkRing_79, fX2_linkRing_80, fX2_linkRing_81, fX2_linkRing_84, fX2_linkRing_87, fX2_linkRing_88, fX2_linkRing_91, fX2_linkRing_92, fX2_linkRing_93, fX2_linkRing_94, fX2_linkRing_95, fX2_linkRing_98, fX2_linkRing_99, fX2_linkRing_100, fX2_linkRing_101, fX2_linkRing_102, fX2_linkRing_103, fX2_linkRing_106, ↓jo_0, ↓jo_1, ↓jo_19, ↓jo_2, ↓jo_20, ↓jo_21, ↓jo_22, ↓jo_23, ↓jo_24, ↓jo_25, ↓jo_26, ↓jo_3, ↓jo_31v, ↓jo_32, ↓jo_4, ↓jo_41, hu, s62, (hn2.2 k (by omega)).2.2]
          exact ⟨k24, ih (i + 1) (by omega) S2 la2 (af k) (fun j => V j || decide (j = k)) f2 a1 l1 l2 l3 (by simp [v0]) g1 V'k cV g2 g3 g4⟩
        have d302 := hb k kn
        refine ⟨⟨by omega, by omega⟩, fun q2 => ?_, fun q2 => ⟨i24, k24, ?_⟩⟩
        · have lk : L k = false := by
            cases h : L k with
            | false => rfl
            | true => exact absurd q2 ((Li k).mp h).2
          refine tail S' la f lan (by rw [vla]; rfl) lla (fun j hj => ?_) (fun j hj lj jl => ?_) (fun j hj lj jl => ?_) ?_
          · rcases Bool.or_eq_true_iff.mp hj with h | h
            · exact hV j h
            · have e : j = k := of_decide_eq_true h
              subst e
              exact ⟨kn, fun w => by rw [lk] at w; cases w⟩
          · rcases Bool.or_eq_true_iff.mp hj with h | h
            · exact h3 j h lj jl
            · have e : j = k := of_decide_eq_true h
              subst e; rw [lk] at lj; cases lj
          · rcases Bool.or_eq_true_iff.mp hj with h | h
            · exact h4' j h lj jl
            · have e : j = k := of_decide_eq_true h
              subst e; rw [lk] at lj; cases lj
          · rw [h8]
            congr 2
            funext j
            by_cases e : j = k
            · subst e; rw [lk]; simp
            · simp [e]
        · have lk : L k = true := (Li k).mpr ⟨kn, q2⟩
          have kla : k ≠ la := fun e => by rw [e] at vk; rw [vk] at vla; cases vla
          have cl : cy (wA W) (wB W) 0 la < cy (wA W) (wB W) 0 k := ((hK la lan).mp vla).resolve_left k0
          have nla : nx la = k := by
            refine ring_nx hd hr lla lk kla (fun j lj jl => ?_)
            have jn := ((Li j).mp lj).1
            have k1 := cy_k (a := wA W) (b := wB W) la k
            have k2 := cy_k (a := wA W) (b := wB W) la j
            have k3 := cy_k (a := wA W) (b := wB W) 0 j
            have k4 := cy_k (a := wA W) (b := wB W) 0 la
            have k5 := cy_k (a := wA W) (b := wB W) 0 k
            have d1 := (hd la lan).2 j jn jl
            by_cases e : V j = true
            · have m := (hV j e).2 lj
              omega
            · have : ¬ cy (wA W) (wB W) 0 j < cy (wA W) (wB W) 0 k := fun h => e ((hK j jn).mpr (Or.inr h))
              omega
          have bkk : bk k = la := by rw [← nla]; exact (hr la lla).2.2.2.2.1
          refine tail _ k (((f.trans (frL.set _ _ _ (by omega))).trans (frL.set _ _ _ (by omega))).trans (frL.set0 _ _ (by omega))) kn (by simp) lk (fun j hj => ?_) (fun j hj lj jl => ?_) (fun j hj lj jl => ?_) ?_
          · rcases Bool.or_eq_true_iff.mp hj with h | h
            · have := hV j h
              exact ⟨this.1, fun w => by have := this.2 w; omega⟩
            · have e : j = k := of_decide_eq_true h
              subst e
              exact ⟨kn, fun w => Int.le_refl _⟩
          · rcases Bool.or_eq_true_iff.mp hj with h | h
            · simp only [ju_at]
              by_cases e : j = la
              · subst e; simp [nla]
              · simp [e]; exact h3 j h lj e
            · exact absurd (of_decide_eq_true h) jl
          · simp only [ju_at]
            by_cases e : j = k
            · subst e; simp [bkk]
            · simp [e]
              rcases Bool.or_eq_true_iff.mp hj with h | h
              · exact h4' j h lj jl
              · exact absurd (of_decide_eq_true h) e
          · simp only [ju_at]
            simp
            rw [h8]
            have e : (fun j => (V j || decide (j = k)) && L j) = fun j => (V j && L j) || decide (j = k) := by
              funext j
              by_cases e : j = k
              · subst e; rw [lk]; simp
              · simp [e]
            rw [e, cnt_add kn (by rw [vk]; rfl)]
            omega
  have hn0 := hn.2 0 (by omega)
  obtain ⟨a1, a2, a3⟩ := ha 0 (by omega)
  rw [hN] at a1 a3
  refine jCw kX2_linkRing jn_X2 (fun pc => pc == 19) 60 (Nat.le_of_ble_eq_true rfl) ?_
  simp -implicitDefEqProofs only [Nat.reduceAdd, Nat.reduceMul, Nat.reduceEqDiff, Nat.reduceBEq, Nat.reduceLT, Nat.reduceLeDiff, Int.reduceToNat, Int.reduceLE, Int.reduceLT, Int.reduceNeg, Int.reduceAdd, Int.reduceMul, Bool.or_false, Bool.or_true, Bool.true_or, Bool.false_or, jwq_s, jwp_sn, jwp_sc, jwp_0, jsum, jwx_s, ↓jol_c, ↓jo1_c, ↓jo2_c, ↓jo3_c, Bool.false_eq_true, beq_iff_eq, jst, jins_c, jins_n, jdrop_c, jdrop_n, jargs, jtg, jtag, jcnd, true_and, and_true, false_or, or_false, true_or, or_true, forall_const, ↓reduceIte, Option.toList, List.cons_append, List.nil_append, false_and, and_false, reduceCtorEq, false_imp_iff, forall_eq, true_imp_iff, joc_c, List.drop_succ_cons, List.drop_zero, List.take_succ_cons, List.take_zero, List.reverse_cons, List.reverse_nil, List.length_cons, List.length_nil, Int.reduceEq, not_true_eq_false, not_false_eq_true, mm_S, mm_L, mm_set, Int.toNat_natCast, Int.natCast_nonneg, ju_at, ne21, ne01, jrd_1, jrd_2, jrd_3, jobj_M, jfd_M0, jfd_M1, jfd_M2, jfd_M3, jfd_M4, jfd_M5, jfd_M6, jfd_M7, jfd_M8, jfd_M9, jfd_M10, jfd_M11, jfd_M12, jsn_M12, jfd_M13, jsn_M13, jfd_M14, jsn_M14, jfd_M15, jsn_M15, jarr_M5, jarr_M6, jarr_M7, jarr_M82, jarr_M83, jarr_M145, jarr_M146, jarr_M147, jarr_M8, jrd_M8, jarr_M9, jrd_M9, jarr_M84, jrd_M84, jobj_N, jfd_N0, jfd_N1, jfd_N2, jfd_N3, jsn_N3, jarr_N1, jarr_N2, jarr_N3, jobj_B, jfd_B0, jfd_B1, jfd_B2, jfd_B3, jfd_B4, jfd_B5, jsn_B5, jarr_B1, jarr_B2, jarr_B3, jarr_B4, jarr_B5, jobj_H, jfd_H0, jfd_H1, jfd_H2, jsn_H2, jfd_H3, jsn_H3, jfd_H4, jsn_H4, jfd_H5, jsn_H5, jfd_H6, jsn_H6, jfd_H7, jsn_H7, jfd_H8, jsn_H8, jfd_H9, jsn_H9, jfd_H10, jfd_H11, jarr_H429, jarr_H1, jrd_H1, jobj_P, jfd_P0, jfd_P1, jfd_P2, jsn_P2, jfd_P3, jsn_P3, jfd_P4, jsn_P4, jfd_P5, jsn_P5, jfd_P6, jsn_P6, jfd_P7, jsn_P7, jfd_P8, jsn_P8, jfd_P9, jsn_P9, jobj_G, jfd_G0, jfd_G1, jarr_G1, jarr_G2, jobj_A, jfd_A0, jsn_A0, jfd_A1, jsn_A1, jobj_O, jfd_O0, jfd_O1, jsn_O1, jfd_O2, jsn_O2, jfd_O3, jsn_O3, jfd_O4, jsn_O4, jfd_O5, jsn_O5, jfd_O6, jfd_O7, jfd_O8, jfd_O9, jfd_O10, jfd_O11, jarr_O1, jobj_E, jfd_E0, jfd_E1, jsn_E1, jfd_E2, jsn_E2, jfd_E3, jsn_E3, jfd_E4, jsn_E4, jfd_E5, jsn_E5, jfd_E6, jsn_E6, jfd_E7, jsn_E7, jfd_E8, jsn_E8, jfd_E9, jsn_E9, jfd_E10, jsn_E10, jfd_E11, jsn_E11, jfd_E12, jsn_E12, jfd_E13, jsn_E13, jfd_E14, jsn_E14, jarr_E1, jobj_C, jfd_C0, jfd_C1, jfd_C2, jfd_C3, jfd_C4, jfd_C5, jfd_C6, jsn_C6, jfd_C7, jsn_C7, jfd_C8, jsn_C8, jarr_C1, jarr_C2, jarr_C3, jarr_C4, jarr_C5, jarr_C6, jrd_C5, jsn_Ca5, jrd_C6, jsn_Ca6, jobj_Y, jfd_Y0, jfd_Y1, jfd_Y2, jsn_Y2, jfd_Y3, jfd_Y4, jfd_Y5, jarr_Y1, jobj_D, jfd_D0, jfd_D1, jfd_D2, jfd_D3, jsn_D3, jfd_D4, jsn_D4, jfd_D5, jsn_D5, jfd_D6, jfd_D7, jsn_D7, jfd_D8, jsn_D8, jfd_D9, jsn_D9, jfd_D10, jsn_D10, jfd_D11, jsn_D11, jfd_D12, jsn_D12, jfd_D13, jsn_D13, jfd_D14, jsn_D14, jfd_D15, jsn_D15, jfd_D16, jsn_D16, jarr_D1, jL32_0, jL32_1, jL32_2, jL32_3, jL32_4, jL32_5, jL32_6, jL32_7, jL32_8, jL32_9, jL32_10, jL32_11, jL32_12, jL32_13, jL32_14, jL32_15, jL32_16, jL32_17, jL32_18, jL32_19, jL32_20, jL32_21, jL32_22, jL32_23, jL32_24, jL32_25, jL32_26, jL32_27, jL32_28, jL32_29, jL32_30, jL32_31, jL32_32, jL32_33, jL32_34, jL32_35, jL32_36, jL32_37, jL32_38, jL32_39, jL32_57, jL32_60, jL32_97, jL32_122, jL32_255, jLm32_1, jLm32_2, jLm32_3, jLm32_1000, jL64_0, jL64_1, zne_10, zne_00, zne_01, zne_11, false_imp_iff, true_imp_iff, fX2_linkRing_0, fX2_linkRing_1, fX2_linkRing_2, fX2_linkRing_3, fX2_linkRing_4, fX2_linkRing_7, fX2_linkRing_8, fX2_linkRing_11, fX2_linkRing_14, fX2_linkRing_15, fX2_linkRing_16, fX2_linkRing_17, fX2_linkRing_18, fX2_linkRing_19, fX2_linkRing_20, fX2_linkRing_21, fX2_linkRing_24, fX2_linkRing_27, fX2_linkRing_30, fX2_linkRing_31, fX2_linkRing_34, fX2_linkRing_35, fX2_linkRing_38, fX2_linkRing_39, fX2_linkRing_40, fX2_linkRing_41, fX2_linkRing_45, fX2_linkRing_46, fX2_linkRing_49, fX2_linkRing_50, fX2_linkRing_51, fX2_linkRing_52, fX2_linkRing_53, fX2_linkRing_56, fX2_linkRing_57, fX2_linkRing_58, fX2_linkRing_59, fX2_linkRing_60, fX2_linkRing_61, fX2_linkRing_62, fX2_linkRing_63, fX2_linkRing_66, fX2_linkRing_67, fX2_linkRing_68, fX2_linkRing_71, fX2_linkRing_72, fX2_linkRing_75, fX2_linkRing_78, fX2_linkRing_79, fX2_linkRing_80, fX2_linkRing_81, fX2_linkRing_84, fX2_linkRing_87, fX2_linkRing_88, fX2_linkRing_91, fX2_linkRing_92, fX2_linkRing_93, fX2_linkRing_94, fX2_linkRing_95, fX2_linkRing_98, fX2_linkRing_99, fX2_linkRing_100, fX2_linkRing_101, fX2_linkRing_102, fX2_linkRing_103, fX2_linkRing_106, ↓jo_0, ↓jo_1, ↓jo_19, ↓jo_2, ↓jo_20, ↓jo_21, ↓jo_22, ↓jo_23, ↓jo_24, ↓jo_25, ↓jo_26, ↓jo_3, ↓jo_31v, ↓jo_32, ↓jo_4, ↓jo_41, hu, s6, hn0.2.2]
  refine main n 0 (by omega) _ 0 (af 0) (fun j => decide (j = 0)) (frL.set0 _ _ (by omega)) a1 (by omega) (by simp) L0 (by simp) (fun j hj => ?_) (fun j hj => ?_) ?_ (fun j hj lj j0 => absurd (of_decide_eq_true hj) j0) (fun j hj lj j0 => absurd (of_decide_eq_true hj) j0) ?_
  · have e : j = 0 := of_decide_eq_true hj
    subst e
    exact ⟨by omega, fun _ => Int.le_refl _⟩
  · rw [decide_eq_true_eq]
    constructor
    · intro e
      subst e
      refine Or.inr ?_
      have := (hd 0 (by omega)).2 (af 0) a1 a2
      have := cy_k (a := wA W) (b := wB W) 0 (af 0)
      omega
    · rintro (e | e)
      · exact absurd e a2
      · refine Decidable.byContradiction fun w => ?_
        have := a3 j hj w
        omega
  · have := cnt_add (f := fun _ => false) (k := 0) (n := n) (by omega) rfl
    rw [cnt_zero n (fun _ _ => rfl)] at this
    simpa using this
  · simp only [ju_at]
    have := cnt_add (f := fun _ => false) (k := 0) (n := n) (by omega) rfl
    rw [cnt_zero n (fun _ _ => rfl)] at this
    have e : (fun j => decide (j = 0) && L j) = fun j => false || decide (j = 0) := by
      funext j
      by_cases e : j = 0
      · subst e; rw [L0]; simp
      · simp [e]
    rw [e, this]
    simp

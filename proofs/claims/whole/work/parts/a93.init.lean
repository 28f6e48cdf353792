/-! The law from its entry to its loop. -/
theorem mm_1 (S' : jS) : jnw (mm 0 S') (2, 0, 1, jno) (fun _ => 0) = mm 1 (fun q => if q = 1258 then fun _ => 0 else S' q) := by
  refine Prod.ext rfl (Prod.ext rfl (Prod.ext (funext fun q => ?_) rfl))
  show (if q = 1258 then ((2, 0, 1, jno) : jK) else LAY q) = LAY q
  by_cases h : q = 1258
  · rw [if_pos h, h]; exact L_out.symm
  · rw [if_neg h]
theorem lI_first {L2 : Nat → jK} {S2 S' : jS} (hl : ∀ q, q < 1258 → L2 q = (dCel q).1 ∧ S2 q = (dCel q).2 ∧ lyb (L2 q) (LAY q) (S2 q) = true)
    (g1 : ∀ r j, r < RB → S' r j = S2 r j) (g2 : ∀ r j, (r = RB + 1 ∨ RB + 11 < r) → S' r j = S2 r j) (g3 : ∀ k, (k < 6 ∨ 13 < k) → k ≠ 16 → (k < 22 ∨ 24 < k) → (k < 27 ∨ 31 < k) → k ≠ 33 → k ≠ 50 → S' RB k = S2 RB k) (r : rC S' gF0 (aBegin gF0)) (h31 : S' RB 31 = 0) (h50 : S' RB 50 = -1) : lI S' := by
  have rv := RB_v
  obtain ⟨k1, k2, k3, k4, ⟨k5, k6, k7⟩, k8, k9⟩ := k_first (S := S') (fun r j hr => by rw [g1 r j hr, (hl r (by omega)).2.1])
  have rb : ∀ k v, (dCel RB).2 k = v → S2 RB k = v := fun k v hv => by rw [(hl RB (by omega)).2.1]; exact hv
  refine ⟨2, gF0, aBegin gF0, af0, -1, 0, fun _ => 0, 0, fun _ => 0, ⟨k1, r⟩, ⟨by omega, k5, ?_⟩, fun j hj => ⟨?_, ?_, Int.le_refl 0, (by decide : (0 : Int) ≤ 255)⟩, ⟨k3, k2⟩, ⟨k4 0 _, h50, fun h => absurd rfl h, fun k hk => by omega, fun j hj => by omega⟩, ⟨by rw [k9, h31], ?_, ?_⟩, fun j hj => by rw [r.1]; exact wf_F0.2.2.2 j hj⟩
  · rw [g3 2 (by omega) (by omega) (by omega) (by omega) (by omega) (by omega)]; exact rb 2 0 rfl
  · rw [k8]; rfl
  · rw [g2 _ _ (by omega), (hl (RB + 1) (by omega)).2.1]; rfl
  · rw [k6, g3 14 (by omega) (by omega) (by omega) (by omega) (by omega) (by omega)]; exact (rb 14 0 rfl).symm
  · rw [k7, g3 15 (by omega) (by omega) (by omega) (by omega) (by omega) (by omega)]; exact (rb 15 (-1) rfl).symm
section
variable {G : jG} {a L : Nat} {xs : Nat → Int32}
set_option maxHeartbeats 1000000 in
set_option maxRecDepth 100000 in
theorem l_init (hl : G.1.stackTraces = false) (hL : L ≤ 3584) (L0 : Nat → jK) (S0 : jS) : zJ G mL_law 601024 7293034 (lP G.2.2.1 a L xs) lQ 0 0 0 [] [] (0, 0, L0, S0) := by
  refine xJw kLw lH (fun pc => pc == 23) 40 (by omega) (by omega) ?_
  simp -implicitDefEqProofs only [Nat.reduceAdd, Nat.reduceMul, Nat.reduceEqDiff, Nat.reduceBEq, Nat.reduceLT, Nat.reduceLeDiff, Int.reduceToNat, Int.reduceLE, Int.reduceLT, Int.reduceNeg, Int.reduceAdd, Int.reduceMul, Bool.or_false, Bool.or_true, Bool.true_or, Bool.false_or, jwq_s, jwp_sn, jwp_sc, jwp_0, jsum, jwx_s, ↓jol_c, ↓jo1_c, ↓jo2_c, ↓jo3_c, Bool.false_eq_true, beq_iff_eq, jst, jins_c, jins_n, jdrop_c, jdrop_n, jargs, jtg, jtag, jcnd, true_and, and_true, false_or, or_false, true_or, or_true, forall_const, ↓reduceIte, Option.toList, List.cons_append, List.nil_append, false_and, and_false, reduceCtorEq, false_imp_iff, forall_eq, true_imp_iff, joc_c, List.drop_succ_cons, List.drop_zero, List.take_succ_cons, List.take_zero, List.reverse_cons, List.reverse_nil, List.length_cons, List.length_nil, Int.reduceEq, not_true_eq_false, not_false_eq_true, Int.toNat_natCast, Int.natCast_nonneg, ne21, ne01, xwx_s, xwp_sn, xwp_sc, xwp_0, xoi_c, joc_c, zcs, jnw_e, jset_e, jobj_e, jarr_e, jno_e, jfd_e, zl1, zl2, zl3, zl4, Nat.add_assoc, if_true, if_false, jL32_0, jL32_1, jL32_2, jL32_3, jL32_4, jL32_5, jL32_6, jL32_7, jL32_8, jL32_9, jL32_10, jL32_11, jL32_12, jL32_13, jL32_14, jL32_15, jL32_16, jL32_17, jL32_18, jL32_19, jL32_20, jL32_21, jL32_22, jL32_23, jL32_24, jL32_25, jL32_26, jL32_27, jL32_28, jL32_29, jL32_30, jL32_31, jL32_32, jL32_33, jL32_34, jL32_35, jL32_36, jL32_37, jL32_38, jL32_39, jL32_57, jL32_60, jL32_97, jL32_122, jL32_255, jLm32_1, jLm32_2, jLm32_3, jLm32_1000, jL64_0, jL64_1, zne_10, zne_00, zne_01, zne_11, false_imp_iff, true_imp_iff, fLw_0, fLw_3, fLw_4, fLw_7, fLw_8, fLw_11, fLw_12, fLw_15, fLw_16, fLw_17, fLw_19, fLw_20, fLw_21, jtm_0, jtm_155, ↓xo_0, ↓jo_0, ↓xo_2, ↓jo_2, ↓xo_32, ↓jo_32, ↓xo_50, ↓xo_51, ↓xo_53]
  refine i_class (u := 0) (ri_all G) (if_pos rfl) (if_pos rfl) fun L1 S1 b1 => ⟨rfl, ?_⟩
  have b1' : bk 0 1237 (dAll 0) (fun q => if q = 0 then (0, 11, 0, jno) else L0 q) (fun q => if q = 0 then jdf 11 else S0 q) (fun q => if q = 1237 then (0, 12, 0, jno) else L1 q) (fun q => if q = 1237 then jdf 12 else S1 q) := ⟨fun q hq => absurd hq (by omega), fun j hj => by
    dsimp only
    rw [if_neg (by omega), if_neg (by omega)]
    exact b1.2 j hj⟩
  show iC G mX12_init 20 16329 (1237 + 1, 1237 + 1, (fun q => if q = 1237 then (0, 12, 0, jno) else L1 q), (fun q => if q = 1237 then jdf 12 else S1 q)) [(2, ((1237 : Nat) : Int))] _
  refine i_refA (u := 1237) (if_pos rfl) (if_pos rfl) fun L2 S2 b2 => ?_
  have hla := lay_all b1' b2
  refine i_refB (wh_all G) hla fun S' g1 g2 g3 r h31 h50 _ => ⟨rfl, ?_⟩
  rw [mm_1]
  have I := lI_first hla g1 g2 g3 r h31 h50
  obtain ⟨u, W, T, af, n, e, R, t, tp, h⟩ := I
  exact l_loop hl hL (L + 1) 0 1 1259 33807 _ (by omega) (by omega) (by omega) (by omega) (Nat.le_refl _) ⟨u, W, T, af, n, e, R, t, tp, lJ_o h fun q j hq => by rw [if_neg hq]⟩
end
/-- from the entry, for every script of at most 3584 ints, the law comes to its end with true -/
theorem whole_start {p : Program} {e : Env} {s : State} {m : MethodId} {below : List Frame} {meth : Method} {c : Code} (l : Launch) (hflags : l.flags = flags0) {b L : Nat} {xs : Nat → Int32} (hL : L ≤ 3584) (C0 : lw_At p s m meth c b L xs) : W p l e room_1 s m #[Value.ref b] below meth c s.heap [] 0 0 (lw_Z below #[Value.ref b] s) (entryFrame m ([Value.ref b] : List Value).toArray 7) := by
  obtain ⟨hx, hb, hr, hml, hown, hts, hX, hbl, hlocks, hgv⟩ := id C0
  have htj : ∀ w ∈ jtbl, w.before #[Value.ref b] s = true := fun w h => hts w (List.mem_filter.mp h).1
  have hA := st_A hts
  obtain ⟨D, ac, hK⟩ := st_K htj hA
  have hZ := st_Z hts (flat_of_before _ hgv)
  have hN := st_N hts
  have hW : nW s := st_X hts
  have hl := lv_entry ([.ref b] : List Value) (n := 7) (Nat.le_of_ble_eq_true rfl)
  rw [lg_entry_eq]
  have htr : l.stackTraces = false := by
    unfold Launch.stackTraces
    rw [hflags]
    decide +kernel
  exact l_init (G := (l, D, s.heap.size, ac)) htr hL (fun _ => (0, 0, 0, jno)) (fun _ _ => 0) p e s m #[Value.ref b] below meth c s.heap [] _ ⟨hx, hb, hml, hown, htj, hr, hlocks, Nat.le_refl _, ⟨hN, hZ⟩, hK⟩ ⟨⟨hA, hW⟩, hX, hbl, rfl, rfl, hL⟩ ⟨rfl, Nat.le_refl _, fun k q h => by simp [jw] at h⟩ va_S.rf hl

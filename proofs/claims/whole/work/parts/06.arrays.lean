/-! Rows of jJ: arrays. -/
theorem jidx {x : Int} {n : Nat} (h0 : 0 ≤ x) (h1 : x < (n : Int)) (hn : n ≤ 2147483647) : (Int32.ofInt x).toInt = x ∧ (Int32.ofInt x).toNatClampNeg = x.toNat ∧ vp_in (Int32.ofInt x) n := by
  have e : (Int32.ofInt x).toInt = x := jI32_to ⟨by omega, by omega⟩
  have e2 : (Int32.ofInt x).toNatClampNeg = x.toNat := by
    show (Int32.ofInt x).toInt.toNat = _
    rw [e]
  refine ⟨e, e2, ?_⟩
  intro q
  rcases q with q | q
  · rw [Int32.lt_iff_toInt_lt, e] at q
    have : (0 : Int32).toInt = 0 := rfl
    omega
  · rw [e2] at q
    omega
theorem jbyte {y : Int} (h : -128 ≤ y ∧ y ≤ 127) : (Int32.ofInt y).toInt8.toInt32 = Int32.ofInt y := by
  apply Int32.toInt_inj.mp
  have e : (Int32.ofInt y).toInt = y := jI32_to ⟨by omega, by omega⟩
  rw [Int8.toInt_toInt32, Int32.toInt_toInt8, e]
  exact Int.bmod_eq_of_le (by omega) (by omega)
section ROWS
variable {G : jG} {i : jI} {mc ms : Nat} {P : Option jV → jM → Prop} {c0 s0 pc : Nat} {lv : List (Nat × jV)} {st : List jV} {M : jM}
theorem jr_iald {q x : Int} (hd : decode i.2.1 pc = .ok (.iaload, 1)) (h0 : 0 ≤ q) (hN : q.toNat < M.2.1) (hL : (M.2.2.1 q.toNat).1 = 1) (hx : 0 ≤ x) (hx2 : x < ((M.2.2.1 q.toNat).2.2.1 : Int)) (hn : (M.2.2.1 q.toNat).2.2.1 ≤ 2147483647) (kk : jJ G i mc ms P c0 s0 (pc + 1) lv ((0, M.2.2.2 q.toNat x.toNat) :: st) M) : jJ G i mc ms P c0 s0 pc lv ((0, x) :: (2, q) :: st) M := by
  intro p e s m args below meth c H locs ls X hh hS hl
  have K := kk p e s m args below meth c H locs ls X hh hS hl
  rw [List.map_cons, List.map_cons, jv_ref _ h0, jv_0]
  have hg := jw_get (b := G.2.2.1) (ac := G.2.2.2) (L := M.2.2.1) (S := M.2.2.2) hN
  rw [jc_1 hL] at hg
  obtain ⟨-, e2, hin⟩ := jidx hx hx2 hn
  refine va_iald X.1 X.2.1 X.2.2.2.2.2.2.2.2.2 hh.2.2 q.toNat 0 hg rfl hin hd ?_
  rw [e2]
  exact K
theorem jr_lald {q x : Int} (hd : decode i.2.1 pc = .ok (.laload, 1)) (h0 : 0 ≤ q) (hN : q.toNat < M.2.1) (hL : (M.2.2.1 q.toNat).1 = 2) (hx : 0 ≤ x) (hx2 : x < ((M.2.2.1 q.toNat).2.2.1 : Int)) (hn : (M.2.2.1 q.toNat).2.2.1 ≤ 2147483647) (kk : jJ G i mc ms P c0 s0 (pc + 1) lv ((1, M.2.2.2 q.toNat x.toNat) :: st) M) : jJ G i mc ms P c0 s0 pc lv ((0, x) :: (2, q) :: st) M := by
  intro p e s m args below meth c H locs ls X hh hS hl
  have K := kk p e s m args below meth c H locs ls X hh hS hl
  rw [List.map_cons, List.map_cons, jv_ref _ h0, jv_0]
  have hg := jw_get (b := G.2.2.1) (ac := G.2.2.2) (L := M.2.2.1) (S := M.2.2.2) hN
  rw [jc_2 hL] at hg
  obtain ⟨-, e2, hin⟩ := jidx hx hx2 hn
  refine va_lald X.1 X.2.1 X.2.2.2.2.2.2.2.2.2 hh.2.2 q.toNat 1 hg rfl hin hd ?_
  rw [e2]
  exact K
theorem jr_bald {q x : Int} (hd : decode i.2.1 pc = .ok (.baload, 1)) (h0 : 0 ≤ q) (hN : q.toNat < M.2.1) (hL : (M.2.2.1 q.toNat).1 = 3) (hx : 0 ≤ x) (hx2 : x < ((M.2.2.1 q.toNat).2.2.1 : Int)) (hn : (M.2.2.1 q.toNat).2.2.1 ≤ 2147483647) (kk : jJ G i mc ms P c0 s0 (pc + 1) lv ((0, M.2.2.2 q.toNat x.toNat) :: st) M) : jJ G i mc ms P c0 s0 pc lv ((0, x) :: (2, q) :: st) M := by
  intro p e s m args below meth c H locs ls X hh hS hl
  have K := kk p e s m args below meth c H locs ls X hh hS hl
  rw [List.map_cons, List.map_cons, jv_ref _ h0, jv_0]
  have hg := jw_get (b := G.2.2.1) (ac := G.2.2.2) (L := M.2.2.1) (S := M.2.2.2) hN
  rw [jc_3 hL] at hg
  obtain ⟨-, e2, hin⟩ := jidx hx hx2 hn
  refine va_bald X.1 X.2.1 X.2.2.2.2.2.2.2.2.2 hh.2.2 q.toNat 2 hg rfl hin hd ?_
  rw [e2]
  exact K
theorem jr_zald {q x : Int} (hd : decode i.2.1 pc = .ok (.baload, 1)) (h0 : 0 ≤ q) (hN : q.toNat < M.2.1) (hL : (M.2.2.1 q.toNat).1 = 4) (hx : 0 ≤ x) (hx2 : x < ((M.2.2.1 q.toNat).2.2.1 : Int)) (hn : (M.2.2.1 q.toNat).2.2.1 ≤ 2147483647) (kk : jJ G i mc ms P c0 s0 (pc + 1) lv ((0, M.2.2.2 q.toNat x.toNat) :: st) M) : jJ G i mc ms P c0 s0 pc lv ((0, x) :: (2, q) :: st) M := by
  intro p e s m args below meth c H locs ls X hh hS hl
  have K := kk p e s m args below meth c H locs ls X hh hS hl
  rw [List.map_cons, List.map_cons, jv_ref _ h0, jv_0]
  have hg := jw_get (b := G.2.2.1) (ac := G.2.2.2) (L := M.2.2.1) (S := M.2.2.2) hN
  rw [jc_4 hL] at hg
  obtain ⟨-, e2, hin⟩ := jidx hx hx2 hn
  refine va_zald X.1 X.2.1 X.2.2.2.2.2.2.2.2.2 hh.2.2 q.toNat 3 hg rfl hin hd ?_
  rw [e2]
  exact K
/-- an array of references: what stands there -/
def jaq (kd : jK) (j : Nat) (x : Int) : Int := match kd.2.2.2 j with
  | some r => (r : Int)
  | none => x
theorem jaq_v (b : Nat) (kd : jK) (f : Nat → Int) (j : Nat) : jv b (2, jaq kd j (f j)) = va_rf (jarq b kd.2.2.2 f j) := by
  unfold jaq jarq
  cases kd.2.2.2 j with
  | some r => exact (jv_ref _ (Int.natCast_nonneg r)).trans (by rw [Int.toNat_natCast]; rfl)
  | none => rfl
theorem jr_aald {q x : Int} {n : Nat} {C : String} (hC : (jtys G.2.2.2)[n + 4]? = some (G.2.2.2 (n + 4), .object C)) (hd : decode i.2.1 pc = .ok (.aaload, 1)) (h0 : 0 ≤ q) (hN : q.toNat < M.2.1) (hL : (M.2.2.1 q.toNat).1 = n + 5) (hx : 0 ≤ x) (hx2 : x < ((M.2.2.1 q.toNat).2.2.1 : Int)) (hn : (M.2.2.1 q.toNat).2.2.1 ≤ 2147483647) (kk : jJ G i mc ms P c0 s0 (pc + 1) lv ((2, jaq (M.2.2.1 q.toNat) x.toNat (M.2.2.2 q.toNat x.toNat)) :: st) M) : jJ G i mc ms P c0 s0 pc lv ((0, x) :: (2, q) :: st) M := by
  intro p e s m args below meth c H locs ls X hh hS hl
  have K := kk p e s m args below meth c H locs ls X hh hS hl
  rw [List.map_cons, List.map_cons, jv_ref _ h0, jv_0]
  have hg := jw_get (b := G.2.2.1) (ac := G.2.2.2) (L := M.2.2.1) (S := M.2.2.2) hN
  rw [jc_5 hL] at hg
  obtain ⟨-, e2, hin⟩ := jidx hx hx2 hn
  refine va_aldq X.1 X.2.1 X.2.2.2.2.2.2.2.2.2 hh.2.2 q.toNat (n + 4) hg hC hin hd ?_
  rw [e2]
  rw [List.map_cons, jaq_v] at K
  exact K
theorem jr_alen {q : Int} (hd : decode i.2.1 pc = .ok (.arraylength, 1)) (h0 : 0 ≤ q) (hN : q.toNat < M.2.1) (hL : (M.2.2.1 q.toNat).1 = 1 ∨ (M.2.2.1 q.toNat).1 = 3) (kk : jJ G i mc ms P c0 s0 (pc + 1) lv ((0, ((M.2.2.1 q.toNat).2.2.1 : Int)) :: st) M) : jJ G i mc ms P c0 s0 pc lv ((2, q) :: st) M := by
  intro p e s m args below meth c H locs ls X hh hS hl
  have K := kk p e s m args below meth c H locs ls X hh hS hl
  rw [List.map_cons, jv_ref _ h0]
  have hg := jw_get (b := G.2.2.1) (ac := G.2.2.2) (L := M.2.2.1) (S := M.2.2.2) hN
  rw [List.map_cons, jv_0] at K
  rcases hL with hL | hL
  · rw [jc_1 hL] at hg
    exact va_alen X.1 X.2.1 X.2.2.2.2.2.2.2.2.2 hh.2.2 q.toNat 0 hg rfl (Int32.ofInt_eq_ofNat.symm) hd K
  · rw [jc_3 hL] at hg
    exact va_alen X.1 X.2.1 X.2.2.2.2.2.2.2.2.2 hh.2.2 q.toNat 2 hg rfl (Int32.ofInt_eq_ofNat.symm) hd K
theorem jr_iast {q x y : Int} (hd : decode i.2.1 pc = .ok (.iastore, 1)) (h0 : 0 ≤ q) (hN : q.toNat < M.2.1) (hL : (M.2.2.1 q.toNat).1 = 1) (hx : 0 ≤ x) (hx2 : x < ((M.2.2.1 q.toNat).2.2.1 : Int)) (hn : (M.2.2.1 q.toNat).2.2.1 ≤ 2147483647) (kk : jJ G i mc ms P c0 s0 (pc + 1) lv st (M.1, M.2.1, M.2.2.1, ju M.2.2.2 q.toNat x.toNat y)) : jJ G i mc ms P c0 s0 pc lv ((0, y) :: (0, x) :: (2, q) :: st) M := by
  intro p e s m args below meth c H locs ls X hh hS hl
  rw [List.map_cons, List.map_cons, List.map_cons, jv_ref _ h0, jv_0, jv_0]
  have hD := jw_D G.2.2.1 G.2.2.2 M.2.1 M.2.2.1 M.2.2.2
  have hg := jw_get (b := G.2.2.1) (ac := G.2.2.2) (L := M.2.2.1) (S := M.2.2.2) hN
  rw [jc_1 hL] at hg
  obtain ⟨-, e2, hin⟩ := jidx hx hx2 hn
  refine W.iast X.1 X.2.1 (hh.2.2 q.toNat _ hg) ((X.2.2.2.2.2.2.2.2.2.2 0 _ rfl).1 _ (fun j => .int (Int32.ofInt (M.2.2.2 q.toNat j)))) (fun z => by cases z) (by show ¬ (_ ∨ (arrV _ _ _).slots.size ≤ _); rw [arrV_size]; exact hin) rfl rfl hd fun H1 e1 z oq => ?_
  have hP1 := hh.2.2.set hD hg (e := jc G.2.2.1 G.2.2.2 (M.2.2.1 q.toNat) (fun j => if j = x.toNat then y else M.2.2.2 q.toNat j)) (H1 := H1) (by
    rw [jc_1 hL]
    show H1[_]? = some (vp_cell _ _)
    rw [e1]
    rw [vp_cell_i, vp_cell_i, arrV_store]
    congr 2
    funext j
    rw [e2]
    by_cases hj : j = x.toNat <;> simp [updV, hj]) oq
  refine kk p e s m args below meth c H1 _ ls X ⟨by rw [← hh.1]; exact z, hh.2.1, ?_⟩ (hS.put z oq (Nat.le_add_right _ _)) hl
  rw [jw_set] at hP1
  show va_P _ _ (jw _ _ _ _ (ju _ _ _ _)) _
  rw [ju_row]
  exact hP1
theorem jr_last {q x y : Int} (hd : decode i.2.1 pc = .ok (.lastore, 1)) (h0 : 0 ≤ q) (hN : q.toNat < M.2.1) (hL : (M.2.2.1 q.toNat).1 = 2) (hx : 0 ≤ x) (hx2 : x < ((M.2.2.1 q.toNat).2.2.1 : Int)) (hn : (M.2.2.1 q.toNat).2.2.1 ≤ 2147483647) (kk : jJ G i mc ms P c0 s0 (pc + 1) lv st (M.1, M.2.1, M.2.2.1, ju M.2.2.2 q.toNat x.toNat y)) : jJ G i mc ms P c0 s0 pc lv ((1, y) :: (0, x) :: (2, q) :: st) M := by
  intro p e s m args below meth c H locs ls X hh hS hl
  rw [List.map_cons, List.map_cons, List.map_cons, jv_ref _ h0, jv_0, jv_1]
  have hD := jw_D G.2.2.1 G.2.2.2 M.2.1 M.2.2.1 M.2.2.2
  have hg := jw_get (b := G.2.2.1) (ac := G.2.2.2) (L := M.2.2.1) (S := M.2.2.2) hN
  rw [jc_2 hL] at hg
  obtain ⟨-, e2, hin⟩ := jidx hx hx2 hn
  refine W.last X.1 X.2.1 (hh.2.2 q.toNat _ hg) ((X.2.2.2.2.2.2.2.2.2.2 1 _ rfl).1 _ (fun j => .long (Int64.ofInt (M.2.2.2 q.toNat j)))) (fun z => by cases z) (by show ¬ (_ ∨ (arrV _ _ _).slots.size ≤ _); rw [arrV_size]; exact hin) rfl rfl hd fun H1 e1 z oq => ?_
  have hP1 := hh.2.2.set hD hg (e := jc G.2.2.1 G.2.2.2 (M.2.2.1 q.toNat) (fun j => if j = x.toNat then y else M.2.2.2 q.toNat j)) (H1 := H1) (by
    rw [jc_2 hL]
    show H1[_]? = some (vp_cell _ _)
    rw [e1]
    rw [vp_cell_l, vp_cell_l, arrV_store]
    congr 2
    funext j
    rw [e2]
    by_cases hj : j = x.toNat <;> simp [updV, hj]) oq
  refine kk p e s m args below meth c H1 _ ls X ⟨by rw [← hh.1]; exact z, hh.2.1, ?_⟩ (hS.put z oq (Nat.le_add_right _ _)) hl
  rw [jw_set] at hP1
  show va_P _ _ (jw _ _ _ _ (ju _ _ _ _)) _
  rw [ju_row]
  exact hP1
theorem jr_bast {q x y : Int} (hd : decode i.2.1 pc = .ok (.bastore, 1)) (h0 : 0 ≤ q) (hN : q.toNat < M.2.1) (hL : (M.2.2.1 q.toNat).1 = 3) (hx : 0 ≤ x) (hx2 : x < ((M.2.2.1 q.toNat).2.2.1 : Int)) (hn : (M.2.2.1 q.toNat).2.2.1 ≤ 2147483647) (hb8 : -128 ≤ y ∧ y ≤ 127) (kk : jJ G i mc ms P c0 s0 (pc + 1) lv st (M.1, M.2.1, M.2.2.1, ju M.2.2.2 q.toNat x.toNat y)) : jJ G i mc ms P c0 s0 pc lv ((0, y) :: (0, x) :: (2, q) :: st) M := by
  intro p e s m args below meth c H locs ls X hh hS hl
  rw [List.map_cons, List.map_cons, List.map_cons, jv_ref _ h0, jv_0, jv_0]
  have hD := jw_D G.2.2.1 G.2.2.2 M.2.1 M.2.2.1 M.2.2.2
  have hg := jw_get (b := G.2.2.1) (ac := G.2.2.2) (L := M.2.2.1) (S := M.2.2.2) hN
  rw [jc_3 hL] at hg
  obtain ⟨-, e2, hin⟩ := jidx hx hx2 hn
  refine W.bast X.1 X.2.1 (hh.2.2 q.toNat _ hg) ((X.2.2.2.2.2.2.2.2.2.2 2 _ rfl).1 _ (fun j => .int (Int32.ofInt (M.2.2.2 q.toNat j)))) (fun z => by cases z) (by show ¬ (_ ∨ (arrV _ _ _).slots.size ≤ _); rw [arrV_size]; exact hin) rfl rfl hd fun H1 e1 z oq => ?_
  have hP1 := hh.2.2.set hD hg (e := jc G.2.2.1 G.2.2.2 (M.2.2.1 q.toNat) (fun j => if j = x.toNat then y else M.2.2.2 q.toNat j)) (H1 := H1) (by
    rw [jc_3 hL]
    show H1[_]? = some (vp_cell _ _)
    rw [e1]
    rw [vp_cell_i, vp_cell_i, arrV_store]
    congr 2
    funext j
    rw [e2]
    by_cases hj : j = x.toNat
    · subst hj
      simp only [updV, if_pos]
      exact congrArg Value.int (jbyte hb8)
    · simp [updV, hj]) oq
  refine kk p e s m args below meth c H1 _ ls X ⟨by rw [← hh.1]; exact z, hh.2.1, ?_⟩ (hS.put z oq (Nat.le_add_right _ _)) hl
  rw [jw_set] at hP1
  show va_P _ _ (jw _ _ _ _ (ju _ _ _ _)) _
  rw [ju_row]
  exact hP1
theorem jr_zast {q x y : Int} (hd : decode i.2.1 pc = .ok (.bastore, 1)) (h0 : 0 ≤ q) (hN : q.toNat < M.2.1) (hL : (M.2.2.1 q.toNat).1 = 4) (hx : 0 ≤ x) (hx2 : x < ((M.2.2.1 q.toNat).2.2.1 : Int)) (hn : (M.2.2.1 q.toNat).2.2.1 ≤ 2147483647) (hz : y = 0 ∨ y = 1) (kk : jJ G i mc ms P c0 s0 (pc + 1) lv st (M.1, M.2.1, M.2.2.1, ju M.2.2.2 q.toNat x.toNat y)) : jJ G i mc ms P c0 s0 pc lv ((0, y) :: (0, x) :: (2, q) :: st) M := by
  intro p e s m args below meth c H locs ls X hh hS hl
  rw [List.map_cons, List.map_cons, List.map_cons, jv_ref _ h0, jv_0, jv_0]
  have hD := jw_D G.2.2.1 G.2.2.2 M.2.1 M.2.2.1 M.2.2.2
  have hg := jw_get (b := G.2.2.1) (ac := G.2.2.2) (L := M.2.2.1) (S := M.2.2.2) hN
  rw [jc_4 hL] at hg
  obtain ⟨-, e2, hin⟩ := jidx hx hx2 hn
  refine W.zast X.1 X.2.1 (hh.2.2 q.toNat _ hg) ((X.2.2.2.2.2.2.2.2.2.2 3 _ rfl).1 _ (fun j => .int (Int32.ofInt (M.2.2.2 q.toNat j)))) (fun z => by cases z) (by show ¬ (_ ∨ (arrV _ _ _).slots.size ≤ _); rw [arrV_size]; exact hin) rfl rfl hd fun H1 e1 z oq => ?_
  have hP1 := hh.2.2.set hD hg (e := jc G.2.2.1 G.2.2.2 (M.2.2.1 q.toNat) (fun j => if j = x.toNat then y else M.2.2.2 q.toNat j)) (H1 := H1) (by
    rw [jc_4 hL]
    show H1[_]? = some (vp_cell _ _)
    rw [e1]
    rw [vp_cell_i, vp_cell_i, arrV_store]
    congr 2
    funext j
    rw [e2]
    by_cases hj : j = x.toNat
    · subst hj
      rcases hz with rfl | rfl <;> simp only [updV, if_pos] <;> rfl
    · simp [updV, hj]) oq
  refine kk p e s m args below meth c H1 _ ls X ⟨by rw [← hh.1]; exact z, hh.2.1, ?_⟩ (hS.put z oq (Nat.le_add_right _ _)) hl
  rw [jw_set] at hP1
  show va_P _ _ (jw _ _ _ _ (ju _ _ _ _)) _
  rw [ju_row]
  exact hP1
theorem jr_aast {q x y : Int} {n ci : Nat} {r : vw_C} (hC : (jtys G.2.2.2)[n + 4]? = some (G.2.2.2 (n + 4), .object r.1)) (hr : vwCl[ci]? = some r) (hd : decode i.2.1 pc = .ok (.aastore, 1)) (h0 : 0 ≤ q) (hN : q.toNat < M.2.1) (hL : (M.2.2.1 q.toNat).1 = n + 5) (hx : 0 ≤ x) (hx2 : x < ((M.2.2.1 q.toNat).2.2.1 : Int)) (hn : (M.2.2.1 q.toNat).2.2.1 ≤ 2147483647) (hs : (M.2.2.1 q.toNat).2.2.2 x.toNat = none) (hy0 : 0 ≤ y) (hyN : y.toNat < M.2.1) (hyL : (M.2.2.1 y.toNat).1 = 0) (hyc : (M.2.2.1 y.toNat).2.1 = ci) (kk : jJ G i mc ms P c0 s0 (pc + 1) lv st (M.1, M.2.1, M.2.2.1, ju M.2.2.2 q.toNat x.toNat y)) : jJ G i mc ms P c0 s0 pc lv ((2, y) :: (0, x) :: (2, q) :: st) M := by
  intro p e s m args below meth c H locs ls X hh hS hl
  rw [List.map_cons, List.map_cons, List.map_cons, jv_ref _ h0, jv_0, jv_ref _ hy0]
  have hD := jw_D G.2.2.1 G.2.2.2 M.2.1 M.2.2.1 M.2.2.2
  have hg := jw_get (b := G.2.2.1) (ac := G.2.2.2) (L := M.2.2.1) (S := M.2.2.2) hN
  rw [jc_5 hL] at hg
  have hg2 := jw_get (b := G.2.2.1) (ac := G.2.2.2) (L := M.2.2.1) (S := M.2.2.2) hyN
  rw [jc_0 hyL, hyc] at hg2
  obtain ⟨e0, e2, hin⟩ := jidx hx hx2 hn
  have hK := X.2.2.2.2.2.2.2.2.2
  obtain ⟨r', hr', cellV, g1, g2, g3, -⟩ := hh.2.2 y.toNat _ hg2
  have hcls := (hK.1 ci r hr).2
  obtain ⟨kA, comp, k1, k2, k3, -⟩ := (hK.2 (n + 4) _ hC).2
  have hcomp : comp = G.2.1.1 ci := Option.some.inj (k3.symm.trans hcls.1)
  subst hcomp
  obtain ⟨kC, hkC, -⟩ := hcls.2
  have hneg : ¬ Int32.ofInt x < 0 := fun z => hin (Or.inl z)
  have hlt : (Int32.ofInt x).toNatClampNeg < (M.2.2.1 q.toNat).2.2.1 := Nat.not_le.mp fun z => hin (Or.inr z)
  refine W.aast X.1 X.2.1 (hh.2.2 q.toNat _ hg) (fun z h => by cases h) (fun h => by cases h) k1 k2 rfl hkC ⟨hneg, by show _ < (arrV _ _ _).slots.size; rw [arrV_size]; exact hlt⟩ g1 (fun z h => by rw [g3] at h; cases h) (by rw [g2]; exact hkC) (by rw [g2]; exact va_assign hcls) rfl rfl hd fun H1 e1 z oq => ?_
  have hP1 := hh.2.2.set hD hg (e := jc G.2.2.1 G.2.2.2 (M.2.2.1 q.toNat) (fun j => if j = x.toNat then y else M.2.2.2 q.toNat j)) (H1 := H1) (by
    rw [jc_5 hL]
    show H1[_]? = some (vp_cell _ _)
    rw [e1]
    rw [vp_cell_q, vp_cell_q, arrV_store]
    congr 2
    funext j
    rw [e2]
    by_cases hj : j = x.toNat
    · subst hj
      simp only [updV, if_pos, jarq, hs, jr_nat _ hy0]
      rfl
    · simp [updV, hj, jarq]) oq
  refine kk p e s m args below meth c H1 _ ls X ⟨by rw [← hh.1]; exact z, hh.2.1, ?_⟩ (hS.put z oq (Nat.le_add_right _ _)) hl
  rw [jw_set] at hP1
  show va_P _ _ (jw _ _ _ _ (ju _ _ _ _)) _
  rw [ju_row]
  exact hP1
theorem jr_lxor {x y : Int} (hd : decode i.2.1 pc = .ok (.lxor, 1)) (k : jJ G i mc ms P c0 s0 (pc + 1) lv ((1, (Int64.ofInt x ^^^ Int64.ofInt y).toInt) :: st) M) : jJ G i mc ms P c0 s0 pc lv ((1, y) :: (1, x) :: st) M := by
  intro p e s m args below meth c H locs ls X hh hS hl
  have K := k p e s m args below meth c H locs ls X hh hS hl
  rw [List.map_cons, jv_1, Int64.ofInt_toInt] at K
  exact lv_lxor X.1 X.2.1 hd K
end ROWS

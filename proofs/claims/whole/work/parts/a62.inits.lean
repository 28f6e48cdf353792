/-! Constructors: calls of them, final fields. -/
section
variable {G : jG} {i : jI} {mc ms : Nat} {Φ : zP} {Q : zQ} {c0 s0 pc : Nat} {lv : List (Nat × jV)} {st : List jV} {M : jM}
theorem zr_obj {index : Nat} {q : Int} (hlink : Cond.methodLink i.1.cls index objectInit ∈ jtbl) (hinst : Cond.instanceMethod objectInit ∈ jtbl) (hcode : Cond.code objectInit ⟨#[0xb1]⟩ 1 none ∈ jtbl) (hd : decode i.2.1 pc = .ok (.invokespecial index, 3)) (h0 : 0 ≤ q) (h8 : jsum st ≤ 8) (hfr : 1 ≤ i.2.2.2.2.1) (hlo : 20 ≤ i.2.2.2.2.2)
    (k : zJ G i mc ms Φ Q c0 s0 (pc + 3) lv st M) : zJ G i mc ms Φ Q c0 s0 pc lv ((2, q) :: st) M := by
  intro p e s m args below meth c H locs ls X F hh hS hl
  have hts := X.2.2.2.2.1
  rw [List.map_cons, jv_ref _ h0]
  refine W.objInit X.1 X.2.1 X.2.2.2.1 (hts _ hlink) (hts _ hinst) (hts _ hcode) rfl (by rw [X.2.2.1]; exact hl.1) rfl hd hfr ?_ ?_
  · have := jsum_cat G.2.2.1 st
    show 2 * 0 + ((st.map (jv G.2.2.1)).map fun v => v.category).sum + 12 ≤ i.2.2.2.2.2
    omega
  · exact k p e s m args below meth c H locs ls X F hh hS hl
theorem iPre_blind {G : jG} {M : jM} {av : List jV} : FrameBlind (iPre G M av) := by
  intro a U g mk q
  obtain ⟨q0, qh, qN, qK, qA⟩ := q
  exact ⟨q0, qh, ⟨fun w hw => va_Nw.same (u := U) (U := U.calling g mk a) (jnest_t w hw) rfl (qN.1 w hw), qN.2.blind⟩, va_K.moved (u := U) (U := U.calling g mk a) (Vm.Alike.refl U.vm) qK, iA.moved (u := U) (U := U.calling g mk a) (Vm.Alike.refl U.vm) qA⟩
theorem zr_init {i' : jI} {q : Int} {as : List jV} {index mc' ms' : Nat} (hok : jcok i i' as.length) (hret : i'.2.2.2.1 = none) (hnm : i'.1.name = "<init>") (hlink : Cond.methodLink i.1.cls index i'.1 ∈ jtbl) (hinst : Cond.instanceMethod i'.1 ∈ jtbl) (hd : decode i.2.1 pc = .ok (.invokespecial index, 3))
    (h8 : jsum st ≤ 8) (h0 : 0 ≤ q) (hmc : c0 + mc' ≤ mc) (hms : s0 + ms' ≤ ms) (hΦ : ∀ p s m args meth c, Φ.1 p s m args meth c → iA s)
    (k : iC G i' mc' ms' M ((2, q) :: as) (fun M' => zJ G i mc ms Φ Q (c0 + mc') (s0 + ms') (pc + 3) lv st M')) : zJ G i mc ms Φ Q c0 s0 pc lv (as.reverse ++ (2, q) :: st) M := by
  intro p e s m args below meth c H locs ls X F hh hS hl
  obtain ⟨P0, hM, hP0⟩ := k
  have hts := X.2.2.2.2.1
  have hA := hΦ _ _ _ _ _ _ F
  have hk : ∀ r M', P0 r M' → zJ G i mc ms Φ Q (c0 + mc') (s0 + ms') (pc + 3) lv (r.toList ++ st) M' := fun r M' h => by
    obtain ⟨h1, h2⟩ := hP0 r M' h
    subst h1
    exact h2
  refine zrun hk X F hS hl (a := (Value.ref (G.2.2.1 + q.toNat) :: as.map (jv G.2.2.1)).toArray) ?_
  have hcw := cwI (y := i'.1) (bytes := i'.2.1) (maxL := i'.2.2.1) (own := i.1.cls) (index := index) (R := jRm i mc ms) (rm := jRm i' mc' ms') (mc := mc') (ms := ms') (ws := Cond.code i'.1 i'.2.1 i'.2.2.1 i'.2.2.2.1 :: jtbl) as.length hts (jgoodIn hok.1) (by rw [hret]) rfl rfl (hts _ hok.2.1) (hts _ hlink) (hts _ hinst) hnm hok.2.2.1 ⟨hok.2.2.2.1, hok.2.2.2.2⟩
  exact va_runI (As := as.map (jv G.2.2.1)) (n := as.length) (index := index) (b := G.2.2.1 + q.toNat) (rest := st.map (jv G.2.2.1)) ⟨X.1, X.2.1, X.2.2.1, X.2.2.2.1, hts⟩ hM hcw
    ⟨iPre_blind, fun U hU hW => ⟨by rw [List.map_cons, jv_ref _ h0], by rw [hU]; exact hh, X.2.2.2.2.2.2.2.2.1.go hS hU hW, va_K.moved hW.alike X.2.2.2.2.2.2.2.2.2, iA.moved hW.alike hA⟩⟩
    rfl (by simp) hl.1 (by rw [List.map_append, List.map_cons, jv_ref _ h0, List.map_reverse]) (lv_room (by rw [jsum_cat]; exact h8)) hd ⟨hmc, hms⟩
theorem zr_putF {ci k t index : Nat} {q x : Int} {r : vw_C} (hr : vwCl[ci]? = some r) (hc : jcls ci r) (ht : (jtf ci)[k]? = some t) (hfin : (r.2.1 k).2.2.2 = true) (hdecl : (r.2.1 k).1 = i.1.cls) (hw : Cond.fieldLink i.1.cls index (r.2.1 k).1 (r.2.1 k).2.1 (r.2.1 k).2.2.1 ∈ jtbl) (hd : decode i.2.1 pc = .ok (.putfield index, 3)) (hΦ : ∀ p s m args meth c, Φ.1 p s m args meth c → meth.name = "<init>")
    (h0 : 0 ≤ q) (hN : q.toNat < M.2.1) (hL : (M.2.2.1 q.toNat).1 = 0) (hci : (M.2.2.1 q.toNat).2.1 = ci) (hs : (M.2.2.1 q.toNat).2.2.2 k = none) (hz : t = 3 → x = 0 ∨ x = 1) (ht9 : t ≤ 3) (kk : zJ G i mc ms Φ Q c0 s0 (pc + 3) lv st (M.1, M.2.1, M.2.2.1, ju M.2.2.2 q.toNat k x)) : zJ G i mc ms Φ Q c0 s0 pc lv ((jtg t, x) :: (2, q) :: st) M := by
  intro p e s m args below meth c H locs ls X F hh hS hl
  rw [List.map_cons, List.map_cons, jv_ref _ h0]
  have hg := jw_get (b := G.2.2.1) (ac := G.2.2.2) (L := M.2.2.1) (S := M.2.2.2) hN
  rw [jc_0 hL, hci] at hg
  have hk : k < r.2.2 := by rw [← hc.2.2.2]; exact (List.getElem?_eq_some_iff.mp ht).1
  obtain ⟨ty0, hty⟩ := hc.2.1
  obtain ⟨hd9, ht0⟩ := hty k hk
  have htt : t = jtc (ty0 k) := Option.some.inj (ht.symm.trans ht0)
  have hnf : narrow (ty0 k) (jv G.2.2.1 (jtg t, x)) = jv G.2.2.1 (jtg t, x) ∧ fits (ty0 k) (jv G.2.2.1 (jtg t, x)) = true := by
    rw [htt]
    cases hy : ty0 k with
    | int => exact ⟨rfl, rfl⟩
    | long => exact ⟨rfl, rfl⟩
    | boolean =>
      rcases hz (by rw [htt, hy]; rfl) with rfl | rfl
      · exact ⟨rfl, rfl⟩
      · exact ⟨rfl, rfl⟩
    | object n =>
      have : jv G.2.2.1 (jtg (jtc (.object n)), x) = va_rf (jr G.2.2.1 x) := rfl
      rw [this]
      unfold jr
      split <;> exact ⟨rfl, rfl⟩
    | array n =>
      have : jv G.2.2.1 (jtg (jtc (.array n)), x) = va_rf (jr G.2.2.1 x) := rfl
      rw [this]
      unfold jr
      split <;> exact ⟨rfl, rfl⟩
    | _ => rw [htt, hy] at ht9; exact absurd ht9 (by decide)
  have hD := jw_D G.2.2.1 G.2.2.2 M.2.1 M.2.2.1 M.2.2.2
  have hts := X.2.2.2.2.1
  have hown := X.2.2.2.1
  have hap := va_apart (own := i.1.cls) hts hc.1 ty0 (fun k h => (hty k h).1) hc.2.2.1 X.2.2.2.2.2.2.2.2.2 hr
  obtain ⟨r', h1, cell, q1, q2, q3, q4⟩ := hh.2.2 q.toNat _ hg
  have hr' : r' = r := Option.some.inj (h1.symm.trans hr)
  subst hr'
  obtain ⟨hSl, hfc, kC, hkC, hkind⟩ := X.2.2.2.2.2.2.2.2.2.1 ci _ hr
  obtain ⟨cf, kf, fi, f, hi, hsl⟩ := hSl k hk
  have hlay := hts _ (hc.1 _ (u_in_lay hk))
  unfold u_lay at hlay
  rw [if_pos hfin] at hlay
  have hst := (u_facts hfc hkC (u_lays hts hc.1 hk) hi).1
  have hcf : m.cls = cf := by
    obtain ⟨_, _, c', _, _, _, -, -, hf', -, -, -, hown2, -⟩ := Cond.laysFinal_spec hlay
    have e1 : c' = cf := by have := hi.symm.trans hf'; simp at this; exact this.1.symm
    rw [hdecl] at hown2
    rw [← e1]; exact Option.some.inj (hown.symm.trans hown2)
  have h6 := u_fits hfc hkC hkind (Or.inr hlay) hi hd9 hnf.1 hnf.2
  refine W.putFinK X.1 X.2.1 hown (hts _ hw) hi hst hcf (hΦ _ _ _ _ _ _ F) (by rw [q2]; exact h6) q1 q3 (by rw [hsl]; exact k2_hasslot (q4 k hk)) rfl rfl hd fun H' e1 e2 e3 => ?_
  rw [hsl] at e1 ⊢
  have hP1 := hh.2.2.set hD hg (e := .inr (ci, (jfs G.2.2.1 ci (M.2.2.1 q.toNat).2.2.2 (M.2.2.2 q.toNat)).set k (jv G.2.2.1 (jtg t, x)))) ⟨_, hr, t_OB.to (V := updV (vp_V (jfs G.2.2.1 ci (M.2.2.1 q.toNat).2.2.2 (M.2.2.2 q.toNat))) k (jv G.2.2.1 (jtg t, x))) ⟨_, e1, q2, q3, t_set q4 hap hk _⟩ (fun j _ => vp_updV_set (by rw [jfs_len]; exact (List.getElem?_eq_some_iff.mp ht).1) _ j)⟩ e3
  refine kk p e s m args below meth c H' _ ls X F ⟨by rw [← hh.1]; exact e2, hh.2.1, ?_⟩ (hS.put e2 e3 (Nat.le_add_right _ _)) hl
  rw [jfs_set ht hs, ← hci, ← jc_0 (ac := G.2.2.2) hL, jw_set] at hP1
  show va_P _ _ (jw _ _ _ _ (ju _ _ _ _)) _
  rw [ju_row]
  exact hP1
end

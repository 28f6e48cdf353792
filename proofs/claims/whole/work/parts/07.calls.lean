/-! Rows of jJ: returns, calls, switches. -/
theorem jgood : jtbl.all goodWord = true := List.all_eq_true.mpr fun _ h => (List.mem_filter.mp h).2
theorem jgoodIn {w : Cond} (h : w ∈ jtbl) : GoodIn jtbl (w :: jtbl) := by
  intro v hv
  rcases List.mem_cons.mp hv with rfl | hv
  · exact ⟨h, good_of_word (List.all_eq_true.mp jgood _ h)⟩
  · exact ⟨hv, good_of_word (List.all_eq_true.mp jgood _ hv)⟩
section ROWS
variable {G : jG} {i : jI} {mc ms : Nat} {P : Option jV → jM → Prop} {c0 s0 pc : Nat} {lv : List (Nat × jV)} {st : List jV} {M : jM}
theorem jr_iret {x : Int} (hd : decode i.2.1 pc = .ok (.ireturn, 1)) (hr : i.2.2.2.1 = some .int) (hc : c0 ≤ mc) (hs : s0 ≤ ms) (hP : P (some (0, x)) M) : jJ G i mc ms P c0 s0 pc lv [(0, x)] M := by
  intro p e s m args below meth c H locs ls X hh hS hl
  refine W.widen hc hs ?_
  exact W.iret (v := Int32.ofInt x) X.1 X.2.1 (X.2.2.2.2.2.1.trans hr) (fun t ht hW => ⟨⟨some (0, x), M, rfl, hP, by rw [ht]; exact hh⟩, hS.F ht⟩) hS.2.2 hd X.2.2.2.2.2.2.1
theorem jr_zret {x : Int} (hd : decode i.2.1 pc = .ok (.ireturn, 1)) (hr : i.2.2.2.1 = some .boolean) (hx : x = 0 ∨ x = 1) (hc : c0 ≤ mc) (hs : s0 ≤ ms) (hP : P (some (0, x)) M) : jJ G i mc ms P c0 s0 pc lv [(0, x)] M := by
  intro p e s m args below meth c H locs ls X hh hS hl
  refine W.widen hc hs ?_
  exact W.zret (v := Int32.ofInt x) X.1 X.2.1 (X.2.2.2.2.2.1.trans hr) (by rcases hx with rfl | rfl <;> rfl) (fun t ht hW => ⟨⟨some (0, x), M, rfl, hP, by rw [ht]; exact hh⟩, hS.F ht⟩) hS.2.2 hd X.2.2.2.2.2.2.1
theorem jr_lret {x : Int} (hd : decode i.2.1 pc = .ok (.lreturn, 1)) (hr : i.2.2.2.1 = some .long) (hc : c0 ≤ mc) (hs : s0 ≤ ms) (hP : P (some (1, x)) M) : jJ G i mc ms P c0 s0 pc lv [(1, x)] M := by
  intro p e s m args below meth c H locs ls X hh hS hl
  refine W.widen hc hs ?_
  exact W.lret (v := Int64.ofInt x) X.1 X.2.1 (X.2.2.2.2.2.1.trans hr) (fun t ht hW => ⟨⟨some (1, x), M, rfl, hP, by rw [ht]; exact hh⟩, hS.F ht⟩) hS.2.2 hd X.2.2.2.2.2.2.1
theorem jr_vret (hd : decode i.2.1 pc = .ok (.return_, 1)) (hr : i.2.2.2.1 = none) (hc : c0 ≤ mc) (hs : s0 ≤ ms) (hP : P none M) : jJ G i mc ms P c0 s0 pc lv [] M := by
  intro p e s m args below meth c H locs ls X hh hS hl
  refine W.widen hc hs ?_
  exact W.vret X.1 X.2.1 (X.2.2.2.2.2.1.trans hr) (fun t ht hW => ⟨⟨none, M, rfl, hP, by rw [ht]; exact hh⟩, hS.F ht⟩) hS.2.2 hd X.2.2.2.2.2.2.1
theorem jr_aret {x : Int} {C : String} (hd : decode i.2.1 pc = .ok (.areturn, 1)) (hr : i.2.2.2.1 = some (.object C)) (hx : 0 ≤ x) (hc : c0 ≤ mc) (hs : s0 ≤ ms) (hP : P (some (2, x)) M) : jJ G i mc ms P c0 s0 pc lv [(2, x)] M := by
  intro p e s m args below meth c H locs ls X hh hS hl
  refine W.widen hc hs ?_
  rw [List.map_cons, jv_ref _ hx]
  exact W.aret (v := .ref (G.2.2.1 + x.toNat)) X.1 X.2.1 (X.2.2.2.2.2.1.trans hr) (Or.inl ⟨C, rfl⟩) (Or.inr ⟨_, rfl⟩) (fun t ht hW => ⟨⟨some (2, x), M, by rw [Option.map_some, jv_ref _ hx], hP, by rw [ht]; exact hh⟩, hS.F ht⟩) hS.2.2 hd X.2.2.2.2.2.2.1
/-- what a call must meet -/
def jcok (i i' : jI) (n : Nat) : Prop := Cond.code i'.1 i'.2.1 i'.2.2.1 i'.2.2.2.1 ∈ jtbl ∧ Cond.initialized i'.1.cls ∈ jtbl ∧ (i'.1.cls ≠ "java/lang/invoke/MethodHandle" ∧ i'.1.cls ≠ "java/lang/invoke/VarHandle" ∧ (parseMethodDescriptor i'.1.desc).map (fun d => d.parameters.length) = some n) ∧ i'.2.2.2.2.1 + 1 ≤ i.2.2.2.2.1 ∧ 8 + (i'.2.2.1 + 11) + i'.2.2.2.2.2 ≤ i.2.2.2.2.2
theorem jnest_t : ∀ w ∈ jnest, w.onTables = true := by decide +kernel
theorem jPre_blind {G : jG} {M : jM} {av : List jV} : FrameBlind (jPre G M av) := by
  intro a U g mk q
  obtain ⟨q0, qh, qN, qK⟩ := q
  exact ⟨q0, qh, ⟨fun w hw => va_Nw.same (u := U) (U := U.calling g mk a) (jnest_t w hw) rfl (qN.1 w hw), qN.2.blind⟩, va_K.moved (u := U) (U := U.calling g mk a) (Vm.Alike.refl U.vm) qK⟩
theorem jrun {mc' ms' : Nat} {P0 : Option jV → jM → Prop} {p : Program} {e : Env} {s : State} {m : MethodId} {args a : Array Value} {below : List Frame} {meth : Method} {c : Code} {H : Heap} {locs : List Loc} {ls : Array Slot} {st0 : List Value}
    (k : ∀ r M', P0 r M' → jJ G i mc ms P (c0 + mc') (s0 + ms') (pc + 3) lv (r.toList ++ st) M') (X : jX G i p s m args meth c) (hS : va_S (fun q => G.2.2.1 ≤ q) s.heap H locs) (hl : lv_has ls i.2.2.1 (lv.map fun q => (q.1, jv G.2.2.1 q.2)))
    (hr : va_Run p G.1 e (jRm i mc ms) s m args below meth c H locs c0 s0 mc' ms' (F0 m pc ls st0) (st.map (jv G.2.2.1)) (jQ G P0 a) (fun q => G.2.2.1 ≤ q)) :
    W p G.1 e (jRm i mc ms) s m args below meth c H locs c0 s0 (MQ below (jQ G P) args s mc ms (fun q => G.2.2.1 ≤ q)) (F0 m pc ls st0) := by
  intro T hT Y
  obtain ⟨v, st₀, t, T', L, h0, X', hL, e1, e2, ⟨⟨r, M', hv, hp, hh'⟩, hz, hk⟩, stp⟩ := hr T hT Y
  have hv' : v = r.map (jv G.2.2.1) := by injection hv
  rw [h0] at hz hk
  have hS' : va_S (fun q => G.2.2.1 ≤ q) s.heap T'.heap (locs ++ L) := by
    refine ⟨Nat.le_trans hS.1 (by rw [e1]; exact hz), fun q h1 h2 => ?_, fun q hq => ?_⟩
    · rw [e1, hk q (Nat.lt_of_lt_of_le h1 hS.1) h2]
      exact hS.2.1 q h1 h2
    · rcases List.mem_append.mp hq with h | h
      · exact hS.2.2 q h
      · exact hL q h
  obtain ⟨t2, a1, b1⟩ := k r M' hp p e s m args below meth c T'.heap (locs ++ L) ls X (by rw [e1]; exact hh') hS' hl T' rfl X'
  refine ⟨t2, stp t2 ?_, b1⟩
  rw [hv']
  have : (Option.map (jv G.2.2.1) r).toList ++ List.map (jv G.2.2.1) st = List.map (jv G.2.2.1) (r.toList ++ st) := by
    cases r <;> simp
  rw [this]
  exact a1
theorem jr_callV {i' : jI} {q : Int} {as : List jV} {ci index mc' ms' : Nat} {r : vw_C} (hr : vwCl[ci]? = some r) (hrc : r.1 = i'.1.cls) (hok : jcok i i' as.length) (hlink : Cond.methodLink i.1.cls index i'.1 ∈ jtbl) (hinst : Cond.instanceMethod i'.1 ∈ jtbl) (hsel : Cond.selects i'.1.cls i'.1 i'.1 ∈ jtbl) (hd : decode i.2.1 pc = .ok (.invokevirtual index, 3))
    (h8 : jsum st ≤ 8) (h0 : 0 ≤ q) (hN : q.toNat < M.2.1) (hL : (M.2.2.1 q.toNat).1 = 0) (hci : (M.2.2.1 q.toNat).2.1 = ci) (hmc : c0 + mc' ≤ mc) (hms : s0 + ms' ≤ ms)
    (k : jC G i' mc' ms' M ((2, q) :: as) (fun r M' => jJ G i mc ms P (c0 + mc') (s0 + ms') (pc + 3) lv (r.toList ++ st) M')) : jJ G i mc ms P c0 s0 pc lv (as.reverse ++ (2, q) :: st) M := by
  intro p e s m args below meth c H locs ls X hh hS hl
  obtain ⟨P0, hM, hP0⟩ := k
  have hts := X.2.2.2.2.1
  refine jrun hP0 X hS hl (a := (Value.ref (G.2.2.1 + q.toNat) :: as.map (jv G.2.2.1)).toArray) ?_
  have hg := jw_get (b := G.2.2.1) (ac := G.2.2.2) (L := M.2.2.1) (S := M.2.2.2) hN
  rw [jc_0 hL, hci] at hg
  refine va_runV (C := i'.1.cls) (As := as.map (jv G.2.2.1)) (n := as.length) (ret := i'.2.2.2.1) (bytes := i'.2.1) (maxL := i'.2.2.1) (index := index) (b := G.2.2.1 + q.toNat) (rest := st.map (jv G.2.2.1)) ⟨X.1, X.2.1, X.2.2.1, X.2.2.2.1, hts⟩ hM
    ⟨callB_of as.length hts (jgoodIn hok.1) rfl rfl rfl (hts _ hok.2.1) (hts _ hlink) hok.2.2.1 ⟨hok.2.2.2.1, hok.2.2.2.2⟩, hts _ hinst, hts _ hsel⟩
    ⟨jPre_blind, by rw [← hrc]; exact va_recv X.2.2.2.2.2.2.2.2.2 hh.2.2 hr hg, fun U hU hW => ⟨by rw [List.map_cons, jv_ref _ h0], by rw [hU]; exact hh, X.2.2.2.2.2.2.2.2.1.go hS hU hW, va_K.moved hW.alike X.2.2.2.2.2.2.2.2.2⟩⟩
    rfl (by simp) hl.1 (by rw [List.map_append, List.map_cons, jv_ref _ h0, List.map_reverse]) (lv_room (by rw [jsum_cat]; exact h8)) hd ⟨hmc, hms⟩
theorem jr_callS {i' : jI} {as : List jV} {index mc' ms' : Nat} (hok : jcok i i' as.length) (hlink : Cond.methodLink i.1.cls index i'.1 ∈ jtbl) (hst : Cond.static i'.1 ∈ jtbl) (hd : decode i.2.1 pc = .ok (.invokestatic index, 3))
    (h8 : jsum st ≤ 8) (hmc : c0 + mc' ≤ mc) (hms : s0 + ms' ≤ ms)
    (k : jC G i' mc' ms' M as (fun r M' => jJ G i mc ms P (c0 + mc') (s0 + ms') (pc + 3) lv (r.toList ++ st) M')) : jJ G i mc ms P c0 s0 pc lv (as.reverse ++ st) M := by
  intro p e s m args below meth c H locs ls X hh hS hl
  obtain ⟨P0, hM, hP0⟩ := k
  have hts := X.2.2.2.2.1
  refine jrun hP0 X hS hl (a := (as.map (jv G.2.2.1)).toArray) ?_
  exact va_runS (As := as.map (jv G.2.2.1)) (n := as.length) (ret := i'.2.2.2.1) (bytes := i'.2.1) (maxL := i'.2.2.1) (index := index) (rest := st.map (jv G.2.2.1)) ⟨X.1, X.2.1, X.2.2.1, X.2.2.2.1, hts⟩ hM
    ⟨callB_of as.length hts (jgoodIn hok.1) rfl rfl rfl (hts _ hok.2.1) (hts _ hlink) hok.2.2.1 ⟨hok.2.2.2.1, hok.2.2.2.2⟩, hts _ hst⟩
    ⟨jPre_blind, fun U hU hW => ⟨rfl, by rw [hU]; exact hh, X.2.2.2.2.2.2.2.2.1.go hS hU hW, va_K.moved hW.alike X.2.2.2.2.2.2.2.2.2⟩⟩
    rfl (by simp) hl.1 (by rw [List.map_append, List.map_reverse]) (lv_room (by rw [jsum_cat]; exact h8)) hd ⟨hmc, hms⟩
theorem jr_callSN {i' : jI} {as : List jV} {index mc' ms' : Nat} {host : String} (hok : jcok i i' as.length) (hlink : Cond.methodLinkNest i.1.cls index i'.1 host ∈ jnest) (hst : Cond.static i'.1 ∈ jtbl) (hd : decode i.2.1 pc = .ok (.invokestatic index, 3))
    (h8 : jsum st ≤ 8) (hmc : c0 + mc' ≤ mc) (hms : s0 + ms' ≤ ms)
    (k : jC G i' mc' ms' M as (fun r M' => jJ G i mc ms P (c0 + mc') (s0 + ms') (pc + 3) lv (r.toList ++ st) M')) : jJ G i mc ms P c0 s0 pc lv (as.reverse ++ st) M := by
  intro p e s m args below meth c H locs ls X hh hS hl
  obtain ⟨P0, hM, hP0⟩ := k
  have hts := X.2.2.2.2.1
  refine jrun hP0 X hS hl (a := (as.map (jv G.2.2.1)).toArray) ?_
  refine va_runSN (As := as.map (jv G.2.2.1)) (n := as.length) (ret := i'.2.2.2.1) (bytes := i'.2.1) (maxL := i'.2.2.1) (index := index) (host := host) (rest := st.map (jv G.2.2.1)) ⟨X.1, X.2.1, X.2.2.1, X.2.2.2.1, hts⟩ hM
    ⟨va_cnB as.length hts (jgoodIn hok.1) rfl rfl rfl ?_ (hts _ hok.2.1) hok.2.2.1 ⟨hok.2.2.2.1, hok.2.2.2.2⟩, hts _ hst, trivial⟩
    ⟨jPre_blind, fun U hU hW => ⟨rfl, by rw [hU]; exact hh, X.2.2.2.2.2.2.2.2.1.go hS hU hW, va_K.moved hW.alike X.2.2.2.2.2.2.2.2.2⟩⟩
    rfl (by simp) hl.1 (by rw [List.map_append, List.map_reverse]) (lv_room (by rw [jsum_cat]; exact h8)) hd ⟨hmc, hms⟩
  exact X.2.2.2.2.2.2.2.2.1.1 _ hlink
end ROWS

/-! What the geometry reads: the normals and the limits at work. -/
def agr (S S' : jS) : Prop := ∀ j, S' (RB + 2) j = S (RB + 2) j ∧ S' (RB + 5) j = S (RB + 5) j ∧ S' (RB + 6) j = S (RB + 6) j ∧ S' (RB + 7) j = S (RB + 7) j
theorem agr.w {S S' : jS} (h : agr S S') : nN S' = nN S ∧ nA S' = nA S ∧ nB S' = nB S ∧ wI S' = wI S ∧ wU S' = wU S ∧ wD S' = wD S :=
  ⟨(h _).1, funext fun _ => (h _).1, funext fun _ => (h _).1, funext fun _ => (h _).2.1, funext fun _ => (h _).2.2.1, funext fun _ => (h _).2.2.2⟩
theorem agr_crn {S S' : jS} (h : agr S S') : crn S' = crn S := by
  obtain ⟨-, e1, e2, e3, e4, e5⟩ := h.w
  have d1 : cD S' = cD S := by funext i j; simp only [cD, e1, e2]
  have d2 : cX0 S' = cX0 S := by funext i j; simp only [cX0, e2, e4, e5]
  have d3 : cY0 S' = cY0 S := by funext i j; simp only [cY0, e1, e4, e5]
  have d4 : cB0 S' = cB0 S := by funext i j; simp only [cB0, d1, e5]
  have d5 : cX1 S' = cX1 S := by funext i j; simp only [cX1, d2, d4]
  have d6 : cY1 S' = cY1 S := by funext i j; simp only [cY1, d3, d4]
  have d7 : cB1 S' = cB1 S := by funext i j; simp only [cB1, d4]
  have d8 : cg S' = cg S := by funext i j; simp only [cg, d5, d6, d7]
  funext n i j
  simp only [crn, cok, hol, cX, cY, cB, e1, e2, e3, e4, e5, d1, d5, d6, d7, d8]
theorem agr_gN {S S' : jS} (h : agr S S') : gN S' = gN S := by
  obtain ⟨e0, e1, e2, -⟩ := h.w
  funext n
  simp only [gN, e0, e1, e2]
theorem agr_gW {S S' : jS} (h : agr S S') : gW S' = gW S := by
  obtain ⟨-, -, -, e3, e4, e5⟩ := h.w
  funext n
  simp only [gW, e3, e4, e5]
theorem agr_bok {S S' : jS} (h : agr S S') : bok S' = bok S := by
  have e : ∀ j, S' (RB + 2) j = S (RB + 2) j := fun j => (h j).1
  funext n f m
  simp only [bok, e]
theorem agr.set {S S' : jS} (h : agr S S') (k : Nat) (a d : Int) : agr (rset S k a d) (rset S' k a d) := by
  intro j
  obtain ⟨h1, h2, h3, h4⟩ := h j
  refine ⟨?_, ?_, ?_, ?_⟩ <;> simp only [rset, ju_at, h1, h2, h3, h4] <;> simp [h1]
theorem agr.cut {S S' : jS} (h : agr S S') (k : Nat) (a d : Int) : agr (rcut S k a d) (rcut S' k a d) := by
  unfold rcut
  obtain ⟨-, h2, h3, h4⟩ := h k
  rw [h2, h3, h4]
  split
  · exact h
  · exact h.set k a d
theorem agr.cuts {S S' : jS} (h : agr S S') (f : Nat) : ∀ m, agr (rcuts S f m) (rcuts S' f m)
  | 0 => h
  | m + 1 => by
    show agr (rcut _ _ _ _) (rcut _ _ _ _)
    rw [(h (f + 3 * m)).1, (h (f + 3 * m + 1)).1, (h (f + 3 * m + 2)).1]
    exact (agr.cuts h f m).cut _ _ _
theorem agr_hok {S S' : jS} (h : agr S S') : hok S' = hok S := by
  have e : ∀ j, S' (RB + 2) j = S (RB + 2) j := fun j => (h j).1
  funext n m
  simp only [hok, agr_bok h, e]
theorem agr_isH {S S' : jS} (h : agr S S') : isH S' = isH S := by
  have e : ∀ j, S' (RB + 2) j = S (RB + 2) j := fun j => (h j).1
  funext n m
  unfold isH rharm
  rw [e, agr_crn (h.cuts _ _)]

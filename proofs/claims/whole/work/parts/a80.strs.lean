/-! What is known of the text of the language, from a method's first state on. -/
def tx1 : String := "mode keep harm edge when put add start most x y "
def lgB : List Int32 := lgT.map Int32.ofInt
def jZ (b : Nat) (s : State) : Prop := ∃ a v r : Nat, vk_S 1 [48] [lgB] (fun _ => a) (fun _ => v) (fun q => b ≤ q) s s.heap ∧ vk_R RX7 15 tx1 a s ∧ vk_R RX12 128 tx1 a s ∧ va_Z "java/lang/String" "COMPACT_STRINGS" "Z" (.int 1) (fun q => b ≤ q) s s.heap ∧ va_Z "jdk/internal/util/Preconditions" "SIOOBE_FORMATTER" "Ljava/util/function/BiFunction;" (.ref r) (fun q => b ≤ q) s s.heap
theorem jZ.go {b : Nat} {s U : State} {H : Heap} {locs : List Loc} (h : jZ b s) (hS : va_S (fun q => b ≤ q) s.heap H locs) (hU : U.heap = H) (hW : s.WarmedH U.vm) : jZ b U := by
  obtain ⟨a, v, r, h1, h2, h3, h4, h5⟩ := h
  subst hU
  exact ⟨a, v, r, (h1.kept hS.2.1).moved hW.alike, h2.warm hW, h3.warm hW, (h4.kept hS.2.1).moved hW.alike, (h5.kept hS.2.1).moved hW.alike⟩
theorem jZ.blind {b : Nat} {U : State} {g : JFrame} {mk : MethodId} {a : Array Value} (h : jZ b U) : jZ b (U.calling g mk a) := by
  obtain ⟨a, v, r, h1, h2, h3, h4, h5⟩ := h
  exact ⟨a, v, r, h1, h2.same rfl, h3.same rfl, h4, h5⟩

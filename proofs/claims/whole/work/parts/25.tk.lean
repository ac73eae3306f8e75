/-- the constants that Tokens reads: its table of letters, its text of signs -/
def tk_wol (j : Nat) : Int32 := ([170, 204, 240] : List Int32).getD j 0
def tk_byt (j : Nat) : Int32 := ([33, 38, 124, 40, 41, 45, 59] : List Int32).getD j 0
def tk_E (t0 aK aV : Nat) : (Nat → Prop) → State → Prop := fun A U =>
  va_Z "ChanceBounds$Tokens" "WORLDS_OF_LETTER" "[I" (.ref t0) A U U.heap ∧ va_T .int t0 3 (fun j => .int (tk_wol j)) A U U.heap ∧ vk_R RX6 48 "!&|()-;" aK U ∧ vk_S 1 [7] [[33, 38, 124, 40, 41, 45, 59]] (fun _ => aK) (fun _ => aV) A U U.heap ∧ va_Z "java/lang/String" "COMPACT_STRINGS" "Z" (.int 1) A U U.heap
theorem tk_ok (t0 aK aV : Nat) : st_Eok (tk_E t0 aK aV) := by
  refine ⟨?_, ?_⟩
  · intro A U g mk a h
    obtain ⟨h1, h2, h3, h4, h5⟩ := h
    have al : U.vm.Alike (U.calling g mk a).vm := Vm.Alike.refl U.vm
    exact ⟨va_Z.moved al h1, va_T.moved al h2, vk_R.same rfl h3, vk_S.moved al h4, va_Z.moved al h5⟩
  · intro A A' s U H locs h hS hA hU hW
    obtain ⟨h1, h2, h3, h4, h5⟩ := h
    subst hU
    have kk : ∀ a : Nat, a < s.heap.size → ¬ A a → U.heap[a]? = s.heap[a]? := fun a q1 q2 => hS.2.1 a q1 q2
    exact ⟨va_Z.narrow (va_Z.kept (va_Z.moved hW.alike h1) kk) hA, va_T.narrow (va_T.kept (va_T.moved hW.alike h2) kk) hA, vk_R.warm hW h3, vk_S.narrow (vk_S.kept (vk_S.moved hW.alike h4) kk) hA, va_Z.narrow (va_Z.kept (va_Z.moved hW.alike h5) kk) hA⟩
def rdR (d : Nat) : Room := { frames := 12 + d, cells := 0, slots := 0, locals := 260 + 30 * d }
theorem st_lt4n {i : Nat} (h : ¬ 4 ≤ i) : i = 0 ∨ i = 1 ∨ i = 2 ∨ i = 3 := by omega

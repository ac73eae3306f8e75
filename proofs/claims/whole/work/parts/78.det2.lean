/-! three terms of minors that share two columns -/
set_option maxRecDepth 100000 in
set_option maxHeartbeats 4000000 in
theorem plk4 (A : Nat → Nat → Int) (p q a b c d : Nat) : d4 A 0 1 2 3 p q a b * d4 A 0 1 2 3 p q c d - d4 A 0 1 2 3 p q a c * d4 A 0 1 2 3 p q b d + d4 A 0 1 2 3 p q a d * d4 A 0 1 2 3 p q b c = 0 := by
  simp only [d2, d3, d4]; grind
theorem crx0_0 (A : Nat → Nat → Int) (j : Nat) : 0 - d4 A 0 1 2 3 1 2 3 4 * d4 A 0 1 2 3 j 1 2 3 + d4 A 0 1 2 3 4 1 2 3 * d4 A 0 1 2 3 1 2 3 j = 0 := by
  have h0 : d4 A 0 1 2 3 4 1 2 3 = -(d4 A 0 1 2 3 1 2 3 4) := by
    first | rfl | (simp only [d2, d3, d4] <;> grind)
  have h1 : d4 A 0 1 2 3 1 2 3 j = -(d4 A 0 1 2 3 j 1 2 3) := by
    first | rfl | (simp only [d2, d3, d4] <;> grind)
  rw [h0, h1]
  grind
theorem crx0_1 (A : Nat → Nat → Int) (j : Nat) : 0 - d4 A 0 1 2 3 0 1 2 3 * d4 A 0 1 2 3 j 2 3 4 + d4 A 0 1 2 3 0 2 3 4 * d4 A 0 1 2 3 j 1 2 3 - d4 A 0 1 2 3 4 1 2 3 * d4 A 0 1 2 3 0 2 3 j = 0 := by
  have h0 : d4 A 0 1 2 3 0 1 2 3 = d4 A 0 1 2 3 2 3 0 1 := by
    first | rfl | (simp only [d2, d3, d4] <;> grind)
  have h1 : d4 A 0 1 2 3 j 2 3 4 = -(d4 A 0 1 2 3 2 3 4 j) := by
    first | rfl | (simp only [d2, d3, d4] <;> grind)
  have h2 : d4 A 0 1 2 3 0 2 3 4 = d4 A 0 1 2 3 2 3 0 4 := by
    first | rfl | (simp only [d2, d3, d4] <;> grind)
  have h3 : d4 A 0 1 2 3 j 1 2 3 = -(d4 A 0 1 2 3 2 3 1 j) := by
    first | rfl | (simp only [d2, d3, d4] <;> grind)
  have h4 : d4 A 0 1 2 3 4 1 2 3 = -(d4 A 0 1 2 3 2 3 1 4) := by
    first | rfl | (simp only [d2, d3, d4] <;> grind)
  have h5 : d4 A 0 1 2 3 0 2 3 j = d4 A 0 1 2 3 2 3 0 j := by
    first | rfl | (simp only [d2, d3, d4] <;> grind)
  have hp := plk4 A 2 3 0 1 4 j
  rw [h0, h1, h2, h3, h4, h5]
  grind
theorem crx0_2 (A : Nat → Nat → Int) (j : Nat) : 0 + d4 A 0 1 2 3 0 1 2 3 * d4 A 0 1 2 3 j 1 3 4 - d4 A 0 1 2 3 0 1 3 4 * d4 A 0 1 2 3 j 1 2 3 + d4 A 0 1 2 3 4 1 2 3 * d4 A 0 1 2 3 0 1 3 j = 0 := by
  have h0 : d4 A 0 1 2 3 0 1 2 3 = -(d4 A 0 1 2 3 1 3 0 2) := by
    first | rfl | (simp only [d2, d3, d4] <;> grind)
  have h1 : d4 A 0 1 2 3 j 1 3 4 = -(d4 A 0 1 2 3 1 3 4 j) := by
    first | rfl | (simp only [d2, d3, d4] <;> grind)
  have h2 : d4 A 0 1 2 3 0 1 3 4 = d4 A 0 1 2 3 1 3 0 4 := by
    first | rfl | (simp only [d2, d3, d4] <;> grind)
  have h3 : d4 A 0 1 2 3 j 1 2 3 = d4 A 0 1 2 3 1 3 2 j := by
    first | rfl | (simp only [d2, d3, d4] <;> grind)
  have h4 : d4 A 0 1 2 3 4 1 2 3 = d4 A 0 1 2 3 1 3 2 4 := by
    first | rfl | (simp only [d2, d3, d4] <;> grind)
  have h5 : d4 A 0 1 2 3 0 1 3 j = d4 A 0 1 2 3 1 3 0 j := by
    first | rfl | (simp only [d2, d3, d4] <;> grind)
  have hp := plk4 A 1 3 0 2 4 j
  rw [h0, h1, h2, h3, h4, h5]
  grind
theorem crx0_3 (A : Nat → Nat → Int) (j : Nat) : 0 - d4 A 0 1 2 3 0 1 2 3 * d4 A 0 1 2 3 j 1 2 4 + d4 A 0 1 2 3 0 1 2 4 * d4 A 0 1 2 3 j 1 2 3 - d4 A 0 1 2 3 4 1 2 3 * d4 A 0 1 2 3 0 1 2 j = 0 := by
  have h0 : d4 A 0 1 2 3 0 1 2 3 = d4 A 0 1 2 3 1 2 0 3 := by
    first | rfl | (simp only [d2, d3, d4] <;> grind)
  have h1 : d4 A 0 1 2 3 j 1 2 4 = -(d4 A 0 1 2 3 1 2 4 j) := by
    first | rfl | (simp only [d2, d3, d4] <;> grind)
  have h2 : d4 A 0 1 2 3 0 1 2 4 = d4 A 0 1 2 3 1 2 0 4 := by
    first | rfl | (simp only [d2, d3, d4] <;> grind)
  have h3 : d4 A 0 1 2 3 j 1 2 3 = -(d4 A 0 1 2 3 1 2 3 j) := by
    first | rfl | (simp only [d2, d3, d4] <;> grind)
  have h4 : d4 A 0 1 2 3 4 1 2 3 = -(d4 A 0 1 2 3 1 2 3 4) := by
    first | rfl | (simp only [d2, d3, d4] <;> grind)
  have h5 : d4 A 0 1 2 3 0 1 2 j = d4 A 0 1 2 3 1 2 0 j := by
    first | rfl | (simp only [d2, d3, d4] <;> grind)
  have hp := plk4 A 1 2 0 3 4 j
  rw [h0, h1, h2, h3, h4, h5]
  grind
theorem crx0_4 (A : Nat → Nat → Int) (j : Nat) : 0 + d4 A 0 1 2 3 0 1 2 3 * d4 A 0 1 2 3 j 1 2 3 - d4 A 0 1 2 3 0 1 2 3 * d4 A 0 1 2 3 j 1 2 3 = 0 := by
  grind
theorem crx0_j (A : Nat → Nat → Int) (j : Nat) : 0 + d4 A 0 1 2 3 0 1 2 3 * d4 A 0 1 2 3 1 2 3 4 + d4 A 0 1 2 3 4 1 2 3 * d4 A 0 1 2 3 0 1 2 3 = 0 := by
  have h0 : d4 A 0 1 2 3 4 1 2 3 = -(d4 A 0 1 2 3 1 2 3 4) := by
    first | rfl | (simp only [d2, d3, d4] <;> grind)
  rw [h0]
  grind
theorem crm4_0 (A : Nat → Nat → Int) (j : Nat) : d4 A 0 1 2 3 0 1 2 3 * d5 A 0 1 2 3 4 j 1 2 3 4 = d5 A 0 1 2 3 4 0 1 2 3 4 * d4 A 0 1 2 3 j 1 2 3 - d4 A 0 1 2 3 4 1 2 3 * d5 A 0 1 2 3 4 0 1 2 3 j := by
  have x0 := crx0_0 A j
  have x1 := crx0_1 A j
  have x2 := crx0_2 A j
  have x3 := crx0_3 A j
  have x4 := crx0_4 A j
  have xj := crx0_j A j
  have e : d4 A 0 1 2 3 0 1 2 3 * d5 A 0 1 2 3 4 j 1 2 3 4 - (d5 A 0 1 2 3 4 0 1 2 3 4 * d4 A 0 1 2 3 j 1 2 3 - d4 A 0 1 2 3 4 1 2 3 * d5 A 0 1 2 3 4 0 1 2 3 j) = A 4 0 * (0 - d4 A 0 1 2 3 1 2 3 4 * d4 A 0 1 2 3 j 1 2 3 + d4 A 0 1 2 3 4 1 2 3 * d4 A 0 1 2 3 1 2 3 j) + A 4 1 * (0 - d4 A 0 1 2 3 0 1 2 3 * d4 A 0 1 2 3 j 2 3 4 + d4 A 0 1 2 3 0 2 3 4 * d4 A 0 1 2 3 j 1 2 3 - d4 A 0 1 2 3 4 1 2 3 * d4 A 0 1 2 3 0 2 3 j) + A 4 2 * (0 + d4 A 0 1 2 3 0 1 2 3 * d4 A 0 1 2 3 j 1 3 4 - d4 A 0 1 2 3 0 1 3 4 * d4 A 0 1 2 3 j 1 2 3 + d4 A 0 1 2 3 4 1 2 3 * d4 A 0 1 2 3 0 1 3 j) + A 4 3 * (0 - d4 A 0 1 2 3 0 1 2 3 * d4 A 0 1 2 3 j 1 2 4 + d4 A 0 1 2 3 0 1 2 4 * d4 A 0 1 2 3 j 1 2 3 - d4 A 0 1 2 3 4 1 2 3 * d4 A 0 1 2 3 0 1 2 j) + A 4 4 * (0 + d4 A 0 1 2 3 0 1 2 3 * d4 A 0 1 2 3 j 1 2 3 - d4 A 0 1 2 3 0 1 2 3 * d4 A 0 1 2 3 j 1 2 3) + A 4 j * (0 + d4 A 0 1 2 3 0 1 2 3 * d4 A 0 1 2 3 1 2 3 4 + d4 A 0 1 2 3 4 1 2 3 * d4 A 0 1 2 3 0 1 2 3) := by
    simp only [d5]; grind
  rw [x0, x1, x2, x3, x4, xj] at e
  omega
theorem crx1_0 (A : Nat → Nat → Int) (j : Nat) : 0 + d4 A 0 1 2 3 0 1 2 3 * d4 A 0 1 2 3 j 2 3 4 - d4 A 0 1 2 3 1 2 3 4 * d4 A 0 1 2 3 0 j 2 3 + d4 A 0 1 2 3 0 4 2 3 * d4 A 0 1 2 3 1 2 3 j = 0 := by
  have h0 : d4 A 0 1 2 3 0 1 2 3 = d4 A 0 1 2 3 2 3 0 1 := by
    first | rfl | (simp only [d2, d3, d4] <;> grind)
  have h1 : d4 A 0 1 2 3 j 2 3 4 = -(d4 A 0 1 2 3 2 3 4 j) := by
    first | rfl | (simp only [d2, d3, d4] <;> grind)
  have h2 : d4 A 0 1 2 3 1 2 3 4 = d4 A 0 1 2 3 2 3 1 4 := by
    first | rfl | (simp only [d2, d3, d4] <;> grind)
  have h3 : d4 A 0 1 2 3 0 j 2 3 = d4 A 0 1 2 3 2 3 0 j := by
    first | rfl | (simp only [d2, d3, d4] <;> grind)
  have h4 : d4 A 0 1 2 3 0 4 2 3 = d4 A 0 1 2 3 2 3 0 4 := by
    first | rfl | (simp only [d2, d3, d4] <;> grind)
  have h5 : d4 A 0 1 2 3 1 2 3 j = d4 A 0 1 2 3 2 3 1 j := by
    first | rfl | (simp only [d2, d3, d4] <;> grind)
  have hp := plk4 A 2 3 0 1 4 j
  rw [h0, h1, h2, h3, h4, h5]
  grind
theorem crx1_1 (A : Nat → Nat → Int) (j : Nat) : 0 + d4 A 0 1 2 3 0 2 3 4 * d4 A 0 1 2 3 0 j 2 3 - d4 A 0 1 2 3 0 4 2 3 * d4 A 0 1 2 3 0 2 3 j = 0 := by
  have h0 : d4 A 0 1 2 3 0 4 2 3 = d4 A 0 1 2 3 0 2 3 4 := by
    first | rfl | (simp only [d2, d3, d4] <;> grind)
  have h1 : d4 A 0 1 2 3 0 2 3 j = d4 A 0 1 2 3 0 j 2 3 := by
    first | rfl | (simp only [d2, d3, d4] <;> grind)
  rw [h0, h1]
  grind
theorem crx1_2 (A : Nat → Nat → Int) (j : Nat) : 0 + d4 A 0 1 2 3 0 1 2 3 * d4 A 0 1 2 3 0 j 3 4 - d4 A 0 1 2 3 0 1 3 4 * d4 A 0 1 2 3 0 j 2 3 + d4 A 0 1 2 3 0 4 2 3 * d4 A 0 1 2 3 0 1 3 j = 0 := by
  have h0 : d4 A 0 1 2 3 0 1 2 3 = d4 A 0 1 2 3 0 3 1 2 := by
    first | rfl | (simp only [d2, d3, d4] <;> grind)
  have h1 : d4 A 0 1 2 3 0 j 3 4 = d4 A 0 1 2 3 0 3 4 j := by
    first | rfl | (simp only [d2, d3, d4] <;> grind)
  have h2 : d4 A 0 1 2 3 0 1 3 4 = -(d4 A 0 1 2 3 0 3 1 4) := by
    first | rfl | (simp only [d2, d3, d4] <;> grind)
  have h3 : d4 A 0 1 2 3 0 j 2 3 = -(d4 A 0 1 2 3 0 3 2 j) := by
    first | rfl | (simp only [d2, d3, d4] <;> grind)
  have h4 : d4 A 0 1 2 3 0 4 2 3 = -(d4 A 0 1 2 3 0 3 2 4) := by
    first | rfl | (simp only [d2, d3, d4] <;> grind)
  have h5 : d4 A 0 1 2 3 0 1 3 j = -(d4 A 0 1 2 3 0 3 1 j) := by
    first | rfl | (simp only [d2, d3, d4] <;> grind)
  have hp := plk4 A 0 3 1 2 4 j
  rw [h0, h1, h2, h3, h4, h5]
  grind
theorem crx1_3 (A : Nat → Nat → Int) (j : Nat) : 0 - d4 A 0 1 2 3 0 1 2 3 * d4 A 0 1 2 3 0 j 2 4 + d4 A 0 1 2 3 0 1 2 4 * d4 A 0 1 2 3 0 j 2 3 - d4 A 0 1 2 3 0 4 2 3 * d4 A 0 1 2 3 0 1 2 j = 0 := by
  have h0 : d4 A 0 1 2 3 0 1 2 3 = -(d4 A 0 1 2 3 0 2 1 3) := by
    first | rfl | (simp only [d2, d3, d4] <;> grind)
  have h1 : d4 A 0 1 2 3 0 j 2 4 = d4 A 0 1 2 3 0 2 4 j := by
    first | rfl | (simp only [d2, d3, d4] <;> grind)
  have h2 : d4 A 0 1 2 3 0 1 2 4 = -(d4 A 0 1 2 3 0 2 1 4) := by
    first | rfl | (simp only [d2, d3, d4] <;> grind)
  have h3 : d4 A 0 1 2 3 0 j 2 3 = d4 A 0 1 2 3 0 2 3 j := by
    first | rfl | (simp only [d2, d3, d4] <;> grind)
  have h4 : d4 A 0 1 2 3 0 4 2 3 = d4 A 0 1 2 3 0 2 3 4 := by
    first | rfl | (simp only [d2, d3, d4] <;> grind)
  have h5 : d4 A 0 1 2 3 0 1 2 j = -(d4 A 0 1 2 3 0 2 1 j) := by
    first | rfl | (simp only [d2, d3, d4] <;> grind)
  have hp := plk4 A 0 2 1 3 4 j
  rw [h0, h1, h2, h3, h4, h5]
  grind
theorem crx1_4 (A : Nat → Nat → Int) (j : Nat) : 0 + d4 A 0 1 2 3 0 1 2 3 * d4 A 0 1 2 3 0 j 2 3 - d4 A 0 1 2 3 0 1 2 3 * d4 A 0 1 2 3 0 j 2 3 = 0 := by
  grind
theorem crx1_j (A : Nat → Nat → Int) (j : Nat) : 0 - d4 A 0 1 2 3 0 1 2 3 * d4 A 0 1 2 3 0 2 3 4 + d4 A 0 1 2 3 0 4 2 3 * d4 A 0 1 2 3 0 1 2 3 = 0 := by
  have h0 : d4 A 0 1 2 3 0 4 2 3 = d4 A 0 1 2 3 0 2 3 4 := by
    first | rfl | (simp only [d2, d3, d4] <;> grind)
  rw [h0]
  grind
theorem crm4_1 (A : Nat → Nat → Int) (j : Nat) : d4 A 0 1 2 3 0 1 2 3 * d5 A 0 1 2 3 4 0 j 2 3 4 = d5 A 0 1 2 3 4 0 1 2 3 4 * d4 A 0 1 2 3 0 j 2 3 - d4 A 0 1 2 3 0 4 2 3 * d5 A 0 1 2 3 4 0 1 2 3 j := by
  have x0 := crx1_0 A j
  have x1 := crx1_1 A j
  have x2 := crx1_2 A j
  have x3 := crx1_3 A j
  have x4 := crx1_4 A j
  have xj := crx1_j A j
  have e : d4 A 0 1 2 3 0 1 2 3 * d5 A 0 1 2 3 4 0 j 2 3 4 - (d5 A 0 1 2 3 4 0 1 2 3 4 * d4 A 0 1 2 3 0 j 2 3 - d4 A 0 1 2 3 0 4 2 3 * d5 A 0 1 2 3 4 0 1 2 3 j) = A 4 0 * (0 + d4 A 0 1 2 3 0 1 2 3 * d4 A 0 1 2 3 j 2 3 4 - d4 A 0 1 2 3 1 2 3 4 * d4 A 0 1 2 3 0 j 2 3 + d4 A 0 1 2 3 0 4 2 3 * d4 A 0 1 2 3 1 2 3 j) + A 4 1 * (0 + d4 A 0 1 2 3 0 2 3 4 * d4 A 0 1 2 3 0 j 2 3 - d4 A 0 1 2 3 0 4 2 3 * d4 A 0 1 2 3 0 2 3 j) + A 4 2 * (0 + d4 A 0 1 2 3 0 1 2 3 * d4 A 0 1 2 3 0 j 3 4 - d4 A 0 1 2 3 0 1 3 4 * d4 A 0 1 2 3 0 j 2 3 + d4 A 0 1 2 3 0 4 2 3 * d4 A 0 1 2 3 0 1 3 j) + A 4 3 * (0 - d4 A 0 1 2 3 0 1 2 3 * d4 A 0 1 2 3 0 j 2 4 + d4 A 0 1 2 3 0 1 2 4 * d4 A 0 1 2 3 0 j 2 3 - d4 A 0 1 2 3 0 4 2 3 * d4 A 0 1 2 3 0 1 2 j) + A 4 4 * (0 + d4 A 0 1 2 3 0 1 2 3 * d4 A 0 1 2 3 0 j 2 3 - d4 A 0 1 2 3 0 1 2 3 * d4 A 0 1 2 3 0 j 2 3) + A 4 j * (0 - d4 A 0 1 2 3 0 1 2 3 * d4 A 0 1 2 3 0 2 3 4 + d4 A 0 1 2 3 0 4 2 3 * d4 A 0 1 2 3 0 1 2 3) := by
    simp only [d5]; grind
  rw [x0, x1, x2, x3, x4, xj] at e
  omega
theorem crx2_0 (A : Nat → Nat → Int) (j : Nat) : 0 + d4 A 0 1 2 3 0 1 2 3 * d4 A 0 1 2 3 1 j 3 4 - d4 A 0 1 2 3 1 2 3 4 * d4 A 0 1 2 3 0 1 j 3 + d4 A 0 1 2 3 0 1 4 3 * d4 A 0 1 2 3 1 2 3 j = 0 := by
  have h0 : d4 A 0 1 2 3 0 1 2 3 = -(d4 A 0 1 2 3 1 3 0 2) := by
    first | rfl | (simp only [d2, d3, d4] <;> grind)
  have h1 : d4 A 0 1 2 3 1 j 3 4 = d4 A 0 1 2 3 1 3 4 j := by
    first | rfl | (simp only [d2, d3, d4] <;> grind)
  have h2 : d4 A 0 1 2 3 1 2 3 4 = -(d4 A 0 1 2 3 1 3 2 4) := by
    first | rfl | (simp only [d2, d3, d4] <;> grind)
  have h3 : d4 A 0 1 2 3 0 1 j 3 = -(d4 A 0 1 2 3 1 3 0 j) := by
    first | rfl | (simp only [d2, d3, d4] <;> grind)
  have h4 : d4 A 0 1 2 3 0 1 4 3 = -(d4 A 0 1 2 3 1 3 0 4) := by
    first | rfl | (simp only [d2, d3, d4] <;> grind)
  have h5 : d4 A 0 1 2 3 1 2 3 j = -(d4 A 0 1 2 3 1 3 2 j) := by
    first | rfl | (simp only [d2, d3, d4] <;> grind)
  have hp := plk4 A 1 3 0 2 4 j
  rw [h0, h1, h2, h3, h4, h5]
  grind
theorem crx2_1 (A : Nat → Nat → Int) (j : Nat) : 0 - d4 A 0 1 2 3 0 1 2 3 * d4 A 0 1 2 3 0 j 3 4 + d4 A 0 1 2 3 0 2 3 4 * d4 A 0 1 2 3 0 1 j 3 - d4 A 0 1 2 3 0 1 4 3 * d4 A 0 1 2 3 0 2 3 j = 0 := by
  have h0 : d4 A 0 1 2 3 0 1 2 3 = d4 A 0 1 2 3 0 3 1 2 := by
    first | rfl | (simp only [d2, d3, d4] <;> grind)
  have h1 : d4 A 0 1 2 3 0 j 3 4 = d4 A 0 1 2 3 0 3 4 j := by
    first | rfl | (simp only [d2, d3, d4] <;> grind)
  have h2 : d4 A 0 1 2 3 0 2 3 4 = -(d4 A 0 1 2 3 0 3 2 4) := by
    first | rfl | (simp only [d2, d3, d4] <;> grind)
  have h3 : d4 A 0 1 2 3 0 1 j 3 = d4 A 0 1 2 3 0 3 1 j := by
    first | rfl | (simp only [d2, d3, d4] <;> grind)
  have h4 : d4 A 0 1 2 3 0 1 4 3 = d4 A 0 1 2 3 0 3 1 4 := by
    first | rfl | (simp only [d2, d3, d4] <;> grind)
  have h5 : d4 A 0 1 2 3 0 2 3 j = -(d4 A 0 1 2 3 0 3 2 j) := by
    first | rfl | (simp only [d2, d3, d4] <;> grind)
  have hp := plk4 A 0 3 1 2 4 j
  rw [h0, h1, h2, h3, h4, h5]
  grind
theorem crx2_2 (A : Nat → Nat → Int) (j : Nat) : 0 - d4 A 0 1 2 3 0 1 3 4 * d4 A 0 1 2 3 0 1 j 3 + d4 A 0 1 2 3 0 1 4 3 * d4 A 0 1 2 3 0 1 3 j = 0 := by
  have h0 : d4 A 0 1 2 3 0 1 4 3 = -(d4 A 0 1 2 3 0 1 3 4) := by
    first | rfl | (simp only [d2, d3, d4] <;> grind)
  have h1 : d4 A 0 1 2 3 0 1 3 j = -(d4 A 0 1 2 3 0 1 j 3) := by
    first | rfl | (simp only [d2, d3, d4] <;> grind)
  rw [h0, h1]
  grind
theorem crx2_3 (A : Nat → Nat → Int) (j : Nat) : 0 - d4 A 0 1 2 3 0 1 2 3 * d4 A 0 1 2 3 0 1 j 4 + d4 A 0 1 2 3 0 1 2 4 * d4 A 0 1 2 3 0 1 j 3 - d4 A 0 1 2 3 0 1 4 3 * d4 A 0 1 2 3 0 1 2 j = 0 := by
  have h0 : d4 A 0 1 2 3 0 1 2 3 = d4 A 0 1 2 3 0 1 2 3 := by
    first | rfl | (simp only [d2, d3, d4] <;> grind)
  have h1 : d4 A 0 1 2 3 0 1 j 4 = -(d4 A 0 1 2 3 0 1 4 j) := by
    first | rfl | (simp only [d2, d3, d4] <;> grind)
  have h2 : d4 A 0 1 2 3 0 1 2 4 = d4 A 0 1 2 3 0 1 2 4 := by
    first | rfl | (simp only [d2, d3, d4] <;> grind)
  have h3 : d4 A 0 1 2 3 0 1 j 3 = -(d4 A 0 1 2 3 0 1 3 j) := by
    first | rfl | (simp only [d2, d3, d4] <;> grind)
  have h4 : d4 A 0 1 2 3 0 1 4 3 = -(d4 A 0 1 2 3 0 1 3 4) := by
    first | rfl | (simp only [d2, d3, d4] <;> grind)
  have h5 : d4 A 0 1 2 3 0 1 2 j = d4 A 0 1 2 3 0 1 2 j := by
    first | rfl | (simp only [d2, d3, d4] <;> grind)
  have hp := plk4 A 0 1 2 3 4 j
  rw [h0, h1, h2, h3, h4, h5]
  grind
theorem crx2_4 (A : Nat → Nat → Int) (j : Nat) : 0 + d4 A 0 1 2 3 0 1 2 3 * d4 A 0 1 2 3 0 1 j 3 - d4 A 0 1 2 3 0 1 2 3 * d4 A 0 1 2 3 0 1 j 3 = 0 := by
  grind
theorem crx2_j (A : Nat → Nat → Int) (j : Nat) : 0 + d4 A 0 1 2 3 0 1 2 3 * d4 A 0 1 2 3 0 1 3 4 + d4 A 0 1 2 3 0 1 4 3 * d4 A 0 1 2 3 0 1 2 3 = 0 := by
  have h0 : d4 A 0 1 2 3 0 1 4 3 = -(d4 A 0 1 2 3 0 1 3 4) := by
    first | rfl | (simp only [d2, d3, d4] <;> grind)
  rw [h0]
  grind
theorem crm4_2 (A : Nat → Nat → Int) (j : Nat) : d4 A 0 1 2 3 0 1 2 3 * d5 A 0 1 2 3 4 0 1 j 3 4 = d5 A 0 1 2 3 4 0 1 2 3 4 * d4 A 0 1 2 3 0 1 j 3 - d4 A 0 1 2 3 0 1 4 3 * d5 A 0 1 2 3 4 0 1 2 3 j := by
  have x0 := crx2_0 A j
  have x1 := crx2_1 A j
  have x2 := crx2_2 A j
  have x3 := crx2_3 A j
  have x4 := crx2_4 A j
  have xj := crx2_j A j
  have e : d4 A 0 1 2 3 0 1 2 3 * d5 A 0 1 2 3 4 0 1 j 3 4 - (d5 A 0 1 2 3 4 0 1 2 3 4 * d4 A 0 1 2 3 0 1 j 3 - d4 A 0 1 2 3 0 1 4 3 * d5 A 0 1 2 3 4 0 1 2 3 j) = A 4 0 * (0 + d4 A 0 1 2 3 0 1 2 3 * d4 A 0 1 2 3 1 j 3 4 - d4 A 0 1 2 3 1 2 3 4 * d4 A 0 1 2 3 0 1 j 3 + d4 A 0 1 2 3 0 1 4 3 * d4 A 0 1 2 3 1 2 3 j) + A 4 1 * (0 - d4 A 0 1 2 3 0 1 2 3 * d4 A 0 1 2 3 0 j 3 4 + d4 A 0 1 2 3 0 2 3 4 * d4 A 0 1 2 3 0 1 j 3 - d4 A 0 1 2 3 0 1 4 3 * d4 A 0 1 2 3 0 2 3 j) + A 4 2 * (0 - d4 A 0 1 2 3 0 1 3 4 * d4 A 0 1 2 3 0 1 j 3 + d4 A 0 1 2 3 0 1 4 3 * d4 A 0 1 2 3 0 1 3 j) + A 4 3 * (0 - d4 A 0 1 2 3 0 1 2 3 * d4 A 0 1 2 3 0 1 j 4 + d4 A 0 1 2 3 0 1 2 4 * d4 A 0 1 2 3 0 1 j 3 - d4 A 0 1 2 3 0 1 4 3 * d4 A 0 1 2 3 0 1 2 j) + A 4 4 * (0 + d4 A 0 1 2 3 0 1 2 3 * d4 A 0 1 2 3 0 1 j 3 - d4 A 0 1 2 3 0 1 2 3 * d4 A 0 1 2 3 0 1 j 3) + A 4 j * (0 + d4 A 0 1 2 3 0 1 2 3 * d4 A 0 1 2 3 0 1 3 4 + d4 A 0 1 2 3 0 1 4 3 * d4 A 0 1 2 3 0 1 2 3) := by
    simp only [d5]; grind
  rw [x0, x1, x2, x3, x4, xj] at e
  omega
theorem crx3_0 (A : Nat → Nat → Int) (j : Nat) : 0 + d4 A 0 1 2 3 0 1 2 3 * d4 A 0 1 2 3 1 2 j 4 - d4 A 0 1 2 3 1 2 3 4 * d4 A 0 1 2 3 0 1 2 j + d4 A 0 1 2 3 0 1 2 4 * d4 A 0 1 2 3 1 2 3 j = 0 := by
  have h0 : d4 A 0 1 2 3 0 1 2 3 = d4 A 0 1 2 3 1 2 0 3 := by
    first | rfl | (simp only [d2, d3, d4] <;> grind)
  have h1 : d4 A 0 1 2 3 1 2 j 4 = -(d4 A 0 1 2 3 1 2 4 j) := by
    first | rfl | (simp only [d2, d3, d4] <;> grind)
  have h2 : d4 A 0 1 2 3 1 2 3 4 = d4 A 0 1 2 3 1 2 3 4 := by
    first | rfl | (simp only [d2, d3, d4] <;> grind)
  have h3 : d4 A 0 1 2 3 0 1 2 j = d4 A 0 1 2 3 1 2 0 j := by
    first | rfl | (simp only [d2, d3, d4] <;> grind)
  have h4 : d4 A 0 1 2 3 0 1 2 4 = d4 A 0 1 2 3 1 2 0 4 := by
    first | rfl | (simp only [d2, d3, d4] <;> grind)
  have h5 : d4 A 0 1 2 3 1 2 3 j = d4 A 0 1 2 3 1 2 3 j := by
    first | rfl | (simp only [d2, d3, d4] <;> grind)
  have hp := plk4 A 1 2 0 3 4 j
  rw [h0, h1, h2, h3, h4, h5]
  grind
theorem crx3_1 (A : Nat → Nat → Int) (j : Nat) : 0 - d4 A 0 1 2 3 0 1 2 3 * d4 A 0 1 2 3 0 2 j 4 + d4 A 0 1 2 3 0 2 3 4 * d4 A 0 1 2 3 0 1 2 j - d4 A 0 1 2 3 0 1 2 4 * d4 A 0 1 2 3 0 2 3 j = 0 := by
  have h0 : d4 A 0 1 2 3 0 1 2 3 = -(d4 A 0 1 2 3 0 2 1 3) := by
    first | rfl | (simp only [d2, d3, d4] <;> grind)
  have h1 : d4 A 0 1 2 3 0 2 j 4 = -(d4 A 0 1 2 3 0 2 4 j) := by
    first | rfl | (simp only [d2, d3, d4] <;> grind)
  have h2 : d4 A 0 1 2 3 0 2 3 4 = d4 A 0 1 2 3 0 2 3 4 := by
    first | rfl | (simp only [d2, d3, d4] <;> grind)
  have h3 : d4 A 0 1 2 3 0 1 2 j = -(d4 A 0 1 2 3 0 2 1 j) := by
    first | rfl | (simp only [d2, d3, d4] <;> grind)
  have h4 : d4 A 0 1 2 3 0 1 2 4 = -(d4 A 0 1 2 3 0 2 1 4) := by
    first | rfl | (simp only [d2, d3, d4] <;> grind)
  have h5 : d4 A 0 1 2 3 0 2 3 j = d4 A 0 1 2 3 0 2 3 j := by
    first | rfl | (simp only [d2, d3, d4] <;> grind)
  have hp := plk4 A 0 2 1 3 4 j
  rw [h0, h1, h2, h3, h4, h5]
  grind
theorem crx3_2 (A : Nat → Nat → Int) (j : Nat) : 0 + d4 A 0 1 2 3 0 1 2 3 * d4 A 0 1 2 3 0 1 j 4 - d4 A 0 1 2 3 0 1 3 4 * d4 A 0 1 2 3 0 1 2 j + d4 A 0 1 2 3 0 1 2 4 * d4 A 0 1 2 3 0 1 3 j = 0 := by
  have h0 : d4 A 0 1 2 3 0 1 2 3 = d4 A 0 1 2 3 0 1 2 3 := by
    first | rfl | (simp only [d2, d3, d4] <;> grind)
  have h1 : d4 A 0 1 2 3 0 1 j 4 = -(d4 A 0 1 2 3 0 1 4 j) := by
    first | rfl | (simp only [d2, d3, d4] <;> grind)
  have h2 : d4 A 0 1 2 3 0 1 3 4 = d4 A 0 1 2 3 0 1 3 4 := by
    first | rfl | (simp only [d2, d3, d4] <;> grind)
  have h3 : d4 A 0 1 2 3 0 1 2 j = d4 A 0 1 2 3 0 1 2 j := by
    first | rfl | (simp only [d2, d3, d4] <;> grind)
  have h4 : d4 A 0 1 2 3 0 1 2 4 = d4 A 0 1 2 3 0 1 2 4 := by
    first | rfl | (simp only [d2, d3, d4] <;> grind)
  have h5 : d4 A 0 1 2 3 0 1 3 j = d4 A 0 1 2 3 0 1 3 j := by
    first | rfl | (simp only [d2, d3, d4] <;> grind)
  have hp := plk4 A 0 1 2 3 4 j
  rw [h0, h1, h2, h3, h4, h5]
  grind
theorem crx3_3 (A : Nat → Nat → Int) (j : Nat) : 0 + d4 A 0 1 2 3 0 1 2 4 * d4 A 0 1 2 3 0 1 2 j - d4 A 0 1 2 3 0 1 2 4 * d4 A 0 1 2 3 0 1 2 j = 0 := by
  grind
theorem crx3_4 (A : Nat → Nat → Int) (j : Nat) : 0 + d4 A 0 1 2 3 0 1 2 3 * d4 A 0 1 2 3 0 1 2 j - d4 A 0 1 2 3 0 1 2 3 * d4 A 0 1 2 3 0 1 2 j = 0 := by
  grind
theorem crx3_j (A : Nat → Nat → Int) (j : Nat) : 0 - d4 A 0 1 2 3 0 1 2 3 * d4 A 0 1 2 3 0 1 2 4 + d4 A 0 1 2 3 0 1 2 4 * d4 A 0 1 2 3 0 1 2 3 = 0 := by
  grind
theorem crm4_3 (A : Nat → Nat → Int) (j : Nat) : d4 A 0 1 2 3 0 1 2 3 * d5 A 0 1 2 3 4 0 1 2 j 4 = d5 A 0 1 2 3 4 0 1 2 3 4 * d4 A 0 1 2 3 0 1 2 j - d4 A 0 1 2 3 0 1 2 4 * d5 A 0 1 2 3 4 0 1 2 3 j := by
  have x0 := crx3_0 A j
  have x1 := crx3_1 A j
  have x2 := crx3_2 A j
  have x3 := crx3_3 A j
  have x4 := crx3_4 A j
  have xj := crx3_j A j
  have e : d4 A 0 1 2 3 0 1 2 3 * d5 A 0 1 2 3 4 0 1 2 j 4 - (d5 A 0 1 2 3 4 0 1 2 3 4 * d4 A 0 1 2 3 0 1 2 j - d4 A 0 1 2 3 0 1 2 4 * d5 A 0 1 2 3 4 0 1 2 3 j) = A 4 0 * (0 + d4 A 0 1 2 3 0 1 2 3 * d4 A 0 1 2 3 1 2 j 4 - d4 A 0 1 2 3 1 2 3 4 * d4 A 0 1 2 3 0 1 2 j + d4 A 0 1 2 3 0 1 2 4 * d4 A 0 1 2 3 1 2 3 j) + A 4 1 * (0 - d4 A 0 1 2 3 0 1 2 3 * d4 A 0 1 2 3 0 2 j 4 + d4 A 0 1 2 3 0 2 3 4 * d4 A 0 1 2 3 0 1 2 j - d4 A 0 1 2 3 0 1 2 4 * d4 A 0 1 2 3 0 2 3 j) + A 4 2 * (0 + d4 A 0 1 2 3 0 1 2 3 * d4 A 0 1 2 3 0 1 j 4 - d4 A 0 1 2 3 0 1 3 4 * d4 A 0 1 2 3 0 1 2 j + d4 A 0 1 2 3 0 1 2 4 * d4 A 0 1 2 3 0 1 3 j) + A 4 3 * (0 + d4 A 0 1 2 3 0 1 2 4 * d4 A 0 1 2 3 0 1 2 j - d4 A 0 1 2 3 0 1 2 4 * d4 A 0 1 2 3 0 1 2 j) + A 4 4 * (0 + d4 A 0 1 2 3 0 1 2 3 * d4 A 0 1 2 3 0 1 2 j - d4 A 0 1 2 3 0 1 2 3 * d4 A 0 1 2 3 0 1 2 j) + A 4 j * (0 - d4 A 0 1 2 3 0 1 2 3 * d4 A 0 1 2 3 0 1 2 4 + d4 A 0 1 2 3 0 1 2 4 * d4 A 0 1 2 3 0 1 2 3) := by
    simp only [d5]; grind
  rw [x0, x1, x2, x3, x4, xj] at e
  omega

/-! determinants up to five rows, and the steps of an elimination without fractions -/
def d2 (A : Nat → Nat → Int) (r0 r1 c0 c1 : Nat) : Int := A r0 c0 * A r1 c1 - A r0 c1 * A r1 c0
def d3 (A : Nat → Nat → Int) (r0 r1 r2 c0 c1 c2 : Nat) : Int := A r2 c0 * d2 A r0 r1 c1 c2 - A r2 c1 * d2 A r0 r1 c0 c2 + A r2 c2 * d2 A r0 r1 c0 c1
def d4 (A : Nat → Nat → Int) (r0 r1 r2 r3 c0 c1 c2 c3 : Nat) : Int := -(A r3 c0 * d3 A r0 r1 r2 c1 c2 c3) + A r3 c1 * d3 A r0 r1 r2 c0 c2 c3 - A r3 c2 * d3 A r0 r1 r2 c0 c1 c3 + A r3 c3 * d3 A r0 r1 r2 c0 c1 c2
def d5 (A : Nat → Nat → Int) (r0 r1 r2 r3 r4 c0 c1 c2 c3 c4 : Nat) : Int := A r4 c0 * d4 A r0 r1 r2 r3 c1 c2 c3 c4 - A r4 c1 * d4 A r0 r1 r2 r3 c0 c2 c3 c4 + A r4 c2 * d4 A r0 r1 r2 r3 c0 c1 c3 c4 - A r4 c3 * d4 A r0 r1 r2 r3 c0 c1 c2 c4 + A r4 c4 * d4 A r0 r1 r2 r3 c0 c1 c2 c3
/-- what stands in row i, column j when k columns are done (rows 0 .. k - 1 have had their turn) -/
def bar (A : Nat → Nat → Int) (k i j : Nat) : Int :=
  match k with
  | 0 => A i j
  | 1 => if i < 1 then A 0 j else d2 A 0 i 0 j
  | 2 => if i < 2 then (match i with | 0 => d2 A 0 1 j 1 | _ => d2 A 0 1 0 j) else d3 A 0 1 i 0 1 j
  | 3 => if i < 3 then (match i with | 0 => d3 A 0 1 2 j 1 2 | 1 => d3 A 0 1 2 0 j 2 | _ => d3 A 0 1 2 0 1 j) else d4 A 0 1 2 i 0 1 2 j
  | 4 => if i < 4 then (match i with | 0 => d4 A 0 1 2 3 j 1 2 3 | 1 => d4 A 0 1 2 3 0 j 2 3 | 2 => d4 A 0 1 2 3 0 1 j 3 | _ => d4 A 0 1 2 3 0 1 2 j) else d5 A 0 1 2 3 i 0 1 2 3 j
  | _ => (match i with | 0 => d5 A 0 1 2 3 4 j 1 2 3 4 | 1 => d5 A 0 1 2 3 4 0 j 2 3 4 | 2 => d5 A 0 1 2 3 4 0 1 j 3 4 | 3 => d5 A 0 1 2 3 4 0 1 2 j 4 | _ => d5 A 0 1 2 3 4 0 1 2 3 j)

theorem syl0 (A : Nat → Nat → Int) (i j : Nat) : (1) * (d2 A 0 i 0 j) = (A 0 0) * (A i j) - (A i 0) * (A 0 j) := by
  simp only [d2, d3, d4, d5]; grind
theorem syl1 (A : Nat → Nat → Int) (i j : Nat) : (A 0 0) * (d3 A 0 1 i 0 1 j) = (d2 A 0 1 0 1) * (d2 A 0 i 0 j) - (d2 A 0 i 0 1) * (d2 A 0 1 0 j) := by
  simp only [d2, d3, d4, d5]; grind
theorem syl2 (A : Nat → Nat → Int) (i j : Nat) : (d2 A 0 1 0 1) * (d4 A 0 1 2 i 0 1 2 j) = (d3 A 0 1 2 0 1 2) * (d3 A 0 1 i 0 1 j) - (d3 A 0 1 i 0 1 2) * (d3 A 0 1 2 0 1 j) := by
  simp only [d2, d3, d4, d5]; grind
set_option maxRecDepth 100000 in
set_option maxHeartbeats 4000000 in
theorem syl3 (A : Nat → Nat → Int) (i j : Nat) : (d3 A 0 1 2 0 1 2) * (d5 A 0 1 2 3 i 0 1 2 3 j) = (d4 A 0 1 2 3 0 1 2 3) * (d4 A 0 1 2 i 0 1 2 j) - (d4 A 0 1 2 i 0 1 2 3) * (d4 A 0 1 2 3 0 1 2 j) := by
  simp only [d2, d3, d4, d5]; grind
theorem crm1_0 (A : Nat → Nat → Int) (j : Nat) : (A 0 0) * (d2 A 0 1 j 1) = (d2 A 0 1 0 1) * (A 0 j) - (A 0 1) * (d2 A 0 1 0 j) := by
  simp only [d2, d3, d4, d5]; grind
theorem crm2_0 (A : Nat → Nat → Int) (j : Nat) : (d2 A 0 1 0 1) * (d3 A 0 1 2 j 1 2) = (d3 A 0 1 2 0 1 2) * (d2 A 0 1 j 1) - (d2 A 0 1 2 1) * (d3 A 0 1 2 0 1 j) := by
  simp only [d2, d3, d4, d5]; grind
theorem crm2_1 (A : Nat → Nat → Int) (j : Nat) : (d2 A 0 1 0 1) * (d3 A 0 1 2 0 j 2) = (d3 A 0 1 2 0 1 2) * (d2 A 0 1 0 j) - (d2 A 0 1 0 2) * (d3 A 0 1 2 0 1 j) := by
  simp only [d2, d3, d4, d5]; grind
theorem crm3_0 (A : Nat → Nat → Int) (j : Nat) : (d3 A 0 1 2 0 1 2) * (d4 A 0 1 2 3 j 1 2 3) = (d4 A 0 1 2 3 0 1 2 3) * (d3 A 0 1 2 j 1 2) - (d3 A 0 1 2 3 1 2) * (d4 A 0 1 2 3 0 1 2 j) := by
  simp only [d2, d3, d4, d5]; grind
theorem crm3_1 (A : Nat → Nat → Int) (j : Nat) : (d3 A 0 1 2 0 1 2) * (d4 A 0 1 2 3 0 j 2 3) = (d4 A 0 1 2 3 0 1 2 3) * (d3 A 0 1 2 0 j 2) - (d3 A 0 1 2 0 3 2) * (d4 A 0 1 2 3 0 1 2 j) := by
  simp only [d2, d3, d4, d5]; grind
theorem crm3_2 (A : Nat → Nat → Int) (j : Nat) : (d3 A 0 1 2 0 1 2) * (d4 A 0 1 2 3 0 1 j 3) = (d4 A 0 1 2 3 0 1 2 3) * (d3 A 0 1 2 0 1 j) - (d3 A 0 1 2 0 1 3) * (d4 A 0 1 2 3 0 1 2 j) := by
  simp only [d2, d3, d4, d5]; grind

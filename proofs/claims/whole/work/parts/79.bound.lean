/-! how great a minor can be -/
def r2 (x y : Nat → Int) (c0 c1 : Nat) : Int := x c0 * y c1 - x c1 * y c0
def r3 (x y z : Nat → Int) (c0 c1 c2 : Nat) : Int := z c0 * r2 x y c1 c2 - z c1 * r2 x y c0 c2 + z c2 * r2 x y c0 c1
def r4 (x y z u : Nat → Int) (c0 c1 c2 c3 : Nat) : Int := -(u c0 * r3 x y z c1 c2 c3) + u c1 * r3 x y z c0 c2 c3 - u c2 * r3 x y z c0 c1 c3 + u c3 * r3 x y z c0 c1 c2
theorem d2_r (A : Nat → Nat → Int) (r0 r1 c0 c1 : Nat) : d2 A r0 r1 c0 c1 = r2 (A r0) (A r1) c0 c1 := rfl
theorem d3_r (A : Nat → Nat → Int) (r0 r1 r2' c0 c1 c2 : Nat) : d3 A r0 r1 r2' c0 c1 c2 = r3 (A r0) (A r1) (A r2') c0 c1 c2 := rfl
theorem d4_r (A : Nat → Nat → Int) (r0 r1 r2' r3' c0 c1 c2 c3 : Nat) : d4 A r0 r1 r2' r3' c0 c1 c2 c3 = r4 (A r0) (A r1) (A r2') (A r3') c0 c1 c2 c3 := rfl
def b01 (p : Nat → Int) : Prop := ∀ c, p c = 0 ∨ p c = 1
def RB (x : Nat → Int) (h : Int) : Prop := ∃ (e f : Int) (p q : Nat → Int), 0 ≤ e ∧ 0 ≤ f ∧ e + f ≤ h ∧ b01 p ∧ b01 q ∧ ∀ c, x c = e * p c - f * q c
def wthn (B v : Int) : Prop := -B ≤ v ∧ v ≤ B
theorem lin_bound {F : (Nat → Int) → Int} {B h : Int} {x : Nat → Int} (hl : ∀ (e f : Int) (p q : Nat → Int), F (fun c => e * p c - f * q c) = e * F p - f * F q) (hb : ∀ p, b01 p → wthn B (F p)) (hB : 0 ≤ B) (hx : RB x h) : wthn (h * B) (F x) := by
  obtain ⟨e, f, p, q, he, hf, hs, hp, hq, hx⟩ := hx
  have : x = fun c => e * p c - f * q c := funext hx
  rw [this, hl]
  obtain ⟨p1, p2⟩ := hb p hp
  obtain ⟨q1, q2⟩ := hb q hq
  have a1 := Int.mul_nonneg he (show 0 ≤ B - F p by omega)
  have a2 := Int.mul_nonneg he (show 0 ≤ B + F p by omega)
  have a3 := Int.mul_nonneg hf (show 0 ≤ B - F q by omega)
  have a4 := Int.mul_nonneg hf (show 0 ≤ B + F q by omega)
  have a5 := Int.mul_nonneg (show 0 ≤ h - e - f by omega) hB
  rw [Int.mul_sub] at a1 a3
  rw [Int.mul_add] at a2 a4
  have e5 : (h - e - f) * B = h * B - e * B - f * B := by grind
  rw [e5] at a5
  constructor <;> omega
theorem in01 {v : Int} (h : v = 0 ∨ v = 1) : ∃ b : Bool, v = if b then 1 else 0 := by
  rcases h with h | h
  · exact ⟨false, h⟩
  · exact ⟨true, h⟩
theorem tab2 : ∀ a b c d : Bool, wthn 1 ((if a then 1 else 0) * (if d then 1 else 0) - (if b then 1 else 0) * (if c then 1 else 0)) := by
  unfold wthn; decide
theorem r2_01 {x y : Nat → Int} (hx : b01 x) (hy : b01 y) (c0 c1 : Nat) : wthn 1 (r2 x y c0 c1) := by
  obtain ⟨a, ha⟩ := in01 (hx c0)
  obtain ⟨b, hb⟩ := in01 (hx c1)
  obtain ⟨c, hc⟩ := in01 (hy c0)
  obtain ⟨d, hd⟩ := in01 (hy c1)
  unfold r2
  rw [ha, hb, hc, hd]
  exact tab2 a b c d
def i01 (b : Bool) : Int := if b then 1 else 0
def t3 (a b c d e f g h i : Bool) : Int := i01 g * (i01 b * i01 f - i01 c * i01 e) - i01 h * (i01 a * i01 f - i01 c * i01 d) + i01 i * (i01 a * i01 e - i01 b * i01 d)
set_option maxRecDepth 10000 in
theorem tab3 : ∀ a b c d e f g h i : Bool, -2 ≤ t3 a b c d e f g h i ∧ t3 a b c d e f g h i ≤ 2 := by decide +kernel
theorem in01' {v : Int} (h : v = 0 ∨ v = 1) : ∃ b : Bool, v = i01 b := by
  rcases h with h | h
  · exact ⟨false, h⟩
  · exact ⟨true, h⟩
theorem r3_01 {x y z : Nat → Int} (hx : b01 x) (hy : b01 y) (hz : b01 z) (c0 c1 c2 : Nat) : wthn 2 (r3 x y z c0 c1 c2) := by
  obtain ⟨a, ha⟩ := in01' (hx c0)
  obtain ⟨b, hb⟩ := in01' (hx c1)
  obtain ⟨c, hc⟩ := in01' (hx c2)
  obtain ⟨d, hd⟩ := in01' (hy c0)
  obtain ⟨e, he⟩ := in01' (hy c1)
  obtain ⟨f, hf⟩ := in01' (hy c2)
  obtain ⟨g, hg⟩ := in01' (hz c0)
  obtain ⟨h, hh⟩ := in01' (hz c1)
  obtain ⟨i, hi⟩ := in01' (hz c2)
  unfold r3 r2
  rw [ha, hb, hc, hd, he, hf, hg, hh, hi]
  exact tab3 a b c d e f g h i
/-! four rows of 0 and 1: one has at most two ones, or all have three at least -/
theorem r4_few {x y z u : Nat → Int} (hx : b01 x) (hy : b01 y) (hz : b01 z) (hu : b01 u) (c0 c1 c2 c3 : Nat) (h : u c0 + u c1 + u c2 + u c3 ≤ 2) : wthn 4 (r4 x y z u c0 c1 c2 c3) := by
  have a0 := r3_01 hx hy hz c1 c2 c3
  have a1 := r3_01 hx hy hz c0 c2 c3
  have a2 := r3_01 hx hy hz c0 c1 c3
  have a3 := r3_01 hx hy hz c0 c1 c2
  unfold r4
  unfold wthn at *
  generalize r3 x y z c1 c2 c3 = m0 at *
  generalize r3 x y z c0 c2 c3 = m1 at *
  generalize r3 x y z c0 c1 c3 = m2 at *
  generalize r3 x y z c0 c1 c2 = m3 at *
  rcases hu c0 with e0 | e0 <;> rcases hu c1 with e1 | e1 <;> rcases hu c2 with e2 | e2 <;> rcases hu c3 with e3 | e3 <;> rw [e0, e1, e2, e3] at h ⊢ <;> simp only [Int.zero_mul, Int.one_mul] at h ⊢ <;> omega
theorem r4_swap {x y z u : Nat → Int} (c0 c1 c2 c3 : Nat) : r4 x y z u c0 c1 c2 c3 = -r4 u y z x c0 c1 c2 c3 ∧ r4 x y z u c0 c1 c2 c3 = -r4 x u z y c0 c1 c2 c3 ∧ r4 x y z u c0 c1 c2 c3 = -r4 x y u z c0 c1 c2 c3 := by
  refine ⟨?_, ?_, ?_⟩ <;> (simp only [r4, r3, r2]; grind)
def pat (n j : Nat) : Int := if n = j then 0 else 1
def t4 (n0 n1 n2 n3 : Nat) : Int := r4 (pat n0) (pat n1) (pat n2) (pat n3) 0 1 2 3
set_option maxRecDepth 10000 in
theorem tab4 : ∀ a, a < 5 → ∀ b, b < 5 → ∀ c, c < 5 → ∀ d, d < 5 → -4 ≤ t4 a b c d ∧ t4 a b c d ≤ 4 := by decide +kernel
theorem pat_of {u : Nat → Int} (hu : b01 u) (c0 c1 c2 c3 : Nat) (h : ¬ u c0 + u c1 + u c2 + u c3 ≤ 2) : ∃ n, n < 5 ∧ u c0 = pat n 0 ∧ u c1 = pat n 1 ∧ u c2 = pat n 2 ∧ u c3 = pat n 3 := by
  rcases hu c0 with e0 | e0 <;> rcases hu c1 with e1 | e1 <;> rcases hu c2 with e2 | e2 <;> rcases hu c3 with e3 | e3 <;> rw [e0, e1, e2, e3] at h ⊢ <;>
    first
    | (exfalso; omega)
    | exact ⟨0, by decide, rfl, rfl, rfl, rfl⟩
    | exact ⟨1, by decide, rfl, rfl, rfl, rfl⟩
    | exact ⟨2, by decide, rfl, rfl, rfl, rfl⟩
    | exact ⟨3, by decide, rfl, rfl, rfl, rfl⟩
    | exact ⟨4, by decide, rfl, rfl, rfl, rfl⟩
theorem r4_01 {x y z u : Nat → Int} (hx : b01 x) (hy : b01 y) (hz : b01 z) (hu : b01 u) (c0 c1 c2 c3 : Nat) : wthn 4 (r4 x y z u c0 c1 c2 c3) := by
  obtain ⟨s0, s1, s2⟩ := r4_swap (x := x) (y := y) (z := z) (u := u) c0 c1 c2 c3
  by_cases h3 : u c0 + u c1 + u c2 + u c3 ≤ 2
  · exact r4_few hx hy hz hu c0 c1 c2 c3 h3
  by_cases h2 : z c0 + z c1 + z c2 + z c3 ≤ 2
  · have := r4_few hx hy hu hz c0 c1 c2 c3 h2
    unfold wthn at *; omega
  by_cases h1 : y c0 + y c1 + y c2 + y c3 ≤ 2
  · have := r4_few hx hu hz hy c0 c1 c2 c3 h1
    unfold wthn at *; omega
  by_cases h0 : x c0 + x c1 + x c2 + x c3 ≤ 2
  · have := r4_few hu hy hz hx c0 c1 c2 c3 h0
    unfold wthn at *; omega
  obtain ⟨n0, l0, a0, a1, a2, a3⟩ := pat_of hx c0 c1 c2 c3 h0
  obtain ⟨n1, l1, b0, b1, b2, b3⟩ := pat_of hy c0 c1 c2 c3 h1
  obtain ⟨n2, l2, p0, p1, p2, p3⟩ := pat_of hz c0 c1 c2 c3 h2
  obtain ⟨n3, l3, q0, q1, q2, q3⟩ := pat_of hu c0 c1 c2 c3 h3
  have e : r4 x y z u c0 c1 c2 c3 = t4 n0 n1 n2 n3 := by
    unfold t4
    simp only [r4, r3, r2]
    rw [a0, a1, a2, a3, b0, b1, b2, b3, p0, p1, p2, p3, q0, q1, q2, q3]
  rw [e]
  exact tab4 n0 l0 n1 l1 n2 l2 n3 l3
theorem RB_h {x : Nat → Int} {h : Int} (hx : RB x h) : 0 ≤ h ∧ ∀ c, wthn h (x c) := by
  obtain ⟨e, f, p, q, he, hf, hs, hp, hq, hx⟩ := hx
  refine ⟨by omega, fun c => ?_⟩
  rw [hx c]
  unfold wthn
  rcases hp c with h1 | h1 <;> rcases hq c with h2 | h2 <;> rw [h1, h2] <;> simp only [Int.mul_zero, Int.mul_one] <;> omega
theorem r2_bound {x y : Nat → Int} {h0 h1 : Int} (hx : RB x h0) (hy : RB y h1) (c0 c1 : Nat) : wthn (h0 * (h1 * 1)) (r2 x y c0 c1) := by
  have p1 := (RB_h hy).1
  refine lin_bound (F := fun x => r2 x y c0 c1) (fun e f p q => by simp only [r2]; grind) (fun p hp => ?_) (Int.mul_nonneg p1 (by decide)) hx
  exact lin_bound (F := fun y => r2 p y c0 c1) (fun e f p' q => by simp only [r2]; grind) (fun p' hp' => r2_01 hp hp' c0 c1) (by decide) hy
theorem r3_bound {x y z : Nat → Int} {h0 h1 h2 : Int} (hx : RB x h0) (hy : RB y h1) (hz : RB z h2) (c0 c1 c2 : Nat) : wthn (h0 * (h1 * (h2 * 2))) (r3 x y z c0 c1 c2) := by
  have p1 := (RB_h hy).1
  have p2 := (RB_h hz).1
  have q2 : 0 ≤ h2 * 2 := Int.mul_nonneg p2 (by decide)
  refine lin_bound (F := fun x => r3 x y z c0 c1 c2) (fun e f p q => by simp only [r3, r2]; grind) (fun p hp => ?_) (Int.mul_nonneg p1 q2) hx
  refine lin_bound (F := fun y => r3 p y z c0 c1 c2) (fun e f p' q => by simp only [r3, r2]; grind) (fun p' hp' => ?_) q2 hy
  exact lin_bound (F := fun z => r3 p p' z c0 c1 c2) (fun e f p'' q => by simp only [r3, r2]; grind) (fun p'' hp'' => r3_01 hp hp' hp'' c0 c1 c2) (by decide) hz
theorem r4_bound {x y z u : Nat → Int} {h0 h1 h2 h3 : Int} (hx : RB x h0) (hy : RB y h1) (hz : RB z h2) (hu : RB u h3) (c0 c1 c2 c3 : Nat) : wthn (h0 * (h1 * (h2 * (h3 * 4)))) (r4 x y z u c0 c1 c2 c3) := by
  have p1 := (RB_h hy).1
  have p2 := (RB_h hz).1
  have p3 := (RB_h hu).1
  have q3 : 0 ≤ h3 * 4 := Int.mul_nonneg p3 (by decide)
  have q2 : 0 ≤ h2 * (h3 * 4) := Int.mul_nonneg p2 q3
  refine lin_bound (F := fun x => r4 x y z u c0 c1 c2 c3) (fun e f p q => by simp only [r4, r3, r2]; grind) (fun p hp => ?_) (Int.mul_nonneg p1 q2) hx
  refine lin_bound (F := fun y => r4 p y z u c0 c1 c2 c3) (fun e f p' q => by simp only [r4, r3, r2]; grind) (fun p' hp' => ?_) q2 hy
  refine lin_bound (F := fun z => r4 p p' z u c0 c1 c2 c3) (fun e f p'' q => by simp only [r4, r3, r2]; grind) (fun p'' hp'' => ?_) q3 hz
  exact lin_bound (F := fun u => r4 p p' p'' u c0 c1 c2 c3) (fun e f p3' q => by simp only [r4, r3, r2]; grind) (fun p3' hp3' => r4_01 hp hp' hp'' hp3' c0 c1 c2 c3) (by decide) hu
theorem wthn_mul {a b A B : Int} (ha : wthn A a) (hb : wthn B b) : wthn (A * B) (a * b) := by
  obtain ⟨a1, a2⟩ := ha
  obtain ⟨b1, b2⟩ := hb
  have m1 := Int.mul_nonneg (show 0 ≤ A - a by omega) (show 0 ≤ B + b by omega)
  have m2 := Int.mul_nonneg (show 0 ≤ A + a by omega) (show 0 ≤ B - b by omega)
  have m3 := Int.mul_nonneg (show 0 ≤ A - a by omega) (show 0 ≤ B - b by omega)
  have m4 := Int.mul_nonneg (show 0 ≤ A + a by omega) (show 0 ≤ B + b by omega)
  have e1 : (A - a) * (B + b) = A * B + A * b - a * B - a * b := by grind
  have e2 : (A + a) * (B - b) = A * B - A * b + a * B - a * b := by grind
  have e3 : (A - a) * (B - b) = A * B - A * b - a * B + a * b := by grind
  have e4 : (A + a) * (B + b) = A * B + A * b + a * B + a * b := by grind
  constructor <;> omega
theorem d5_bound {A : Nat → Nat → Int} {h0 h1 h2 h3 h4 : Int} {r0 r1 r2 r3 r4 : Nat} (k0 : RB (A r0) h0) (k1 : RB (A r1) h1) (k2 : RB (A r2) h2) (k3 : RB (A r3) h3) (k4 : RB (A r4) h4) (c0 c1 c2 c3 c4 : Nat) : wthn (5 * (h4 * (h0 * (h1 * (h2 * (h3 * 4)))))) (d5 A r0 r1 r2 r3 r4 c0 c1 c2 c3 c4) := by
  have w := (RB_h k4).2
  have m0 := wthn_mul (w c0) (r4_bound k0 k1 k2 k3 c1 c2 c3 c4)
  have m1 := wthn_mul (w c1) (r4_bound k0 k1 k2 k3 c0 c2 c3 c4)
  have m2 := wthn_mul (w c2) (r4_bound k0 k1 k2 k3 c0 c1 c3 c4)
  have m3 := wthn_mul (w c3) (r4_bound k0 k1 k2 k3 c0 c1 c2 c4)
  have m4 := wthn_mul (w c4) (r4_bound k0 k1 k2 k3 c0 c1 c2 c3)
  unfold d5
  simp only [d4_r]
  unfold wthn at *
  omega

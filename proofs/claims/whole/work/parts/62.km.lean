/-- how many constraints are not tight -/
def ntc (a : Nat → Nat → Int) (x : Nat → Int) : Nat → Nat
  | 0 => 0
  | n + 1 => ntc a x n + if ev (a n) x = 0 then 0 else 1
theorem ntc_le {a : Nat → Nat → Int} {x y : Nat → Int} : ∀ {N : Nat}, sub a N x y → ntc a y N ≤ ntc a x N
  | 0, _ => Nat.le_refl _
  | N + 1, h => by
    have ih := ntc_le (a := a) (x := x) (y := y) (N := N) (fun c hc => h c (by omega))
    have hN := h N (by omega)
    unfold ntc
    by_cases h1 : ev (a N) x = 0
    · rw [if_pos h1, if_pos (hN h1)]; omega
    · rw [if_neg h1]; split <;> omega
theorem ntc_lt {a : Nat → Nat → Int} {x y : Nat → Int} : ∀ {N : Nat}, sub a N x y → (∃ c, c < N ∧ ev (a c) x ≠ 0 ∧ ev (a c) y = 0) → ntc a y N < ntc a x N
  | 0, _, ⟨c, hc, _⟩ => absurd hc (Nat.not_lt_zero c)
  | N + 1, h, ⟨c, hc, h1, h2⟩ => by
    have hs : sub a N x y := fun c hc => h c (by omega)
    have hN := h N (by omega)
    unfold ntc
    by_cases hcN : c = N
    · subst hcN
      have := ntc_le hs
      rw [if_neg h1, if_pos h2]; omega
    · have ih := ntc_lt hs ⟨c, by omega, h1, h2⟩
      by_cases h3 : ev (a N) x = 0
      · rw [if_pos h3, if_pos (hN h3)]; omega
      · rw [if_neg h3]; split <;> omega
theorem comb_mono {a : Nat → Nat → Int} {N : Nat} {z z' x : Nat → Int} (h : sub a N z z') (hc : comb a N z' x) : comb a N z x := by
  obtain ⟨k, s, hk, hs, es⟩ := hc
  exact ⟨k, s, hk, fun e he => ⟨(hs e he).1, (hs e he).2.1, fun c hc h0 => (hs e he).2.2 c hc (h c hc h0)⟩, es⟩
/-- go from x in the direction y until a constraint becomes tight -/
theorem go_on {a : Nat → Nat → Int} {N : Nat} {x y : Nat → Int} (hx : inC a N x) (hs : sub a N x y) (hn : ∃ c, c < N ∧ ev (a c) y < 0) :
    ∃ D n : Int, 0 < D ∧ 0 < n ∧ inC a N (fun w => D * x w + n * y w) ∧ sub a N x (fun w => D * x w + n * y w) ∧ ntc a (fun w => D * x w + n * y w) N < ntc a x N := by
  obtain ⟨c, hc, hP, hm⟩ := minratio (fun c => ev (a c) y < 0) (fun c => ev (a c) x) (fun c => -ev (a c) y) N (fun c _ h => by omega) hn
  have hne : ev (a c) x ≠ 0 := fun e => by have := hs c hc e; omega
  have hpos : 0 < ev (a c) x := by have := hx c hc; omega
  have hsub : sub a N x (fun w => -ev (a c) y * x w + ev (a c) x * y w) := by
    intro d hd h0
    rw [ev_lin, h0, hs d hd h0]
    simp
  refine ⟨-ev (a c) y, ev (a c) x, by omega, hpos, ?_, hsub, ?_⟩
  · intro d hd
    rw [ev_lin]
    by_cases hdn : ev (a d) y < 0
    · have h1 := hm d hd hdn
      have e1 : ev (a c) x * -ev (a d) y = -(ev (a c) x * ev (a d) y) := by grind
      have e2 : ev (a d) x * -ev (a c) y = -ev (a c) y * ev (a d) x := by grind
      omega
    · have h1 : 0 ≤ -ev (a c) y * ev (a d) x := Int.mul_nonneg (by omega) (hx d hd)
      have h2 : 0 ≤ ev (a c) x * ev (a d) y := Int.mul_nonneg (by omega) (by omega)
      omega
  · refine ntc_lt hsub ⟨c, hc, hne, ?_⟩
    rw [ev_lin]
    grind
theorem ev_smul (a x : Nat → Int) (p : Int) : ev a (fun w => p * x w) = p * ev a x := by
  unfold ev
  rw [← sg_mul]
  exact sg_cong (fun k _ => by grind)
/-- where x is no vertex there is a direction with both signs -/
theorem two_signs {a : Nat → Nat → Int} {N : Nat} {x y : Nat → Int} (ha : coords a N) (hx : inC a N x) (hz : nz x) (hs : sub a N x y) (hp : ¬ prop8 x y) :
    ∃ u : Nat → Int, sub a N x u ∧ (∃ c, c < N ∧ ev (a c) u < 0) ∧ ∃ c, c < N ∧ 0 < ev (a c) u := by
  obtain ⟨w0, hw0, h0⟩ := hz
  obtain ⟨w1, hw1, h1⟩ : ∃ w1, w1 < 8 ∧ x w0 * y w1 ≠ y w0 * x w1 :=
    Classical.byContradiction fun hc => hp ⟨x w0, y w0, h0, fun w hw => Classical.byContradiction fun hne => hc ⟨w, hw, hne⟩⟩
  have p0 : 0 < x w0 := by have := hx w0 (by have := ha.1; omega); rw [ha.2 w0 hw0] at this; omega
  have p1 : 0 < x w1 := by
    have h2 := hx w1 (by have := ha.1; omega)
    rw [ha.2 w1 hw1] at h2
    rcases Int.lt_or_eq_of_le h2 with h3 | h3
    · exact h3
    · have h4 := hs w1 (by have := ha.1; omega) (by rw [ha.2 w1 hw1]; exact h3.symm)
      rw [ha.2 w1 hw1] at h4
      rw [h4, ← h3] at h1
      simp at h1
  have key : ∀ d : Int, d ≠ 0 → d = x w0 * y w1 - y w0 * x w1 → ∃ u : Nat → Int, sub a N x u ∧ (∃ c, c < N ∧ ev (a c) u < 0) ∧ ∃ c, c < N ∧ 0 < ev (a c) u := by
    intro d hd ed
    refine ⟨fun w => (2 * x w0 * x w1) * y w + (-(y w0 * x w1 + y w1 * x w0)) * x w, ?_, ?_⟩
    · intro c hc h2
      rw [ev_lin, h2, hs c hc h2]
      simp
    · have v0 : ev (a w0) (fun w => (2 * x w0 * x w1) * y w + (-(y w0 * x w1 + y w1 * x w0)) * x w) = -(x w0 * d) := by
        rw [ha.2 w0 hw0, ed]; grind
      have v1 : ev (a w1) (fun w => (2 * x w0 * x w1) * y w + (-(y w0 * x w1 + y w1 * x w0)) * x w) = x w1 * d := by
        rw [ha.2 w1 hw1, ed]; grind
      have hN := ha.1
      rcases Int.lt_or_gt_of_ne hd with h2 | h2
      · have m0 : 0 < x w0 * -d := Int.mul_pos p0 (by omega)
        have m1 : 0 < x w1 * -d := Int.mul_pos p1 (by omega)
        rw [Int.mul_neg] at m0 m1
        exact ⟨⟨w1, by omega, by rw [v1]; omega⟩, ⟨w0, by omega, by rw [v0]; omega⟩⟩
      · have m0 : 0 < x w0 * d := Int.mul_pos p0 h2
        have m1 : 0 < x w1 * d := Int.mul_pos p1 h2
        exact ⟨⟨w0, by omega, by rw [v0]; omega⟩, ⟨w1, by omega, by rw [v1]; omega⟩⟩
  exact key _ (by omega) rfl
/-- every point of the cone is a combination of vertices that are tight where it is -/
theorem km {a : Nat → Nat → Int} {N : Nat} (ha : coords a N) : ∀ (n : Nat) (x : Nat → Int), ntc a x N ≤ n → inC a N x → comb a N x x := by
  intro n
  induction n with
  | zero =>
    intro x hn hx
    refine ⟨1, [], by decide, fun e he => by simp at he, fun w hw => ?_⟩
    by_cases h : ev (a w) x = 0
    · rw [ha.2 w hw] at h; rw [h]; rfl
    · have hlt : ntc a (fun _ => 0) N < ntc a x N := ntc_lt (fun c _ _ => by unfold ev; exact sg_zero (fun k _ => by simp)) ⟨w, by have := ha.1; omega, h, by unfold ev; exact sg_zero (fun k _ => by simp)⟩
      omega
  | succ n ih =>
    intro x hn hx
    by_cases hz : nz x
    · by_cases hv : ∀ y, sub a N x y → prop8 x y
      · exact ⟨1, [(1, x)], by decide, fun e he => by
          rw [List.mem_singleton] at he; subst he
          exact ⟨(show (0 : Int) ≤ 1 by decide), ⟨hx, hz, hv⟩, fun c _ h => h⟩, fun w _ => by simp [ls]⟩
      · obtain ⟨y, hy⟩ : ∃ y, ¬ (sub a N x y → prop8 x y) := Classical.byContradiction fun hc => hv fun y => Classical.byContradiction fun h => hc ⟨y, h⟩
        have hs : sub a N x y := Classical.byContradiction fun h => hy (fun q => absurd q h)
        have hp : ¬ prop8 x y := fun h => hy (fun _ => h)
        obtain ⟨u, us, un, c, hc, up⟩ := two_signs ha hx hz hs hp
        obtain ⟨D, m, hD, hm, i1, s1, l1⟩ := go_on hx us un
        have us' : sub a N x (fun w => -1 * u w) := fun c hc h => by rw [ev_smul, us c hc h]; rfl
        obtain ⟨D', m', hD', hm', i2, s2, l2⟩ := go_on hx us' ⟨c, hc, by rw [ev_smul]; omega⟩
        have c1 := comb_mono s1 (ih _ (by omega) i1)
        have c2 := comb_mono s2 (ih _ (by omega) i2)
        refine comb_add (p := m') (q := m) (r := m' * D + m * D') c1 c2 (by omega) (by omega) ?_ ?_
        · have h1 := Int.mul_pos hm' hD
          have h2 := Int.mul_pos hm hD'
          omega
        · intro w _
          grind
    · refine ⟨1, [], by decide, fun e he => by simp at he, fun w hw => ?_⟩
      have : x w = 0 := Classical.byContradiction fun h => hz ⟨w, hw, h⟩
      rw [this]; rfl

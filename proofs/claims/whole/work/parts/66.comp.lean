/-- in the plane of x and u, tight at one constraint where x is not: a vertex -/
theorem vtx_plane {a : Nat → Nat → Int} {N : Nat} {x u z : Nat → Int} {D m : Int} (hz : inC a N z) (hm : m ≠ 0) (ez : ∀ w, w < 8 → z w = D * x w + m * u w) (hs : sub a N x z) (hp : ∀ y, sub a N x y → span2 x u y) (hnz : nz z) (hc : ∃ c, c < N ∧ ev (a c) x ≠ 0 ∧ ev (a c) z = 0) : vtx a N z := by
  obtain ⟨c, hcN, hcx, hcz⟩ := hc
  refine ⟨hz, hnz, fun y hy => ?_⟩
  obtain ⟨k, r, s, hk, h⟩ := hp y (fun d hd h0 => hy d hd (hs d hd h0))
  have hyc := hy c hcN hcz
  have e1 : ∀ w, w < 8 → (m * k) * y w = (m * r - s * D) * x w + s * z w := fun w hw => by
    have h1 := h w hw
    have h2 := ez w hw
    have e : (m * k) * y w = m * (k * y w) := by grind
    rw [e, h1, h2]
    grind
  have e2 := ev_span (a := a c) e1
  rw [hyc, hcz, Int.mul_zero, Int.mul_zero, Int.add_zero] at e2
  have e3 : m * r - s * D = 0 := by
    rcases Int.mul_eq_zero.mp e2.symm with e | e
    · exact e
    · exact absurd e hcx
  exact ⟨m * k, s, Int.mul_ne_zero hm hk, fun w hw => by rw [e1 w hw, e3]; simp⟩
theorem newly_tight {a : Nat → Nat → Int} {N : Nat} {x z : Nat → Int} (hl : ntc a z N < ntc a x N) : ∃ c, c < N ∧ ev (a c) x ≠ 0 ∧ ev (a c) z = 0 :=
  Classical.byContradiction fun hn => by
    have : sub a N z x := fun c hc h0 => Classical.byContradiction fun h1 => hn ⟨c, hc, h1, h0⟩
    have := ntc_le this
    omega
/-- x on a new constraint M, no old vertex: the edge of the old cone that it lies on -/
theorem edge_of {a : Nat → Nat → Int} {N M : Nat} {x u : Nat → Int} (ha : coords a N) (hx : inC a N x) (hxM : ev (a M) x = 0) (hT : ∀ y, sub a N x y → ev (a M) y = 0 → prop8 x y)
    (us : sub a N x u) (un : ∃ c, c < N ∧ ev (a c) u < 0) (up : ∃ c, c < N ∧ 0 < ev (a c) u) (hu : 0 < ev (a M) u) (nzc : ∀ z, inC a N z → ev (a M) z ≠ 0 → nz z) :
    ∃ p q : Nat → Int, vtx a N p ∧ vtx a N q ∧ ev (a M) p < 0 ∧ 0 < ev (a M) q ∧ (∀ y, sub a N (fun w => 1 * p w + 1 * q w) y → span2 p q y) ∧ ∃ E : Int, E ≠ 0 ∧ ∀ w, w < 8 → ev (a M) q * p w + -ev (a M) p * q w = E * x w := by
  have plane : ∀ y, sub a N x y → span2 x u y := by
    intro y hy
    obtain ⟨c, d, hc, hd⟩ := hT (fun w => ev (a M) u * y w + -ev (a M) y * u w) (fun c hc h0 => by rw [ev_lin, hy c hc h0, us c hc h0]; simp) (by rw [ev_lin]; grind)
    refine ⟨c * ev (a M) u, d, c * ev (a M) y, Int.mul_ne_zero hc (by omega), fun w hw => ?_⟩
    have := hd w hw
    grind
  obtain ⟨D, m, hD, hm, i1, s1, l1⟩ := go_on hx us un
  have us' : sub a N x (fun w => -1 * u w) := fun c hc h => by rw [ev_smul, us c hc h]; rfl
  obtain ⟨c, hc, hcp⟩ := up
  obtain ⟨D', m', hD', hm', i2, s2, l2⟩ := go_on hx us' ⟨c, hc, by rw [ev_smul]; omega⟩
  have eq1 : ev (a M) (fun w => D * x w + m * u w) = m * ev (a M) u := by rw [ev_lin, hxM]; simp
  have eq2 : ev (a M) (fun w => D' * x w + m' * (-1 * u w)) = -(m' * ev (a M) u) := by
    have e := ev_lin (a M) x (fun w => -1 * u w) D' m'
    rw [e, hxM, ev_smul]
    grind
  have pos1 : 0 < m * ev (a M) u := Int.mul_pos hm hu
  have pos2 : 0 < m' * ev (a M) u := Int.mul_pos hm' hu
  refine ⟨fun w => D' * x w + m' * (-1 * u w), fun w => D * x w + m * u w, ?_, ?_, ?_, ?_, ?_, ?_⟩
  · exact vtx_plane (D := D') (m := -m') (x := x) (u := u) i2 (by omega) (fun w _ => by grind) s2 plane (nzc _ i2 (by rw [eq2]; omega)) (newly_tight l2)
  · exact vtx_plane (D := D) (m := m) (x := x) (u := u) i1 (by omega) (fun w _ => rfl) s1 plane (nzc _ i1 (by rw [eq1]; omega)) (newly_tight l1)
  · rw [eq2]; omega
  · rw [eq1]; omega
  · intro y hy
    have hxy : sub a N x y := by
      intro d hd h0
      refine hy d hd ?_
      have e := ev_lin (a d) (fun w => D' * x w + m' * (-1 * u w)) (fun w => D * x w + m * u w) 1 1
      rw [e, s1 d hd h0, s2 d hd h0]
      rfl
    obtain ⟨k, r, s, hk, h⟩ := plane y hxy
    have hE : 0 < m * D' + m' * D := by
      have := Int.mul_pos hm hD'
      have := Int.mul_pos hm' hD
      omega
    refine ⟨(m * D' + m' * D) * k, r * m - s * D, r * m' + s * D', Int.mul_ne_zero (by omega) hk, fun w hw => ?_⟩
    have h1 := h w hw
    have e : (m * D' + m' * D) * k * y w = (m * D' + m' * D) * (k * y w) := by grind
    rw [e, h1]
    grind
  · refine ⟨ev (a M) u * (m * D' + m' * D), ?_, fun w hw => ?_⟩
    · have h1 := Int.mul_pos hm hD'
      have h2 := Int.mul_pos hm' hD
      exact Int.mul_ne_zero (by omega) (by omega)
    · rw [eq1, eq2]
      grind

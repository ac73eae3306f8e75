theorem prop8_symm {x y : Nat → Int} (hy : nz y) (h : prop8 x y) : prop8 y x := by
  obtain ⟨c, d, hc, hd⟩ := h
  obtain ⟨w0, hw0, h0⟩ := hy
  refine ⟨d, c, fun e => ?_, fun w hw => (hd w hw).symm⟩
  have h1 := hd w0 hw0
  rw [e, Int.zero_mul] at h1
  exact (Int.mul_ne_zero hc h0) h1
theorem ev_span {a p q r : Nat → Int} {k α β : Int} (h : ∀ w, w < 8 → k * r w = α * p w + β * q w) : k * ev a r = α * ev a p + β * ev a q := by
  rw [← ev_smul, ← ev_lin]
  exact ev_cong h
/-- a vertex in the plane of two vertices is one of them -/
theorem edge_conv {a : Nat → Nat → Int} {N : Nat} (ha : coords a N) {p q r : Nat → Int} (hp : vtx a N p) (hq : vtx a N q) (hr : vtx a N r) (hs : span2 p q r) : prop8 p r ∨ prop8 q r := by
  have key : ∀ k α β : Int, 0 < k → (∀ w, w < 8 → k * r w = α * p w + β * q w) → prop8 p r ∨ prop8 q r := by
    intro k α β hk h
    have hev : ∀ c, k * ev (a c) r = α * ev (a c) p + β * ev (a c) q := fun c => ev_span h
    by_cases hb : β = 0
    · exact Or.inl ⟨k, α, by omega, fun w hw => by rw [h w hw, hb]; simp⟩
    by_cases hal : α = 0
    · exact Or.inr ⟨k, β, by omega, fun w hw => by rw [h w hw, hal]; simp⟩
    rcases Int.lt_or_gt_of_ne hal with ha1 | ha1 <;> rcases Int.lt_or_gt_of_ne hb with hb1 | hb1
    · -- both below 0: r would be 0
      obtain ⟨w0, hw0, h0⟩ := hr.2.1
      have hN := ha.1
      have h1 := hr.1 w0 (by omega)
      have h2 := hp.1 w0 (by omega)
      have h3 := hq.1 w0 (by omega)
      have h4 := hev w0
      rw [ha.2 w0 hw0] at h1 h4
      have m1 : 0 ≤ -α * ev (a w0) p := Int.mul_nonneg (by omega) h2
      have m2 : 0 ≤ -β * ev (a w0) q := Int.mul_nonneg (by omega) h3
      have m3 : 0 < k * r w0 := Int.mul_pos hk (by omega)
      rw [Int.neg_mul] at m1 m2
      omega
    · -- β q = k r + (-α) p
      refine Or.inr (hq.2.2 r fun c hc h0 => ?_)
      have h4 := hev c
      rw [h0, Int.mul_zero, Int.add_zero] at h4
      have m1 : 0 ≤ -α * ev (a c) p := Int.mul_nonneg (by omega) (hp.1 c hc)
      have m2 := hr.1 c hc
      rw [Int.neg_mul] at m1
      rcases Int.lt_or_eq_of_le m2 with h5 | h5
      · have := Int.mul_pos hk h5; omega
      · exact h5.symm
    · refine Or.inl (hp.2.2 r fun c hc h0 => ?_)
      have h4 := hev c
      rw [h0, Int.mul_zero, Int.zero_add] at h4
      have m1 : 0 ≤ -β * ev (a c) q := Int.mul_nonneg (by omega) (hq.1 c hc)
      have m2 := hr.1 c hc
      rw [Int.neg_mul] at m1
      rcases Int.lt_or_eq_of_le m2 with h5 | h5
      · have := Int.mul_pos hk h5; omega
      · exact h5.symm
    · refine Or.inl (prop8_symm hp.2.1 (hr.2.2 p fun c hc h0 => ?_))
      have h4 := hev c
      rw [h0, Int.mul_zero] at h4
      have m1 : 0 ≤ β * ev (a c) q := Int.mul_nonneg (by omega) (hq.1 c hc)
      have m2 := hp.1 c hc
      rcases Int.lt_or_eq_of_le m2 with h5 | h5
      · have := Int.mul_pos ha1 h5; omega
      · exact h5.symm
  obtain ⟨k, α, β, hk, h⟩ := hs
  rcases Int.lt_or_gt_of_ne hk with h1 | h1
  · exact key (-k) (-α) (-β) (by omega) (fun w hw => by have := h w hw; grind)
  · exact key k α β h1 h

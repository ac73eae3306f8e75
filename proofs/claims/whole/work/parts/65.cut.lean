/-- a vertex that keeps two constraints more is a vertex of the smaller cone -/
theorem vtx_keep {a : Nat → Nat → Int} {N : Nat} {v : Nat → Int} (hv : vtx a N v) (h0 : 0 ≤ ev (a N) v) (h1 : 0 ≤ ev (a (N + 1)) v) : vtx a (N + 2) v := by
  refine ⟨fun c hc => ?_, hv.2.1, fun y hy => hv.2.2 y fun c hc h => hy c (by omega) h⟩
  by_cases e : c < N
  · exact hv.1 c e
  · rcases (show c = N ∨ c = N + 1 by omega) with rfl | rfl
    · exact h0
    · exact h1
/-- the crossing of an edge with a new constraint is a vertex of the smaller cone -/
theorem vtx_cross {a : Nat → Nat → Int} {N M : Nat} {p q : Nat → Int} (hp : inC a N p) (hq : inC a N q) (hM : M = N ∨ M = N + 1) (hsp : ∀ y, sub a N (fun w => 1 * p w + 1 * q w) y → span2 p q y) (h1 : ev (a M) p < 0) (h2 : 0 < ev (a M) q) (hnz : nz (fun w => ev (a M) q * p w + -ev (a M) p * q w))
    (ho : ∀ c, N ≤ c → c < N + 2 → 0 ≤ ev (a c) (fun w => ev (a M) q * p w + -ev (a M) p * q w)) : vtx a (N + 2) (fun w => ev (a M) q * p w + -ev (a M) p * q w) := by
  refine ⟨fun c hc => ?_, hnz, fun y hy => ?_⟩
  · by_cases e : c < N
    · rw [ev_lin]
      have m1 := Int.mul_nonneg (Int.le_of_lt h2) (hp c e)
      have m2 : 0 ≤ -ev (a M) p * ev (a c) q := Int.mul_nonneg (by omega) (hq c e)
      omega
    · exact ho c (by omega) hc
  · have hs : sub a N (fun w => 1 * p w + 1 * q w) y := by
      intro c hc h0
      refine hy c (by omega) ?_
      rw [ev_lin] at h0 ⊢
      have m1 := hp c hc
      have m2 := hq c hc
      rw [show ev (a c) p = 0 by omega, show ev (a c) q = 0 by omega]
      simp
    obtain ⟨k, r, s, hk, h⟩ := hsp y hs
    have hy0 : ev (a M) y = 0 := hy M (by omega) (by rw [ev_lin]; grind)
    have he := ev_span (a := a M) h
    rw [hy0, Int.mul_zero] at he
    refine ⟨k * ev (a M) q, r, Int.mul_ne_zero hk (by omega), fun w hw => ?_⟩
    have h3 := h w hw
    have e1 : k * ev (a M) q * y w = ev (a M) q * (k * y w) := by grind
    rw [e1, h3]
    have e2 : s * ev (a M) q = -(r * ev (a M) p) := by omega
    have e3 : ev (a M) q * (r * p w + s * q w) = r * (ev (a M) q * p w) + (s * ev (a M) q) * q w := by grind
    rw [e3, e2]
    grind

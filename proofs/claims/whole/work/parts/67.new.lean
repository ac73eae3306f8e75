theorem nz_of_ev {a z : Nat → Int} (h : ev a z ≠ 0) : nz z := Classical.byContradiction fun hn => h (sg_zero fun k hk => by
  have : z k = 0 := Classical.byContradiction fun h1 => hn ⟨k, hk, h1⟩
  rw [this, Int.mul_zero])
/-- a vertex of the cone with two constraints more is an old one, or lies on an edge that crosses one of the new constraints -/
theorem vtx_new {a : Nat → Nat → Int} {N : Nat} {x : Nat → Int} (ha : coords a N) (hx : vtx a (N + 2) x) (hb : ev (a N) x = 0 → ev (a (N + 1)) x = 0 → ∀ y, sub a N x y → ev (a N) y = 0 → ev (a (N + 1)) y = 0) :
    vtx a N x ∨ ∃ M, (M = N ∨ M = N + 1) ∧ ∃ p q : Nat → Int, vtx a N p ∧ vtx a N q ∧ ev (a M) p < 0 ∧ 0 < ev (a M) q ∧ (∀ y, sub a N (fun w => 1 * p w + 1 * q w) y → span2 p q y) ∧ ∃ E : Int, E ≠ 0 ∧ ∀ w, w < 8 → ev (a M) q * p w + -ev (a M) p * q w = E * x w := by
  have hxN : inC a N x := fun c hc => hx.1 c (by omega)
  by_cases hv : ∀ y, sub a N x y → prop8 x y
  · exact Or.inl ⟨hxN, hx.2.1, hv⟩
  · right
    obtain ⟨y, hy⟩ : ∃ y, ¬ (sub a N x y → prop8 x y) := Classical.byContradiction fun hc => hv fun y => Classical.byContradiction fun h => hc ⟨y, h⟩
    have hs : sub a N x y := Classical.byContradiction fun h => hy (fun q => absurd q h)
    have hp : ¬ prop8 x y := fun h => hy (fun _ => h)
    obtain ⟨u, us, un, up⟩ := two_signs ha hxN hx.2.1 hs hp
    have hnu : ¬ prop8 x u := by
      rintro ⟨c, d, hc, hd⟩
      have key : ∀ e : Nat, c * ev (a e) u = d * ev (a e) x := fun e => by
        rw [← ev_smul, ← ev_smul]; exact ev_cong hd
      obtain ⟨e1, h1, n1⟩ := un
      obtain ⟨e2, h2, n2⟩ := up
      have k1 := key e1
      have k2 := key e2
      have x1 := hxN e1 h1
      have x2 := hxN e2 h2
      rcases Int.lt_or_gt_of_ne hc with hc1 | hc1
      · have m1 : 0 < -c * -ev (a e1) u := Int.mul_pos (by omega) (by omega)
        have m2 : 0 < -c * ev (a e2) u := Int.mul_pos (by omega) n2
        rw [Int.neg_mul_neg] at m1
        rw [Int.neg_mul] at m2
        rcases Int.le_total 0 d with h3 | h3
        · have := Int.mul_nonneg h3 x2; omega
        · have := Int.mul_nonneg (show 0 ≤ -d by omega) x1; rw [Int.neg_mul] at this; omega
      · have m1 : 0 < c * -ev (a e1) u := Int.mul_pos hc1 (by omega)
        have m2 : 0 < c * ev (a e2) u := Int.mul_pos hc1 n2
        rw [Int.mul_neg] at m1
        rcases Int.le_total 0 d with h3 | h3
        · have := Int.mul_nonneg h3 x1; omega
        · have := Int.mul_nonneg (show 0 ≤ -d by omega) x2; rw [Int.neg_mul] at this; omega
    have fin : ∀ M, (M = N ∨ M = N + 1) → ev (a M) x = 0 → (∀ y, sub a N x y → ev (a M) y = 0 → prop8 x y) → ∃ M, (M = N ∨ M = N + 1) ∧ ∃ p q : Nat → Int, vtx a N p ∧ vtx a N q ∧ ev (a M) p < 0 ∧ 0 < ev (a M) q ∧ (∀ y, sub a N (fun w => 1 * p w + 1 * q w) y → span2 p q y) ∧ ∃ E : Int, E ≠ 0 ∧ ∀ w, w < 8 → ev (a M) q * p w + -ev (a M) p * q w = E * x w := by
      intro M hM hxM hT
      refine ⟨M, hM, ?_⟩
      have hne : ev (a M) u ≠ 0 := fun e => hnu (hT u us e)
      rcases Int.lt_or_gt_of_ne hne with h | h
      · obtain ⟨e1, h1, n1⟩ := un
        obtain ⟨e2, h2, n2⟩ := up
        exact edge_of (u := fun w => -1 * u w) ha hxN hxM hT (fun c hc h0 => by rw [ev_smul, us c hc h0]; rfl) ⟨e2, h2, by rw [ev_smul]; omega⟩ ⟨e1, h1, by rw [ev_smul]; omega⟩ (by rw [ev_smul]; omega) (fun z _ hz => nz_of_ev hz)
      · exact edge_of ha hxN hxM hT us un up h (fun z _ hz => nz_of_ev hz)
    have two : ∀ y, sub a N x y → (ev (a N) x = 0 → ev (a N) y = 0) → (ev (a (N + 1)) x = 0 → ev (a (N + 1)) y = 0) → prop8 x y := fun y h1 h2 h3 => hx.2.2 y fun c hc h0 => by
      by_cases e : c < N
      · exact h1 c e h0
      · rcases (show c = N ∨ c = N + 1 by omega) with rfl | rfl
        · exact h2 h0
        · exact h3 h0
    by_cases h0 : ev (a N) x = 0
    · refine fin N (Or.inl rfl) h0 (fun y h1 h2 => two y h1 (fun _ => h2) (fun h3 => hb h0 h3 y h1 h2))
    · by_cases h1 : ev (a (N + 1)) x = 0
      · exact fin (N + 1) (Or.inr rfl) h1 (fun y h2 h3 => two y h2 (fun h => absurd h h0) (fun _ => h3))
      · exact absurd (two y hs (fun h => absurd h h0) (fun h => absurd h h1)) hp

theorem sg_one (v : Nat → Int) (w : Nat) : ∀ n, sg (fun j => (if j = w then 1 else 0) * v j) n = if w < n then v w else 0
  | 0 => by simp [sg]
  | n + 1 => by
    rw [sg, sg_one v w n]
    by_cases h : n = w
    · subst h; simp
    · by_cases h2 : w < n
      · rw [if_pos h2, if_neg h, if_pos (by omega)]; simp
      · rw [if_neg h2, if_neg h, if_neg (by omega)]; simp
/-- an edge lies on six constraints at least -/
theorem edge_six {a : Nat → Nat → Int} {N : Nat} {p q : Nat → Int} (hsp : ∀ y, sub a N (fun w => 1 * p w + 1 * q w) y → span2 p q y) (hpz : nz p) (hnp : ¬ prop8 p q) {t : Nat} {T : Nat → Nat} (ht : t ≤ 5)
    (hT : ∀ c, c < N → ev (a c) (fun w => 1 * p w + 1 * q w) = 0 → ∃ i, i < t ∧ T i = c) : False := by
  obtain ⟨w0, hw0, h0⟩ := hpz
  obtain ⟨w1, hw1, h1⟩ : ∃ w1, w1 < 8 ∧ p w0 * q w1 ≠ q w0 * p w1 :=
    Classical.byContradiction fun hc => hnp ⟨p w0, q w0, h0, fun w hw => Classical.byContradiction fun hne => hc ⟨w, hw, hne⟩⟩
  obtain ⟨v, ⟨j, hj, hvj⟩, hv⟩ := hom_sol (t + 2) 8 (fun i j => if i < t then a (T i) j else if i = t then (if j = w0 then 1 else 0) else (if j = w1 then 1 else 0)) (by omega)
  have r1 : ∀ i, i < t → ev (a (T i)) v = 0 := fun i hi => by
    have h2 := hv i (by omega)
    simp only [if_pos hi] at h2
    exact h2
  have v0 : v w0 = 0 := by
    have h2 := hv t (by omega)
    simp only [if_neg (Nat.lt_irrefl t), if_pos] at h2
    rw [sg_one v w0 8, if_pos hw0] at h2
    exact h2
  have v1 : v w1 = 0 := by
    have h2 := hv (t + 1) (by omega)
    simp only [if_neg (show ¬ t + 1 < t by omega), if_neg (show ¬ t + 1 = t by omega)] at h2
    rw [sg_one v w1 8, if_pos hw1] at h2
    exact h2
  obtain ⟨k, r, s, hk, h⟩ := hsp v (fun c hc hc0 => by
    obtain ⟨i, hi, e⟩ := hT c hc hc0
    rw [← e]; exact r1 i hi)
  have e0 := h w0 hw0
  have e1 := h w1 hw1
  rw [v0, Int.mul_zero] at e0
  rw [v1, Int.mul_zero] at e1
  have hd : p w0 * q w1 - q w0 * p w1 ≠ 0 := by omega
  have hr : r * (p w0 * q w1 - q w0 * p w1) = 0 := by grind
  have hs : s * (p w0 * q w1 - q w0 * p w1) = 0 := by grind
  have hr0 : r = 0 := by
    rcases Int.mul_eq_zero.mp hr with e | e
    · exact e
    · exact absurd e hd
  have hs0 : s = 0 := by
    rcases Int.mul_eq_zero.mp hs with e | e
    · exact e
    · exact absurd e hd
  have ej := h j hj
  rw [hr0, hs0, Int.zero_mul, Int.zero_mul, Int.add_zero] at ej
  rcases Int.mul_eq_zero.mp ej with e | e
  · exact hk e
  · exact hvj e

/-- y, times a number that is not 0, is a combination of p and q -/
def span2 (p q y : Nat → Int) : Prop := ∃ k r s : Int, k ≠ 0 ∧ ∀ w, w < 8 → k * y w = r * p w + s * q w
theorem span2_ls {p q : Nat → Int} : ∀ (s : List (Int × (Nat → Int))), (∀ e ∈ s, prop8 p e.2 ∨ prop8 q e.2) → span2 p q (fun w => ls s w)
  | [], _ => ⟨1, 0, 0, by decide, fun w _ => by simp [ls]⟩
  | e :: s, h => by
    obtain ⟨k, r, t, hk, hs⟩ := span2_ls s (fun e' he' => h e' (List.mem_cons_of_mem _ he'))
    rcases h e List.mem_cons_self with ⟨c, d, hc, hd⟩ | ⟨c, d, hc, hd⟩
    · refine ⟨c * k, k * (e.1 * d) + c * r, c * t, Int.mul_ne_zero hc hk, fun w hw => ?_⟩
      have h1 := hd w hw
      have h2 := hs w hw
      show c * k * (e.1 * e.2 w + ls s w) = _
      have e1 : c * k * (e.1 * e.2 w + ls s w) = k * e.1 * (c * e.2 w) + c * (k * ls s w) := by grind
      rw [e1, h1, h2]
      grind
    · refine ⟨c * k, c * r, k * (e.1 * d) + c * t, Int.mul_ne_zero hc hk, fun w hw => ?_⟩
      have h1 := hd w hw
      have h2 := hs w hw
      show c * k * (e.1 * e.2 w + ls s w) = _
      have e1 : c * k * (e.1 * e.2 w + ls s w) = k * e.1 * (c * e.2 w) + c * (k * ls s w) := by grind
      rw [e1, h1, h2]
      grind
theorem bound_all (f : Nat → Int) : ∀ N : Nat, ∃ M : Int, 0 ≤ M ∧ ∀ c, c < N → -M ≤ f c
  | 0 => ⟨0, by decide, fun c hc => absurd hc (Nat.not_lt_zero c)⟩
  | N + 1 => by
    obtain ⟨M, h0, hM⟩ := bound_all f N
    by_cases h : -M ≤ f N
    · exact ⟨M, h0, fun c hc => by
        by_cases e : c = N
        · subst e; exact h
        · exact hM c (by omega)⟩
    · exact ⟨-f N, by omega, fun c hc => by
        by_cases e : c = N
        · subst e; omega
        · have := hM c (by omega); omega⟩
theorem inC_add {a : Nat → Nat → Int} {N : Nat} {p q : Nat → Int} (hp : inC a N p) (hq : inC a N q) : inC a N (fun w => 1 * p w + 1 * q w) := fun c hc => by
  rw [ev_lin]; have := hp c hc; have := hq c hc; omega
/-- if every vertex that is tight where p and q are is p or q, all that is tight there is a combination of them -/
theorem edge_span {a : Nat → Nat → Int} {N : Nat} (ha : coords a N) {p q : Nat → Int} (hp : inC a N p) (hq : inC a N q)
    (hv : ∀ r, vtx a N r → sub a N (fun w => 1 * p w + 1 * q w) r → prop8 p r ∨ prop8 q r) {y : Nat → Int} (hy : sub a N (fun w => 1 * p w + 1 * q w) y) : span2 p q y := by
  obtain ⟨M, hM0, hM⟩ := bound_all (fun c => ev (a c) y) N
  have hx := inC_add hp hq
  have hC : inC a N (fun w => M * (1 * p w + 1 * q w) + 1 * y w) := by
    intro c hc
    have e1 := ev_lin (a c) (fun w => 1 * p w + 1 * q w) y M 1
    rw [e1]
    have h1 := hx c hc
    have h2 := hM c hc
    by_cases h0 : ev (a c) (fun w => 1 * p w + 1 * q w) = 0
    · rw [h0, hy c hc h0]; simp
    · have h3 : 1 ≤ ev (a c) (fun w => 1 * p w + 1 * q w) := by omega
      have h4 : M * 1 ≤ M * ev (a c) (fun w => 1 * p w + 1 * q w) := Int.mul_le_mul_of_nonneg_left h3 hM0
      omega
  have hsx : sub a N (fun w => 1 * p w + 1 * q w) (fun w => M * (1 * p w + 1 * q w) + 1 * y w) := by
    intro c hc h0
    have e1 := ev_lin (a c) (fun w => 1 * p w + 1 * q w) y M 1
    rw [e1, h0, hy c hc h0]
    simp
  obtain ⟨k, s, hk, hs, es⟩ := comb_mono hsx (km ha _ _ (Nat.le_refl _) hC)
  obtain ⟨k', r, t, hk', hl⟩ := span2_ls (p := p) (q := q) s (fun e he => hv e.2 (hs e he).2.1 (hs e he).2.2)
  refine ⟨k' * k, r - k' * k * M, t - k' * k * M, Int.mul_ne_zero hk' (by omega), fun w hw => ?_⟩
  have h1 := es w hw
  have h2 := hl w hw
  simp only at h1 h2
  rw [← h1] at h2
  grind

/-! steps of the reference's formula reader behind an operand -/
theorem f_bracket {K m : Nat} {signs : Nat → Int32} (hK : 1000 ≤ K) (hm : m ≤ 24) : (f_X9_bracket K 24 (nI m) signs = some (-9) ∧ ∀ i, i < m → ¬ signs i = 40) ∨ (∃ b, f_X9_bracket K 24 (nI m) signs = some b ∧ ¬ b = -9 ∧ ∃ i, i < m ∧ signs i = 40) := by
  obtain ⟨x, g1, g2⟩ := lp_loop (f := f_X9_bracket_L5 24 (nI m) signs) (fun j s => j ≤ m ∧ ∃ b : Int32, s = (b, nI j) ∧ ((b = -9 ∧ ∀ i, i < j → ¬ signs i = 40) ∨ (¬ b = -9 ∧ ∃ i, i < j ∧ signs i = 40))) m (fun b => (b = -9 ∧ ∀ i, i < m → ¬ signs i = 40) ∨ (¬ b = -9 ∧ ∃ i, i < m ∧ signs i = 40)) (fun j s hI => by
    obtain ⟨hj, b, rfl, hb⟩ := hI
    unfold f_X9_bracket_L5
    simp only
    by_cases e : j = m
    · subst e
      rw [if_pos (nI_le (Nat.le_refl j) (by omega))]
      exact Or.inl ⟨_, rfl, hb⟩
    · have hjm : j < m := by omega
      rw [if_neg (nI_ge hjm (by omega)), if_neg (nI_in (show j < 24 by omega) (by decide)), nI_clamp (show j < 2 ^ 31 by omega), nI_1]
      by_cases g : signs j = 40
      · rw [if_pos g]
        refine Or.inr ⟨hjm, _, rfl, by omega, nI j, rfl, Or.inr ⟨fun e' => ?_, j, by omega, g⟩⟩
        exact nI_pos (show j < 2 ^ 31 by omega) (by rw [e']; decide)
      · rw [if_neg g]
        refine Or.inr ⟨hjm, _, rfl, by omega, b, rfl, ?_⟩
        rcases hb with ⟨h1, h2⟩ | ⟨h1, i, h2, h3⟩
        · refine Or.inl ⟨h1, fun i hi => ?_⟩
          by_cases ei : i = j
          · rw [ei]; exact g
          · exact h2 i (by omega)
        · exact Or.inr ⟨h1, i, by omega, h3⟩) K 0 (-9, 0) ⟨Nat.zero_le _, -9, rfl, Or.inl ⟨rfl, fun i hi => absurd hi (Nat.not_lt_zero i)⟩⟩ (by omega)
  unfold f_X9_bracket
  rw [g1]
  rcases g2 with ⟨rfl, h⟩ | ⟨h1, h2⟩
  · exact Or.inl ⟨rfl, h⟩
  · exact Or.inr ⟨x, rfl, h1, h2⟩
section RST2
variable {K L n δ m k : Nat} {rt signs sets : Nat → Int32} {nx t p y nx' t' p' y' : Int32}
theorem R_op {c m' k' : Nat} {sets' : Nat → Int32} (hK : 1000 ≤ K) (hc : c = 38 ∨ c = 124) (hm : m' < 24) (hA : f_X9_advances K 200 (nI L) nx (nI c) rt = some (nx', t', p', y')) (hJ : lp (f_X9_formula_L182 24 24 signs (nI c)) K (nI m, nI k, sets) = some (nI m', nI k', sets')) : f_X9_formula_L19 K 200 24 24 (nI L) rt (nI n, nI δ, 0, 1, nx, 4, p, nI c, -1, nI m, nI k, signs, sets) = some (.inr (nI n, nI δ, 1, 1, nx', t', p', y', -1, nI (m' + 1), nI k', upd signs m' (nI c), sets')) := by
  have hJ176 : f_X9_formula_J176 K 200 24 24 (nI L) nx (nI c) (-1) (nI m) (nI k) rt signs sets (nI n) (nI δ) 1 = some (.inr (nI n, nI δ, 1, 1, nx', t', p', y', -1, nI (m' + 1), nI k', upd signs m' (nI c), sets')) := by
    unfold f_X9_formula_J176
    rw [hJ, Option.bind_some]
    dsimp only
    rw [if_neg (nI_in hm (by decide)), hA, Option.bind_some]
    dsimp only
    rw [f_nots1 hK, nI_1, nI_clamp (show m' < 2 ^ 31 by omega)]; rfl
  unfold f_X9_formula_L19
  simp only
  rw [if_neg one_ne, well1, Option.bind_some, if_neg one_ne, if_pos trivial, hJ176]
  rcases hc with rfl | rfl
  · rw [show f_X9_isSign 4 (nI 38) (-1) 38 = some 1 by decide, Option.bind_some, if_neg one_ne]
  · rw [show f_X9_isSign 4 (nI 124) (-1) 38 = some 0 by decide, show f_X9_isSign 4 (nI 124) (-1) 124 = some 1 by decide, Option.bind_some, if_pos rfl, Option.bind_some, if_neg one_ne]
theorem R_close {m0 k0 r : Nat} {a b : Option Int32} {c : Int32} (hK : 1000 ≤ K) (hm : m ≤ 24) (hm0 : m0 < m) (hk : k ≤ 24) (hk0 : k0 < 24) (hB : signs m0 = 40) (hp : pend signs sets (m0 + 1) k0 a b c m k) (hr : r ≤ m0) (hδ : r + 1 ≤ δ) (hδ2 : δ ≤ 6) (h1 : ∀ i, i < r → signs (m0 - 1 - i) = 33) (h2 : r < m0 → ¬ signs (m0 - r - 1) = 33) (hA : f_X9_advances K 200 (nI L) nx (nI 41) rt = some (nx', t', p', y')) : ∃ sets', f_X9_formula_L19 K 200 24 24 (nI L) rt (nI n, nI δ, 0, 1, nx, 4, p, nI 41, -1, nI m, nI k, signs, sets) = some (.inr (nI n, nI (δ - 1 - r), 0, 1, nx', t', p', y', -1, nI (m0 - r), nI (k0 + 1), signs, sets')) ∧ sets' k0 = nots r (orv a (andv b c)) ∧ ∀ i, i < k0 → sets' i = sets i := by
  obtain ⟨s1, e1, e2, e3⟩ := L283_all hK hm (by omega) hk hB hp
  obtain ⟨s2, g1, g2, g3⟩ := f_nots (K := K) (δ := δ - 1) (m := m0) (k := k0) (r := r) (signs := signs) (sets := s1) hK (by omega) hk0 hr (by omega) (by omega) h1 h2
  refine ⟨s2, ?_, by rw [g2, e2], fun i hi => by rw [g3 i (by omega), e3 i hi]⟩
  unfold f_X9_formula_L19
  simp only
  rw [if_neg one_ne, well1, Option.bind_some, if_neg one_ne, if_pos trivial, show f_X9_isSign 4 (nI 41) (-1) 38 = some 0 by decide, Option.bind_some, if_pos rfl, show f_X9_isSign 4 (nI 41) (-1) 124 = some 0 by decide, Option.bind_some, if_pos rfl, show f_X9_isSign 4 (nI 41) (-1) 41 = some 1 by decide, Option.bind_some, if_neg one_ne]
  rcases f_bracket (signs := signs) hK hm with ⟨-, q⟩ | ⟨bb, q1, q2, -⟩
  · exact absurd hB (q m0 hm0)
  · rw [q1, Option.bind_some, if_neg q2, e1, Option.bind_some]
    dsimp only
    rw [hA, Option.bind_some]
    dsimp only
    rw [show nI δ + (-1 : Int32) = nI δ - 1 by rw [Int32.sub_eq_add_neg], nI_dec (show 0 < δ by omega), nI_dec (show 0 < m0 + 1 by omega), show m0 + 1 - 1 = m0 by omega, g1, Option.bind_some]
theorem R_stop {T j : Nat} (hK : 1000 ≤ K) (hT : T ≤ 5) (ht : rtk T j t y) (hm : m ≤ 24) (hk : k < 24) (hδ2 : δ ≤ 6) (h33 : 0 < m → ¬ signs (m - 1) = 33) (h1 : ¬ (T = 4 ∧ (j = 38 ∨ j = 124))) (h2 : ¬ (T = 4 ∧ j = 41 ∧ ∃ i, i < m ∧ signs i = 40)) : f_X9_formula_L19 K 200 24 24 (nI L) rt (nI n, nI δ, 0, 1, nx, t, p, y, -1, nI m, nI (k + 1), signs, sets) = some (.inr (nI n, nI δ, 0, 0, nx, t, p, y, -1, nI m, nI (k + 1), signs, sets)) := by
  obtain ⟨s2, g1, g2, g3⟩ := f_nots (K := K) (δ := δ) (m := m) (k := k) (r := 0) (signs := signs) (sets := sets) hK hm hk (by omega) (by omega) hδ2 (fun i hi => absurd hi (Nat.not_lt_zero i)) h33
  have es : s2 = sets := funext fun i => by
    by_cases e : i = k
    · rw [e, g2]; rfl
    · exact g3 i e
  subst es
  have h326 : f_X9_formula_J326 K 24 24 nx t p y (-1) (nI m) (nI (k + 1)) signs s2 (nI n) (nI δ) 0 = some (.inr (nI n, nI δ, 0, 0, nx, t, p, y, -1, nI m, nI (k + 1), signs, s2)) := by
    unfold f_X9_formula_J326
    rw [g1]; rfl
  have isS : ∀ c, 5 ≤ c → c < 256 → (f_X9_isSign t y (-1) (nI c) = some 0 ∧ ¬ (T = 4 ∧ j = c)) ∨ (f_X9_isSign t y (-1) (nI c) = some 1 ∧ T = 4 ∧ j = c) := fun c h1 h2 => by
    have hc : ∃ k x, ctk T j k x := by
      rcases t6 hT with rfl | rfl | rfl | rfl | rfl | rfl
      · exact ⟨0, 0, rfl⟩
      · exact ⟨1, tk_wol j, ht.1, rfl, rfl⟩
      · exact ⟨2, 0, rfl⟩
      · exact ⟨3, nI j, ht.1, rfl, rfl⟩
      · exact ⟨nI j, 0, ht.1, ht.2.1, rfl⟩
      · exact ⟨4, 0, rfl⟩
    obtain ⟨k, x, hc⟩ := hc
    rcases at_sign (f := -1) hT hc ht h1 h2 with ⟨-, a, b⟩ | ⟨-, a, -, b⟩
    · exact Or.inl ⟨a, fun g => b ⟨by decide, g⟩⟩
    · exact Or.inr ⟨a, b⟩
  unfold f_X9_formula_L19
  simp only
  rw [if_neg one_ne, well1, Option.bind_some, if_neg one_ne, if_pos trivial, h326]
  rcases isS 38 (by decide) (by decide) with ⟨a, -⟩ | ⟨-, b1, b2⟩
  · rw [show f_X9_isSign t y (-1) (38 : Int32) = some 0 from a, Option.bind_some, if_pos rfl]
    rcases isS 124 (by decide) (by decide) with ⟨a, -⟩ | ⟨-, b1, b2⟩
    · rw [show f_X9_isSign t y (-1) (124 : Int32) = some 0 from a, Option.bind_some, if_pos rfl]
      rcases isS 41 (by decide) (by decide) with ⟨a, -⟩ | ⟨a, b1, b2⟩
      · rw [show f_X9_isSign t y (-1) (41 : Int32) = some 0 from a, Option.bind_some, if_pos rfl]
      · rw [show f_X9_isSign t y (-1) (41 : Int32) = some 1 from a, Option.bind_some, if_neg one_ne]
        rcases f_bracket (signs := signs) hK hm with ⟨q, -⟩ | ⟨bb, -, -, q⟩
        · rw [q, Option.bind_some, if_pos rfl]
        · exact absurd ⟨b1, b2, q⟩ h2
    · exact absurd ⟨b1, Or.inr b2⟩ h1
  · exact absurd ⟨b1, Or.inl b2⟩ h1
theorem R_end {x1 x2 x3 f m k : Int32} : f_X9_formula_L19 K 200 24 24 (nI L) rt (x1, x2, x3, 0, nx, t, p, y, f, m, k, signs, sets) = some (.inl (nx, t, p, y, f, m, k, signs, sets)) := by
  unfold f_X9_formula_L19
  simp only
  rw [if_pos trivial]
theorem R_bad {x1 x2 x3 f m k : Int32} (hf : (0 : Int32) ≤ f) : f_X9_formula_L19 K 200 24 24 (nI L) rt (x1, x2, x3, 1, nx, t, p, y, f, m, k, signs, sets) = some (.inl (nx, t, p, y, f, m, k, signs, sets)) := by
  unfold f_X9_formula_L19 f_X9_isWell
  simp only
  rw [if_neg one_ne, if_pos hf, Option.bind_some, if_pos rfl]
end RST2

/-! steps of the reference's formula reader -/
theorem well1 : f_X9_isWell (-1) = some 1 := by decide
theorem letter_ok : ∀ j, j < 3 → f_X9_letter (nI j) = some (tk_wol j) := by decide
section RST
variable {K L n δ m k : Nat} {rt signs sets : Nat → Int32} {nx t p y nx' t' p' y' : Int32}
/-- a letter, wanted -/
theorem R_letter {j r : Nat} (hK : 1000 ≤ K) (hn : n < 12) (hm : m ≤ 24) (hk : k < 24) (hr : r ≤ m) (hδ : r ≤ δ) (hδ2 : δ ≤ 6) (h1 : ∀ i, i < r → signs (m - 1 - i) = 33) (h2 : r < m → ¬ signs (m - r - 1) = 33) (hj : j < 3) (hA : f_X9_advances K 200 (nI L) nx (nI j) rt = some (nx', t', p', y')) : ∃ sets', f_X9_formula_L19 K 200 24 24 (nI L) rt (nI n, nI δ, 1, 1, nx, 1, p, nI j, -1, nI m, nI k, signs, sets) = some (.inr (nI (n + 1), nI (δ - r), 0, 1, nx', t', p', y', -1, nI (m - r), nI (k + 1), signs, sets')) ∧ sets' k = nots r (tk_wol j) ∧ ∀ i, i ≠ k → sets' i = sets i := by
  obtain ⟨sets', g1, g2, g3⟩ := f_nots (K := K) (δ := δ) (m := m) (k := k) (r := r) (signs := signs) (sets := upd sets k (tk_wol j)) hK hm hk hr hδ hδ2 h1 h2
  refine ⟨sets', ?_, by rw [g2, pk_us], fun i hi => by rw [g3 i hi, pk_un hi]⟩
  unfold f_X9_formula_L19
  simp only
  rw [if_neg one_ne, well1, Option.bind_some, if_neg one_ne, if_neg one_ne, Option.bind_some, if_neg one_ne, if_pos trivial, if_neg (show ¬ (12 : Int32) ≤ nI n from nI_ge hn (by decide)), letter_ok j hj, Option.bind_some, if_neg (nI_in hk (by decide)), nI_clamp (show k < 2 ^ 31 by omega), hA, Option.bind_some]
  dsimp only
  rw [nI_1, g1, Option.bind_some, nI_1]
/-- ! or (, wanted -/
theorem R_open {c : Nat} (hK : 1000 ≤ K) (hm : m < 24) (hδ : δ < 6) (hc : c = 33 ∨ c = 40) (hA : f_X9_advances K 200 (nI L) nx (nI c) rt = some (nx', t', p', y')) : f_X9_formula_L19 K 200 24 24 (nI L) rt (nI n, nI δ, 1, 1, nx, 4, p, nI c, -1, nI m, nI k, signs, sets) = some (.inr (nI n, nI (δ + 1), 1, 1, nx', t', p', y', -1, nI (m + 1), nI k, upd signs m (nI c), sets)) := by
  have hJ : f_X9_formula_J112 K 200 24 24 (nI L) nx 4 p (nI c) (-1) (nI m) (nI k) rt signs sets (nI n) (nI δ) 1 1 = some (.inr (nI n, nI (δ + 1), 1, 1, nx', t', p', y', -1, nI (m + 1), nI k, upd signs m (nI c), sets)) := by
    unfold f_X9_formula_J112
    rw [if_neg (show ¬ (6 : Int32) ≤ nI δ from nI_ge hδ (by decide)), if_neg (nI_in hm (by decide)), hA, Option.bind_some]
    dsimp only
    rw [f_nots1 hK, nI_1, nI_1, nI_clamp (show m < 2 ^ 31 by omega)]; rfl
  unfold f_X9_formula_L19
  simp only
  rw [if_neg one_ne, well1, Option.bind_some, if_neg one_ne, if_neg one_ne, Option.bind_some, if_neg one_ne, if_neg (show ¬ (4 : Int32) = 1 by decide)]
  unfold f_X9_formula_J94
  rw [hJ]
  rcases hc with rfl | rfl
  · rw [show f_X9_isSign 4 (nI 33) (-1) 33 = some 1 by decide, Option.bind_some, if_neg one_ne]
  · rw [show f_X9_isSign 4 (nI 40) (-1) 33 = some 0 by decide, show f_X9_isSign 4 (nI 40) (-1) 40 = some 1 by decide, Option.bind_some, if_pos rfl, Option.bind_some, if_neg one_ne]
/-- what is not wanted -/
theorem R_fault {T j : Nat} (hK : 1000 ≤ K) (hT : T ≤ 5) (ht : rtk T j t y) (hno : ¬ (T = 1 ∧ n < 12) ∧ ¬ (T = 4 ∧ (j = 33 ∨ j = 40) ∧ δ < 6)) (hn : n ≤ 12) (hδ : δ ≤ 6) : f_X9_formula_L19 K 200 24 24 (nI L) rt (nI n, nI δ, 1, 1, nx, t, p, y, -1, nI m, nI k, signs, sets) = some (.inr (nI n, nI δ, 1, 1, nx, t, p, y, p, nI m, nI k, signs, sets)) := by
  have h151 : f_X9_formula_J151 K 24 24 nx t p y (-1) (nI m) (nI k) signs sets (nI n) (nI δ) 1 1 = some (.inr (nI n, nI δ, 1, 1, nx, t, p, y, p, nI m, nI k, signs, sets)) := by
    unfold f_X9_formula_J151
    rw [show f_X9_fails p (-1) = some p by unfold f_X9_fails; rw [if_neg (by decide)], Option.bind_some, f_nots1 hK]; rfl
  have isS : ∀ c, 5 ≤ c → c < 256 → (f_X9_isSign t y (-1) (nI c) = some 0 ∧ ¬ (T = 4 ∧ j = c)) ∨ (f_X9_isSign t y (-1) (nI c) = some 1 ∧ T = 4 ∧ j = c) := fun c h1 h2 => by
    have hc : ∃ k x, ctk T j k x := by
      rcases t6 hT with rfl | rfl | rfl | rfl | rfl | rfl
      · exact ⟨0, 0, rfl⟩
      · exact ⟨1, tk_wol j, ht.1, rfl, rfl⟩
      · exact ⟨2, 0, rfl⟩
      · exact ⟨3, nI j, ht.1, rfl, rfl⟩
      · exact ⟨nI j, 0, ht.1, ht.2.1, rfl⟩
      · exact ⟨4, 0, rfl⟩
    obtain ⟨k, x, hc⟩ := hc
    rcases at_sign (f := -1) hT hc ht h1 h2 with ⟨-, a, b⟩ | ⟨-, a, -, b⟩
    · exact Or.inl ⟨a, fun g => b ⟨by decide, g⟩⟩
    · exact Or.inr ⟨a, b⟩
  have h94 : f_X9_formula_J94 K 200 24 24 (nI L) nx t p y (-1) (nI m) (nI k) rt signs sets (nI n) (nI δ) 1 1 = some (.inr (nI n, nI δ, 1, 1, nx, t, p, y, p, nI m, nI k, signs, sets)) := by
    unfold f_X9_formula_J94
    have h112 : (T = 4 ∧ (j = 33 ∨ j = 40)) → f_X9_formula_J112 K 200 24 24 (nI L) nx t p y (-1) (nI m) (nI k) rt signs sets (nI n) (nI δ) 1 1 = some (.inr (nI n, nI δ, 1, 1, nx, t, p, y, p, nI m, nI k, signs, sets)) := fun g => by
      unfold f_X9_formula_J112
      have : 6 ≤ δ := Classical.byContradiction fun g' => hno.2 ⟨g.1, g.2, by omega⟩
      rw [if_pos (show (6 : Int32) ≤ nI δ from nI_le this (by omega)), h151]
    rcases isS 33 (by decide) (by decide) with ⟨a, b⟩ | ⟨a, b1, b2⟩
    · rw [show f_X9_isSign t y (-1) (33 : Int32) = some 0 from a, Option.bind_some, if_pos rfl]
      rcases isS 40 (by decide) (by decide) with ⟨a, b⟩ | ⟨a, b1, b2⟩
      · rw [show f_X9_isSign t y (-1) (40 : Int32) = some 0 from a, Option.bind_some, if_pos rfl, h151]
      · rw [show f_X9_isSign t y (-1) (40 : Int32) = some 1 from a, Option.bind_some, if_neg one_ne, h112 ⟨b1, Or.inr b2⟩]
    · rw [show f_X9_isSign t y (-1) (33 : Int32) = some 1 from a, Option.bind_some, if_neg one_ne, h112 ⟨b1, Or.inl b2⟩]
  unfold f_X9_formula_L19
  simp only
  rw [if_neg one_ne, well1, Option.bind_some, if_neg one_ne, if_neg one_ne, Option.bind_some, if_neg one_ne, h94]
  by_cases ht1 : t = 1
  · have hT1 : T = 1 := by
      subst ht1
      rcases t6 hT with rfl | rfl | rfl | rfl | rfl | rfl
      · exact absurd (show (1 : Int32) = 0 from ht) (by decide)
      · rfl
      · exact absurd (show (1 : Int32) = 2 from ht) (by decide)
      · exact absurd ht.2.1 (by decide)
      · exact absurd ht.2.2.1 (by decide)
      · exact absurd (show (1 : Int32) = 5 from ht) (by decide)
    have : 12 ≤ n := Classical.byContradiction fun g => hno.1 ⟨hT1, by omega⟩
    rw [if_pos ht1, if_pos (show (12 : Int32) ≤ nI n from nI_le this (by omega))]
  · rw [if_neg ht1]
end RST

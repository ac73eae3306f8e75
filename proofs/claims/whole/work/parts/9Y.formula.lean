/-! f_X3_rd0 and f_X9_formula -/
theorem pend_no40 {signs sets : Nat → Int32} {k0 m k : Nat} {a b : Option Int32} {c : Int32} (h : pend signs sets 0 k0 a b c m k) : ∀ i, i < m → ¬ signs i = 40 := by
  cases a with
  | none =>
    cases b with
    | none =>
      obtain ⟨rfl, rfl, h1⟩ := h
      exact fun i hi => absurd hi (Nat.not_lt_zero i)
    | some y =>
      obtain ⟨rfl, rfl, h1, h2, h3⟩ := h
      intro i hi
      obtain rfl : i = 0 := by omega
      rw [h1]; decide
  | some x =>
    cases b with
    | none =>
      obtain ⟨rfl, rfl, h1, h2, h3⟩ := h
      intro i hi
      obtain rfl : i = 0 := by omega
      rw [h1]; decide
    | some y =>
      obtain ⟨rfl, rfl, h1, h2, h3, h4, h5⟩ := h
      intro i hi
      rcases (show i = 0 ∨ i = 1 by omega) with rfl | rfl
      · rw [h1]; decide
      · rw [show signs 1 = 38 from h2]; decide
theorem L420_bad {signs sets : Nat → Int32} {K : Nat} {f m k : Int32} (hK : 1000 ≤ K) (hf : (0 : Int32) ≤ f) : lp (f_X9_formula_L420 24 24 f signs) K (m, k, sets) = some (m, k, sets) := by
  obtain ⟨d, rfl⟩ : ∃ d, K = d + 1 := ⟨K - 1, by omega⟩
  refine lp_inl ?_
  unfold f_X9_formula_L420 f_X9_isWell
  simp only
  rw [if_pos hf, Option.bind_some, if_pos rfl]
theorem well0 {f : Int32} (hf : (0 : Int32) ≤ f) : f_X9_isWell f = some 0 := by unfold f_X9_isWell; rw [if_pos hf]
theorem f_formula {K L T j q s : Nat} {cb rt signs sets : Nat → Int32} {cmp pl st kk x nx t p y : Int32} (hK : 1000 ≤ K) (hX : TX L cb rt) (hS : TS L T j q s pl st kk x nx t p y) : ∃ (w v f' sm km : Int32) (n' T' j' q' s' : Nat) (pl' st' k' x' nx' t' p' y' : Int32) (sg se : Nat → Int32), f_X3_rd0 K 200 cmp 0 (-1) pl st kk x (nI L) cb 0 = some (w, nI n', f', pl', st', k', x') ∧ f_X9_formula K 200 24 24 (nI L) nx t p y (-1) rt signs sets = some (v, nx', t', p', y', f', sm, km, sg, se) ∧ TS L T' j' q' s' pl' st' k' x' nx' t' p' y' ∧ FA L f' ∧ s ≤ s' ∧ (f' = -1 → v = w ∧ s < s') := by
  have hL := hX.1
  obtain ⟨w, f', n', T', j', q', s', pl', st', k', x', nx', t', p', y', c1, c2, c3, c4, c5, c6⟩ := (all_specs hK hX 30).2.2 0 0 0 0 T j q s signs sets cmp pl st kk x nx t p y (by decide) (by decide) (by decide) (by decide) (by decide) (Or.inl rfl) hS
  have c1' : f_X3_rd0 K 200 cmp 0 (-1) pl st kk x (nI L) cb 0 = some (w, nI n', f', pl', st', k', x') := c1
  have c2' := c2
  obtain ⟨-, -, -, ep2, hc2, ht2, hT2, hsq2, hqL2, hT02⟩ := c2'
  have zin : ¬ ((0 : Int32) < 0 ∨ 24 ≤ (0 : Int32).toNatClampNeg) := by decide
  unfold f_X9_formula
  rcases c6 with ⟨rfl, d2, d3, N, m', k3, sg, se, a, b, c, d4, d5, d6, d7, d8, d9, d10⟩ | ⟨b1, b2, N, sN, g, mm, kk', sg, se, b3, b4, b5, b6, b7⟩
  · obtain ⟨f1, f2, f3, f4, f5⟩ := pend_facts d7
    obtain ⟨k4, rfl⟩ : ∃ k4, k3 = k4 + 1 := ⟨k3 - 1, by omega⟩
    have no40 := pend_no40 d7
    have h1 := itn_trans N 1 _ _ _ d6 (itn_one (R_stop (K := K) (L := L) (rt := rt) (n := n') (δ := 0) (nx := nx') (p := p') (sets := se) hK hT2 ht2 (show m' ≤ 24 by omega) (show k4 < 24 by omega) (by decide) f5 d3 (fun g => by
      obtain ⟨-, -, i, i1, i2⟩ := g
      exact no40 i i1 i2)))
    obtain ⟨D, rfl⟩ : ∃ D, K = N + 1 + (D + 1) := ⟨K - N - 2, by omega⟩
    have h2 := (itn_lp (N + 1) _ _ (D + 1) h1).trans (lp_inl R_end)
    have h2' : lp (f_X9_formula_L19 (N + 1 + (D + 1)) 200 24 24 (nI L) rt) (N + 1 + (D + 1)) (0, 0, 1, 1, nx, t, p, y, -1, 0, 0, signs, sets) = some (nx', t', p', y', -1, nI m', nI (k4 + 1), sg, se) := h2
    obtain ⟨se', e1, e2, e3⟩ := L420_all hK (show m' ≤ 24 by omega) (show k4 + 1 ≤ 24 by omega) d7
    rw [h2', Option.bind_some]
    dsimp only
    rw [well1, Option.bind_some, if_neg one_ne]
    rcases f_bracket (signs := sg) hK (show m' ≤ 24 by omega) with ⟨q1, -⟩ | ⟨-, -, -, i, i1, i2⟩
    · rw [q1, Option.bind_some, if_pos rfl, e1, Option.bind_some]
      dsimp only
      rw [Option.bind_some, if_neg one_ne, if_neg zin]
      exact ⟨w, _, -1, _, _, n', T', j', q', s', pl', st', k', x', nx', t', p', y', sg, se', c1', rfl, c2, Or.inl rfl, c5, fun _ => ⟨by rw [show (0 : Int32).toNatClampNeg = 0 from rfl, e2, d8], d2⟩⟩
    · exact absurd i2 (no40 i i1)
  · obtain ⟨D, rfl⟩ : ∃ D, K = N + (D + 1) := ⟨K - N - 1, by omega⟩
    have h2 := (itn_lp N _ _ (D + 1) b4).trans (lp_inl b5)
    have h2' : lp (f_X9_formula_L19 (N + (D + 1)) 200 24 24 (nI L) rt) (N + (D + 1)) (0, 0, 1, 1, nx, t, p, y, -1, 0, 0, signs, sets) = some (nx', t', p', y', g, nI mm, kk', sg, se) := h2
    have nf : ¬ f' = -1 := fun e => absurd b2 (by rw [e]; decide)
    rw [h2', Option.bind_some]
    dsimp only
    rcases b7 with rfl | ⟨rfl, rfl, i, i1, i2⟩
    · rw [well0 b2, Option.bind_some, if_pos rfl, L420_bad hK b2, Option.bind_some]
      dsimp only
      rw [Option.bind_some, if_pos rfl]
      exact ⟨w, _, _, _, _, n', T', j', q', s', pl', st', k', x', nx', t', p', y', sg, se, c1', rfl, c2, b1, c5, fun e => absurd e nf⟩
    · rw [well1, Option.bind_some, if_neg one_ne]
      rcases f_bracket (signs := sg) hK b6 with ⟨-, q1⟩ | ⟨bb, q1, q2, -⟩
      · exact absurd i2 (q1 i i1)
      · rw [q1, Option.bind_some, if_neg q2, show f_X9_fails f' (-1) = some f' by unfold f_X9_fails; rw [if_neg (by decide)], Option.bind_some, L420_bad hK b2, Option.bind_some]
        dsimp only
        rw [well0 b2, Option.bind_some, if_pos rfl]
        exact ⟨w, _, _, _, _, n', T', j', q', s', pl', st', k', x', nx', t', _, y', sg, se, c1', rfl, c2, b1, c5, fun e => absurd e nf⟩

/-! one formula is read alike -/
def FIn (K L : Nat) (rt : Nat → Int32) (δ n m0 k0 s : Nat) (signs sets : Nat → Int32) (start : rSt) (w f' : Int32) (n' T' j' q' s' : Nat) (pl' st' k' x' nx' t' p' y' : Int32) : Prop := TS L T' j' q' s' pl' st' k' x' nx' t' p' y' ∧ n ≤ n' ∧ n' ≤ 12 ∧ s ≤ s' ∧ ((f' = -1 ∧ s < s' ∧ ¬ (T' = 4 ∧ j' = 38) ∧ ∃ (N m' k' : Nat) (signs' sets' : Nat → Int32) (a b : Option Int32) (c : Int32), N ≤ s' - s ∧ k' ≤ n' ∧ itn (f_X9_formula_L19 K 200 24 24 (nI L) rt) N start (nI n', nI δ, 0, 1, nx', t', p', y', -1, nI m', nI k', signs', sets') ∧ pend signs' sets' m0 k0 a b c m' k' ∧ orv a (andv b c) = w ∧ (∀ i, i < k0 → sets' i = sets i) ∧ (∀ i, i < m0 → signs' i = signs i)) ∨ badR K L rt start f' nx' t' p' y' (s' - s))
theorem form_step {K L d : Nat} {cb rt : Nat → Int32} (hK : 1000 ≤ K) (hX : TX L cb rt) (hPart : PartSpec K L cb rt d) : FormSpec K L cb rt (d + 1) := by
  intro δ n m0 k0 T j q s signs sets cmp pl st kk x nx t p y hd hδ hn hk hm hB hS
  have hL := hX.1
  show FormOut K L rt δ n m0 k0 s signs sets _ (f_X3_readFormula (f_X3_rd d) K 200 cmp (nI n) (-1) pl st kk x (nI L) cb (nI δ))
  unfold f_X3_readFormula
  obtain ⟨w, f', n', T2, j2, q2, s2, pl2, st2, k2, x2, nx2, t2, p2, y2, c1, ⟨c2, c3, c4, c5, c6⟩, c7⟩ := hPart δ n m0 k0 m0 k0 T j q s none signs sets cmp pl st kk x nx t p y (by omega) hδ hn hk hm hB ⟨rfl, rfl⟩ hS
  rw [c1, Option.bind_some]
  dsimp only
  have hI0 : FIn K L rt δ n m0 k0 s signs sets (nI n, nI δ, 1, 1, nx, t, p, y, -1, nI m0, nI k0, signs, sets) w f' n' T2 j2 q2 s2 pl2 st2 k2 x2 nx2 t2 p2 y2 := by
    refine ⟨c2, c3, c4, c5, ?_⟩
    rcases c6 with ⟨d1, d2, N, m', k', sg, se, b, c, d4, d5, d6, d7, d8, d9, d10⟩ | d1
    · exact Or.inl ⟨d1, d2, c7 d1, N, m', k', sg, se, none, b, c, d4, d5, d6, d7, d8, d9, d10⟩
    · exact Or.inr d1
  obtain ⟨res, g1, w9, f9, n9, T9, j9, q9, s9, pl9, st9, k9, x9, nx9, t9, p9, y9, rfl, g2, g3⟩ := lp_loop (f := f_X3_readFormula_L8 (f_X3_rd d) K 200 cmp (nI L) cb (nI δ)) (fun i z => ∃ (w f' : Int32) (n' T' j' q' s' : Nat) (pl' st' k' x' nx' t' p' y' : Int32), z = (w, nI i, nI n', f', pl', st', k', x') ∧ i ≤ s' ∧ FIn K L rt δ n m0 k0 s signs sets (nI n, nI δ, 1, 1, nx, t, p, y, -1, nI m0, nI k0, signs, sets) w f' n' T' j' q' s' pl' st' k' x' nx' t' p' y') 200 (fun res => ∃ (w f' : Int32) (n' T' j' q' s' : Nat) (pl' st' k' x' nx' t' p' y' : Int32), res = (w, nI n', f', pl', st', k', x') ∧ FIn K L rt δ n m0 k0 s signs sets (nI n, nI δ, 1, 1, nx, t, p, y, -1, nI m0, nI k0, signs, sets) w f' n' T' j' q' s' pl' st' k' x' nx' t' p' y' ∧ (f' = -1 → ¬ (T' = 4 ∧ j' = 124))) (fun i z hI => by
    obtain ⟨w, f', n', T', j', q', s', pl', st', k', x', nx', t', p', y', rfl, hi, hP'⟩ := hI
    have hP2 := hP'
    obtain ⟨c2, c3, c4, c5, c6⟩ := hP2
    have c2' := c2
    obtain ⟨-, -, -, -, hc2, ht2, hT2, hsq2, hqL2, hT02⟩ := c2'
    unfold f_X3_readFormula_L8
    simp only
    by_cases h200 : i < 200
    · rw [if_neg (show ¬ (200 : Int32) ≤ nI i from nI_ge h200 (by decide))]
      rcases c6 with ⟨rfl, d2, d3, N, m', k', sg, se, a, b, c, d4, d5, d6, d7, d8, d9, d10⟩ | d1
      · rcases at_sign (f := -1) (c := 124) hT2 hc2 ht2 (by decide) (by decide) with ⟨u, -, u2⟩ | ⟨u, -, -, u2, u3⟩
        · rw [show f_X3_isAt (-1) _ (124 : Int32) = some 0 from u, Option.bind_some, if_pos rfl]
          exact Or.inl ⟨_, rfl, w, -1, n', T', j', q', s', _, _, _, _, nx', t', p', y', rfl, hP', fun _ g => u2 ⟨by decide, g⟩⟩
        · rw [show f_X3_isAt (-1) _ (124 : Int32) = some 1 from u, Option.bind_some, if_neg one_ne]
          obtain ⟨T5, j5, q5, s5, pl5, st5, k5, x5, nx5, t5, p5, y5, v1, v2, v3, v4⟩ := ts_step hK hX c2
          subst u2 u3
          obtain ⟨-, -, et2, ey2⟩ := ht2
          subst et2 ey2
          have hss2 : s' < s5 := by have := hT02 (by omega); omega
          have hB' : baseS sg m0 := by
            rcases hB with h | ⟨h1, h2⟩
            · exact Or.inl h
            · exact Or.inr ⟨h1, by rw [d10 _ (by omega), h2]⟩
          obtain ⟨f1, f2, f3, f4, f5⟩ := pend_facts d7
          obtain ⟨se6, r1, r2, r5⟩ := L182_or hK (show m' ≤ 24 by omega) (show m0 ≤ 24 by omega) (show k' ≤ 24 by omega) hB' d7
          have hop := R_op (n := n') (δ := δ) (p := p') hK (Or.inr rfl) (show m0 < 24 by omega) v2 r1
          rw [v1, Option.bind_some]
          dsimp only
          have hB6 : baseS (upd sg m0 (nI 124)) m0 := by
            rcases hB' with h | ⟨h1, h2⟩
            · exact Or.inl h
            · exact Or.inr ⟨h1, by rw [pk_un (by omega), h2]⟩
          obtain ⟨w7, f7, n7, T7, j7, q7, s7, pl7, st7, k7, x7, nx7, t7, p7, y7, c1, ⟨e2, e3, e4, e5, e6⟩, e7⟩ := hPart δ n' m0 k0 (m0 + 1) (k0 + 1) T5 j5 q5 s5 (some w) (upd sg m0 (nI 124)) se6 cmp pl5 st5 k5 x5 nx5 t5 p5 y5 (by omega) hδ c4 (by omega) hm hB6 ⟨rfl, rfl, by rw [pk_us]; rfl, by rw [r2, d8]⟩ v3
          rw [c1, Option.bind_some]
          dsimp only
          rw [nI_1]
          refine Or.inr ⟨h200, _, rfl, w ||| w7, f7, n7, T7, j7, q7, s7, pl7, st7, k7, x7, nx7, t7, p7, y7, rfl, by omega, e2, by omega, e4, by omega, ?_⟩
          rcases e6 with ⟨z1, z2, N7, m7, k8, sg7, se7, b7, c7, z4, z5, z6, z7, z8, z9, z10⟩ | z1
          · exact Or.inl ⟨z1, by omega, e7 z1, N + 1 + N7, m7, k8, sg7, se7, some w, b7, c7, by omega, z5, itn_trans (N + 1) N7 _ _ _ (itn_trans N 1 _ _ _ d6 (itn_one hop)) z6, z7, by rw [z8]; rfl, fun i hi => by rw [z9 i hi, r5 i hi, d9 i hi], fun i hi => by rw [z10 i hi, pk_un (by omega), d10 i hi]⟩
          · exact Or.inr (bad_more (itn_trans N 1 _ _ _ d6 (itn_one hop)) z1 (by omega))
      · have hf' := d1.2.1
        have ea : ∀ v, f_X3_isAt f' v (124 : Int32) = some 0 := fun v => by unfold f_X3_isAt; rw [if_pos hf']
        rw [ea, Option.bind_some, if_pos rfl]
        exact Or.inl ⟨_, rfl, w, f', n', T', j', q', s', _, _, _, _, nx', t', p', y', rfl, hP', fun g => absurd hf' (by rw [g]; decide)⟩
    · rw [if_pos (show (200 : Int32) ≤ nI i from nI_le (show 200 ≤ i by omega) (by omega))]
      exact Or.inl ⟨_, rfl, w, f', n', T', j', q', s', _, _, _, _, nx', t', p', y', rfl, hP', fun _ g => by have := hT02 (by omega); omega⟩) K 0 (w, 0, nI n', f', pl2, st2, k2, x2) ⟨w, f', n', T2, j2, q2, s2, pl2, st2, k2, x2, nx2, t2, p2, y2, rfl, Nat.zero_le _, hI0⟩ (by omega)
  rw [g1, Option.bind_some]
  obtain ⟨h1, h2, h3, h4, h5⟩ := g2
  refine ⟨w9, f9, n9, T9, j9, q9, s9, pl9, st9, k9, x9, nx9, t9, p9, y9, rfl, h1, h2, h3, h4, ?_⟩
  rcases h5 with ⟨i1, i2, i3, i4⟩ | i1
  · refine Or.inl ⟨i1, i2, fun g => ?_, i4⟩
    rcases g with ⟨ga, gb | gb⟩
    · exact i3 ⟨ga, gb⟩
    · exact g3 i1 ⟨ga, gb⟩
  · exact Or.inr i1
theorem all_specs {K L : Nat} {cb rt : Nat → Int32} (hK : 1000 ≤ K) (hX : TX L cb rt) : ∀ d, FacSpec K L cb rt d ∧ PartSpec K L cb rt d ∧ FormSpec K L cb rt d
  | 0 => ⟨fun δ n m k r T j q s signs sets cmp pl st kk x nx t p y hd => absurd hd (by omega), fun δ n m0 k0 m k T j q s a signs sets cmp pl st kk x nx t p y hd => absurd hd (by omega), fun δ n m k T j q s signs sets cmp pl st kk x nx t p y hd => absurd hd (by omega)⟩
  | d + 1 => by
    obtain ⟨h1, h2, h3⟩ := all_specs hK hX d
    exact ⟨fac_step hK hX h1 h3, part_step hK hX h1, form_step hK hX h2⟩

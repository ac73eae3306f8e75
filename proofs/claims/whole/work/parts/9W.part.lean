/-! one part (factors joined by &) is read alike -/
def preP (signs sets : Nat → Int32) (m0 k0 : Nat) (a : Option Int32) (m k : Nat) : Prop :=
  match a with
  | none => m = m0 ∧ k = k0
  | some x => m = m0 + 1 ∧ k = k0 + 1 ∧ signs m0 = 124 ∧ sets k0 = x
theorem preP_top {signs sets : Nat → Int32} {m0 k0 m k : Nat} {a : Option Int32} (hB : baseS signs m0) (h : preP signs sets m0 k0 a m k) : (0 < m → ¬ signs (m - 0 - 1) = 33) ∧ m + k0 = m0 + k ∧ m0 ≤ m ∧ k0 ≤ k := by
  cases a with
  | none =>
    obtain ⟨rfl, rfl⟩ := h
    refine ⟨fun g => ?_, by omega, by omega, by omega⟩
    rcases hB with rfl | ⟨-, hB⟩
    · omega
    · rw [show m - 0 - 1 = m - 1 by omega, hB]; decide
  | some x =>
    obtain ⟨rfl, rfl, h1, h2⟩ := h
    refine ⟨fun g => ?_, by omega, by omega, by omega⟩
    rw [show m0 + 1 - 0 - 1 = m0 by omega, h1]; decide
theorem pre_pend {signs sets signs' sets' : Nat → Int32} {m0 k0 m k : Nat} {a : Option Int32} {c : Int32} (h : preP signs sets m0 k0 a m k) (h1 : ∀ i, i < m → signs' i = signs i) (h2 : ∀ i, i < k → sets' i = sets i) (h3 : sets' k = c) : pend signs' sets' m0 k0 a none c m (k + 1) := by
  cases a with
  | none =>
    obtain ⟨rfl, rfl⟩ := h
    exact ⟨rfl, rfl, h3⟩
  | some x =>
    obtain ⟨rfl, rfl, e1, e2⟩ := h
    exact ⟨rfl, rfl, by rw [h1 _ (by omega), e1], by rw [h2 _ (by omega), e2], h3⟩
theorem pend_and {signs sets signs' sets' : Nat → Int32} {m0 k0 m k : Nat} {a : Option Int32} {w c : Int32} (h : pend signs sets m0 k0 a none w m k) (h0 : signs' m = 38) (h1 : ∀ i, i < m → signs' i = signs i) (h2 : ∀ i, i < k → sets' i = sets i) (h3 : sets' k = c) : pend signs' sets' m0 k0 a (some w) c (m + 1) (k + 1) := by
  cases a with
  | none =>
    obtain ⟨rfl, rfl, e1⟩ := h
    exact ⟨rfl, rfl, h0, by rw [h2 _ (by omega), e1], h3⟩
  | some x =>
    obtain ⟨rfl, rfl, e1, e2, e3⟩ := h
    exact ⟨rfl, rfl, by rw [h1 _ (by omega), e1], h0, by rw [h2 _ (by omega), e2], by rw [h2 _ (by omega), e3], h3⟩
def PIn (K L : Nat) (rt : Nat → Int32) (δ n m0 k0 s : Nat) (a : Option Int32) (signs sets : Nat → Int32) (start : rSt) (w f' : Int32) (n' T' j' q' s' : Nat) (pl' st' k' x' nx' t' p' y' : Int32) : Prop := TS L T' j' q' s' pl' st' k' x' nx' t' p' y' ∧ n ≤ n' ∧ n' ≤ 12 ∧ s ≤ s' ∧ ((f' = -1 ∧ s < s' ∧ ∃ (N m' k' : Nat) (signs' sets' : Nat → Int32) (b : Option Int32) (c : Int32), N ≤ s' - s ∧ k' ≤ n' ∧ itn (f_X9_formula_L19 K 200 24 24 (nI L) rt) N start (nI n', nI δ, 0, 1, nx', t', p', y', -1, nI m', nI k', signs', sets') ∧ pend signs' sets' m0 k0 a b c m' k' ∧ andv b c = w ∧ (∀ i, i < k0 → sets' i = sets i) ∧ (∀ i, i < m0 → signs' i = signs i)) ∨ badR K L rt start f' nx' t' p' y' (s' - s))
def PartOut (K L : Nat) (rt : Nat → Int32) (δ n m0 k0 s : Nat) (a : Option Int32) (signs sets : Nat → Int32) (start : rSt) (res : cRes) : Prop := ∃ (w f' : Int32) (n' T' j' q' s' : Nat) (pl' st' k' x' nx' t' p' y' : Int32), res = some (w, nI n', f', pl', st', k', x') ∧ PIn K L rt δ n m0 k0 s a signs sets start w f' n' T' j' q' s' pl' st' k' x' nx' t' p' y' ∧ (f' = -1 → ¬ (T' = 4 ∧ j' = 38))
def PartSpec (K L : Nat) (cb rt : Nat → Int32) (d : Nat) : Prop := ∀ (δ n m0 k0 m k T j q s : Nat) (a : Option Int32) (signs sets : Nat → Int32) (cmp pl st kk x nx t p y : Int32), 3 * (6 - δ) + 2 ≤ d → δ ≤ 6 → n ≤ 12 → k ≤ n → m0 ≤ δ + k0 → baseS signs m0 → preP signs sets m0 k0 a m k → TS L T j q s pl st kk x nx t p y → PartOut K L rt δ n m0 k0 s a signs sets (nI n, nI δ, 1, 1, nx, t, p, y, -1, nI m, nI k, signs, sets) (f_X3_rd d 1 K 200 cmp (nI n) (-1) pl st kk x (nI L) cb (nI δ))
theorem part_step {K L d : Nat} {cb rt : Nat → Int32} (hK : 1000 ≤ K) (hX : TX L cb rt) (hFac : FacSpec K L cb rt d) : PartSpec K L cb rt (d + 1) := by
  intro δ n m0 k0 m k T j q s a signs sets cmp pl st kk x nx t p y hd hδ hn hk hm hB hP hS
  have hL := hX.1
  obtain ⟨tp, e0, e1, e2⟩ := preP_top hB hP
  show PartOut K L rt δ n m0 k0 s a signs sets _ (f_X3_readPart (f_X3_rd d) K 200 cmp (nI n) (-1) pl st kk x (nI L) cb (nI δ))
  unfold f_X3_readPart
  obtain ⟨w, f', n', T2, j2, q2, s2, pl2, st2, k2, x2, nx2, t2, p2, y2, c1, c2, c3, c4, c5, c6⟩ := hFac δ n m k 0 T j q s signs sets cmp pl st kk x nx t p y (by omega) hδ hn hk (by omega) (by omega) (by omega) (fun i hi => absurd hi (Nat.not_lt_zero i)) tp hS
  rw [c1, Option.bind_some]
  dsimp only
  have hI0 : PIn K L rt δ n m0 k0 s a signs sets (nI n, nI δ, 1, 1, nx, t, p, y, -1, nI m, nI k, signs, sets) w f' n' T2 j2 q2 s2 pl2 st2 k2 x2 nx2 t2 p2 y2 := by
    refine ⟨c2, c3, c4, c5, ?_⟩
    rcases c6 with ⟨d1, d2, d3, N, sg, se, d4, d5, d6, d7, d8⟩ | d1
    · exact Or.inl ⟨d1, d2, N, m, k + 1, sg, se, none, w, d4, d3, d5, pre_pend hP d8 d7 d6, rfl, fun i hi => d7 i (by omega), fun i hi => d8 i (by omega)⟩
    · exact Or.inr d1
  obtain ⟨res, g1, w9, f9, n9, T9, j9, q9, s9, pl9, st9, k9, x9, nx9, t9, p9, y9, rfl, g2, g3⟩ := lp_loop (f := f_X3_readPart_L8 (f_X3_rd d) K 200 cmp (nI L) cb (nI δ)) (fun i z => ∃ (w f' : Int32) (n' T' j' q' s' : Nat) (pl' st' k' x' nx' t' p' y' : Int32), z = (w, nI i, nI n', f', pl', st', k', x') ∧ i ≤ s' ∧ PIn K L rt δ n m0 k0 s a signs sets (nI n, nI δ, 1, 1, nx, t, p, y, -1, nI m, nI k, signs, sets) w f' n' T' j' q' s' pl' st' k' x' nx' t' p' y') 200 (fun res => ∃ (w f' : Int32) (n' T' j' q' s' : Nat) (pl' st' k' x' nx' t' p' y' : Int32), res = (w, nI n', f', pl', st', k', x') ∧ PIn K L rt δ n m0 k0 s a signs sets (nI n, nI δ, 1, 1, nx, t, p, y, -1, nI m, nI k, signs, sets) w f' n' T' j' q' s' pl' st' k' x' nx' t' p' y' ∧ (f' = -1 → ¬ (T' = 4 ∧ j' = 38))) (fun i z hI => by
    obtain ⟨w, f', n', T', j', q', s', pl', st', k', x', nx', t', p', y', rfl, hi, hP'⟩ := hI
    have hP2 := hP'
    obtain ⟨c2, c3, c4, c5, c6⟩ := hP2
    have c2' := c2
    obtain ⟨-, -, -, -, hc2, ht2, hT2, hsq2, hqL2, hT02⟩ := c2'
    unfold f_X3_readPart_L8
    simp only
    by_cases h200 : i < 200
    · rw [if_neg (show ¬ (200 : Int32) ≤ nI i from nI_ge h200 (by decide))]
      rcases c6 with ⟨rfl, d2, N, m', k', sg, se, b, c, d4, d5, d6, d7, d8, d9, d10⟩ | d1
      · rcases at_sign (f := -1) (c := 38) hT2 hc2 ht2 (by decide) (by decide) with ⟨u, -, u2⟩ | ⟨u, -, -, u2, u3⟩
        · rw [show f_X3_isAt (-1) _ (38 : Int32) = some 0 from u, Option.bind_some, if_pos rfl]
          exact Or.inl ⟨_, rfl, w, -1, n', T', j', q', s', _, _, _, _, nx', t', p', y', rfl, hP', fun _ g => u2 ⟨by decide, g⟩⟩
        · rw [show f_X3_isAt (-1) _ (38 : Int32) = some 1 from u, Option.bind_some, if_neg one_ne]
          obtain ⟨T5, j5, q5, s5, pl5, st5, k5, x5, nx5, t5, p5, y5, v1, v2, v3, v4⟩ := ts_step hK hX c2
          subst u2 u3
          obtain ⟨-, -, et2, ey2⟩ := ht2
          subst et2 ey2
          have hss2 : s' < s5 := by have := hT02 (by omega); omega
          have hB' : baseS sg m0 := by
            rcases hB with h | ⟨h1, h2⟩
            · exact Or.inl h
            · exact Or.inr ⟨h1, by rw [d10 _ (by omega), h2]⟩
          obtain ⟨f1, f2, f3, f4, f5⟩ := pend_facts d7
          obtain ⟨m6, k6, se6, r1, r2, r3, r4, r5⟩ := L182_and hK (show m' ≤ 24 by omega) (show k' ≤ 24 by omega) hB' d7
          obtain ⟨g1, g2, g3, g4, g5⟩ := pend_facts r2
          have hop := R_op (n := n') (δ := δ) (p := p') hK (Or.inl rfl) (show m6 < 24 by omega) v2 r1
          rw [v1, Option.bind_some]
          dsimp only
          obtain ⟨w7, f7, n7, T7, j7, q7, s7, pl7, st7, k7, x7, nx7, t7, p7, y7, c1, e2, e3, e4, e5, e6⟩ := hFac δ n' (m6 + 1) k6 0 T5 j5 q5 s5 (upd sg m6 (nI 38)) se6 cmp pl5 st5 k5 x5 nx5 t5 p5 y5 (by omega) hδ c4 (by omega) (by omega) (by omega) (by omega) (fun i hi => absurd hi (Nat.not_lt_zero i)) (fun _ => by rw [show m6 + 1 - 0 - 1 = m6 by omega, pk_us]; decide) v3
          rw [c1, Option.bind_some]
          dsimp only
          rw [nI_1]
          refine Or.inr ⟨h200, _, rfl, w &&& w7, f7, n7, T7, j7, q7, s7, pl7, st7, k7, x7, nx7, t7, p7, y7, rfl, by omega, e2, by omega, e4, by omega, ?_⟩
          rcases e6 with ⟨z1, z2, z3, N7, sg7, se7, z4, z5, z6, z7, z8⟩ | z1
          · refine Or.inl ⟨z1, by omega, N + 1 + N7, m6 + 1, k6 + 1, sg7, se7, some w, w7, by omega, z3, itn_trans (N + 1) N7 _ _ _ (itn_trans N 1 _ _ _ d6 (itn_one hop)) z5, pend_and (d8 ▸ r2) (by rw [z8 m6 (by omega), pk_us]; rfl) (fun i hi => by rw [z8 i (by omega), pk_un (by omega)]) z7 z6, rfl, fun i hi => by rw [z7 i (by omega), r5 i hi, d9 i hi], fun i hi => by rw [z8 i (by omega), pk_un (by omega), d10 i hi]⟩
          · exact Or.inr (bad_more (itn_trans N 1 _ _ _ d6 (itn_one hop)) z1 (by omega))
      · have hf' := d1.2.1
        have ea : ∀ v, f_X3_isAt f' v (38 : Int32) = some 0 := fun v => by unfold f_X3_isAt; rw [if_pos hf']
        rw [ea, Option.bind_some, if_pos rfl]
        exact Or.inl ⟨_, rfl, w, f', n', T', j', q', s', _, _, _, _, nx', t', p', y', rfl, hP', fun g => absurd hf' (by rw [g]; decide)⟩
    · rw [if_pos (show (200 : Int32) ≤ nI i from nI_le (show 200 ≤ i by omega) (by omega))]
      exact Or.inl ⟨_, rfl, w, f', n', T', j', q', s', _, _, _, _, nx', t', p', y', rfl, hP', fun _ g => by have := hT02 (by omega); omega⟩) K 0 (w, 0, nI n', f', pl2, st2, k2, x2) ⟨w, f', n', T2, j2, q2, s2, pl2, st2, k2, x2, nx2, t2, p2, y2, rfl, Nat.zero_le _, hI0⟩ (by omega)
  rw [g1, Option.bind_some]
  exact ⟨w9, f9, n9, T9, j9, q9, s9, pl9, st9, k9, x9, nx9, t9, p9, y9, rfl, g2, g3⟩

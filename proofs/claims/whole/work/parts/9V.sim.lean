/-! the recursive reader and the reader with a stack: one factor -/
abbrev rSt := Int32 × Int32 × Int32 × Int32 × Int32 × Int32 × Int32 × Int32 × Int32 × Int32 × Int32 × (Nat → Int32) × (Nat → Int32)
abbrev cRes := Option (Int32 × Int32 × Int32 × Int32 × Int32 × Int32 × Int32)
def badR (K L : Nat) (rt : Nat → Int32) (start : rSt) (f' nx' t' p' y' : Int32) (B : Nat) : Prop := FA L f' ∧ (0 : Int32) ≤ f' ∧ ∃ (N : Nat) (sN : rSt) (g : Int32) (mm : Nat) (kk : Int32) (signs sets : Nat → Int32), N ≤ B + 1 ∧ itn (f_X9_formula_L19 K 200 24 24 (nI L) rt) N start sN ∧ f_X9_formula_L19 K 200 24 24 (nI L) rt sN = some (.inl (nx', t', p', y', g, nI mm, kk, signs, sets)) ∧ mm ≤ 24 ∧ (g = f' ∨ (g = -1 ∧ f' = p' ∧ ∃ i, i < mm ∧ signs i = 40))
def FacOut (K L : Nat) (rt : Nat → Int32) (δ n m k r s : Nat) (signs sets : Nat → Int32) (start : rSt) (res : cRes) : Prop := ∃ (w f' : Int32) (n' T' j' q' s' : Nat) (pl' st' k' x' nx' t' p' y' : Int32), res = some (w, nI n', f', pl', st', k', x') ∧ TS L T' j' q' s' pl' st' k' x' nx' t' p' y' ∧ n ≤ n' ∧ n' ≤ 12 ∧ s ≤ s' ∧ ((f' = -1 ∧ s < s' ∧ k + 1 ≤ n' ∧ ∃ (N : Nat) (signs' sets' : Nat → Int32), N ≤ s' - s ∧ itn (f_X9_formula_L19 K 200 24 24 (nI L) rt) N start (nI n', nI (δ - r), 0, 1, nx', t', p', y', -1, nI (m - r), nI (k + 1), signs', sets') ∧ sets' k = nots r w ∧ (∀ i, i < k → sets' i = sets i) ∧ (∀ i, i < m → signs' i = signs i)) ∨ badR K L rt start f' nx' t' p' y' (s' - s))
def FormOut (K L : Nat) (rt : Nat → Int32) (δ n m0 k0 s : Nat) (signs sets : Nat → Int32) (start : rSt) (res : cRes) : Prop := ∃ (w f' : Int32) (n' T' j' q' s' : Nat) (pl' st' k' x' nx' t' p' y' : Int32), res = some (w, nI n', f', pl', st', k', x') ∧ TS L T' j' q' s' pl' st' k' x' nx' t' p' y' ∧ n ≤ n' ∧ n' ≤ 12 ∧ s ≤ s' ∧ ((f' = -1 ∧ s < s' ∧ ¬ (T' = 4 ∧ (j' = 38 ∨ j' = 124)) ∧ ∃ (N m' k' : Nat) (signs' sets' : Nat → Int32) (a b : Option Int32) (c : Int32), N ≤ s' - s ∧ k' ≤ n' ∧ itn (f_X9_formula_L19 K 200 24 24 (nI L) rt) N start (nI n', nI δ, 0, 1, nx', t', p', y', -1, nI m', nI k', signs', sets') ∧ pend signs' sets' m0 k0 a b c m' k' ∧ orv a (andv b c) = w ∧ (∀ i, i < k0 → sets' i = sets i) ∧ (∀ i, i < m0 → signs' i = signs i)) ∨ badR K L rt start f' nx' t' p' y' (s' - s))
def FacSpec (K L : Nat) (cb rt : Nat → Int32) (d : Nat) : Prop := ∀ (δ n m k r T j q s : Nat) (signs sets : Nat → Int32) (cmp pl st kk x nx t p y : Int32), 3 * (6 - δ) + 1 ≤ d → δ ≤ 6 → n ≤ 12 → k ≤ n → m ≤ δ + k → r ≤ m → r ≤ δ → (∀ i, i < r → signs (m - 1 - i) = 33) → (r < m → ¬ signs (m - r - 1) = 33) → TS L T j q s pl st kk x nx t p y → FacOut K L rt δ n m k r s signs sets (nI n, nI δ, 1, 1, nx, t, p, y, -1, nI m, nI k, signs, sets) (f_X3_rd d 2 K 200 cmp (nI n) (-1) pl st kk x (nI L) cb (nI δ))
def FormSpec (K L : Nat) (cb rt : Nat → Int32) (d : Nat) : Prop := ∀ (δ n m k T j q s : Nat) (signs sets : Nat → Int32) (cmp pl st kk x nx t p y : Int32), 3 * (6 - δ) + 3 ≤ d → δ ≤ 6 → n ≤ 12 → k ≤ n → m ≤ δ + k → baseS signs m → TS L T j q s pl st kk x nx t p y → FormOut K L rt δ n m k s signs sets (nI n, nI δ, 1, 1, nx, t, p, y, -1, nI m, nI k, signs, sets) (f_X3_rd d 0 K 200 cmp (nI n) (-1) pl st kk x (nI L) cb (nI δ))
theorem at_letter {T j : Nat} {k x t y : Int32} (hT : T ≤ 5) (h1 : ctk T j k x) (h2 : rtk T j t y) : (T = 1 ∧ f_X3_isAt (-1) k 1 = some 1 ∧ t = 1 ∧ j < 3 ∧ x = tk_wol j ∧ y = nI j) ∨ (¬ T = 1 ∧ f_X3_isAt (-1) k 1 = some 0) := by
  have e : f_X3_isAt (-1) k 1 = if k = 1 then some 1 else some 0 := by unfold f_X3_isAt; rw [if_neg (by decide)]
  rw [e]
  rcases t6 hT with rfl | rfl | rfl | rfl | rfl | rfl
  · have h1' : k = (0 : Int32) := h1
    subst h1'; exact Or.inr ⟨by decide, by decide⟩
  · obtain ⟨a, h1', b⟩ := h1
    obtain ⟨-, h2', d⟩ := h2
    exact Or.inl ⟨rfl, if_pos h1', h2', a, b, d⟩
  · have h1' : k = (2 : Int32) := h1
    subst h1'; exact Or.inr ⟨by decide, by decide⟩
  · obtain ⟨-, h1', -⟩ := h1
    subst h1'; exact Or.inr ⟨by decide, by decide⟩
  · obtain ⟨a, b, rfl⟩ := h1
    refine Or.inr ⟨by decide, if_neg fun e => ?_⟩
    have e' := (nI_eq (a := j) (b := 1) (by omega) (by decide)).mp e
    subst e'
    exact absurd b (by decide)
  · have h1' : k = (4 : Int32) := h1
    subst h1'; exact Or.inr ⟨by decide, by decide⟩
theorem bad_more {K L : Nat} {rt : Nat → Int32} {s0 s1 : rSt} {f' nx' t' p' y' : Int32} {N B B' : Nat} (h : itn (f_X9_formula_L19 K 200 24 24 (nI L) rt) N s0 s1) (hb : badR K L rt s1 f' nx' t' p' y' B) (hB : N + B ≤ B') : badR K L rt s0 f' nx' t' p' y' B' := by
  obtain ⟨h1, h2, M, sN, g, mm, kk, signs, sets, a1, a2, a3, a4, a5⟩ := hb
  exact ⟨h1, h2, N + M, sN, g, mm, kk, signs, sets, by omega, itn_trans N M _ _ _ h a2, a3, a4, a5⟩
theorem pend_facts {signs sets : Nat → Int32} {m0 k0 m k : Nat} {a b : Option Int32} {c : Int32} (h : pend signs sets m0 k0 a b c m k) : m0 ≤ m ∧ m ≤ m0 + 2 ∧ k0 + 1 ≤ k ∧ m + k0 + 1 = m0 + k ∧ (m0 < m → ¬ signs (m - 1) = 33) := by
  cases a with
  | none =>
    cases b with
    | none =>
      obtain ⟨rfl, rfl, h1⟩ := h
      exact ⟨by omega, by omega, by omega, by omega, fun g => by omega⟩
    | some y =>
      obtain ⟨rfl, rfl, h1, h2, h3⟩ := h
      exact ⟨by omega, by omega, by omega, by omega, fun g => by rw [show m0 + 1 - 1 = m0 by omega, h1]; decide⟩
  | some x =>
    cases b with
    | none =>
      obtain ⟨rfl, rfl, h1, h2, h3⟩ := h
      exact ⟨by omega, by omega, by omega, by omega, fun g => by rw [show m0 + 1 - 1 = m0 by omega, h1]; decide⟩
    | some y =>
      obtain ⟨rfl, rfl, h1, h2, h3, h4, h5⟩ := h
      exact ⟨by omega, by omega, by omega, by omega, fun g => by rw [show m0 + 2 - 1 = m0 + 1 by omega, h2]; decide⟩
theorem fac_step {K L d : Nat} {cb rt : Nat → Int32} (hK : 1000 ≤ K) (hX : TX L cb rt) (hFac : FacSpec K L cb rt d) (hForm : FormSpec K L cb rt d) : FacSpec K L cb rt (d + 1) := by
  intro δ n m k r T j q s signs sets cmp pl st kk x nx t p y hd hδ hn hk hm hr hrδ h33 hn33 hS
  have hL := hX.1
  have hS' := hS
  obtain ⟨-, -, -, ep, hc, ht, hT, hsq, hqL, hT0⟩ := hS'
  show FacOut K L rt δ n m k r s signs sets _ (f_X3_readFactor (f_X3_rd d) K 200 cmp (nI n) (-1) pl st kk x (nI L) cb (nI δ))
  have fault : ¬ (T = 1 ∧ n < 12) → ¬ (T = 4 ∧ (j = 33 ∨ j = 40) ∧ δ < 6) → FacOut K L rt δ n m k r s signs sets (nI n, nI δ, 1, 1, nx, t, p, y, -1, nI m, nI k, signs, sets) (f_X3_readFactor_J128 (f_X3_rd d) (nI n) (-1) pl st kk x) := fun g1 g2 => by
    have hS'' := hS
    obtain ⟨-, est, -, ep', -⟩ := hS''
    have p0 : (0 : Int32) ≤ p := by rw [ep]; exact nI_pos' (by omega)
    refine ⟨0, p, n, T, j, q, s, pl, st, kk, x, nx, t, p, y, ?_, hS, Nat.le_refl _, hn, Nat.le_refl _, Or.inr ⟨Or.inr ⟨s, by omega, ep⟩, p0, 1, _, p, m, nI k, signs, sets, by omega, itn_one (R_fault hK hT ht ⟨g1, g2⟩ hn hδ), R_bad p0, by omega, Or.inl rfl⟩⟩
    unfold f_X3_readFactor_J128 f_X3_fail
    rw [if_neg (by decide), est, ep]; rfl
  unfold f_X3_readFactor
  rcases at_letter hT hc ht with ⟨hT1, e1, e2, e3, e4, e5⟩ | ⟨hT1, e1⟩
  · rw [e1, Option.bind_some, if_neg one_ne]
    by_cases hn12 : n < 12
    · obtain ⟨T', j', q', s', pl', st', k', x', nx', t', p', y', g1, g2, g3, g4⟩ := ts_step hK hX hS
      rw [if_neg (show ¬ (12 : Int32) ≤ nI n from nI_ge hn12 (by decide)), g1, Option.bind_some]
      subst e2 e5
      obtain ⟨sets', a1, a2, a3⟩ := R_letter (n := n) (p := p) (sets := sets) hK hn12 (show m ≤ 24 by omega) (show k < 24 by omega) hr hrδ hδ h33 hn33 e3 g2
      have hss : s < s' := by have := hT0 (by omega); omega
      exact ⟨x, -1, n + 1, T', j', q', s', pl', st', k', x', nx', t', p', y', by dsimp only; rw [nI_1], g3, by omega, by omega, by omega, Or.inl ⟨rfl, hss, by omega, 1, signs, sets', by omega, itn_one a1, by rw [a2, e4], fun i hi => a3 i (by omega), fun _ _ => rfl⟩⟩
    · rw [if_pos (show (12 : Int32) ≤ nI n from nI_le (show 12 ≤ n by omega) (by omega))]
      have := fault (fun g => hn12 g.2) (fun g => by omega)
      unfold f_X3_readFactor_J44 f_X3_readFactor_J80
      rcases at_sign (f := -1) (c := 33) hT hc ht (by decide) (by decide) with ⟨b, -, -⟩ | ⟨-, -, -, b, -⟩
      · rcases at_sign (f := -1) (c := 40) hT hc ht (by decide) (by decide) with ⟨b', -, -⟩ | ⟨-, -, -, b', -⟩
        · rw [show f_X3_isAt (-1) kk (33 : Int32) = some 0 from b, Option.bind_some, if_pos rfl, show f_X3_isAt (-1) kk (40 : Int32) = some 0 from b', Option.bind_some, if_pos rfl]
          exact this
        · omega
      · omega
  · rw [e1, Option.bind_some, if_pos rfl]
    unfold f_X3_readFactor_J44
    have j80 : ¬ (T = 4 ∧ j = 33 ∧ δ < 6) → FacOut K L rt δ n m k r s signs sets (nI n, nI δ, 1, 1, nx, t, p, y, -1, nI m, nI k, signs, sets) (f_X3_readFactor_J80 (f_X3_rd d) K 200 cmp (nI n) (-1) pl st kk x (nI L) cb (nI δ)) := fun hno => by
      unfold f_X3_readFactor_J80
      rcases at_sign (f := -1) (c := 40) hT hc ht (by decide) (by decide) with ⟨b, -, b2⟩ | ⟨b, -, -, b2, b3⟩
      · rw [show f_X3_isAt (-1) kk (40 : Int32) = some 0 from b, Option.bind_some, if_pos rfl]
        refine fault (fun g => hT1 g.1) (fun g => ?_)
        rcases g with ⟨g1, g2 | g2, g3⟩
        · exact hno ⟨g1, g2, g3⟩
        · exact b2 ⟨by decide, g1, g2⟩
      · rw [show f_X3_isAt (-1) kk (40 : Int32) = some 1 from b, Option.bind_some, if_neg one_ne]
        by_cases hδ6 : δ < 6
        · rw [if_neg (show ¬ (6 : Int32) ≤ nI δ from nI_ge hδ6 (by decide))]
          obtain ⟨T', j', q', s', pl', st', k', x', nx', t', p', y', g1, g2, g3, g4⟩ := ts_step hK hX hS
          subst b2 b3
          obtain ⟨-, -, et, ey⟩ := ht
          subst et ey
          have hop := R_open (n := n) (p := p) (k := k) (signs := signs) (sets := sets) hK (show m < 24 by omega) hδ6 (Or.inr rfl) g2
          have hss : s < s' := by have := hT0 (by omega); omega
          have ih := hForm (δ + 1) n (m + 1) k T' j' q' s' (upd signs m (nI 40)) sets cmp pl' st' k' x' nx' t' p' y' (by omega) (by omega) hn hk (by omega) (Or.inr ⟨by omega, by rw [show m + 1 - 1 = m by omega, pk_us]; rfl⟩) g3
          obtain ⟨w, f', n', T2, j2, q2, s2, pl2, st2, k2, x2, nx2, t2, p2, y2, c1, c2, c3, c4, c5, c6⟩ := ih
          rw [g1, Option.bind_some]
          dsimp only
          rw [nI_1, c1, Option.bind_some]
          dsimp only
          have c2' := c2
          obtain ⟨-, est2, -, ep2, hc2, ht2, hT2, hsq2, hqL2, hT02⟩ := c2'
          rcases c6 with ⟨d1, d2, d3, N, m', k3, sg, se, a, bb, c, d4, d5, d6, d7, d8, d9, d10⟩ | d1
          · subst d1
            obtain ⟨f1, f2, f3, f4, f5⟩ := pend_facts d7
            have sm : sg m = 40 := by rw [d10 m (by omega), pk_us]; rfl
            rcases at_sign (f := -1) (c := 41) hT2 hc2 ht2 (by decide) (by decide) with ⟨u, -, u2⟩ | ⟨u, -, -, u2, u3⟩
            · rw [show f_X3_isAt (-1) k2 (41 : Int32) = some 0 from u, Option.bind_some, if_pos rfl]
              have p0 : (0 : Int32) ≤ p2 := by rw [ep2]; exact nI_pos' (by omega)
              have ef : f_X3_fail (-1) st2 = some p2 := by unfold f_X3_fail; rw [if_neg (by decide), est2, ep2]
              unfold f_X3_readFactor_J128
              rw [ef]
              obtain ⟨k4, rfl⟩ : ∃ k4, k3 = k4 + 1 := ⟨k3 - 1, by omega⟩
              refine ⟨0, p2, n', T2, j2, q2, s2, pl2, st2, k2, x2, nx2, t2, p2, y2, rfl, c2, c3, c4, by omega, Or.inr (bad_more (itn_trans 1 N _ _ _ (itn_one hop) d6) (B := 0) ⟨Or.inr ⟨s2, by omega, ep2⟩, p0, 1, _, -1, m', nI (k4 + 1), sg, se, by omega, itn_one (R_stop hK hT2 ht2 (by omega) (by omega) (by omega) (fun g => ?_) d3 (fun g => u2 ⟨by decide, g.1, g.2.1⟩)), R_end, by omega, Or.inr ⟨rfl, rfl, m, by omega, sm⟩⟩ (by omega))⟩
              by_cases e : m + 1 < m'
              · exact f5 e
              · rw [show m' - 1 = m by omega, sm]; decide
            · rw [show f_X3_isAt (-1) k2 (41 : Int32) = some 1 from u, Option.bind_some, if_neg one_ne]
              obtain ⟨T5, j5, q5, s5, pl5, st5, k5, x5, nx5, t5, p5, y5, v1, v2, v3, v4⟩ := ts_step hK hX c2
              subst u2 u3
              obtain ⟨-, -, et2, ey2⟩ := ht2
              subst et2 ey2
              have hss2 : s2 < s5 := by have := hT02 (by omega); omega
              obtain ⟨se5, w1, w2, w3⟩ := R_close (n := n') (p := p2) (δ := δ + 1) (r := r) hK (show m' ≤ 24 by omega) (show m < m' by omega) (show k3 ≤ 24 by omega) (show k < 24 by omega) sm d7 hr (by omega) (by omega) (fun i hi => by rw [d10 _ (by omega), pk_un (by omega)]; exact h33 i hi) (fun g => by rw [d10 _ (by omega), pk_un (by omega)]; exact hn33 g) v2
              rw [v1, Option.bind_some]
              refine ⟨w, -1, n', T5, j5, q5, s5, pl5, st5, k5, x5, nx5, t5, p5, y5, rfl, v3, c3, c4, by omega, Or.inl ⟨rfl, by omega, by omega, 1 + N + 1, sg, se5, by omega, ?_, by rw [w2, d8], fun i hi => by rw [w3 i hi, d9 i hi], fun i hi => by rw [d10 i (by omega), pk_un (by omega)]⟩⟩
              have := itn_trans (1 + N) 1 _ _ _ (itn_trans 1 N _ _ _ (itn_one hop) d6) (itn_one w1)
              rw [show δ + 1 - 1 - r = δ - r by omega] at this
              exact this
          · have hf' := d1.2.1
            have ea : f_X3_isAt f' k2 (41 : Int32) = some 0 := by unfold f_X3_isAt; rw [if_pos hf']
            have ef : f_X3_fail f' st2 = some f' := by unfold f_X3_fail; rw [if_pos hf']
            rw [ea, Option.bind_some, if_pos rfl]
            unfold f_X3_readFactor_J128
            rw [ef]
            exact ⟨0, f', n', T2, j2, q2, s2, pl2, st2, k2, x2, nx2, t2, p2, y2, rfl, c2, c3, c4, by omega, Or.inr (bad_more (itn_one hop) d1 (by omega))⟩
        · rw [if_pos (show (6 : Int32) ≤ nI δ from nI_le (show 6 ≤ δ by omega) (by omega))]
          exact fault (fun g => hT1 g.1) (fun g => hδ6 g.2.2)
    rcases at_sign (f := -1) (c := 33) hT hc ht (by decide) (by decide) with ⟨b, -, b2⟩ | ⟨b, -, -, b2, b3⟩
    · rw [show f_X3_isAt (-1) kk (33 : Int32) = some 0 from b, Option.bind_some, if_pos rfl]
      exact j80 (fun g => b2 ⟨by decide, g.1, g.2.1⟩)
    · rw [show f_X3_isAt (-1) kk (33 : Int32) = some 1 from b, Option.bind_some, if_neg one_ne]
      by_cases hδ6 : δ < 6
      · rw [if_neg (show ¬ (6 : Int32) ≤ nI δ from nI_ge hδ6 (by decide))]
        obtain ⟨T', j', q', s', pl', st', k', x', nx', t', p', y', g1, g2, g3, g4⟩ := ts_step hK hX hS
        subst b2 b3
        obtain ⟨-, -, et, ey⟩ := ht
        subst et ey
        have hop := R_open (n := n) (p := p) (k := k) (signs := signs) (sets := sets) hK (show m < 24 by omega) hδ6 (Or.inl rfl) g2
        have hss : s < s' := by have := hT0 (by omega); omega
        have ih := hFac (δ + 1) n (m + 1) k (r + 1) T' j' q' s' (upd signs m (nI 33)) sets cmp pl' st' k' x' nx' t' p' y' (by omega) (by omega) hn hk (by omega) (by omega) (by omega) (fun i hi => by
          by_cases e : i = 0
          · rw [e, show m + 1 - 1 - 0 = m by omega, pk_us]; rfl
          · rw [pk_un (by omega), show m + 1 - 1 - i = m - 1 - (i - 1) by omega]; exact h33 (i - 1) (by omega)) (fun g => by
          rw [pk_un (by omega), show m + 1 - (r + 1) - 1 = m - r - 1 by omega]; exact hn33 (by omega)) g3
        obtain ⟨w, f', n', T2, j2, q2, s2, pl2, st2, k2, x2, nx2, t2, p2, y2, c1, c2, c3, c4, c5, c6⟩ := ih
        rw [g1, Option.bind_some]
        dsimp only
        rw [nI_1, c1, Option.bind_some]
        refine ⟨not8 w, f', n', T2, j2, q2, s2, pl2, st2, k2, x2, nx2, t2, p2, y2, rfl, c2, c3, c4, by omega, ?_⟩
        rcases c6 with ⟨d1, d2, d3, N, sg, se, d4, d5, d6, d7, d8⟩ | d1
        · refine Or.inl ⟨d1, by omega, d3, 1 + N, sg, se, by omega, ?_, ?_, d7, fun i hi => ?_⟩
          · have := itn_trans 1 N _ _ _ (itn_one hop) d5
            rw [show δ + 1 - (r + 1) = δ - r by omega, show m + 1 - (r + 1) = m - r by omega] at this
            exact this
          · rw [d6]; rfl
          · rw [d8 i (by omega), pk_un (by omega)]
        · exact Or.inr (bad_more (itn_one hop) d1 (by omega))
      · rw [if_pos (show (6 : Int32) ≤ nI δ from nI_le (show 6 ≤ δ by omega) (by omega))]
        exact j80 (fun g => hδ6 g.2.2)

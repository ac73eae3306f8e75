/-! small steps of the two readers -/
def TS (L T j q s : Nat) (pl st k x nx t p y : Int32) : Prop := pl = nI q ∧ st = nI s ∧ nx = nI q ∧ p = nI s ∧ ctk T j k x ∧ rtk T j t y ∧ T ≤ 5 ∧ s ≤ q ∧ q ≤ L ∧ (T ≠ 0 → s < q)
theorem ts_step {K L T j q s : Nat} {cb rt : Nat → Int32} {pl st k x nx t p y : Int32} (hK : 1000 ≤ K) (hX : TX L cb rt) (h : TS L T j q s pl st k x nx t p y) : ∃ (T' j' q' s' : Nat) (pl' st' k' x' nx' t' p' y' : Int32), f_X6_step K 200 pl x (nI L) cb = some (pl', st', k', x') ∧ f_X9_advances K 200 (nI L) nx y rt = some (nx', t', p', y') ∧ TS L T' j' q' s' pl' st' k' x' nx' t' p' y' ∧ q ≤ s' := by
  obtain ⟨rfl, rfl, rfl, rfl, -, -, -, -, hq, -⟩ := h
  obtain ⟨s', h1, h2, T', j', q', k', x', t', y', a1, a2, a3, a4, a5, a6, a7, a8⟩ := tok (v := x) (v' := y) hK hX hq
  exact ⟨T', j', q', s', _, _, _, _, _, _, _, _, a1, a2, ⟨rfl, rfl, rfl, rfl, a3, a4, a5, a6, a7, a8⟩, h1⟩
theorem ts_start {K L : Nat} {cb rt : Nat → Int32} {x y : Int32} (hK : 1000 ≤ K) (hX : TX L cb rt) : ∃ (T' j' q' s' : Nat) (pl' st' k' x' nx' t' p' y' : Int32), f_X6_step K 200 0 x (nI L) cb = some (pl', st', k', x') ∧ f_X9_advances K 200 (nI L) 0 y rt = some (nx', t', p', y') ∧ TS L T' j' q' s' pl' st' k' x' nx' t' p' y' := by
  obtain ⟨s', h1, h2, T', j', q', k', x', t', y', a1, a2, a3, a4, a5, a6, a7, a8⟩ := tok (p := 0) (v := x) (v' := y) hK hX (Nat.zero_le L)
  exact ⟨T', j', q', s', _, _, _, _, _, _, _, _, a1, a2, ⟨rfl, rfl, rfl, rfl, a3, a4, a5, a6, a7, a8⟩⟩
theorem t6 {T : Nat} (h : T ≤ 5) : T = 0 ∨ T = 1 ∨ T = 2 ∨ T = 3 ∨ T = 4 ∨ T = 5 := by omega
theorem tk_sign {T j c : Nat} {k x t y : Int32} (hT : T ≤ 5) (h1 : ctk T j k x) (h2 : rtk T j t y) (hc : 5 ≤ c) (hc2 : c < 256) : (k = nI c ↔ (T = 4 ∧ j = c)) ∧ ((t = 4 ∧ y = nI c) ↔ (T = 4 ∧ j = c)) := by
  have ne : ∀ a, a < 5 → ¬ nI a = nI c := fun a ha e => by
    have := (nI_eq (by omega) (by omega)).mp e; omega
  rcases t6 hT with rfl | rfl | rfl | rfl | rfl | rfl
  · have h1' : k = nI 0 := h1
    have h2' : t = (0 : Int32) := h2
    subst h1' h2'
    exact ⟨⟨fun e => absurd e (ne 0 (by decide)), fun e => absurd e.1 (by decide)⟩, ⟨fun e => absurd e.1 (by decide), fun e => absurd e.1 (by decide)⟩⟩
  · obtain ⟨-, h1', -⟩ := h1
    obtain ⟨-, h2', -⟩ := h2
    subst h1' h2'
    exact ⟨⟨fun e => absurd e (ne 1 (by decide)), fun e => absurd e.1 (by decide)⟩, ⟨fun e => absurd e.1 (by decide), fun e => absurd e.1 (by decide)⟩⟩
  · have h1' : k = nI 2 := h1
    have h2' : t = (2 : Int32) := h2
    subst h1' h2'
    exact ⟨⟨fun e => absurd e (ne 2 (by decide)), fun e => absurd e.1 (by decide)⟩, ⟨fun e => absurd e.1 (by decide), fun e => absurd e.1 (by decide)⟩⟩
  · obtain ⟨-, h1', -⟩ := h1
    obtain ⟨-, h2', -⟩ := h2
    subst h1' h2'
    exact ⟨⟨fun e => absurd e (ne 3 (by decide)), fun e => absurd e.1 (by decide)⟩, ⟨fun e => absurd e.1 (by decide), fun e => absurd e.1 (by decide)⟩⟩
  · obtain ⟨a, b, rfl⟩ := h1
    obtain ⟨-, -, rfl, rfl⟩ := h2
    have e := nI_eq (a := j) (b := c) (by omega) (by omega)
    exact ⟨⟨fun g => ⟨rfl, e.mp g⟩, fun g => e.mpr g.2⟩, ⟨fun g => ⟨rfl, e.mp g.2⟩, fun g => ⟨rfl, e.mpr g.2⟩⟩⟩
  · have h1' : k = nI 4 := h1
    have h2' : t = (5 : Int32) := h2
    subst h1' h2'
    exact ⟨⟨fun e => absurd e (ne 4 (by decide)), fun e => absurd e.1 (by decide)⟩, ⟨fun e => absurd e.1 (by decide), fun e => absurd e.1 (by decide)⟩⟩
theorem at_sign {T j c : Nat} {k x t y f : Int32} (hT : T ≤ 5) (h1 : ctk T j k x) (h2 : rtk T j t y) (hc : 5 ≤ c) (hc2 : c < 256) : (f_X3_isAt f k (nI c) = some 0 ∧ f_X9_isSign t y f (nI c) = some 0 ∧ ¬ (¬ (0 : Int32) ≤ f ∧ T = 4 ∧ j = c)) ∨ (f_X3_isAt f k (nI c) = some 1 ∧ f_X9_isSign t y f (nI c) = some 1 ∧ ¬ (0 : Int32) ≤ f ∧ T = 4 ∧ j = c) := by
  obtain ⟨e1, e2⟩ := tk_sign hT h1 h2 hc hc2
  unfold f_X3_isAt f_X9_isSign f_X9_isWell
  by_cases hf : (0 : Int32) ≤ f
  · rw [if_pos hf, if_pos hf, Option.bind_some, if_pos rfl]
    exact Or.inl ⟨rfl, rfl, fun g => g.1 hf⟩
  · rw [if_neg hf, if_neg hf, Option.bind_some, if_neg one_ne]
    by_cases g : T = 4 ∧ j = c
    · rw [if_pos (e1.mpr g), if_pos (e2.mpr g).1, if_pos (e2.mpr g).2]
      exact Or.inr ⟨rfl, rfl, hf, g⟩
    · rw [if_neg (fun a => g (e1.mp a))]
      refine Or.inl ⟨rfl, ?_, fun a => g a.2⟩
      by_cases a : t = 4
      · rw [if_pos a, if_neg (fun b => g (e2.mp ⟨a, b⟩))]
      · rw [if_neg a]
def FA (L : Nat) (f : Int32) : Prop := f = -1 ∨ ∃ n, n ≤ L ∧ f = nI n
theorem f_fails {L T j q s : Nat} {pl st k x nx t p y f : Int32} (hL : L ≤ 200) (h : TS L T j q s pl st k x nx t p y) (hf : FA L f) : ∃ f', f_X3_fail f st = some f' ∧ f_X9_fails p f = some f' ∧ FA L f' ∧ (0 : Int32) ≤ f' := by
  obtain ⟨rfl, rfl, rfl, rfl, -, -, -, hs, hq, -⟩ := h
  unfold f_X3_fail f_X9_fails
  rcases hf with rfl | ⟨n, hn, rfl⟩
  · rw [if_neg (by decide)]
    exact ⟨_, rfl, rfl, Or.inr ⟨s, by omega, rfl⟩, nI_pos' (by omega)⟩
  · rw [if_pos (nI_pos' (by omega))]
    exact ⟨_, rfl, rfl, Or.inr ⟨n, hn, rfl⟩, nI_pos' (by omega)⟩
theorem f_expect {K L T j q s c : Nat} {cb rt : Nat → Int32} {pl st k x nx t p y f : Int32} (hK : 1000 ≤ K) (hX : TX L cb rt) (h : TS L T j q s pl st k x nx t p y) (hf : FA L f) (hc : 5 ≤ c) (hc2 : c < 256) : ∃ (T' j' q' s' : Nat) (pl' st' k' x' nx' t' p' y' f' : Int32), f_X3_expect K 200 f pl st k x (nI L) cb (nI c) = some (f', pl', st', k', x') ∧ f_X9_takesSign K 200 (nI L) nx t p y f rt (nI c) = some (nx', t', p', y', f') ∧ TS L T' j' q' s' pl' st' k' x' nx' t' p' y' ∧ FA L f' ∧ q ≤ q' ∧ (¬ (0 : Int32) ≤ f' → q < q' ∨ T' = 0) := by
  unfold f_X3_expect f_X9_takesSign
  rcases at_sign (f := f) h.2.2.2.2.2.2.1 h.2.2.2.2.1 h.2.2.2.2.2.1 hc hc2 with ⟨a, b, -⟩ | ⟨a, b, -⟩
  · obtain ⟨f', g1, g2, g3, g4⟩ := f_fails hX.1 h hf
    rw [a, b, Option.bind_some, Option.bind_some, if_pos rfl, if_pos rfl, g1, g2]
    exact ⟨T, j, q, s, pl, st, k, x, nx, t, p, y, f', rfl, rfl, h, g3, Nat.le_refl q, fun g => absurd g4 g⟩
  · obtain ⟨T', j', q', s', pl', st', k', x', nx', t', p', y', g1, g2, g3, g4⟩ := ts_step hK hX h
    rw [a, b, Option.bind_some, Option.bind_some, if_neg one_ne, if_neg one_ne, g1, g2]
    have g3' := g3
    obtain ⟨-, -, -, -, -, -, -, e1, e2, e3⟩ := g3'
    exact ⟨T', j', q', s', pl', st', k', x', nx', t', p', y', f, rfl, rfl, g3, hf, by omega, fun _ => by
      by_cases e : T' = 0
      · exact Or.inr e
      · exact Or.inl (by have := e3 e; omega)⟩
theorem tk_num {T j : Nat} {k x t y : Int32} (hT : T ≤ 5) (h1 : ctk T j k x) (h2 : rtk T j t y) : (k = 3 ∧ t = 3 ∧ j ≤ 999 ∧ x = nI j ∧ y = nI j) ∨ (¬ k = 3 ∧ ¬ t = 3) := by
  rcases t6 hT with rfl | rfl | rfl | rfl | rfl | rfl
  · have h1' : k = (0 : Int32) := h1
    have h2' : t = (0 : Int32) := h2
    subst h1' h2'; exact Or.inr (by decide)
  · obtain ⟨-, h1', -⟩ := h1
    obtain ⟨-, h2', -⟩ := h2
    subst h1' h2'; exact Or.inr (by decide)
  · have h1' : k = (2 : Int32) := h1
    have h2' : t = (2 : Int32) := h2
    subst h1' h2'; exact Or.inr (by decide)
  · obtain ⟨a, h1', b⟩ := h1
    obtain ⟨-, h2', d⟩ := h2
    exact Or.inl ⟨h1', h2', a, b, d⟩
  · obtain ⟨a, b, rfl⟩ := h1
    obtain ⟨-, -, rfl, rfl⟩ := h2
    refine Or.inr ⟨fun e => ?_, by decide⟩
    have e' := (nI_eq (a := j) (b := 3) (by omega) (by decide)).mp e
    subst e'
    exact absurd b (by decide)
  · have h1' : k = (4 : Int32) := h1
    have h2' : t = (5 : Int32) := h2
    subst h1' h2'; exact Or.inr (by decide)
theorem f_hund {K L T j q s lo : Nat} {cb rt : Nat → Int32} {pl st k x nx t p y f : Int32} (hK : 1000 ≤ K) (hX : TX L cb rt) (h : TS L T j q s pl st k x nx t p y) (hf : FA L f) (hlo : lo ≤ 100) : ∃ (T' j' q' s' u : Nat) (pl' st' k' x' nx' t' p' y' f' : Int32), f_X3_readHundredths K 200 f pl st k x (nI L) cb (nI lo) = some (nI u, f', pl', st', k', x') ∧ f_X9_takesNumber K 200 (nI L) nx t p y f rt (nI lo) = some (nI u, nx', t', p', y', f') ∧ TS L T' j' q' s' pl' st' k' x' nx' t' p' y' ∧ FA L f' ∧ u ≤ 100 ∧ (¬ (0 : Int32) ≤ f' → lo ≤ u) ∧ q ≤ q' ∧ ((0 : Int32) ≤ f → (0 : Int32) ≤ f') := by
  obtain ⟨f', g1, g2, g3, g4⟩ := f_fails hX.1 h hf
  have bad1 : f_X3_readHundredths_J48 f pl st k x = some (nI 0, f', pl, st, k, x) := by
    unfold f_X3_readHundredths_J48; rw [g1]; rfl
  have bad2 : f_X9_takesNumber_J28 nx t p y f = some (nI 0, nx, t, p, y, f') := by
    unfold f_X9_takesNumber_J28; rw [g2]; rfl
  unfold f_X3_readHundredths f_X9_takesNumber f_X3_isAt f_X9_isWell
  rw [bad1, bad2]
  have out : ∃ (T' j' q' s' u : Nat) (pl' st' k' x' nx' t' p' y' f'' : Int32), (some (nI 0, f', pl, st, k, x) : Option (Int32 × Int32 × Int32 × Int32 × Int32 × Int32)) = some (nI u, f'', pl', st', k', x') ∧ (some (nI 0, nx, t, p, y, f') : Option (Int32 × Int32 × Int32 × Int32 × Int32 × Int32)) = some (nI u, nx', t', p', y', f'') ∧ TS L T' j' q' s' pl' st' k' x' nx' t' p' y' ∧ FA L f'' ∧ u ≤ 100 ∧ (¬ (0 : Int32) ≤ f'' → lo ≤ u) ∧ q ≤ q' ∧ ((0 : Int32) ≤ f → (0 : Int32) ≤ f'') := ⟨T, j, q, s, 0, _, _, _, _, _, _, _, _, _, rfl, rfl, h, g3, by omega, fun g => absurd g4 g, Nat.le_refl q, fun _ => g4⟩
  by_cases h0 : (0 : Int32) ≤ f
  · rw [if_pos h0, if_pos h0, Option.bind_some, Option.bind_some, if_pos rfl, if_pos rfl]
    exact out
  · rw [if_neg h0, if_neg h0, Option.bind_some, if_neg one_ne]
    rcases tk_num h.2.2.2.2.2.2.1 h.2.2.2.2.1 h.2.2.2.2.2.1 with ⟨a1, a2, a3, a4, a5⟩ | ⟨a1, a2⟩
    · rw [if_pos a1, if_pos a2, Option.bind_some, if_neg one_ne]
      subst a4 a5
      unfold f_X9_in
      by_cases b1 : j < lo
      · rw [if_pos (nI_lt b1 (by omega)), if_pos (nI_lt b1 (by omega)), Option.bind_some, if_pos rfl]
        exact out
      · rw [if_neg (nI_nlt (by omega) (by omega)), if_neg (nI_nlt (by omega) (by omega))]
        by_cases b2 : 100 < j
        · rw [if_pos (show (100 : Int32) < nI j from nI_lt b2 (by omega)), if_pos (show (100 : Int32) < nI j from nI_lt b2 (by omega)), Option.bind_some, if_pos rfl]
          exact out
        · rw [if_neg (show ¬ (100 : Int32) < nI j from nI_nlt (a := 100) (by omega) (by decide)), if_neg (show ¬ (100 : Int32) < nI j from nI_nlt (a := 100) (by omega) (by decide)), Option.bind_some, if_neg one_ne]
          obtain ⟨T', j', q', s', pl', st', k', x', nx', t', p', y', e1, e2, e3, e4⟩ := ts_step hK hX h
          rw [e1, e2]
          have e3' := e3
          obtain ⟨-, -, -, -, -, -, -, d1, d2, d3⟩ := e3'
          exact ⟨T', j', q', s', j, _, _, _, _, _, _, _, _, f, rfl, rfl, e3, hf, by omega, fun _ => by omega, by omega, fun g => absurd g h0⟩
    · rw [if_neg a1, if_neg a2, Option.bind_some, if_pos rfl]
      exact out

/-! one saying is read alike -/
theorem f_expect2 {K L T j q s c : Nat} {cb rt : Nat → Int32} {pl st k x nx t p y f : Int32} (hK : 1000 ≤ K) (hX : TX L cb rt) (h : TS L T j q s pl st k x nx t p y) (hf : FA L f) (hc : 5 ≤ c) (hc2 : c < 256) : ∃ (T' j' q' s' : Nat) (pl' st' k' x' nx' t' p' y' f' : Int32), f_X3_expect K 200 f pl st k x (nI L) cb (nI c) = some (f', pl', st', k', x') ∧ f_X9_takesSign K 200 (nI L) nx t p y f rt (nI c) = some (nx', t', p', y', f') ∧ TS L T' j' q' s' pl' st' k' x' nx' t' p' y' ∧ FA L f' ∧ (¬ (0 : Int32) ≤ f' → ¬ (0 : Int32) ≤ f) := by
  unfold f_X3_expect f_X9_takesSign
  rcases at_sign (f := f) h.2.2.2.2.2.2.1 h.2.2.2.2.1 h.2.2.2.2.2.1 hc hc2 with ⟨a, b, -⟩ | ⟨a, b, -⟩
  · obtain ⟨f', g1, g2, g3, g4⟩ := f_fails hX.1 h hf
    rw [a, b, Option.bind_some, Option.bind_some, if_pos rfl, if_pos rfl, g1, g2]
    exact ⟨T, j, q, s, pl, st, k, x, nx, t, p, y, f', rfl, rfl, h, g3, fun g => absurd g4 g⟩
  · obtain ⟨T', j', q', s', pl', st', k', x', nx', t', p', y', g1, g2, g3, g4⟩ := ts_step hK hX h
    rw [a, b, Option.bind_some, Option.bind_some, if_neg one_ne, if_neg one_ne, g1, g2]
    exact ⟨T', j', q', s', pl', st', k', x', nx', t', p', y', f, rfl, rfl, g3, hf, fun g => g⟩
theorem FA_neg {L : Nat} {f : Int32} (hL : L ≤ 200) (h : FA L f) : f = -1 ∨ (0 : Int32) ≤ f := by
  rcases h with rfl | ⟨n, hn, rfl⟩
  · exact Or.inl rfl
  · exact Or.inr (nI_pos' (by omega))
theorem okFT_nI {u v : Nat} (h : u ≤ v) (hv : v ≤ 100) : okFT (nI u) (nI v) := by
  unfold okFT
  rw [nI_i (show u ≤ 100 by omega), nI_i hv]
  omega
theorem say_tail {K L T j q s B : Nat} {cb rt fx fy ff ft fo s9 sg se : Nat → Int32} {pl st k x nx t p y f cmp let' sm km x1 : Int32} {k1 : Nat} (hK : 1000 ≤ K) (hX : TX L cb rt) (h : TS L T j q s pl st k x nx t p y) (hf : FA L f) (hB : B ≤ 35) : ∃ (T' j' q' s' u v : Nat) (pl' st' k' x' nx' t' p' y' f' : Int32), f_X3_readSaying_J73 K 200 cmp let' f pl st k x (nI L) cb fx fy ff ft fo k1 = some (cmp + 1, let', f', pl', st', k', x', fx, fy, va_up ff k1 (nI u), va_up ft k1 (nI v), va_up fo k1 1) ∧ f_X9_read_J106 K 200 40 (nI L) nx t p y f sm km rt s9 sg se x1 (nI B) = some (.inr (x1 + 1, nx', t', p', y', f', sm, km, upd (upd (upd s9 (B + 2) (nI u)) (B + 3) (nI v)) (B + 4) 1, sg, se)) ∧ TS L T' j' q' s' pl' st' k' x' nx' t' p' y' ∧ FA L f' ∧ (f' = -1 → f = -1 ∧ okFT (nI u) (nI v)) := by
  have hL := hX.1
  obtain ⟨T1, j1, q1, s1, u, pl1, st1, k1', x1', nx1, t1, p1, y1, f1, a1, a2, a3, a4, a5, a6, a7, a8⟩ := f_hund (lo := 0) hK hX h hf (by decide)
  obtain ⟨T2, j2, q2, s2, pl2, st2, k2, x2, nx2, t2, p2, y2, f2, b1, b2, b3, b4, b5⟩ := f_expect2 (c := 45) hK hX a3 a4 (by decide) (by decide)
  obtain ⟨T3, j3, q3, s3, v, pl3, st3, k3, x3, nx3, t3, p3, y3, f3, c1, c2, c3, c4, c5, c6, c7, c8⟩ := f_hund (lo := u) hK hX b3 b4 a5
  obtain ⟨T4, j4, q4, s4, pl4, st4, k4, x4, nx4, t4, p4, y4, f4, d1, d2, d3, d4, d5⟩ := f_expect2 (c := 59) hK hX c3 c4 (by decide) (by decide)
  have e2 : nI B + (2 : Int32) = nI (B + 2) := nI_add B 2
  have e3 : nI B + (3 : Int32) = nI (B + 3) := nI_add B 3
  have e4 : nI B + (4 : Int32) = nI (B + 4) := nI_add B 4
  have i2 : ¬ (nI (B + 2) < 0 ∨ 40 ≤ (nI (B + 2)).toNatClampNeg) := nI_in (by omega) (by decide)
  have i3 : ¬ (nI (B + 3) < 0 ∨ 40 ≤ (nI (B + 3)).toNatClampNeg) := nI_in (by omega) (by decide)
  have i4 : ¬ (nI (B + 4) < 0 ∨ 40 ≤ (nI (B + 4)).toNatClampNeg) := nI_in (by omega) (by decide)
  refine ⟨T4, j4, q4, s4, u, v, pl4, st4, k4, x4, nx4, t4, p4, y4, f4, ?_, ?_, d3, d4, ?_⟩
  · unfold f_X3_readSaying_J73
    rw [show (0 : Int32) = nI 0 from rfl, a1, Option.bind_some]
    dsimp only
    rw [show (45 : Int32) = nI 45 from rfl, b1, Option.bind_some]
    dsimp only
    rw [va_up_self, c1, Option.bind_some]
    dsimp only
    rw [show (59 : Int32) = nI 59 from rfl, d1, Option.bind_some]
  · unfold f_X9_read_J106
    rw [show f_X9_takesNumber K 200 (nI L) nx t p y f rt (0 : Int32) = _ from a2, Option.bind_some]
    dsimp only
    rw [e2, e3, e4, if_neg i2, show f_X9_takesSign K 200 (nI L) nx1 t1 p1 y1 f1 rt (45 : Int32) = _ from b2, Option.bind_some]
    dsimp only
    rw [if_neg i2, nI_clamp (show B + 2 < 2147483648 by omega), nI_clamp (show B + 3 < 2147483648 by omega), nI_clamp (show B + 4 < 2147483648 by omega), pk_us, c2, Option.bind_some]
    dsimp only
    rw [nI_clamp (show B + 3 < 2147483648 by omega)] at i3
    rw [nI_clamp (show B + 4 < 2147483648 by omega)] at i4
    rw [if_neg i3, show f_X9_takesSign K 200 (nI L) nx3 t3 p3 y3 f3 rt (59 : Int32) = _ from d2, Option.bind_some]
    dsimp only
    rw [if_neg i4]
  · intro e
    have g4 : ¬ (0 : Int32) ≤ f4 := by rw [e]; decide
    have g3 := d5 g4
    have g2 : ¬ (0 : Int32) ≤ f2 := fun a => g3 (c8 a)
    have g1 := b5 g2
    have g0 : ¬ (0 : Int32) ≤ f := fun a => g1 (a8 a)
    rcases FA_neg hL hf with rfl | g
    · exact ⟨rfl, okFT_nI (c6 g3) c5⟩
    · exact absurd g g0

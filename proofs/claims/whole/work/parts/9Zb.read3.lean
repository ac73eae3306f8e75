/-! the loops of read, and read itself -/
theorem c_halt {K L : Nat} {cb fx fy ff ft fo : Nat → Int32} {x1 cmp lt f pl st k x : Int32} (hf : (0 : Int32) ≤ f) : f_X8_read_L9 K 200 (nI L) cb (x1, cmp, lt, f, pl, st, k, x, fx, fy, ff, ft, fo) = some (.inl (cmp, lt, f, pl, st, k, x, fx, fy, ff, ft, fo)) := by
  unfold f_X8_read_L9 f_X3_isMore
  dsimp only
  by_cases h : (4 : Int32) < x1
  · rw [if_pos h]
  · rw [if_neg h, if_pos hf, Option.bind_some, if_pos rfl]
theorem r_halt {K L : Nat} {rt s9 sg se : Nat → Int32} {x1 nx t p y f sm km : Int32} (hf : (0 : Int32) ≤ f) : f_X9_read_L21 K 200 40 24 24 (nI L) rt (x1, nx, t, p, y, f, sm, km, s9, sg, se) = some (.inl (x1, nx, t, p, y, f, sm, km, s9, sg, se)) := by
  unfold f_X9_read_L21
  dsimp only
  rw [well0 hf, Option.bind_some, if_pos rfl]
theorem c_end {K L e : Nat} {cb fx fy ff ft fo : Nat → Int32} {cmp lt pl st k x : Int32} (he : e ≤ 4) (g1 : k = 0) : f_X8_read_L9 K 200 (nI L) cb (nI e, cmp, lt, -1, pl, st, k, x, fx, fy, ff, ft, fo) = some (.inl (cmp, lt, -1, pl, st, k, x, fx, fy, ff, ft, fo)) := by
  unfold f_X8_read_L9 f_X3_isMore
  dsimp only
  rw [if_neg (show ¬ (4 : Int32) < nI e from nI_nlt (a := 4) (by omega) (by decide)), if_neg (by decide), if_pos g1, Option.bind_some, if_pos rfl]
theorem r_end {K L : Nat} {rt s9 sg se : Nat → Int32} {x1 nx t p y sm km : Int32} (g2 : t = 0) : f_X9_read_L21 K 200 40 24 24 (nI L) rt (x1, nx, t, p, y, -1, sm, km, s9, sg, se) = some (.inl (x1, nx, t, p, y, -1, sm, km, s9, sg, se)) := by
  unfold f_X9_read_L21
  dsimp only
  rw [well1, Option.bind_some, if_neg one_ne, if_pos g2]
theorem read_loops {K L : Nat} {cb rt : Nat → Int32} (hK : 1000 ≤ K) (hX : TX L cb rt) : ∀ d e, e + d = 4 → ∀ (T j q s A B : Nat) (fx fy ff ft fo s9 sg se : Nat → Int32) (pl st k x nx t p y lt sm km : Int32), TS L T j q s pl st k x nx t p y → FR e fx fy ff ft fo s9 → d + 3 ≤ A → d + 3 ≤ B → ∃ (cmp' lt' f' pl' st' k' x' x1' nx' t' p' y' sm' km' : Int32) (fx' fy' ff' ft' fo' s9' sg' se' : Nat → Int32), lp (f_X8_read_L9 K 200 (nI L) cb) A (nI e, nI e, lt, -1, pl, st, k, x, fx, fy, ff, ft, fo) = some (cmp', lt', f', pl', st', k', x', fx', fy', ff', ft', fo') ∧ lp (f_X9_read_L21 K 200 40 24 24 (nI L) rt) B (nI e, nx, t, p, y, -1, sm, km, s9, sg, se) = some (x1', nx', t', p', y', f', sm', km', s9', sg', se') ∧ FA L f' ∧ (∀ i, i < 20 → s9' i = s9 i) ∧ (f' = -1 → ∃ e', e' ≤ 4 ∧ cmp' = nI e' ∧ x1' = nI e' ∧ FR e' fx' fy' ff' ft' fo' s9') := by
  have hL := hX.1
  intro d
  induction d with
  | zero =>
    intro e he T j q s A B fx fy ff ft fo s9 sg se pl st k x nx t p y lt sm km hS hF hA hB
    obtain ⟨A, rfl⟩ : ∃ A', A = A' + 2 := ⟨A - 2, by omega⟩
    obtain ⟨B, rfl⟩ : ∃ B', B = B' + 2 := ⟨B - 2, by omega⟩
    obtain rfl : e = 4 := by omega
    rcases tk_end hS.2.2.2.2.2.2.1 hS.2.2.2.2.1 hS.2.2.2.2.2.1 with ⟨g1, g2⟩ | ⟨g1, g2⟩
    · exact ⟨_, _, -1, _, _, _, _, _, _, _, _, _, _, _, _, _, _, _, _, _, _, _, lp_inl (c_end (Nat.le_refl 4) g1), lp_inl (r_end g2), Or.inl rfl, fun _ _ => rfl, fun _ => ⟨4, Nat.le_refl 4, rfl, rfl, hF⟩⟩
    · obtain ⟨f', a1, a2, a3, a4⟩ := f_fails hL hS (Or.inl rfl)
      have c1 : f_X8_read_L9 K 200 (nI L) cb (nI 4, nI 4, lt, -1, pl, st, k, x, fx, fy, ff, ft, fo) = some (.inr (nI 4 + 1, nI 4, lt, f', pl, st, k, x, fx, fy, ff, ft, fo)) := by
        unfold f_X8_read_L9 f_X3_isMore f_X3_readSaying
        dsimp only
        rw [if_neg (by decide), if_neg (by decide), if_neg g1, Option.bind_some, if_neg one_ne, if_neg (by decide), a1, Option.bind_some, Option.bind_some]
      have c2 : f_X9_read_L21 K 200 40 24 24 (nI L) rt (nI 4, nx, t, p, y, -1, sm, km, s9, sg, se) = some (.inr (nI 4, nx, t, p, y, f', sm, km, s9, sg, se)) := by
        unfold f_X9_read_L21
        dsimp only
        rw [well1, Option.bind_some, if_neg one_ne, if_neg g2, if_pos (show nI 4 = (4 : Int32) from rfl), a2, Option.bind_some]
      exact ⟨_, _, f', _, _, _, _, _, _, _, _, _, _, _, _, _, _, _, _, _, _, _, (lp_inr c1).trans (lp_inl (c_halt a4)), (lp_inr c2).trans (lp_inl (r_halt a4)), a3, fun _ _ => rfl, fun g => absurd a4 (by rw [g]; decide)⟩
  | succ d ih =>
    intro e he T j q s A B fx fy ff ft fo s9 sg se pl st k x nx t p y lt sm km hS hF hA hB
    obtain ⟨A, rfl⟩ : ∃ A', A = A' + 2 := ⟨A - 2, by omega⟩
    obtain ⟨B, rfl⟩ : ∃ B', B = B' + 2 := ⟨B - 2, by omega⟩
    have n4 : ¬ (4 : Int32) < nI e := nI_nlt (a := 4) (by omega) (by decide)
    rcases tk_end hS.2.2.2.2.2.2.1 hS.2.2.2.2.1 hS.2.2.2.2.2.1 with ⟨g1, g2⟩ | ⟨g1, g2⟩
    · exact ⟨_, _, -1, _, _, _, _, _, _, _, _, _, _, _, _, _, _, _, _, _, _, _, lp_inl (c_end (show e ≤ 4 by omega) g1), lp_inl (r_end g2), Or.inl rfl, fun _ _ => rfl, fun _ => ⟨e, by omega, rfl, rfl, hF⟩⟩
    · obtain ⟨T', j', q', s', lt', f', pl', st', k', x', nx', t', p', y', sm', km', fx', fy', ff', ft', fo', s9', sg', se', a1, a2, a3, a4, a5, a6⟩ := say_round (lt := lt) (sm := sm) (km := km) (sg := sg) (se := se) hK (show e < 4 by omega) hX hS g2 hF
      have c1 : f_X8_read_L9 K 200 (nI L) cb (nI e, nI e, lt, -1, pl, st, k, x, fx, fy, ff, ft, fo) = some (.inr (nI (e + 1), nI (e + 1), lt', f', pl', st', k', x', fx', fy', ff', ft', fo')) := by
        unfold f_X8_read_L9 f_X3_isMore
        dsimp only
        rw [if_neg n4, if_neg (by decide), if_neg g1, Option.bind_some, if_neg one_ne, a1, Option.bind_some]
        dsimp only
        rw [nI_1]
      rcases FA_neg hL a4 with rfl | hf
      · obtain ⟨cmp2, lt2, f2, pl2, st2, k2, x2, x12, nx2, t2, p2, y2, sm2, km2, fx2, fy2, ff2, ft2, fo2, s92, sg2, se2, b1, b2, b3, b4, b5⟩ := ih (e + 1) (by omega) T' j' q' s' (A + 1) (B + 1) fx' fy' ff' ft' fo' s9' sg' se' pl' st' k' x' nx' t' p' y' lt' sm' km' a3 (a6 rfl) (by omega) (by omega)
        exact ⟨_, _, f2, _, _, _, _, _, _, _, _, _, _, _, _, _, _, _, _, _, _, _, (lp_inr c1).trans b1, (lp_inr a2).trans b2, b3, fun i hi => (b4 i hi).trans (a5 i hi), b5⟩
      · exact ⟨_, _, f', _, _, _, _, _, _, _, _, _, _, _, _, _, _, _, _, _, _, _, (lp_inr c1).trans (lp_inl (c_halt hf)), (lp_inr a2).trans (lp_inl (r_halt hf)), a4, a5, fun g => absurd hf (by rw [g]; decide)⟩
theorem c_copy {K : Nat} {fx fy ff ft fo sx sy sf st so : Nat → Int32} (hK : 1000 ≤ K) : ∃ sx' sy' sf' st' so', lp (f_X8_read_L60 fx fy ff ft fo) K (0, sx, sy, sf, st, so) = some (sx', sy', sf', st', so') ∧ ∀ i, i < 4 → sx' i = fx i ∧ sy' i = fy i ∧ sf' i = ff i ∧ st' i = ft i ∧ so' i = fo i := by
  obtain ⟨⟨sx', sy', sf', st', so'⟩, h1, h2⟩ := lp_loop (f := f_X8_read_L60 fx fy ff ft fo) (I := fun i s => i ≤ 4 ∧ s.1 = nI i ∧ ∀ k, k < i → s.2.1 k = fx k ∧ s.2.2.1 k = fy k ∧ s.2.2.2.1 k = ff k ∧ s.2.2.2.2.1 k = ft k ∧ s.2.2.2.2.2 k = fo k) 4 (fun r => ∀ i, i < 4 → r.1 i = fx i ∧ r.2.1 i = fy i ∧ r.2.2.1 i = ff i ∧ r.2.2.2.1 i = ft i ∧ r.2.2.2.2 i = fo i) (by
    rintro i ⟨x1, a, b, c, d, g⟩ ⟨hi, h1, h2⟩
    dsimp only at h1 h2
    subst h1
    unfold f_X8_read_L60 f_X4_take
    dsimp only
    by_cases hi4 : i = 4
    · subst hi4
      rw [if_pos (by decide)]
      exact Or.inl ⟨_, rfl, h2⟩
    · rw [if_neg (show ¬ (4 : Int32) ≤ nI i from nI_ge (b := 4) (show i < 4 by omega) (by decide)), if_neg (nI_in (by omega) (by decide)), if_neg (nI_in (by omega) (by decide)), Option.bind_some]
      refine Or.inr ⟨by omega, _, rfl, by omega, nI_1 i, fun k hk => ?_⟩
      dsimp only
      rw [nI_clamp (show i < 2147483648 by omega)]
      by_cases g : k = i
      · subst g
        rw [va_up_self, va_up_self, va_up_self, va_up_self, va_up_self]
        exact ⟨rfl, rfl, rfl, rfl, rfl⟩
      · rw [va_up_ne _ _ g, va_up_ne _ _ g, va_up_ne _ _ g, va_up_ne _ _ g, va_up_ne _ _ g]
        exact h2 k (by omega)) K 0 (0, sx, sy, sf, st, so) ⟨by decide, rfl, fun k hk => absurd hk (Nat.not_lt_zero k)⟩ (by omega)
  exact ⟨sx', sy', sf', st', so', h1, h2⟩
theorem r_copy {K : Nat} {s9 : Nat → Int32} (hK : 1000 ≤ K) : ∃ s9', lp (f_X9_read_L183 40) K (0, s9) = some s9' ∧ ∀ i, i < 20 → s9' i = s9 (20 + i) := by
  obtain ⟨s9', h1, h2⟩ := lp_loop (f := f_X9_read_L183 40) (I := fun i s => i ≤ 20 ∧ s.1 = nI i ∧ ∀ k, (k < i → s.2 k = s9 (20 + k)) ∧ (i ≤ k → s.2 k = s9 k)) 20 (fun r => ∀ i, i < 20 → r i = s9 (20 + i)) (by
    rintro i ⟨x1, a⟩ ⟨hi, h1, h2⟩
    dsimp only at h1 h2
    subst h1
    unfold f_X9_read_L183
    dsimp only
    by_cases hi4 : i = 20
    · subst hi4
      rw [if_pos (by decide)]
      exact Or.inl ⟨_, rfl, fun k hk => (h2 k).1 hk⟩
    · have e20 : (20 : Int32) + nI i = nI (20 + i) := by rw [show (20 : Int32) = nI 20 from rfl, nI_add]
      rw [if_neg (show ¬ (20 : Int32) ≤ nI i from nI_ge (b := 20) (show i < 20 by omega) (by decide)), e20, if_neg (nI_in (by omega) (by decide)), if_neg (nI_in (by omega) (by decide)), nI_1, nI_clamp (show i < 2147483648 by omega), nI_clamp (show 20 + i < 2147483648 by omega)]
      refine Or.inr ⟨by omega, _, rfl, by omega, rfl, fun k => ⟨fun hk => ?_, fun hk => ?_⟩⟩
      · dsimp only
        by_cases g : k = i
        · subst g
          rw [pk_us, (h2 (20 + k)).2 (by omega)]
        · rw [pk_un (by omega)]
          exact (h2 k).1 (by omega)
      · dsimp only
        rw [pk_un (by omega)]
        exact (h2 k).2 (by omega)) K 0 (0, s9) ⟨by decide, rfl, fun k => ⟨fun hk => absurd hk (Nat.not_lt_zero k), fun _ => rfl⟩⟩ (by omega)
  exact ⟨s9', h1, h2⟩
theorem ag_read {K n L : Nat} {cb rt fx fy ff ft fo sx sy sf st so s9 sg se : Nat → Int32} {lt vl val sm km cs il ld : Int32} {up dn : Nat → Int64} (hK : 1000 ≤ K) (hX : TX L cb rt) (h : SR n sx sy sf st so s9) (hR : RI n s9 cs il ld up dn) : ∃ (ans : Int32) (n' L' : Nat) (cmp' lt' f' pl' st9' k' x' nx' t' p' y' sm' km' il' : Int32) (fx' fy' ff' ft' fo' sx' sy' sf' st' so' s9' sg' se' : Nat → Int32), f_X8_read K 200 (nI n) (nI L) cb lt vl fx fy ff ft fo sx sy sf st so = some (ans, nI n', nI L', cmp', lt', f', pl', st9', k', x', fx', fy', ff', ft', fo', sx', sy', sf', st', so') ∧ f_X9_read K 200 40 24 24 (nI L) val (nI n) sm km il rt s9 sg se = some (ans, 0, nI L', nx', t', p', y', f', nI n', sm', km', il', s9', sg', se') ∧ TX L' cb rt ∧ SR n' sx' sy' sf' st' so' s9' ∧ RI n' s9' cs il' ld up dn := by
  have hL := hX.1
  obtain ⟨T', j', q', s', pl', st', k', x', nx', t', p', y', a1, a2, a3⟩ := ts_start (x := vl) (y := val) hK hX
  obtain ⟨cmp2, lt2, f2, pl2, st2, k2, x2, x12, nx2, t2, p2, y2, sm2, km2, fx2, fy2, ff2, ft2, fo2, s92, sg2, se2, b1, b2, b3, b4, b5⟩ := read_loops hK hX 4 0 rfl T' j' q' s' K K fx fy ff ft fo s9 sg se pl' st' k' x' nx' t' p' y' lt sm km a3 (fun i hi => absurd hi (Nat.not_lt_zero i)) (by omega) (by omega)
  unfold f_X8_read f_X3_start f_X6_restart f_X9_read
  rw [a1, a2, Option.bind_some, Option.bind_some]
  dsimp only
  rw [Option.bind_some, Option.bind_some]
  dsimp only
  rw [show lp (f_X8_read_L9 K 200 (nI L) cb) K (0, 0, lt, -1, pl', st', k', x', fx, fy, ff, ft, fo) = _ from b1, show lp (f_X9_read_L21 K 200 40 24 24 (nI L) rt) K (0, nx', t', p', y', -1, sm, km, s9, sg, se) = _ from b2, Option.bind_some, Option.bind_some]
  dsimp only
  rcases FA_neg hL b3 with rfl | hf
  · obtain ⟨e, he, rfl, rfl, hF⟩ := b5 rfl
    obtain ⟨sx', sy', sf', st3, so', c1, c2⟩ := c_copy (fx := fx2) (fy := fy2) (ff := ff2) (ft := ft2) (fo := fo2) (sx := sx) (sy := sy) (sf := sf) (st := st) (so := so) hK
    obtain ⟨s93, d1, d2⟩ := r_copy (s9 := s92) hK
    rw [if_pos (by decide), c1, well1, Option.bind_some, Option.bind_some, if_neg one_ne, d1, Option.bind_some]
    refine ⟨_, e, 0, _, _, _, _, _, _, _, _, _, _, _, _, _, 0, _, _, _, _, _, sx', sy', sf', st3, so', s93, _, _, rfl, rfl, ⟨by decide, fun k hk => absurd hk (Nat.not_lt_zero k)⟩, ⟨he, fun i hi => ?_⟩, Or.inl rfl⟩
    obtain ⟨g1, g2, g3, g4, g5⟩ := c2 i (by omega)
    obtain ⟨r1, r2, r3, r4, r5, r6, r7⟩ := hF i hi
    rw [g1, g2, g3, g4, g5, d2 (5 * i) (by omega), d2 (5 * i + 1) (by omega), d2 (5 * i + 2) (by omega), d2 (5 * i + 3) (by omega), d2 (5 * i + 4) (by omega)]
    exact ⟨r1, r2, r3, r4, r5, r6, Or.inr r7⟩
  · have nf : ¬ f2 < (0 : Int32) := fun g => by
      have g1 := Int32.lt_iff_toInt_lt.mp g
      have g2 := Int32.le_iff_toInt_le.mp hf
      omega
    rw [if_neg nf, well0 hf, Option.bind_some, if_pos rfl]
    have low : ∀ i, i < n → ∀ d, d < 5 → s92 (5 * i + d) = s9 (5 * i + d) := fun i hi d hd => b4 _ (by have := h.1; omega)
    refine ⟨_, n, L, _, _, _, _, _, _, _, _, _, _, _, _, _, il, _, _, _, _, _, sx, sy, sf, st, so, s92, _, _, rfl, rfl, hX, ⟨h.1, fun i hi => ?_⟩, RI_cong (fun i hi => ⟨low i hi 0 (by decide), low i hi 1 (by decide), low i hi 2 (by decide), low i hi 3 (by decide)⟩) hR⟩
    rw [show s92 (5 * i) = s9 (5 * i) from low i hi 0 (by decide), low i hi 1 (by decide), low i hi 2 (by decide), low i hi 3 (by decide), low i hi 4 (by decide)]
    exact h.2 i hi

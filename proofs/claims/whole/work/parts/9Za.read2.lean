/-! one round of the two loops of read -/
theorem tk_if {T j : Nat} {k x t y : Int32} (hT : T ≤ 5) (h1 : ctk T j k x) (h2 : rtk T j t y) : (k = 2 ∧ t = 2) ∨ (¬ k = 2 ∧ ¬ t = 2) := by
  rcases t6 hT with rfl | rfl | rfl | rfl | rfl | rfl
  · have h1' : k = (0 : Int32) := h1
    have h2' : t = (0 : Int32) := h2
    subst h1' h2'; exact Or.inr (by decide)
  · obtain ⟨-, h1', -⟩ := h1
    obtain ⟨-, h2', -⟩ := h2
    subst h1' h2'; exact Or.inr (by decide)
  · have h1' : k = (2 : Int32) := h1
    have h2' : t = (2 : Int32) := h2
    exact Or.inl ⟨h1', h2'⟩
  · obtain ⟨a, h1', b⟩ := h1
    obtain ⟨-, h2', d⟩ := h2
    subst h1' h2'; exact Or.inr (by decide)
  · obtain ⟨a, b, rfl⟩ := h1
    obtain ⟨-, -, rfl, rfl⟩ := h2
    refine Or.inr ⟨fun e => ?_, by decide⟩
    have e' := (nI_eq (a := j) (b := 2) (by omega) (by decide)).mp e
    subst e'
    exact absurd b (by decide)
  · have h1' : k = (4 : Int32) := h1
    have h2' : t = (5 : Int32) := h2
    subst h1' h2'; exact Or.inr (by decide)
theorem tk_end {T j : Nat} {k x t y : Int32} (hT : T ≤ 5) (h1 : ctk T j k x) (h2 : rtk T j t y) : (k = 0 ∧ t = 0) ∨ (¬ k = 0 ∧ ¬ t = 0) := by
  rcases t6 hT with rfl | rfl | rfl | rfl | rfl | rfl
  · have h1' : k = (0 : Int32) := h1
    have h2' : t = (0 : Int32) := h2
    exact Or.inl ⟨h1', h2'⟩
  · obtain ⟨-, h1', -⟩ := h1
    obtain ⟨-, h2', -⟩ := h2
    subst h1' h2'; exact Or.inr (by decide)
  · have h1' : k = (2 : Int32) := h1
    have h2' : t = (2 : Int32) := h2
    subst h1' h2'; exact Or.inr (by decide)
  · obtain ⟨a, h1', b⟩ := h1
    obtain ⟨-, h2', d⟩ := h2
    subst h1' h2'; exact Or.inr (by decide)
  · obtain ⟨a, b, rfl⟩ := h1
    obtain ⟨-, -, rfl, rfl⟩ := h2
    refine Or.inr ⟨fun e => ?_, by decide⟩
    have e' := (nI_eq (a := j) (b := 0) (by omega) (by decide)).mp e
    subst e'
    exact absurd b (by decide)
  · have h1' : k = (4 : Int32) := h1
    have h2' : t = (5 : Int32) := h2
    subst h1' h2'; exact Or.inr (by decide)
def FR (e : Nat) (fx fy ff ft fo s9 : Nat → Int32) : Prop := ∀ i, i < e → fx i = s9 (20 + 5 * i) ∧ fy i = s9 (20 + 5 * i + 1) ∧ ff i = s9 (20 + 5 * i + 2) ∧ ft i = s9 (20 + 5 * i + 3) ∧ fo i = s9 (20 + 5 * i + 4) ∧ okFT (ff i) (ft i) ∧ fo i = 1
theorem fr_done {e : Nat} {fx fy fy' ff ft fo s9 s9' : Nat → Int32} {u v w w2 : Int32} (hF : FR e fx fy ff ft fo s9) (h1 : ∀ i, i < e → fy' i = fy i) (h2 : fy' e = w2) (h3 : ∀ i, i < 20 + 5 * e → s9' i = s9 i) (h4 : s9' (20 + 5 * e) = w) (h5 : s9' (20 + 5 * e + 1) = w2) (hok : okFT u v) : FR (e + 1) (va_up fx e w) fy' (va_up ff e u) (va_up ft e v) (va_up fo e 1) (upd (upd (upd s9' (20 + 5 * e + 2) u) (20 + 5 * e + 3) v) (20 + 5 * e + 4) 1) := by
  intro i hi
  by_cases g : i = e
  · subst g
    refine ⟨?_, ?_, ?_, ?_, ?_, ?_, ?_⟩
    · rw [va_up_self, pk_un (by omega), pk_un (by omega), pk_un (by omega), h4]
    · rw [h2, pk_un (by omega), pk_un (by omega), pk_un (by omega), h5]
    · rw [va_up_self, pk_un (by omega), pk_un (by omega), pk_us]
    · rw [va_up_self, pk_un (by omega), pk_us]
    · rw [va_up_self, pk_us]
    · rw [va_up_self, va_up_self]; exact hok
    · rw [va_up_self]
  · obtain ⟨a1, a2, a3, a4, a5, a6, a7⟩ := hF i (by omega)
    rw [va_up_ne _ _ g, va_up_ne _ _ g, va_up_ne _ _ g, va_up_ne _ _ g, h1 i (by omega)]
    have low : ∀ d, d < 5 → upd (upd (upd s9' (20 + 5 * e + 2) u) (20 + 5 * e + 3) v) (20 + 5 * e + 4) 1 (20 + 5 * i + d) = s9 (20 + 5 * i + d) := fun d hd => by
      rw [pk_un (by omega), pk_un (by omega), pk_un (by omega), h3 _ (by omega)]
    rw [low 1 (by decide), low 2 (by decide), low 3 (by decide), low 4 (by decide)]
    exact ⟨a1.trans (low 0 (by decide)).symm, a2, a3, a4, a5, a6, a7⟩
theorem fr_low {e : Nat} {s9 s9' : Nat → Int32} {u v : Int32} (h3 : ∀ i, i < 20 + 5 * e → s9' i = s9 i) : ∀ i, i < 20 → upd (upd (upd s9' (20 + 5 * e + 2) u) (20 + 5 * e + 3) v) (20 + 5 * e + 4) 1 i = s9 i := fun i hi => by
  rw [pk_un (by omega), pk_un (by omega), pk_un (by omega), h3 _ (by omega)]
theorem say_round {K L T j q s e : Nat} {cb rt fx fy ff ft fo s9 sg se : Nat → Int32} {pl st k x nx t p y lt sm km : Int32} (hK : 1000 ≤ K) (he : e < 4) (hX : TX L cb rt) (hS : TS L T j q s pl st k x nx t p y) (ht : ¬ t = 0) (hF : FR e fx fy ff ft fo s9) : ∃ (T' j' q' s' : Nat) (lt' f' pl' st' k' x' nx' t' p' y' sm' km' : Int32) (fx' fy' ff' ft' fo' s9' sg' se' : Nat → Int32), f_X3_readSaying K 200 (nI e) lt (-1) pl st k x (nI L) cb fx fy ff ft fo = some (nI (e + 1), lt', f', pl', st', k', x', fx', fy', ff', ft', fo') ∧ f_X9_read_L21 K 200 40 24 24 (nI L) rt (nI e, nx, t, p, y, -1, sm, km, s9, sg, se) = some (.inr (nI (e + 1), nx', t', p', y', f', sm', km', s9', sg', se')) ∧ TS L T' j' q' s' pl' st' k' x' nx' t' p' y' ∧ FA L f' ∧ (∀ i, i < 20 → s9' i = s9 i) ∧ (f' = -1 → FR (e + 1) fx' fy' ff' ft' fo' s9') := by
  have hL := hX.1
  obtain ⟨w, v, f1, sm1, km1, n1, T1, j1, q1, s1, pl1, st1, k1, x1, nx1, t1, p1, y1, sg1, se1, a1, a2, a3, a4, a5, a6⟩ := f_formula (cmp := nI e) (signs := sg) (sets := se) hK hX hS
  have eB : (20 : Int32) + (5 : Int32) * nI e = nI (20 + 5 * e) := by rw [show (5 : Int32) = nI 5 from rfl, nI_mul, show (20 : Int32) = nI 20 from rfl, nI_add]
  have eB1 : nI (20 + 5 * e) + (1 : Int32) = nI (20 + 5 * e + 1) := nI_1 _
  have i0 : ¬ (nI (20 + 5 * e) < 0 ∨ 40 ≤ 20 + 5 * e) := fun g => by
    rcases g with g | g
    · exact absurd g (by rw [show (0 : Int32) = nI 0 from rfl]; exact nI_nlt (by omega) (by omega))
    · omega
  have i1 : ¬ (nI (20 + 5 * e + 1) < 0 ∨ 40 ≤ 20 + 5 * e + 1) := fun g => by
    rcases g with g | g
    · exact absurd g (by rw [show (0 : Int32) = nI 0 from rfl]; exact nI_nlt (by omega) (by omega))
    · omega
  have ie : ¬ (nI e < 0 ∨ 4 ≤ e) := fun g => by
    rcases g with g | g
    · exact absurd g (by rw [show (0 : Int32) = nI 0 from rfl]; exact nI_nlt (by omega) (by omega))
    · omega
  have ne4 : ¬ nI e = (4 : Int32) := fun g => by
    have := (nI_eq (a := e) (b := 4) (by omega) (by decide)).mp g
    omega
  have low2 : ∀ (w w2 : Int32) i, i < 20 + 5 * e → upd (upd s9 (20 + 5 * e) w) (20 + 5 * e + 1) w2 i = s9 i := fun w w2 i hi => by
    rw [pk_un (by omega), pk_un (by omega)]
  have low3 : ∀ (w w2 w3 : Int32) i, i < 20 + 5 * e → upd (upd (upd s9 (20 + 5 * e) w) (20 + 5 * e + 1) w2) (20 + 5 * e + 1) w3 i = s9 i := fun w w2 w3 i hi => by
    rw [pk_un (by omega), pk_un (by omega), pk_un (by omega)]
  unfold f_X3_readSaying f_X9_read_L21
  dsimp only
  rw [if_pos (show nI e < (4 : Int32) from nI_lt (b := 4) he (by decide)), eB, eB1, nI_clamp (show e < 2147483648 by omega), nI_clamp (show 20 + 5 * e < 2147483648 by omega), nI_clamp (show 20 + 5 * e + 1 < 2147483648 by omega), if_neg ie, a1, Option.bind_some, well1, Option.bind_some, if_neg one_ne, if_neg ht, if_neg ne4, a2, Option.bind_some]
  dsimp only
  rw [if_neg i0, if_neg i1]
  have plain : ∃ (T' j' q' s' : Nat) (lt' f' pl' st' k' x' nx' t' p' y' sm' km' : Int32) (fx' fy' ff' ft' fo' s9' sg' se' : Nat → Int32), f_X3_readSaying_J73 K 200 (nI e) (nI n1) f1 pl1 st1 k1 x1 (nI L) cb (va_up fx e w) (va_up fy e (255 : Int32)) ff ft fo e = some (nI (e + 1), lt', f', pl', st', k', x', fx', fy', ff', ft', fo') ∧ f_X9_read_J106 K 200 40 (nI L) nx1 t1 p1 y1 f1 sm1 km1 rt (upd (upd s9 (20 + 5 * e) v) (20 + 5 * e + 1) (255 : Int32)) sg1 se1 (nI e) (nI (20 + 5 * e)) = some (.inr (nI (e + 1), nx', t', p', y', f', sm', km', s9', sg', se')) ∧ TS L T' j' q' s' pl' st' k' x' nx' t' p' y' ∧ FA L f' ∧ (∀ i, i < 20 → s9' i = s9 i) ∧ (f' = -1 → FR (e + 1) fx' fy' ff' ft' fo' s9') := by
    obtain ⟨T2, j2, q2, s2, u2, v2, pl2, st2, k2, x2, nx2, t2, p2, y2, f2, b1, b2, b3, b4, b5⟩ := say_tail (B := 20 + 5 * e) (fx := va_up fx e w) (fy := va_up fy e (255 : Int32)) (ff := ff) (ft := ft) (fo := fo) (s9 := upd (upd s9 (20 + 5 * e) v) (20 + 5 * e + 1) (255 : Int32)) (sg := sg1) (se := se1) (cmp := nI e) (let' := nI n1) (sm := sm1) (km := km1) (x1 := nI e) (k1 := e) hK hX a3 a4 (by omega)
    rw [nI_1] at b1 b2
    refine ⟨T2, j2, q2, s2, _, f2, pl2, st2, k2, x2, nx2, t2, p2, y2, _, _, _, _, _, _, _, _, _, _, b1, b2, b3, b4, fr_low (low2 _ _), fun g => ?_⟩
    obtain ⟨g1, g2⟩ := b5 g
    refine fr_done hF (fun i hi => va_up_ne _ _ (by omega)) (va_up_self _ _ _) (low2 _ _) ?_ ?_ g2
    · rw [pk_un (by omega), pk_us, (a6 g1).1]
    · rw [pk_us]
  rcases FA_neg hL a4 with rfl | hf1
  · rw [well1, Option.bind_some, if_neg one_ne, show f_X3_isAt (-1) k1 2 = if k1 = (2 : Int32) then some (1 : Int32) else some 0 from if_neg (by decide)]
    rcases tk_if a3.2.2.2.2.2.2.1 a3.2.2.2.2.1 a3.2.2.2.2.2.1 with ⟨g1, g2⟩ | ⟨g1, g2⟩
    · rw [if_pos g1, if_pos g2, Option.bind_some, if_neg one_ne]
      obtain ⟨T2, j2, q2, s2, pl2, st2, k2, x2, nx2, t2, p2, y2, c1, c2, c3, c4⟩ := ts_step hK hX a3
      rw [c1, c2, Option.bind_some, Option.bind_some]
      dsimp only
      obtain ⟨w3, v3, f3, sm3, km3, n3, T3, j3, q3, s3, pl3, st3, k3, x3, nx3, t3, p3, y3, sg3, se3, d1, d2, d3, d4, d5, d6⟩ := f_formula (cmp := nI e) (signs := sg1) (sets := se1) hK hX c3
      rw [d1, d2, Option.bind_some, Option.bind_some]
      dsimp only
      rw [if_neg i1]
      obtain ⟨T2, j2, q2, s2, u2, v2, pl2, st2, k2, x2, nx2, t2, p2, y2, f2, b1, b2, b3, b4, b5⟩ := say_tail (B := 20 + 5 * e) (fx := va_up fx e w) (fy := va_up (va_up fy e (255 : Int32)) e w3) (ff := ff) (ft := ft) (fo := fo) (s9 := upd (upd (upd s9 (20 + 5 * e) v) (20 + 5 * e + 1) (255 : Int32)) (20 + 5 * e + 1) v3) (sg := sg3) (se := se3) (cmp := nI e) (let' := nI n3) (sm := sm3) (km := km3) (x1 := nI e) (k1 := e) hK hX d3 d4 (by omega)
      rw [nI_1] at b1 b2
      refine ⟨T2, j2, q2, s2, _, f2, pl2, st2, k2, x2, nx2, t2, p2, y2, _, _, _, _, _, _, _, _, _, _, b1, b2, b3, b4, fr_low (low3 _ _ _), fun g => ?_⟩
      obtain ⟨g1, g2⟩ := b5 g
      refine fr_done (w2 := w3) hF (fun i hi => by rw [va_up_ne _ _ (show i ≠ e by omega), va_up_ne _ _ (show i ≠ e by omega)]) (va_up_self _ _ _) (low3 _ _ _) ?_ ?_ g2
      · rw [pk_un (by omega), pk_un (by omega), pk_us, (a6 rfl).1]
      · rw [pk_us, (d6 g1).1]
    · rw [if_neg g1, if_neg g2, Option.bind_some, if_pos rfl]
      exact plain
  · rw [well0 hf1, Option.bind_some, if_pos rfl, show f_X3_isAt f1 k1 2 = some 0 from if_pos hf1, Option.bind_some, if_pos rfl]
    exact plain

/-! what a saying more does to the vertices -/
theorem prop8_trans {x y z : Nat → Int} (h1 : prop8 x y) (h2 : prop8 y z) : prop8 x z := by
  obtain ⟨p, q, hp, h1⟩ := h1
  obtain ⟨r, s, hr, h2⟩ := h2
  exact ⟨p * r, q * s, Int.mul_ne_zero hp hr, fun w hw => by have := h1 w hw; have := h2 w hw; grind⟩
theorem prop8_refl (x : Nat → Int) : prop8 x x := ⟨1, 1, by decide, fun _ _ => rfl⟩
theorem prop8_ev {x y a : Nat → Int} (h : prop8 x y) (hx : ev a x = 0) : ev a y = 0 := by
  obtain ⟨p, q, hp, h⟩ := h
  have e : p * ev a y = q * ev a x := by rw [← ev_smul, ← ev_smul]; exact ev_cong h
  rw [hx, Int.mul_zero] at e
  rcases Int.mul_eq_zero.mp e with e | e
  · exact absurd e hp
  · exact e
/-- a cone and one saying more: its lower and its upper constraint -/
def oneMore (lo hi : Nat → Nat → Int) (t : Nat) (X Y F T : Int32) : Prop := lo t = av X Y F.toInt ∧ hi t = av X Y T.toInt ∧ 0 ≤ F.toInt ∧ F.toInt ≤ T.toInt ∧ T.toInt ≤ 100
theorem om_lo {lo hi : Nat → Nat → Int} {t : Nat} (x : Nat → Int) : ev (cnA lo hi (8 + 2 * t)) x = ev (lo t) x := cnA_lo t x
theorem om_hi {lo hi : Nat → Nat → Int} {t : Nat} (x : Nat → Int) : ev (cnA lo hi (8 + 2 * t + 1)) x = -ev (hi t) x := by
  have := cnA_hi (lo := lo) (hi := hi) t x
  rw [show 8 + 2 * t + 1 = 9 + 2 * t by omega]; exact this
theorem om_diff {lo hi : Nat → Nat → Int} {t : Nat} {X Y F T : Int32} (h : oneMore lo hi t X Y F T) (x : Nat → Int) : ev (cnA lo hi (8 + 2 * t)) x + ev (cnA lo hi (8 + 2 * t + 1)) x = (T.toInt - F.toInt) * wt Y x := by
  rw [om_lo, om_hi, h.1, h.2.1, av_wt, av_wt]; grind
theorem wt_nonneg {Y : Int32} {x : Nat → Int} (h : ∀ w, w < 8 → 0 ≤ x w) : 0 ≤ wt Y x := sg_nonneg fun w hw => by
  have := h w hw
  dsimp only
  split <;> simp <;> omega
theorem wt_zero {Y : Int32} {x : Nat → Int} (h : ∀ w, w < 8 → 0 ≤ x w) (h0 : wt Y x = 0) : ∀ w, w < 8 → hb Y w = true → x w = 0 := fun w hw hb' => by
  have := sg_all_zero (f := fun w => (if hb Y w then 1 else 0) * x w) (n := 8) (fun k hk => by
    have := h k hk
    split <;> simp <;> omega) h0 w hw
  rw [hb'] at this
  simpa using this
/-- where Y has no weight both constraints are tight -/
theorem om_zero {lo hi : Nat → Nat → Int} {t : Nat} {X Y F T : Int32} (h : oneMore lo hi t X Y F T) {x y : Nat → Int} (hx : ∀ w, w < 8 → 0 ≤ x w) (h0 : wt Y x = 0) (hy : ∀ w, w < 8 → x w = 0 → y w = 0) : ev (cnA lo hi (8 + 2 * t)) y = 0 ∧ ev (cnA lo hi (8 + 2 * t + 1)) y = 0 := by
  have z := wt_zero hx h0
  have w1 : wt Y y = 0 := sg_zero fun w hw => by
    cases hbw : hb Y w
    · simp [hbw]
    · rw [hy w hw (z w hw hbw)]; simp
  have w2 : wt (X &&& Y) y = 0 := sg_zero fun w hw => by
    cases hbw : hb Y w
    · simp [hb_and, hbw]
    · rw [hy w hw (z w hw hbw)]; simp
  rw [om_lo, om_hi, h.1, h.2.1, av_wt, av_wt, w1, w2]; simp
/-- where the two corners of an edge cross the constraint M -/
def cv (a : Nat → Nat → Int) (M : Nat) (V : Nat → Nat → Int) (p q w : Nat) : Int := ev (a M) (V q) * V p w + -ev (a M) (V p) * V q w
def edgeP (a : Nat → Nat → Int) (N : Nat) (p q : Nat → Int) : Prop := ∀ y, sub a N (fun w => 1 * p w + 1 * q w) y → span2 p q y
def isX (a : Nat → Nat → Int) (N nb : Nat) (V : Nat → Nat → Int) (M p q : Nat) : Prop := (M = N ∨ M = N + 1) ∧ p < nb ∧ q < nb ∧ ev (a M) (V p) < 0 ∧ 0 < ev (a M) (V q) ∧ edgeP a N (V p) (V q)
theorem cv_ev {a : Nat → Nat → Int} {M : Nat} {V : Nat → Nat → Int} (p q : Nat) (r : Nat → Int) : ev r (cv a M V p q) = ev (a M) (V q) * ev r (V p) + -ev (a M) (V p) * ev r (V q) := ev_lin r (V p) (V q) _ _
theorem cv_nonneg {a : Nat → Nat → Int} {N nb M p q : Nat} {V : Nat → Nat → Int} (ha : coords a N) (hV : ∀ i, i < nb → vtx a N (V i)) (hX : isX a N nb V M p q) : ∀ c, c < N → 0 ≤ ev (a c) (cv a M V p q) ∧ (ev (a c) (cv a M V p q) = 0 ↔ ev (a c) (V p) = 0 ∧ ev (a c) (V q) = 0) := fun c hc => by
  obtain ⟨-, hp, hq, h1, h2, -⟩ := hX
  have g1 := (hV p hp).1 c hc
  have g2 := (hV q hq).1 c hc
  rw [cv_ev]
  have m1 := Int.mul_nonneg (Int.le_of_lt h2) g1
  have m2 := Int.mul_nonneg (show 0 ≤ -ev (a M) (V p) by omega) g2
  refine ⟨by omega, fun h => ?_, fun h => by rw [h.1, h.2]; simp⟩
  have z1 : ev (a M) (V q) * ev (a c) (V p) = 0 := by omega
  have z2 : -ev (a M) (V p) * ev (a c) (V q) = 0 := by omega
  constructor
  · rcases Int.mul_eq_zero.mp z1 with e | e
    · omega
    · exact e
  · rcases Int.mul_eq_zero.mp z2 with e | e
    · omega
    · exact e
theorem cv_zero {a : Nat → Nat → Int} {M : Nat} {V : Nat → Nat → Int} (p q : Nat) : ev (a M) (cv a M V p q) = 0 := by rw [cv_ev]; grind
theorem cv_nz {a : Nat → Nat → Int} {N nb M p q : Nat} {V : Nat → Nat → Int} (ha : coords a N) (hV : ∀ i, i < nb → vtx a N (V i)) (hX : isX a N nb V M p q) : nz (cv a M V p q) := by
  refine Classical.byContradiction fun hn => ?_
  have z : ∀ w, w < 8 → cv a M V p q w = 0 := fun w hw => Classical.byContradiction fun h => hn ⟨w, hw, h⟩
  obtain ⟨w, hw, hne⟩ := (hV p hX.2.1).2.1
  have h1 := (cv_nonneg ha hV hX w (by have := ha.1; omega)).2
  rw [ha.2 w hw, ha.2 w hw] at h1
  exact hne (h1.mp (z w hw)).1
theorem cv_pos {a : Nat → Nat → Int} {N nb M p q : Nat} {V : Nat → Nat → Int} (ha : coords a N) (hV : ∀ i, i < nb → vtx a N (V i)) (hX : isX a N nb V M p q) : ∀ w, w < 8 → 0 ≤ cv a M V p q w := fun w hw => by
  have h1 := (cv_nonneg ha hV hX w (by have := ha.1; omega)).1
  rw [ha.2 w hw] at h1; exact h1
/-- the other new constraint at a crossing -/
theorem cv_other {lo hi : Nat → Nat → Int} {t nb M p q : Nat} {X Y F T : Int32} {V : Nat → Nat → Int} (h : oneMore lo hi t X Y F T) (hV : ∀ i, i < nb → vtx (cnA lo hi) (8 + 2 * t) (V i)) (hX : isX (cnA lo hi) (8 + 2 * t) nb V M p q) : ev (cnA lo hi (8 + 2 * t)) (cv (cnA lo hi) M V p q) + ev (cnA lo hi (8 + 2 * t + 1)) (cv (cnA lo hi) M V p q) = (T.toInt - F.toInt) * wt Y (cv (cnA lo hi) M V p q) ∧ 0 < wt Y (cv (cnA lo hi) M V p q) := by
  refine ⟨om_diff h _, ?_⟩
  have hp := cv_pos (cnA_coords lo hi t) hV hX
  have h0 := wt_nonneg (Y := Y) hp
  refine Classical.byContradiction fun hlt => ?_
  have hz : wt Y (cv (cnA lo hi) M V p q) = 0 := by omega
  have hs : ∀ w, w < 8 → cv (cnA lo hi) M V p q w = 0 → V p w = 0 := fun w hw e => by
    have h1 := (cv_nonneg (cnA_coords lo hi t) hV hX w (by omega)).2
    rw [cnA_coord hw, cnA_coord hw] at h1
    exact (h1.mp e).1
  obtain ⟨e1, e2⟩ := om_zero h hp hz hs
  have := hX.2.2.2.1
  rcases hX.1 with e | e
  · rw [e] at this; omega
  · rw [e] at this; omega
theorem cv_vtx {lo hi : Nat → Nat → Int} {t nb M p q : Nat} {X Y F T : Int32} {V : Nat → Nat → Int} (h : oneMore lo hi t X Y F T) (hV : ∀ i, i < nb → vtx (cnA lo hi) (8 + 2 * t) (V i)) (hX : isX (cnA lo hi) (8 + 2 * t) nb V M p q) : vtx (cnA lo hi) (8 + 2 * (t + 1)) (cv (cnA lo hi) M V p q) := by
  obtain ⟨o1, o2⟩ := cv_other h hV hX
  have hz := cv_zero (a := cnA lo hi) (M := M) (V := V) p q
  have hTF : 0 ≤ (T.toInt - F.toInt) * wt Y (cv (cnA lo hi) M V p q) := Int.mul_nonneg (by have := h.2.2.2.1; omega) (by omega)
  have := vtx_cross (a := cnA lo hi) (N := 8 + 2 * t) (M := M) (hV p hX.2.1).1 (hV q hX.2.2.1).1 hX.1 hX.2.2.2.2.2 hX.2.2.2.1 hX.2.2.2.2.1 (cv_nz (cnA_coords lo hi t) hV hX) (fun c h1 h2 => by
    show 0 ≤ ev (cnA lo hi c) (cv (cnA lo hi) M V p q)
    rcases (show c = 8 + 2 * t ∨ c = 8 + 2 * t + 1 by omega) with rfl | rfl
    · rcases hX.1 with e | e
      · subst e; rw [hz]; exact Int.le_refl _
      · subst e; rw [hz] at o1; omega
    · rcases hX.1 with e | e
      · subst e; rw [hz] at o1; omega
      · subst e; rw [hz]; exact Int.le_refl _)
  exact this
theorem cv_notold {a : Nat → Nat → Int} {N nb M p q : Nat} {V : Nat → Nat → Int} (ha : coords a N) (hV : ∀ i, i < nb → vtx a N (V i)) (hX : isX a N nb V M p q) {v : Nat → Int} (hv : vtx a N v) : ¬ prop8 v (cv a M V p q) := by
  intro hp
  have hx : prop8 (cv a M V p q) v := prop8_symm (cv_nz ha hV hX) hp
  have hs : span2 (V p) (V q) v := by
    obtain ⟨k, r, hk, h⟩ := hx
    exact ⟨k, r * ev (a M) (V q), r * -ev (a M) (V p), hk, fun w hw => by rw [h w hw]; unfold cv; grind⟩
  rcases edge_conv ha (hV p hX.2.1) (hV q hX.2.2.1) hv hs with h | h
  · have h1 : ev (a M) v = 0 := prop8_ev hx (cv_zero p q)
    have h2 := prop8_ev (prop8_symm hv.2.1 h) h1
    have := hX.2.2.2.1
    omega
  · have h1 : ev (a M) v = 0 := prop8_ev hx (cv_zero p q)
    have h2 := prop8_ev (prop8_symm hv.2.1 h) h1
    have := hX.2.2.2.2.1
    omega
theorem cv_same {a : Nat → Nat → Int} {N nb M p q p' q' : Nat} {V : Nat → Nat → Int} (ha : coords a N) (hV : ∀ i, i < nb → vtx a N (V i)) (hd : ∀ i j, i < nb → j < nb → i ≠ j → ¬ prop8 (V i) (V j)) (hX : isX a N nb V M p q) (hX' : isX a N nb V M p' q') (hp : prop8 (cv a M V p q) (cv a M V p' q')) : p = p' ∧ q = q' := by
  -- V p' and V q' are tight where V p and V q are
  have tight : ∀ c, c < N → ev (a c) (fun w => 1 * V p w + 1 * V q w) = 0 → ev (a c) (V p') = 0 ∧ ev (a c) (V q') = 0 := fun c hc h0 => by
    rw [ev_lin] at h0
    have g1 := (hV p hX.2.1).1 c hc
    have g2 := (hV q hX.2.2.1).1 c hc
    have z := (cv_nonneg ha hV hX c hc).2.mpr ⟨by omega, by omega⟩
    exact (cv_nonneg ha hV hX' c hc).2.mp (prop8_ev hp z)
  have e1 := edge_conv ha (hV p hX.2.1) (hV q hX.2.2.1) (hV p' hX'.2.1) (hX.2.2.2.2.2 _ (fun c hc h0 => (tight c hc h0).1))
  have e2 := edge_conv ha (hV p hX.2.1) (hV q hX.2.2.1) (hV q' hX'.2.2.1) (hX.2.2.2.2.2 _ (fun c hc h0 => (tight c hc h0).2))
  have sgn : ∀ i j, i < nb → j < nb → ev (a M) (V i) < 0 → 0 < ev (a M) (V j) → ¬ i = j := fun i j _ _ h1 h2 e => by rw [e] at h1; omega
  have n1 := hX.2.2.2.1
  have n2 := hX.2.2.2.2.1
  have n1' := hX'.2.2.2.1
  have n2' := hX'.2.2.2.2.1
  constructor
  · rcases e1 with h | h
    · exact Classical.byContradiction fun hne => hd p p' hX.2.1 hX'.2.1 hne h
    · have : q = p' := Classical.byContradiction fun hne => hd q p' hX.2.2.1 hX'.2.1 hne h
      rw [this] at n2; omega
  · rcases e2 with h | h
    · have : p = q' := Classical.byContradiction fun hne => hd p q' hX.2.1 hX'.2.2.1 hne h
      rw [this] at n1; omega
    · exact Classical.byContradiction fun hne => hd q q' hX.2.2.1 hX'.2.2.1 hne h
theorem cv_differ {lo hi : Nat → Nat → Int} {t nb p q p' q' : Nat} {X Y F T : Int32} {V : Nat → Nat → Int} (h : oneMore lo hi t X Y F T) (hFT : F.toInt < T.toInt) (hV : ∀ i, i < nb → vtx (cnA lo hi) (8 + 2 * t) (V i)) (hX : isX (cnA lo hi) (8 + 2 * t) nb V (8 + 2 * t) p q) (hX' : isX (cnA lo hi) (8 + 2 * t) nb V (8 + 2 * t + 1) p' q') :
    ¬ prop8 (cv (cnA lo hi) (8 + 2 * t) V p q) (cv (cnA lo hi) (8 + 2 * t + 1) V p' q') := by
  intro hp
  obtain ⟨o1, o2⟩ := cv_other h hV hX'
  have z1 := prop8_ev hp (cv_zero (a := cnA lo hi) (M := 8 + 2 * t) (V := V) p q)
  have z2 := cv_zero (a := cnA lo hi) (M := 8 + 2 * t + 1) (V := V) p' q'
  rw [z1, z2] at o1
  have := Int.mul_pos (show 0 < T.toInt - F.toInt by omega) o2
  omega
theorem cv_complete {lo hi : Nat → Nat → Int} {t nb : Nat} {X Y F T : Int32} {V : Nat → Nat → Int} (h : oneMore lo hi t X Y F T) (hV : ∀ i, i < nb → vtx (cnA lo hi) (8 + 2 * t) (V i)) (hall : ∀ x, vtx (cnA lo hi) (8 + 2 * t) x → ∃ i, i < nb ∧ prop8 (V i) x) {x : Nat → Int} (hx : vtx (cnA lo hi) (8 + 2 * (t + 1)) x) :
    (∃ j, j < nb ∧ 0 ≤ ev (cnA lo hi (8 + 2 * t)) (V j) ∧ 0 ≤ ev (cnA lo hi (8 + 2 * t + 1)) (V j) ∧ prop8 (V j) x) ∨ ∃ M p q, isX (cnA lo hi) (8 + 2 * t) nb V M p q ∧ prop8 (cv (cnA lo hi) M V p q) x := by
  have ha := cnA_coords lo hi t
  have hxp := inC_pos (cnA_coords lo hi (t + 1)) hx.1
  have hsx := su_pos' hxp hx.2.1
  have pos_of : ∀ v, vtx (cnA lo hi) (8 + 2 * t) v → 0 < su v := fun v hv => su_pos ha hv.1 hv.2.1
  rcases vtx_new (a := cnA lo hi) (N := 8 + 2 * t) ha hx (fun h0 h1 y hy hy0 => by
    have hd := om_diff h x
    rw [h0, h1] at hd
    rcases Int.mul_eq_zero.mp (show (T.toInt - F.toInt) * wt Y x = 0 by omega) with e | e
    · have hdy := om_diff h y
      rw [e, Int.zero_mul, hy0] at hdy
      omega
    · exact (om_zero h hxp e (fun w hw hxw => by
        have := hy w (by omega) (by rw [cnA_coord hw]; exact hxw)
        rw [cnA_coord hw] at this; exact this)).2) with hold | ⟨M, hM, p, q, hp, hq, n1, n2, hsp, E, hE, hEx⟩
  · obtain ⟨j, hj, hjx⟩ := hall x hold
    have hpp := prop_pos (pos_of _ (hV j hj)) hsx hjx
    have sgn : ∀ r : Nat → Int, 0 ≤ ev r x → 0 ≤ ev r (V j) := fun r hr => by
      have e : su (V j) * ev r x = su x * ev r (V j) := by rw [← ev_smul, ← ev_smul]; exact ev_cong hpp
      refine Classical.byContradiction fun hlt => ?_
      have m1 := Int.mul_nonneg (Int.le_of_lt (pos_of _ (hV j hj))) hr
      have m2 : su x * ev r (V j) ≤ su x * -1 := Int.mul_le_mul_of_nonneg_left (by omega) (Int.le_of_lt hsx)
      omega
    exact Or.inl ⟨j, hj, sgn _ (hx.1 _ (by omega)), sgn _ (hx.1 _ (by omega)), hjx⟩
  · right
    obtain ⟨i, hin, hip⟩ := hall p hp
    obtain ⟨j, hj, hjq⟩ := hall q hq
    have sp := prop_pos (pos_of _ (hV i hin)) (pos_of _ hp) hip
    have sq := prop_pos (pos_of _ (hV j hj)) (pos_of _ hq) hjq
    have evp : ∀ r : Nat → Int, su (V i) * ev r p = su p * ev r (V i) := fun r => by rw [← ev_smul, ← ev_smul]; exact ev_cong sp
    have evq : ∀ r : Nat → Int, su (V j) * ev r q = su q * ev r (V j) := fun r => by rw [← ev_smul, ← ev_smul]; exact ev_cong sq
    have pp := pos_of _ hp
    have pq := pos_of _ hq
    have pi := pos_of _ (hV i hin)
    have pj := pos_of _ (hV j hj)
    have ni : ev (cnA lo hi M) (V i) < 0 := by
      refine Classical.byContradiction fun hlt => ?_
      have m1 := Int.mul_nonneg (Int.le_of_lt pp) (show 0 ≤ ev (cnA lo hi M) (V i) by omega)
      have m2 : su (V i) * ev (cnA lo hi M) p ≤ su (V i) * -1 := Int.mul_le_mul_of_nonneg_left (by omega) (Int.le_of_lt pi)
      have := evp (cnA lo hi M)
      omega
    have nj : 0 < ev (cnA lo hi M) (V j) := by
      refine Classical.byContradiction fun hlt => ?_
      have m1 := Int.mul_nonneg (Int.le_of_lt pq) (show 0 ≤ -ev (cnA lo hi M) (V j) by omega)
      rw [Int.mul_neg] at m1
      have m2 : su (V j) * 1 ≤ su (V j) * ev (cnA lo hi M) q := Int.mul_le_mul_of_nonneg_left (by omega) (Int.le_of_lt pj)
      have := evq (cnA lo hi M)
      omega
    refine ⟨M, i, j, ⟨hM, hin, hj, ni, nj, fun y hy => ?_⟩, ?_⟩
    · obtain ⟨k, r, s, hk, hh⟩ := hsp y (fun c hc h0 => hy c hc (by
        rw [ev_lin] at h0 ⊢
        have g1 := hp.1 c hc
        have g2 := hq.1 c hc
        have z1 : ev (cnA lo hi c) p = 0 := by omega
        have z2 : ev (cnA lo hi c) q = 0 := by omega
        rw [prop8_ev (prop8_symm hp.2.1 hip) z1, prop8_ev (prop8_symm hq.2.1 hjq) z2]; rfl))
      refine ⟨su (V i) * su (V j) * k, r * su p * su (V j), s * su q * su (V i), Int.mul_ne_zero (Int.mul_ne_zero (by omega) (by omega)) hk, fun w hw => ?_⟩
      have h1 := hh w hw
      have h2 := sp w hw
      have h3 := sq w hw
      have e : su (V i) * su (V j) * k * y w = su (V i) * su (V j) * (k * y w) := by grind
      rw [e, h1]
      grind
    · -- cv of V i, V j is cv of p, q but for its length
      have key : ∀ w, w < 8 → (su (V i) * su (V j)) * (ev (cnA lo hi M) q * p w + -ev (cnA lo hi M) p * q w) = (su p * su q) * cv (cnA lo hi) M V i j w := fun w hw => by
        have h2 := sp w hw
        have h3 := sq w hw
        have h4 := evp (cnA lo hi M)
        have h5 := evq (cnA lo hi M)
        unfold cv
        have e1 : (su (V i) * su (V j)) * (ev (cnA lo hi M) q * p w + -ev (cnA lo hi M) p * q w) = (su (V j) * ev (cnA lo hi M) q) * (su (V i) * p w) + -(su (V i) * ev (cnA lo hi M) p) * (su (V j) * q w) := by grind
        rw [e1, h2, h3, h4, h5]
        grind
      refine ⟨su (V i) * su (V j) * E, su p * su q, Int.mul_ne_zero (Int.mul_ne_zero (by omega) (by omega)) hE, fun w hw => ?_⟩
      rw [← key w hw, hEx w hw]
      grind

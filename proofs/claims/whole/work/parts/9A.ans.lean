/-! answers that a cone alone decides -/
def isBest (Q : (Nat → Int) → Prop) (num den : Nat → Int) (which : Int32) (U B : Int) : Prop := 0 < B ∧ (∃ x, Q x ∧ 0 < ev den x ∧ U * ev den x = B * ev num x) ∧ ∀ x, Q x → 0 < ev den x → (if which = 0 then U * ev den x ≤ B * ev num x else B * ev num x ≤ U * ev den x)
def noBest (Q : (Nat → Int) → Prop) (den : Nat → Int) : Prop := ∀ x, Q x → ¬ 0 < ev den x
/-- a fraction in least terms -/
def lterm (U B : Int) (what : Int32) (a : Int64) : Prop := a.toInt * ((Int.gcd U B : Nat) : Int) = if what = 0 then U else B
def bAns (Q : (Nat → Int) → Prop) (num den : Nat → Int) (which what : Int32) (a : Int64) : Prop := (noBest Q den ∧ a = -1000000000000000000) ∨ ∃ U B, isBest Q num den which U B ∧ lterm U B what a
theorem redu {u b u' b' : Int} (h1 : Int.gcd u b = 1) (h2 : Int.gcd u' b' = 1) (hb : 0 < b) (hb' : 0 < b') (h : u * b' = u' * b) : u = u' ∧ b = b' := by
  have d1 : b ∣ b' := by
    have : b.natAbs ∣ u.natAbs * b'.natAbs := by rw [← Int.natAbs_mul, h, Int.natAbs_mul]; exact Nat.dvd_mul_left _ _
    exact Int.natAbs_dvd_natAbs.mp (Nat.Coprime.dvd_of_dvd_mul_left (show Nat.Coprime b.natAbs u.natAbs from by
      have e : Nat.gcd u.natAbs b.natAbs = 1 := h1
      rw [Nat.gcd_comm] at e; exact e) this)
  have d2 : b' ∣ b := by
    have : b'.natAbs ∣ u'.natAbs * b.natAbs := by rw [← Int.natAbs_mul, ← h, Int.natAbs_mul]; exact Nat.dvd_mul_left _ _
    exact Int.natAbs_dvd_natAbs.mp (Nat.Coprime.dvd_of_dvd_mul_left (show Nat.Coprime b'.natAbs u'.natAbs from by
      have e : Nat.gcd u'.natAbs b'.natAbs = 1 := h2
      rw [Nat.gcd_comm] at e; exact e) this)
  have e : b = b' := Int.le_antisymm (Int.le_of_dvd hb' d1) (Int.le_of_dvd hb d2)
  subst e
  exact ⟨Int.eq_of_mul_eq_mul_right (by omega) h, rfl⟩
theorem lterm_unique {U B U' B' : Int} {what : Int32} {a a' : Int64} (hB : 0 < B) (hB' : 0 < B') (h : U * B' = U' * B) (h1 : lterm U B what a) (h2 : lterm U' B' what a') : a = a' := by
  have hg : 0 < Int.gcd U B := Int.gcd_pos_of_ne_zero_right U (by omega)
  have hg' : 0 < Int.gcd U' B' := Int.gcd_pos_of_ne_zero_right U' (by omega)
  obtain ⟨u, hu⟩ := Int.gcd_dvd_left U B
  obtain ⟨b, hb⟩ := Int.gcd_dvd_right U B
  obtain ⟨u', hu'⟩ := Int.gcd_dvd_left U' B'
  obtain ⟨b', hb'⟩ := Int.gcd_dvd_right U' B'
  have co : ∀ (U B u b : Int), 0 < Int.gcd U B → U = ((Int.gcd U B : Nat) : Int) * u → B = ((Int.gcd U B : Nat) : Int) * b → Int.gcd u b = 1 := fun U B u b hg hu hb => by
    have e : Int.gcd U B = Int.gcd (((Int.gcd U B : Nat) : Int) * u) (((Int.gcd U B : Nat) : Int) * b) := by rw [← hu, ← hb]
    rw [Int.gcd_mul_left] at e
    have e2 : Int.gcd U B * 1 = Int.gcd U B * Int.gcd u b := by simpa using e
    exact (Nat.eq_of_mul_eq_mul_left hg e2).symm
  have c1 := co U B u b hg hu hb
  have c2 := co U' B' u' b' hg' hu' hb'
  unfold lterm at h1 h2
  generalize Int.gcd U B = g at *
  generalize Int.gcd U' B' = g' at *
  have gz : (g : Int) ≠ 0 := by omega
  have gz' : (g' : Int) ≠ 0 := by omega
  have pb : 0 < b := by
    refine Classical.byContradiction fun hn => ?_
    have := Int.mul_nonneg (show (0 : Int) ≤ (g : Int) by omega) (show 0 ≤ -b by omega)
    rw [Int.mul_neg] at this; omega
  have pb' : 0 < b' := by
    refine Classical.byContradiction fun hn => ?_
    have := Int.mul_nonneg (show (0 : Int) ≤ (g' : Int) by omega) (show 0 ≤ -b' by omega)
    rw [Int.mul_neg] at this; omega
  have hx : u * b' = u' * b := by
    rw [hu, hb, hu', hb'] at h
    have e : ((g : Int) * (g' : Int)) * (u * b') = ((g : Int) * (g' : Int)) * (u' * b) := by grind
    exact Int.eq_of_mul_eq_mul_left (Int.mul_ne_zero gz gz') e
  obtain ⟨e1, e2⟩ := redu c1 c2 pb pb' hx
  apply Int64.toInt_inj.mp
  by_cases hw : what = 0
  · rw [if_pos hw] at h1 h2
    have a1 : a.toInt = u := Int.eq_of_mul_eq_mul_left gz (by rw [← hu, ← h1, Int.mul_comm])
    have a2 : a'.toInt = u' := Int.eq_of_mul_eq_mul_left gz' (by rw [← hu', ← h2, Int.mul_comm])
    rw [a1, a2, e1]
  · rw [if_neg hw] at h1 h2
    have a1 : a.toInt = b := Int.eq_of_mul_eq_mul_left gz (by rw [← hb, ← h1, Int.mul_comm])
    have a2 : a'.toInt = b' := Int.eq_of_mul_eq_mul_left gz' (by rw [← hb', ← h2, Int.mul_comm])
    rw [a1, a2, e2]
theorem best_same {Q : (Nat → Int) → Prop} {num den : Nat → Int} {which : Int32} {U B U' B' : Int} (h1 : isBest Q num den which U B) (h2 : isBest Q num den which U' B') : U * B' = U' * B := by
  obtain ⟨hB, ⟨x, hx, hdx, ex⟩, hall⟩ := h1
  obtain ⟨hB', ⟨y, hy, hdy, ey⟩, hall'⟩ := h2
  have a1 := hall y hy hdy
  have a2 := hall' x hx hdx
  -- U / B against U' / B'
  have k1 : ∀ p q : Int, 0 < q → p * q ≤ 0 → p ≤ 0 := fun p q hq h => Classical.byContradiction fun hn => by
    have := Int.mul_pos (show 0 < p by omega) hq; omega
  by_cases hw : which = 0
  · rw [if_pos hw] at a1 a2
    have b1 : (U * B' - U' * B) * ev den y ≤ 0 := by
      have e : (U * B' - U' * B) * ev den y = B' * (U * ev den y) - B * (U' * ev den y) := by grind
      rw [e, ey]
      have := Int.mul_le_mul_of_nonneg_left a1 (Int.le_of_lt hB')
      have e2 : B * (B' * ev num y) = B' * (B * ev num y) := by grind
      omega
    have b2 : (U' * B - U * B') * ev den x ≤ 0 := by
      have e : (U' * B - U * B') * ev den x = B * (U' * ev den x) - B' * (U * ev den x) := by grind
      rw [e, ex]
      have := Int.mul_le_mul_of_nonneg_left a2 (Int.le_of_lt hB)
      have e2 : B' * (B * ev num x) = B * (B' * ev num x) := by grind
      omega
    have := k1 _ _ hdy b1
    have := k1 _ _ hdx b2
    omega
  · rw [if_neg hw] at a1 a2
    have b1 : (U' * B - U * B') * ev den y ≤ 0 := by
      have e : (U' * B - U * B') * ev den y = B * (U' * ev den y) - B' * (U * ev den y) := by grind
      rw [e, ey]
      have := Int.mul_le_mul_of_nonneg_left a1 (Int.le_of_lt hB')
      have e2 : B * (B' * ev num y) = B' * (B * ev num y) := by grind
      omega
    have b2 : (U * B' - U' * B) * ev den x ≤ 0 := by
      have e : (U * B' - U' * B) * ev den x = B' * (U * ev den x) - B * (U' * ev den x) := by grind
      rw [e, ex]
      have := Int.mul_le_mul_of_nonneg_left a2 (Int.le_of_lt hB)
      have e2 : B' * (B * ev num x) = B * (B' * ev num x) := by grind
      omega
    have := k1 _ _ hdy b1
    have := k1 _ _ hdx b2
    omega
theorem bAns_unique {Q : (Nat → Int) → Prop} {num den : Nat → Int} {which what : Int32} {a a' : Int64} (h1 : bAns Q num den which what a) (h2 : bAns Q num den which what a') : a = a' := by
  rcases h1 with ⟨n1, e1⟩ | ⟨U, B, b1, l1⟩ <;> rcases h2 with ⟨n2, e2⟩ | ⟨U', B', b2, l2⟩
  · rw [e1, e2]
  · obtain ⟨x, hx, hd, -⟩ := b2.2.1; exact absurd hd (n1 x hx)
  · obtain ⟨x, hx, hd, -⟩ := b1.2.1; exact absurd hd (n2 x hx)
  · exact lterm_unique b1.1 b2.1 (best_same b1 b2) l1 l2
/-- the best of the first c of a list -/
def fbest (c : Nat) (nu de : Nat → Int) (which : Int32) (U B : Int) : Prop := (B = 0 ∧ ∀ e, e < c → ¬ 0 < de e) ∨ (0 < B ∧ (∃ e, e < c ∧ 0 < de e ∧ U = nu e ∧ B = de e) ∧ ∀ e, e < c → 0 < de e → (if which = 0 then U * de e ≤ nu e * B else nu e * B ≤ U * de e))
theorem fbest_skip {c : Nat} {nu de : Nat → Int} {which : Int32} {U B : Int} (h : fbest c nu de which U B) (hc : ¬ 0 < de c) : fbest (c + 1) nu de which U B := by
  rcases h with ⟨h1, h2⟩ | ⟨h1, ⟨e, he, h3⟩, h4⟩
  · exact Or.inl ⟨h1, fun e he => by
      by_cases ec : e = c
      · rw [ec]; exact hc
      · exact h2 e (by omega)⟩
  · exact Or.inr ⟨h1, ⟨e, by omega, h3⟩, fun e he hd => by
      by_cases ec : e = c
      · rw [ec] at hd; exact absurd hd hc
      · exact h4 e (by omega) hd⟩
theorem fbest_take {c : Nat} {nu de : Nat → Int} {which : Int32} {U B : Int} (h : fbest c nu de which U B) (hc : 0 < de c) (hb : B = 0 ∨ (if which = 0 then nu c * B < U * de c else U * de c < nu c * B)) : fbest (c + 1) nu de which (nu c) (de c) := by
  refine Or.inr ⟨hc, ⟨c, by omega, hc, rfl, rfl⟩, fun e he hd => ?_⟩
  by_cases ec : e = c
  · rw [ec]; split <;> exact Int.le_refl _
  · rcases h with ⟨h1, h2⟩ | ⟨h1, ⟨e0, he0, g1, g2, g3⟩, h4⟩
    · exact absurd hd (h2 e (by omega))
    · have h5 := h4 e (by omega) hd
      have hb' := hb.resolve_left (by omega)
      by_cases hw : which = 0
      · rw [if_pos hw] at h5 hb' ⊢
        exact ratio_trans (p := de c) (q := B) (r := de e) h1 hc hd (Int.le_of_lt hb') h5
      · rw [if_neg hw] at h5 hb' ⊢
        exact ratio_trans (p := de e) (q := B) (r := de c) h1 hd hc h5 (Int.le_of_lt hb')
theorem fbest_stay {c : Nat} {nu de : Nat → Int} {which : Int32} {U B : Int} (h : fbest c nu de which U B) (hB : 0 < B) (hn : if which = 0 then U * de c ≤ nu c * B else nu c * B ≤ U * de c) : fbest (c + 1) nu de which U B := by
  rcases h with ⟨h1, h2⟩ | ⟨h1, ⟨e0, he0, g1⟩, h4⟩
  · omega
  · exact Or.inr ⟨h1, ⟨e0, by omega, g1⟩, fun e he hd => by
      by_cases ec : e = c
      · rw [ec]; exact hn
      · exact h4 e (by omega) hd⟩
/-- a linear condition that holds on the list holds on the cone -/
theorem gens_lin {c : Nat} {E : Nat → Nat → Int} {x l : Nat → Int} (h : gens c E x) (hl : ∀ e, e < c → 0 ≤ ev l (E e)) : 0 ≤ ev l x := by
  obtain ⟨κ, μ, hκ, hμ, hx⟩ := h
  have e1 : κ * ev l x = sg (fun e => μ e * ev l (E e)) c := by
    rw [← ev_smul, ev_cong hx]
    unfold ev
    have e2 : sg (fun w => l w * sg (fun e => μ e * E e w) c) 8 = sg (fun w => sg (fun e => l w * (μ e * E e w)) c) 8 := sg_cong fun w _ => (sg_mul _ _ _).symm
    rw [e2, sg_swap]
    refine sg_cong fun e _ => ?_
    rw [← sg_mul]
    exact sg_cong fun w _ => by grind
  have h2 : 0 ≤ sg (fun e => μ e * ev l (E e)) c := sg_nonneg fun e he => Int.mul_nonneg (hμ e he) (hl e he)
  refine Classical.byContradiction fun hn => ?_
  have : κ * ev l x ≤ κ * -1 := Int.mul_le_mul_of_nonneg_left (by omega) (Int.le_of_lt hκ)
  omega
theorem best_of_list {Q : (Nat → Int) → Prop} {c : Nat} {E : Nat → Nat → Int} {num den : Nat → Int} {which : Int32} {U B : Int} (hc : cmpl Q c E) (hz : ∀ x, Q x → 0 ≤ ev den x ∧ (ev den x = 0 → ev num x = 0)) (h : fbest c (fun e => ev num (E e)) (fun e => ev den (E e)) which U B) : (B = 0 ∧ noBest Q den) ∨ isBest Q num den which U B := by
  rcases h with ⟨h1, h2⟩ | ⟨h1, ⟨e, he, g1, g2, g3⟩, h4⟩
  · refine Or.inl ⟨h1, fun x hx hd => ?_⟩
    have := gens_lin (l := fun w => -1 * den w + 0 * den w) (hc.2 x hx) (fun e he => by
      rw [ev_add_l]; have := h2 e he; dsimp only at this; omega)
    rw [ev_add_l] at this
    omega
  · refine Or.inr ⟨h1, ⟨E e, (hc.1 e he).1, g1, by rw [g2, g3]; grind⟩, fun x hx hd => ?_⟩
    by_cases hw : which = 0
    · rw [if_pos hw]
      have := gens_lin (l := fun w => B * num w + -U * den w) (hc.2 x hx) (fun e he => by
        rw [ev_add_l]
        obtain ⟨z1, z2⟩ := hz _ (hc.1 e he).1
        by_cases hd0 : 0 < ev den (E e)
        · have h5 := h4 e he hd0
          rw [if_pos hw] at h5
          dsimp only at h5
          have e1 : ev num (E e) * B = B * ev num (E e) := Int.mul_comm _ _
          have e2 : -U * ev den (E e) = -(U * ev den (E e)) := by grind
          omega
        · have h0 : ev den (E e) = 0 := by omega
          rw [h0, z2 h0]; simp)
      rw [ev_add_l] at this
      have e2 : -U * ev den x = -(U * ev den x) := by grind
      omega
    · rw [if_neg hw]
      have := gens_lin (l := fun w => -B * num w + U * den w) (hc.2 x hx) (fun e he => by
        rw [ev_add_l]
        obtain ⟨z1, z2⟩ := hz _ (hc.1 e he).1
        by_cases hd0 : 0 < ev den (E e)
        · have h5 := h4 e he hd0
          rw [if_neg hw] at h5
          dsimp only at h5
          have e1 : ev num (E e) * B = B * ev num (E e) := Int.mul_comm _ _
          have e2 : -B * ev num (E e) = -(B * ev num (E e)) := by grind
          omega
        · have h0 : ev den (E e) = 0 := by omega
          rw [h0, z2 h0]; simp)
      rw [ev_add_l] at this
      have e2 : -B * ev num x = -(B * ev num x) := by grind
      omega
/-- there is no row -/
def noRow (Q : (Nat → Int) → Prop) : Prop := ∀ x, Q x → su x ≤ 0
theorem noRow_list {Q : (Nat → Int) → Prop} {c : Nat} {E : Nat → Nat → Int} (hc : cmpl Q c E) : c = 0 ↔ noRow Q := by
  constructor
  · intro h x hx
    subst h
    obtain ⟨κ, μ, hκ, -, hx'⟩ := hc.2 x hx
    have z : ∀ w, w < 8 → x w = 0 := fun w hw => by
      have := hx' w hw
      rw [sg] at this
      rcases Int.mul_eq_zero.mp this with e | e
      · omega
      · exact e
    have : su x = 0 := sg_zero fun w hw => by rw [z w hw]; simp
    omega
  · intro h
    refine Classical.byContradiction fun hn => ?_
    have := hc.1 0 (by omega)
    have := h _ this.1
    omega

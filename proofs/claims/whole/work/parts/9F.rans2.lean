theorem f_first53 {c K p q : Nat} {up dn : Nat → Int64} (hK : 10000 ≤ K) (h : okR c up dn) (hp : p < c) (hq : q < c) : ∃ z : Int64, lp (f_X9_first_L53 38400 4800 up dn (nI p) (nI q)) K ((0 : Int64), (0 : Int32)) = some z ∧ (z.toInt < 0 ↔ bef lexp (ent up q) (ent up p)) := by
  have hc := h.1
  have hsp := (h.2 p hp).2.1
  have hsq := (h.2 q hq).2.1
  refine lp_loop (f := f_X9_first_L53 38400 4800 up dn (nI p) (nI q)) (fun k st => k ≤ 9 ∧ ∃ z : Int64, st = (z, nI (if k ≤ 8 then k else 8)) ∧ (((∀ w, w < k → w < 8 → su (ent up q) * ent up p w + -su (ent up p) * ent up q w = 0) ∧ z.toInt = 0 ∧ k ≤ 8) ∨ (z.toInt ≠ 0 ∧ k ≤ 8 ∧ (z.toInt < 0 ↔ bef lexp (ent up q) (ent up p))))) 9 _ (fun k st hI => ?_) K 0 _ ⟨by omega, 0, rfl, Or.inl ⟨fun w h => absurd h (Nat.not_lt_zero w), rfl, by omega⟩⟩ (by omega)
  obtain ⟨hk, z, rfl, hz⟩ := hI
  have hk8 : k ≤ 8 := by rcases hz with g | g; exact g.2.2; exact g.2.1
  rw [if_pos hk8]
  unfold f_X9_first_L53
  simp only
  have c0 : (lg_cmp z (0 : Int64) = (0 : Int32)) ↔ z.toInt = 0 := by rw [lg_cmp_eq, i64_ne0]
  by_cases e : k = 8
  · subst e
    rw [if_pos (show (8 : Int32) ≤ nI 8 from nI_le (Nat.le_refl 8) (by decide))]
    refine Or.inl ⟨_, rfl, ?_⟩
    rcases hz with ⟨g1, g2, _⟩ | ⟨_, _, g3⟩
    · constructor
      · intro hh; omega
      · rintro ⟨w, hw, _, hpos⟩
        dsimp only at hpos
        have := g1 w hw hw
        omega
    · exact g3
  · have hk8' : k < 8 := by omega
    rw [if_neg (show ¬ (8 : Int32) ≤ nI k from nI_ge hk8' (by decide))]
    rcases hz with ⟨g1, g2, _⟩ | ⟨g1, _, g3⟩
    · rw [if_pos (c0.mpr g2), ix8, ix8, if_neg (nI_in (show 8 * q + k < 38400 by omega) (by decide)), if_neg (nI_in (show p < 4800 by omega) (by decide)), if_neg (nI_in (show 8 * p + k < 38400 by omega) (by decide)), if_neg (nI_in (show q < 4800 by omega) (by decide)), Option.bind_some, nI_clamp (show 8 * q + k < 2 ^ 31 by omega), nI_clamp (show 8 * p + k < 2 ^ 31 by omega), nI_clamp (show p < 2 ^ 31 by omega), nI_clamp (show q < 2 ^ 31 by omega), nI_1]
      have dp := (h.2 p hp).2.2
      have dq := (h.2 q hq).2.2
      have m1 := wthn_mul (show wthn 2000000000 (ent up q k) from by have := okR_ent h hq k hk8'; unfold wthn; omega) (show wthn 2000000000 (dn p).toInt from by unfold wthn; omega)
      have m2 := wthn_mul (show wthn 2000000000 (ent up p k) from by have := okR_ent h hp k hk8'; unfold wthn; omega) (show wthn 2000000000 (dn q).toInt from by unfold wthn; omega)
      have e1 : (up (8 * q + k) * dn p).toInt = ent up q k * (dn p).toInt := q64_mul (wthn_mono m1 (by decide))
      have e2 : (up (8 * p + k) * dn q).toInt = ent up p k * (dn q).toInt := q64_mul (wthn_mono m2 (by decide))
      unfold wthn at m1 m2
      have e3 : (up (8 * q + k) * dn p - up (8 * p + k) * dn q).toInt = ent up q k * (dn p).toInt - ent up p k * (dn q).toInt := by rw [q64_sub (by rw [e1, e2]; unfold wthn; omega), e1, e2]
      have e4 : su (ent up q) * ent up p k + -su (ent up p) * ent up q k = -(ent up q k * (dn p).toInt - ent up p k * (dn q).toInt) := by rw [hsp, hsq]; grind
      refine Or.inr ⟨by omega, _, rfl, by omega, _, by rw [if_pos (show k + 1 ≤ 8 by omega)], ?_⟩
      rw [e3]
      by_cases h0 : ent up q k * (dn p).toInt - ent up p k * (dn q).toInt = 0
      · refine Or.inl ⟨fun w hw hw8 => ?_, h0, by omega⟩
        by_cases ew : w = k
        · rw [ew, e4, h0]; rfl
        · exact g1 w (by omega) hw8
      · refine Or.inr ⟨h0, by omega, ?_⟩
        constructor
        · intro hh
          exact ⟨k, hk8', fun v hv => g1 v hv (by omega), by dsimp only; rw [e4]; omega⟩
        · rintro ⟨w, hw, hz', hpos⟩
          dsimp only at hz' hpos
          rcases Nat.lt_trichotomy w k with g | g | g
          · have := g1 w g hw; omega
          · subst g; rw [e4] at hpos; omega
          · have := hz' k g; rw [e4] at this; omega
    · rw [if_neg (fun hh => g1 (c0.mp hh))]
      exact Or.inl ⟨_, rfl, g3⟩
theorem f_first38 {c K : Nat} {up dn : Nat → Int64} (hK : 10000 ≤ K) (h : okR c up dn) (h0 : 0 < c) : ∃ m, lp (f_X9_first_L38 K 38400 4800 (nI c) up dn) K ((0 : Int32), (1 : Int32)) = some (nI m) ∧ m < c ∧ ∀ e, e < c → ¬ bef lexp (ent up e) (ent up m) := by
  have hc := h.1
  have su_p : ∀ e, e < c → 0 < su (ent up e) := fun e he => by rw [(h.2 e he).2.1]; exact (h.2 e he).2.2.1
  obtain ⟨r, h1, m, rfl, hm, hl⟩ := lp_loop (f := f_X9_first_L38 K 38400 4800 (nI c) up dn) (fun k st => 1 ≤ k ∧ k ≤ c ∧ ∃ m, st = (nI m, nI k) ∧ m < c ∧ ∀ e, e < k → ¬ bef lexp (ent up e) (ent up m)) c (fun r => ∃ m, r = nI m ∧ m < c ∧ ∀ e, e < c → ¬ bef lexp (ent up e) (ent up m)) (fun k st hI => by
    obtain ⟨hk1, hk, m, rfl, hm, hl⟩ := hI
    unfold f_X9_first_L38
    simp only
    by_cases e : k = c
    · subst e
      rw [if_pos (nI_le (Nat.le_refl k) (by omega))]
      exact Or.inl ⟨_, rfl, m, rfl, hm, hl⟩
    · have hkc : k < c := by omega
      obtain ⟨z, p, q⟩ := f_first53 (K := K) hK h hm hkc
      have cz : ((0 : Int32) ≤ lg_cmp z (0 : Int64)) ↔ ¬ z.toInt < 0 := by rw [lg_cmp_ge, Int64.le_iff_toInt_le, i64_z]; omega
      rw [if_neg (nI_ge hkc (by omega)), p, Option.bind_some]
      by_cases hz : z.toInt < 0
      · have g2 := q.mp hz
        rw [if_neg (fun g => cz.mp g hz), nI_1]
        refine Or.inr ⟨hkc, _, rfl, by omega, by omega, k, rfl, hkc, fun e he hb' => ?_⟩
        by_cases ek : e = k
        · rw [ek] at hb'; exact bef_prop lexp_ord (prop8_refl _) hb'
        · exact hl e (by omega) (bef_trans lexp_ord (su_p e (by omega)) (su_p k hkc) (su_p m hm) hb' g2)
      · rw [if_pos (cz.mpr hz), nI_1]
        refine Or.inr ⟨hkc, _, rfl, by omega, by omega, m, rfl, hm, fun e he => ?_⟩
        by_cases ek : e = k
        · rw [ek]; exact fun g => hz (q.mpr g)
        · exact hl e (by omega)) K 1 ((0 : Int32), (1 : Int32)) ⟨Nat.le_refl 1, by omega, 0, rfl, by omega, fun e he => by
      have : e = 0 := by omega
      rw [this]; exact bef_prop lexp_ord (prop8_refl _)⟩ (by omega)
  exact ⟨m, h1, hm, hl⟩
theorem clear_bit : ∀ j, j < 8 → ∀ k, k < 32 → hb (((1 : Int32) <<< (nI j &&& 31)) ^^^ (-1 : Int32)) k = !decide (k = j) := by decide +kernel
theorem f_never26 {c K e : Nat} {up dn : Nat → Int64} {a : Int32} (hK : 10000 ≤ K) (h : okR c up dn) (he : e < c) (ha : ∀ k, k < 32 → hb a k = true → k < 8) : ∃ b, lp (f_X9_never_L26 38400 up (nI e)) K (a, (0 : Int32)) = some b ∧ ∀ k, k < 32 → (hb b k = true ↔ hb a k = true ∧ ent up e k = 0) := by
  have hc := h.1
  have b255 : ∀ k, k < 32 → hb 255 k = decide (k < 8) := by decide
  obtain ⟨b, h1, h2⟩ := lp_loop (f := f_X9_never_L26 38400 up (nI e)) (fun j st => j ≤ 8 ∧ ∃ b, st = (b, nI j) ∧ ∀ k, k < 32 → (hb b k = true ↔ hb a k = true ∧ (k < j → ent up e k = 0))) 8 (fun b => ∀ k, k < 32 → (hb b k = true ↔ hb a k = true ∧ ent up e k = 0)) (fun j st hI => by
    obtain ⟨hj, b, rfl, hb'⟩ := hI
    unfold f_X9_never_L26
    simp only
    by_cases e8 : j = 8
    · subst e8
      rw [if_pos (show (8 : Int32) ≤ nI 8 from nI_le (Nat.le_refl 8) (by decide))]
      refine Or.inl ⟨b, rfl, fun k hk => ?_⟩
      rw [hb' k hk]
      exact ⟨fun g => ⟨g.1, g.2 (ha k hk g.1)⟩, fun g => ⟨g.1, fun _ => g.2⟩⟩
    · have hj8 : j < 8 := by omega
      rw [if_neg (show ¬ (8 : Int32) ≤ nI j from nI_ge hj8 (by decide)), ix8, if_neg (nI_in (show 8 * e + j < 38400 by omega) (by decide)), nI_clamp (by omega)]
      have cz : (lg_cmp (up (8 * e + j)) (0 : Int64) ≤ (0 : Int32)) ↔ ent up e j = 0 := by
        rw [lg_cmp_le, Int64.le_iff_toInt_le, i64_z]
        have := (h.2 e he).1 j hj8
        unfold ent at this ⊢
        omega
      by_cases h0 : ent up e j = 0
      · rw [if_pos (cz.mpr h0), nI_1]
        refine Or.inr ⟨hj8, _, rfl, by omega, _, rfl, fun k hk => ?_⟩
        rw [hb_and, Bool.and_eq_true, hb' k hk, b255 k hk, decide_eq_true_eq]
        constructor
        · rintro ⟨⟨g1, g2⟩, _⟩
          refine ⟨g1, fun g3 => ?_⟩
          by_cases ek : k = j
          · rw [ek]; exact h0
          · exact g2 (by omega)
        · rintro ⟨g1, g2⟩
          exact ⟨⟨g1, fun g3 => g2 (by omega)⟩, ha k hk g1⟩
      · rw [if_neg (fun g => h0 (cz.mp g)), nI_1]
        refine Or.inr ⟨hj8, _, rfl, by omega, _, rfl, fun k hk => ?_⟩
        rw [hb_and, Bool.and_eq_true, hb' k hk, clear_bit j hj8 k hk]
        simp only [Bool.not_eq_true', decide_eq_false_iff_not]
        constructor
        · rintro ⟨⟨g1, g2⟩, g4⟩
          exact ⟨g1, fun g3 => g2 (by omega)⟩
        · rintro ⟨g1, g2⟩
          exact ⟨⟨g1, fun g3 => g2 (by omega)⟩, fun ek => h0 (by rw [← ek]; exact g2 (by omega))⟩) K 0 (a, (0 : Int32)) ⟨Nat.zero_le _, a, rfl, fun k _ => ⟨fun g => ⟨g, fun g2 => absurd g2 (Nat.not_lt_zero k)⟩, fun g => g.1⟩⟩ (by omega)
  exact ⟨b, h1, h2⟩
theorem f_never16 {Q : (Nat → Int) → Prop} {c K : Nat} {up dn : Nat → Int64} (hK : 10000 ≤ K) (h : okR c up dn) (hcm : cmpl Q c (ent up)) : ∃ a, lp (f_X9_never_L16 K 38400 (nI c) up) K ((255 : Int32), (0 : Int32)) = some a ∧ neverAns Q a := by
  have hc := h.1
  have b255 : ∀ k, k < 32 → hb 255 k = decide (k < 8) := by decide
  refine lp_loop (f := f_X9_never_L16 K 38400 (nI c) up) (fun j st => j ≤ c ∧ ∃ a, st = (a, nI j) ∧ ∀ k, k < 32 → (hb a k = true ↔ k < 8 ∧ ∀ e, e < j → ent up e k = 0)) c _ (fun j st hI => ?_) K 0 ((255 : Int32), (0 : Int32)) ⟨Nat.zero_le _, 255, rfl, fun k hk => by
      rw [b255 k hk, decide_eq_true_eq]
      exact ⟨fun h => ⟨h, fun e he => absurd he (Nat.not_lt_zero e)⟩, fun h => h.1⟩⟩ (by omega)
  obtain ⟨hj, a, rfl, ha⟩ := hI
  unfold f_X9_never_L16
  simp only
  by_cases e : j = c
  · subst e
    rw [if_pos (nI_le (Nat.le_refl j) (by omega))]
    refine Or.inl ⟨a, rfl, fun k hk => ?_⟩
    rw [ha k hk]
    constructor
    · rintro ⟨g1, g2⟩; exact ⟨g1, (zero_list hcm k g1).mp g2⟩
    · rintro ⟨g1, g2⟩; exact ⟨g1, (zero_list hcm k g1).mpr g2⟩
  · have hjc : j < c := by omega
    obtain ⟨b, p, q⟩ := f_never26 (K := K) (a := a) hK h hjc (fun k hk g => ((ha k hk).mp g).1)
    rw [if_neg (nI_ge hjc (by omega)), p, Option.bind_some, nI_1]
    refine Or.inr ⟨hjc, _, rfl, by omega, b, rfl, fun k hk => ?_⟩
    rw [q k hk, ha k hk]
    constructor
    · rintro ⟨⟨g1, g2⟩, g3⟩
      refine ⟨g1, fun e he => ?_⟩
      by_cases ee : e = j
      · rw [ee]; exact g3
      · exact g2 e (by omega)
    · rintro ⟨g1, g2⟩
      exact ⟨⟨g1, fun e he => g2 e (by omega)⟩, g2 j (by omega)⟩

/-! the class's cut: its loops -/
def cctx (lo hi : Nat → Nat → Int) (t : Nat) (X Y F T : Int32) (nb : Nat) (Pb : Nat → Int64) (Lb : Nat → Int32) : Prop := t ≤ 3 ∧ oneMore lo hi t X Y F T ∧ xct lo hi t nb Pb Lb ∧ ∀ i, i < nb → su (ent Pb i) ≤ 4000000
theorem ent_le {x : Nat → Int} {B : Int} (h : ∀ w, w < 8 → 0 ≤ x w) (hs : su x ≤ B) : ∀ w, w < 8 → 0 ≤ x w ∧ x w ≤ B := fun w hw => by
  refine ⟨h w hw, ?_⟩
  have h1 : x w ≤ su x := by
    unfold su ev
    rw [sg_skip _ w 7 (by omega)]
    dsimp only
    have := sg_nonneg (f := fun j => 1 * x (skp w j)) (n := 7) (fun k hk => by
      rw [Int.one_mul]
      exact h _ (by unfold skp; split <;> omega))
    omega
  omega
theorem cctx_ent {lo hi : Nat → Nat → Int} {t nb : Nat} {X Y F T : Int32} {Pb : Nat → Int64} {Lb : Nat → Int32} (h : cctx lo hi t X Y F T nb Pb Lb) {i : Nat} (hin : i < nb) : ∀ w, w < 8 → 0 ≤ ent Pb i w ∧ ent Pb i w ≤ 4000000 :=
  ent_le (inC_pos (cnA_coords lo hi t) (h.2.2.1.1.1 i hin).1.1) (h.2.2.2 i hin)
theorem cctx_slack {lo hi : Nat → Nat → Int} {t nb M : Nat} {X Y F T : Int32} {Pb : Nat → Int64} {Lb : Nat → Int32} (h : cctx lo hi t X Y F T nb Pb Lb) (hM : M = 8 + 2 * t ∨ M = 8 + 2 * t + 1) {i : Nat} (hin : i < nb) : wthn 1000000000000 (ev (cnA lo hi M) (ent Pb i)) := by
  have he := cctx_ent h hin
  have w1 := wt_in (thing := X &&& Y) he
  have w2 := wt_in (thing := Y) he
  obtain ⟨h1, h2, h3, h4, h5⟩ := h.2.1
  have b1 := wthn_mul (a := -F.toInt) (b := wt Y (ent Pb i)) (A := 100) (B := 32000000) (by unfold wthn; omega) (by unfold wthn; omega)
  have b2 := wthn_mul (a := -T.toInt) (b := wt Y (ent Pb i)) (A := 100) (B := 32000000) (by unfold wthn; omega) (by unfold wthn; omega)
  unfold wthn at *
  rcases hM with e | e
  · rw [e, om_lo, h1, av_wt]; omega
  · rw [e, om_hi, h2, av_wt]; omega
theorem roomOf_le (t : Nat) : roomOf t ≤ 440 := by unfold roomOf; split <;> omega
def slOK (lo hi : Nat → Nat → Int) (nb : Nat) (Pb sl : Nat → Int64) (M : Nat) : Prop := ∀ i, i < nb → (sl i).toInt = ev (cnA lo hi M) (ent Pb i)
theorem f_keep {lo hi : Nat → Nat → Int} {t nb n K i : Nat} {X Y F T fb tb : Int32} {Pb P m ov un : Nat → Int64} {Lb L : Nat → Int32} (hK : 1000 ≤ K) (hc : cctx lo hi t X Y F T nb Pb Lb) (hbt : bitsAt t fb tb) (hov : slOK lo hi nb Pb ov (8 + 2 * t)) (hun : slOK lo hi nb Pb un (8 + 2 * t + 1)) (hin : i < nb)
    (hk : 0 ≤ ev (cnA lo hi (8 + 2 * t)) (ent Pb i) ∧ 0 ≤ ev (cnA lo hi (8 + 2 * t + 1)) (ent Pb i)) (hbl : bld lo hi (t + 1) n P L) (hn : ∀ e, e < n → ¬ prop8 (ent P e) (ent Pb i)) :
    ∃ P' met m', f_X0_keep K (8 * roomOf (t + 1)) (roomOf (t + 1)) 8 (8 * roomOf t) (roomOf t) (roomOf t) (roomOf t) fb tb (nI (roomOf (t + 1))) (nI n) P L m Pb Lb ov un (nI i) = some (nI (n + 1), P', upd L n met, m') ∧ bld lo hi (t + 1) (n + 1) P' (upd L n met) ∧ (∀ e, e < n → ∀ w, w < 8 → ent P' e w = ent P e w) ∧ prop8 (ent Pb i) (ent P' n) := by
  have hnb := room_le (by have := hc.1; omega) hc.2.2.1.1
  have hr := roomOf_le t
  obtain ⟨m', p1, q1⟩ := f_keepcopy (P := Pb) (m0 := m) (np := 8 * roomOf t) (p := i) (K := K) (by omega) (by omega) (by omega)
  obtain ⟨v1, v2, v3⟩ := hc.2.2.1.1.1 i hin
  have hvk : vtx (cnA lo hi) (8 + 2 * (t + 1)) (ent Pb i) := vtx_keep v1 hk.1 hk.2
  have z1 : (lg_cmp (ov i) (0 : Int64) = (0 : Int32)) ↔ ev (cnA lo hi (8 + 2 * t)) (ent Pb i) = 0 := by rw [lg_cmp_eq, i64_ne0, hov i hin]
  have z2 : (lg_cmp (un i) (0 : Int64) = (0 : Int32)) ↔ ev (cnA lo hi (8 + 2 * t + 1)) (ent Pb i) = 0 := by rw [lg_cmp_eq, i64_ne0, hun i hin]
  have go : ∀ met : Int32, (∀ k, k < 32 → hb met k = (hb (Lb i) k || ((hb fb k && decide (ev (cnA lo hi (8 + 2 * t)) (ent Pb i) = 0)) || (hb tb k && decide (ev (cnA lo hi (8 + 2 * t + 1)) (ent Pb i) = 0))))) →
      ∃ P', f_X0_add K (8 * roomOf (t + 1)) (roomOf (t + 1)) 8 (nI (roomOf (t + 1))) (nI n) P L m' met = some (nI (n + 1), P', upd L n met) ∧ bld lo hi (t + 1) (n + 1) P' (upd L n met) ∧ (∀ e, e < n → ∀ w, w < 8 → ent P' e w = ent P e w) ∧ prop8 (ent Pb i) (ent P' n) := fun met hm =>
    f_addv hK (by have := hc.1; omega) hbl q1 hvk hn (lims_ext v3 hbt hm)
  unfold f_X0_keep
  rw [p1, Option.bind_some, if_neg (nI_in (show i < roomOf t by omega) (by omega)), if_neg (nI_in (show i < roomOf t by omega) (by omega)), nI_clamp (by omega)]
  by_cases h1 : ev (cnA lo hi (8 + 2 * t)) (ent Pb i) = 0
  · by_cases h2 : ev (cnA lo hi (8 + 2 * t + 1)) (ent Pb i) = 0
    · obtain ⟨P', a, b⟩ := go ((Lb i ||| fb) ||| tb) (fun k _ => by rw [hb_or, hb_or]; simp [h1, h2, Bool.or_assoc])
      refine ⟨P', (Lb i ||| fb) ||| tb, m', ?_, b⟩
      rw [if_pos (z1.mpr h1), if_neg (show ¬ (nI i < 0 ∨ roomOf t ≤ i) from fun h => by
        rcases h with h | h
        · exact nI_pos (by omega) h
        · omega), if_pos (z2.mpr h2), a]; rfl
    · obtain ⟨P', a, b⟩ := go ((Lb i ||| fb) ||| 0) (fun k _ => by rw [hb_or, hb_or, hb_zero]; simp [h1, h2])
      refine ⟨P', (Lb i ||| fb) ||| 0, m', ?_, b⟩
      rw [if_pos (z1.mpr h1), if_neg (show ¬ (nI i < 0 ∨ roomOf t ≤ i) from fun h => by
        rcases h with h | h
        · exact nI_pos (by omega) h
        · omega), if_neg (fun h => h2 (z2.mp h)), a]; rfl
  · by_cases h2 : ev (cnA lo hi (8 + 2 * t + 1)) (ent Pb i) = 0
    · obtain ⟨P', a, b⟩ := go ((Lb i ||| 0) ||| tb) (fun k _ => by rw [hb_or, hb_or, hb_zero]; simp [h1, h2])
      refine ⟨P', (Lb i ||| 0) ||| tb, m', ?_, b⟩
      rw [if_neg (fun h => h1 (z1.mp h)), if_neg (show ¬ (nI i < 0 ∨ roomOf t ≤ i) from fun h => by
        rcases h with h | h
        · exact nI_pos (by omega) h
        · omega), if_pos (z2.mpr h2), a]; rfl
    · obtain ⟨P', a, b⟩ := go ((Lb i ||| 0) ||| 0) (fun k _ => by rw [hb_or, hb_or, hb_zero]; simp [h1, h2])
      refine ⟨P', (Lb i ||| 0) ||| 0, m', ?_, b⟩
      rw [if_neg (fun h => h1 (z1.mp h)), if_neg (show ¬ (nI i < 0 ∨ roomOf t ≤ i) from fun h => by
        rcases h with h | h
        · exact nI_pos (by omega) h
        · omega), if_neg (fun h => h2 (z2.mp h)), a]; rfl
theorem f_keepall {lo hi : Nat → Nat → Int} {t nb K : Nat} {X Y F T fb tb : Int32} {Pb P0 m0 ov un : Nat → Int64} {Lb L0 : Nat → Int32} (hK : 1000 ≤ K) (hc : cctx lo hi t X Y F T nb Pb Lb) (hbt : bitsAt t fb tb) (hov : slOK lo hi nb Pb ov (8 + 2 * t)) (hun : slOK lo hi nb Pb un (8 + 2 * t + 1)) :
    ∃ r, lp (f_X0_cut_L20 K (8 * roomOf (t + 1)) (roomOf (t + 1)) 8 (8 * roomOf t) (roomOf t) (roomOf t) (roomOf t) fb tb (nI (roomOf (t + 1))) (nI nb) Pb Lb ov un) K ((0 : Int32), (0 : Int32), P0, L0, m0) = some r ∧ ∃ n P L m, r = (nI n, P, L, m) ∧ cInv lo hi t nb (ent Pb) (fun j => j < nb) (fun _ _ _ => False) n P L := by
  have hnb := room_le (by have := hc.1; omega) hc.2.2.1.1
  have hr := roomOf_le t
  refine lp_loop (f := f_X0_cut_L20 K (8 * roomOf (t + 1)) (roomOf (t + 1)) 8 (8 * roomOf t) (roomOf t) (roomOf t) (roomOf t) fb tb (nI (roomOf (t + 1))) (nI nb) Pb Lb ov un)
    (fun i st => i ≤ nb ∧ ∃ n P L m, st = (nI i, nI n, P, L, m) ∧ cInv lo hi t nb (ent Pb) (fun j => j < i) (fun _ _ _ => False) n P L) nb _ ?_ K 0 _
    ⟨Nat.zero_le _, 0, P0, L0, m0, rfl, ⟨fun i h => absurd h (Nat.not_lt_zero i), fun i j h => absurd h (Nat.not_lt_zero i)⟩, fun e h => absurd h (Nat.not_lt_zero e), fun j _ h => absurd h (Nat.not_lt_zero j), fun _ _ _ h => absurd h id⟩ (by omega)
  intro i st hI
  obtain ⟨hi', n, P, L, m, rfl, hinv⟩ := hI
  unfold f_X0_cut_L20
  simp only
  by_cases e : i = nb
  · subst e
    rw [if_pos (nI_le (Nat.le_refl i) (by omega))]
    exact Or.inl ⟨_, rfl, n, P, L, m, rfl, hinv⟩
  · have hin : i < nb := by omega
    have z1 : (lg_cmp (ov i) (0 : Int64) < (0 : Int32)) ↔ ev (cnA lo hi (8 + 2 * t)) (ent Pb i) < 0 := by rw [lg_cmp_lt, Int64.lt_iff_toInt_lt, hov i hin, i64_z]
    have z2 : (lg_cmp (un i) (0 : Int64) < (0 : Int32)) ↔ ev (cnA lo hi (8 + 2 * t + 1)) (ent Pb i) < 0 := by rw [lg_cmp_lt, Int64.lt_iff_toInt_lt, hun i hin, i64_z]
    rw [if_neg (nI_ge hin (by omega)), if_neg (nI_in (show i < roomOf t by omega) (by omega)), nI_clamp (by omega)]
    by_cases h1 : ev (cnA lo hi (8 + 2 * t)) (ent Pb i) < 0
    · rw [if_pos (z1.mpr h1), nI_1]
      refine Or.inr ⟨hin, _, rfl, by omega, n, P, L, m, rfl, cInv_mono hinv (fun j _ => ⟨fun h => Nat.lt_succ_of_lt h, fun h => ?_⟩) (fun _ _ _ _ => Iff.rfl)⟩
      by_cases ej : j = i
      · right; rw [ej]; exact fun h => by omega
      · left; omega
    · rw [if_neg (fun h => h1 (z1.mp h)), if_neg (show ¬ (nI i < 0 ∨ roomOf t ≤ i) from fun h => by
        rcases h with h | h
        · exact nI_pos (by omega) h
        · omega)]
      by_cases h2 : ev (cnA lo hi (8 + 2 * t + 1)) (ent Pb i) < 0
      · rw [if_pos (z2.mpr h2), nI_1]
        refine Or.inr ⟨hin, _, rfl, by omega, n, P, L, m, rfl, cInv_mono hinv (fun j _ => ⟨fun h => Nat.lt_succ_of_lt h, fun h => ?_⟩) (fun _ _ _ _ => Iff.rfl)⟩
        by_cases ej : j = i
        · right; rw [ej]; exact fun h => by omega
        · left; omega
      · rw [if_neg (fun h => h2 (z2.mp h))]
        obtain ⟨P', met, m', a, b, c, d⟩ := f_keep (m := m) hK hc hbt hov hun hin ⟨by omega, by omega⟩ hinv.1 (fun e he hp => by
          rcases hinv.2.1 e he with ⟨j, hj, hk, hpj⟩ | ⟨_, _, _, hD, _⟩
          · exact hc.2.2.1.1.2 j i hj hin (by omega) (prop8_trans hpj hp)
          · exact hD)
        rw [a, Option.bind_some, nI_1]
        refine Or.inr ⟨hin, _, rfl, by omega, n + 1, P', _, m', rfl, cInv_add hinv b c d (fun j h => Nat.lt_succ_of_lt h) (fun _ _ _ h => h) (Or.inl ⟨i, hin, Nat.lt_succ_self i, prop8_refl _⟩) (fun j _ h => ?_) (fun _ _ _ h => absurd h id)⟩
        by_cases ej : j = i
        · right; rw [ej]; exact prop8_refl _
        · left; omega
def DD (D0 : Nat → Nat → Nat → Prop) (M p q : Nat) : Nat → Nat → Nat → Prop := fun M' p' q' => D0 M' p' q' ∨ (M' = M ∧ (p' < p ∨ (p' = p ∧ q' < q)))
theorem f_crossrow_o {lo hi : Nat → Nat → Int} {t nb n K M p : Nat} {X Y F T met : Int32} {Pb P m sl : Nat → Int64} {Lb L : Nat → Int32} {D0 : Nat → Nat → Nat → Prop} (hK : 1000 ≤ K) (hc : cctx lo hi t X Y F T nb Pb Lb) (hsl : slOK lo hi nb Pb sl M) (hM : M = 8 + 2 * t ∨ M = 8 + 2 * t + 1)
    (hmet : ∀ p q, isX (cnA lo hi) (8 + 2 * t) nb (ent Pb) M p q → lims lo hi (t + 1) ((Lb p &&& Lb q) ||| met) (cv (cnA lo hi) M (ent Pb) p q)) (hD0 : ∀ M' p' q', D0 M' p' q' → isX (cnA lo hi) (8 + 2 * t) nb (ent Pb) M' p' q' → ∀ p q, isX (cnA lo hi) (8 + 2 * t) nb (ent Pb) M p q → ¬ prop8 (cv (cnA lo hi) M' (ent Pb) p' q') (cv (cnA lo hi) M (ent Pb) p q)) (hD0M : ∀ M' p' q', D0 M' p' q' → M' ≠ M)
    (hp : p < nb) (hinv : cInv lo hi t nb (ent Pb) (fun j => j < nb) (DD D0 M p 0) n P L) :
    ∃ r, lp (f_X0_addCrossings_o_L15 K (8 * roomOf (t + 1)) (roomOf (t + 1)) 8 (8 * roomOf t) (roomOf t) (roomOf t) (nI (roomOf (t + 1))) (nI nb) Pb Lb sl met (nI p)) K ((0 : Int32), nI n, P, L, m) = some r ∧ ∃ n P L m, r = (nI n, P, L, m) ∧ cInv lo hi t nb (ent Pb) (fun j => j < nb) (DD D0 M (p + 1) 0) n P L := by
  have hnb := room_le (by have := hc.1; omega) hc.2.2.1.1
  have hr := roomOf_le t
  have ha := cnA_coords lo hi t
  have hV : ∀ i, i < nb → vtx (cnA lo hi) (8 + 2 * t) (ent Pb i) := fun i hi' => (hc.2.2.1.1.1 i hi').1
  refine lp_loop (f := f_X0_addCrossings_o_L15 K (8 * roomOf (t + 1)) (roomOf (t + 1)) 8 (8 * roomOf t) (roomOf t) (roomOf t) (nI (roomOf (t + 1))) (nI nb) Pb Lb sl met (nI p))
    (fun q st => q ≤ nb ∧ ∃ n P L m, st = (nI q, nI n, P, L, m) ∧ cInv lo hi t nb (ent Pb) (fun j => j < nb) (DD D0 M p q) n P L) nb _ ?_ K 0 _ ⟨Nat.zero_le _, n, P, L, m, rfl, hinv⟩ (by omega)
  intro q st hI
  obtain ⟨hq', n, P, L, m, rfl, hinv⟩ := hI
  unfold f_X0_addCrossings_o_L15
  simp only
  by_cases e : q = nb
  · subst e
    rw [if_pos (nI_le (Nat.le_refl q) (by omega))]
    refine Or.inl ⟨_, rfl, n, P, L, m, rfl, cInv_mono hinv (fun j _ => ⟨fun h => h, fun h => Or.inl h⟩) (fun M' p' q' hX => ?_)⟩
    have hq := hX.2.2.1
    unfold DD
    constructor
    · rintro (h | ⟨h1, h2⟩)
      · exact Or.inl h
      · exact Or.inr ⟨h1, by omega⟩
    · rintro (h | ⟨h1, h2⟩)
      · exact Or.inl h
      · exact Or.inr ⟨h1, by omega⟩
  · have hq : q < nb := by omega
    have z1 : ((0 : Int32) ≤ lg_cmp (sl p) (0 : Int64)) ↔ 0 ≤ ev (cnA lo hi M) (ent Pb p) := by rw [lg_cmp_ge, Int64.le_iff_toInt_le, hsl p hp, i64_z]
    have z2 : (lg_cmp (sl q) (0 : Int64) ≤ (0 : Int32)) ↔ ev (cnA lo hi M) (ent Pb q) ≤ 0 := by rw [lg_cmp_le, Int64.le_iff_toInt_le, hsl q hq, i64_z]
    rw [if_neg (nI_ge hq (by omega)), if_neg (nI_in (show p < roomOf t by omega) (by omega)), nI_clamp (show p < 2 ^ 31 by omega)]
    by_cases h1 : 0 ≤ ev (cnA lo hi M) (ent Pb p)
    · rw [if_pos (z1.mpr h1)]
      refine Or.inl ⟨_, rfl, n, P, L, m, rfl, cInv_mono hinv (fun j _ => ⟨fun h => h, fun h => Or.inl h⟩) (fun M' p' q' hX => ?_)⟩
      unfold DD
      constructor
      · rintro (h | ⟨h2, h3⟩)
        · exact Or.inl h
        · exact Or.inr ⟨h2, by omega⟩
      · rintro (h | ⟨h2, h3⟩)
        · exact Or.inl h
        · refine Or.inr ⟨h2, ?_⟩
          have hne : p' ≠ p := fun e => by
            have := hX.2.2.2.1
            rw [e, h2] at this; omega
          omega
    · have skip : ¬ (isX (cnA lo hi) (8 + 2 * t) nb (ent Pb) M p q) → cInv lo hi t nb (ent Pb) (fun j => j < nb) (DD D0 M p (q + 1)) n P L := fun hno => cInv_mono hinv (fun j _ => ⟨fun h => h, fun h => Or.inl h⟩) (fun M' p' q' hX => by
        unfold DD
        constructor
        · rintro (h | ⟨h2, h3⟩)
          · exact Or.inl h
          · exact Or.inr ⟨h2, by omega⟩
        · rintro (h | ⟨h2, h3⟩)
          · exact Or.inl h
          · refine Or.inr ⟨h2, ?_⟩
            have hne : ¬ (p' = p ∧ q' = q) := fun e => hno (by rw [← e.1, ← e.2, ← h2]; exact hX)
            omega)
      rw [if_neg (fun h => h1 (z1.mp h)), if_neg (nI_in (show q < roomOf t by omega) (by omega)), nI_clamp (show q < 2 ^ 31 by omega)]
      by_cases h2 : ev (cnA lo hi M) (ent Pb q) ≤ 0
      · rw [if_pos (z2.mpr h2), nI_1]
        exact Or.inr ⟨hq, _, rfl, by omega, n, P, L, m, rfl, skip fun hX => by have := hX.2.2.2.2.1; omega⟩
      · rw [if_neg (fun h => h2 (z2.mp h))]
        have hpq : p ≠ q := fun e => by rw [e] at h1; omega
        rcases edge_iff (K := K) (by have := hc.1; omega) hc.2.2.1 (by omega) hnb hp hq hpq with ⟨g1, g2⟩ | ⟨g1, g2⟩
        · have hX : isX (cnA lo hi) (8 + 2 * t) nb (ent Pb) M p q := ⟨hM, hp, hq, by omega, by omega, g2⟩
          have s1 := cctx_slack hc hM hp
          have s2 := cctx_slack hc hM hq
          have hneg : (-(sl p)).toInt = -ev (cnA lo hi M) (ent Pb p) := by rw [q64_neg (by rw [hsl p hp]; exact wthn_mono s1 (by decide)), hsl p hp]
          unfold wthn at s1 s2
          obtain ⟨m', a1, a2⟩ := f_mix (P := Pb) (m0 := m) (np := 8 * roomOf t) (p := p) (q := q) (tp := sl q) (tq := -(sl p)) (K := K) (by omega) (by omega) (by omega) (by omega) (by rw [hsl q hq]; omega) (by rw [hneg]; omega) (cctx_ent hc hp) (cctx_ent hc hq)
          have a2' : ∀ w, w < 8 → (m' w).toInt = cv (cnA lo hi) M (ent Pb) p q w := fun w hw => by rw [a2 w hw, hsl q hq, hneg]; rfl
          obtain ⟨P', b1, b2, b3, b4⟩ := f_addv (K := K) (P := P) (L := L) (m := m') hK (by have := hc.1; omega) hinv.1 a2' (cv_vtx hc.2.1 hV hX) (fun e he hpe => by
            rcases hinv.2.1 e he with ⟨j, hj, hk, hpj⟩ | ⟨M', p', q', hD, hX', hpc⟩
            · exact cv_notold ha hV hX (hV j hj) (prop8_trans hpj hpe)
            · rcases hD with h | ⟨h3, h4⟩
              · exact hD0 M' p' q' h hX' p q hX (prop8_trans hpc hpe)
              · subst h3
                have := cv_same ha hV hc.2.2.1.1.2 hX' hX (prop8_trans hpc hpe)
                omega) (hmet p q hX)
          rw [g1, Option.bind_some, if_neg (by decide), if_neg (show ¬ (nI q < 0 ∨ roomOf t ≤ q) from fun h => by
            rcases h with h | h
            · exact nI_pos (by omega) h
            · omega), if_neg (show ¬ (nI p < 0 ∨ roomOf t ≤ p) from fun h => by
            rcases h with h | h
            · exact nI_pos (by omega) h
            · omega), a1, Option.bind_some, if_neg (show ¬ (nI p < 0 ∨ roomOf t ≤ p) from fun h => by
            rcases h with h | h
            · exact nI_pos (by omega) h
            · omega), if_neg (show ¬ (nI q < 0 ∨ roomOf t ≤ q) from fun h => by
            rcases h with h | h
            · exact nI_pos (by omega) h
            · omega), b1, Option.bind_some, nI_1]
          refine Or.inr ⟨hq, _, rfl, by omega, n + 1, P', _, m', rfl, cInv_add hinv b2 b3 b4 (fun j h => h) (fun M' p' q' h => ?_) (Or.inr ⟨M, p, q, Or.inr ⟨rfl, Or.inr ⟨rfl, by omega⟩⟩, hX, prop8_refl _⟩) (fun j _ h => Or.inl h) (fun M' p' q' h hX' => ?_)⟩
          · rcases h with h | ⟨h3, h4⟩
            · exact Or.inl h
            · exact Or.inr ⟨h3, by omega⟩
          · rcases h with h | ⟨h3, h4⟩
            · exact Or.inl (Or.inl h)
            · by_cases epq : p' = p ∧ q' = q
              · right; rw [h3, epq.1, epq.2]; exact prop8_refl _
              · exact Or.inl (Or.inr ⟨h3, by omega⟩)
        · rw [g1, Option.bind_some, if_pos rfl, nI_1]
          exact Or.inr ⟨hq, _, rfl, by omega, n, P, L, m, rfl, skip fun hX => g2 hX.2.2.2.2.2⟩
theorem f_crossall_o {lo hi : Nat → Nat → Int} {t nb n K M : Nat} {X Y F T met : Int32} {Pb P m sl : Nat → Int64} {Lb L : Nat → Int32} {D0 : Nat → Nat → Nat → Prop} (hK : 1000 ≤ K) (hc : cctx lo hi t X Y F T nb Pb Lb) (hsl : slOK lo hi nb Pb sl M) (hM : M = 8 + 2 * t ∨ M = 8 + 2 * t + 1)
    (hmet : ∀ p q, isX (cnA lo hi) (8 + 2 * t) nb (ent Pb) M p q → lims lo hi (t + 1) ((Lb p &&& Lb q) ||| met) (cv (cnA lo hi) M (ent Pb) p q)) (hD0 : ∀ M' p' q', D0 M' p' q' → isX (cnA lo hi) (8 + 2 * t) nb (ent Pb) M' p' q' → ∀ p q, isX (cnA lo hi) (8 + 2 * t) nb (ent Pb) M p q → ¬ prop8 (cv (cnA lo hi) M' (ent Pb) p' q') (cv (cnA lo hi) M (ent Pb) p q)) (hD0M : ∀ M' p' q', D0 M' p' q' → M' ≠ M)
    (hinv : cInv lo hi t nb (ent Pb) (fun j => j < nb) D0 n P L) :
    ∃ n' P' L' m', f_X0_addCrossings_o K (8 * roomOf (t + 1)) (roomOf (t + 1)) 8 (8 * roomOf t) (roomOf t) (roomOf t) (nI (roomOf (t + 1))) (nI n) P L m (nI nb) Pb Lb sl met = some (nI n', P', L', m') ∧ cInv lo hi t nb (ent Pb) (fun j => j < nb) (fun M' p' q' => D0 M' p' q' ∨ M' = M) n' P' L' := by
  have hnb := room_le (by have := hc.1; omega) hc.2.2.1.1
  have hr := roomOf_le t
  obtain ⟨r, h1, n', P', L', m', rfl, h2⟩ := lp_loop (f := f_X0_addCrossings_o_L3 K (8 * roomOf (t + 1)) (roomOf (t + 1)) 8 (8 * roomOf t) (roomOf t) (roomOf t) (nI (roomOf (t + 1))) (nI nb) Pb Lb sl met)
    (fun p st => p ≤ nb ∧ ∃ n P L m, st = (nI p, nI n, P, L, m) ∧ cInv lo hi t nb (ent Pb) (fun j => j < nb) (DD D0 M p 0) n P L) nb (fun r => ∃ n P L m, r = (nI n, P, L, m) ∧ cInv lo hi t nb (ent Pb) (fun j => j < nb) (fun M' p' q' => D0 M' p' q' ∨ M' = M) n P L) (fun p st hI => by
      obtain ⟨hp', n, P, L, m, rfl, hinv⟩ := hI
      unfold f_X0_addCrossings_o_L3
      simp only
      by_cases e : p = nb
      · subst e
        rw [if_pos (nI_le (Nat.le_refl p) (by omega))]
        refine Or.inl ⟨_, rfl, n, P, L, m, rfl, cInv_mono hinv (fun j _ => ⟨fun h => h, fun h => Or.inl h⟩) (fun M' p' q' hX => ?_)⟩
        have := hX.2.1
        unfold DD
        constructor
        · rintro (h | ⟨h1, h2⟩)
          · exact Or.inl h
          · exact Or.inr h1
        · rintro (h | h1)
          · exact Or.inl h
          · exact Or.inr ⟨h1, Or.inl this⟩
      · obtain ⟨r, a1, n2, P2, L2, m2, rfl, a2⟩ := f_crossrow_o (m := m) hK hc hsl hM hmet hD0 hD0M (show p < nb by omega) hinv
        rw [if_neg (nI_ge (show p < nb by omega) (by omega)), a1, Option.bind_some, nI_1]
        exact Or.inr ⟨by omega, _, rfl, by omega, n2, P2, L2, m2, rfl, a2⟩) K 0 ((0 : Int32), nI n, P, L, m) ⟨Nat.zero_le _, n, P, L, m, rfl, cInv_mono hinv (fun j _ => ⟨fun h => h, fun h => Or.inl h⟩) (fun M' p' q' hX => by
        unfold DD
        constructor
        · exact fun h => Or.inl h
        · rintro (h | ⟨h1, h2⟩)
          · exact h
          · omega)⟩ (by omega)
  exact ⟨n', P', L', m', by unfold f_X0_addCrossings_o; rw [h1]; rfl, h2⟩
theorem f_crossrow_u {lo hi : Nat → Nat → Int} {t nb n K M p : Nat} {X Y F T met : Int32} {Pb P m sl : Nat → Int64} {Lb L : Nat → Int32} {D0 : Nat → Nat → Nat → Prop} (hK : 1000 ≤ K) (hc : cctx lo hi t X Y F T nb Pb Lb) (hsl : slOK lo hi nb Pb sl M) (hM : M = 8 + 2 * t ∨ M = 8 + 2 * t + 1)
    (hmet : ∀ p q, isX (cnA lo hi) (8 + 2 * t) nb (ent Pb) M p q → lims lo hi (t + 1) ((Lb p &&& Lb q) ||| met) (cv (cnA lo hi) M (ent Pb) p q)) (hD0 : ∀ M' p' q', D0 M' p' q' → isX (cnA lo hi) (8 + 2 * t) nb (ent Pb) M' p' q' → ∀ p q, isX (cnA lo hi) (8 + 2 * t) nb (ent Pb) M p q → ¬ prop8 (cv (cnA lo hi) M' (ent Pb) p' q') (cv (cnA lo hi) M (ent Pb) p q)) (hD0M : ∀ M' p' q', D0 M' p' q' → M' ≠ M)
    (hp : p < nb) (hinv : cInv lo hi t nb (ent Pb) (fun j => j < nb) (DD D0 M p 0) n P L) :
    ∃ r, lp (f_X0_addCrossings_u_L15 K (8 * roomOf (t + 1)) (roomOf (t + 1)) 8 (8 * roomOf t) (roomOf t) (roomOf t) (nI (roomOf (t + 1))) (nI nb) Pb Lb sl met (nI p)) K ((0 : Int32), nI n, P, L, m) = some r ∧ ∃ n P L m, r = (nI n, P, L, m) ∧ cInv lo hi t nb (ent Pb) (fun j => j < nb) (DD D0 M (p + 1) 0) n P L := by
  have hnb := room_le (by have := hc.1; omega) hc.2.2.1.1
  have hr := roomOf_le t
  have ha := cnA_coords lo hi t
  have hV : ∀ i, i < nb → vtx (cnA lo hi) (8 + 2 * t) (ent Pb i) := fun i hi' => (hc.2.2.1.1.1 i hi').1
  refine lp_loop (f := f_X0_addCrossings_u_L15 K (8 * roomOf (t + 1)) (roomOf (t + 1)) 8 (8 * roomOf t) (roomOf t) (roomOf t) (nI (roomOf (t + 1))) (nI nb) Pb Lb sl met (nI p))
    (fun q st => q ≤ nb ∧ ∃ n P L m, st = (nI q, nI n, P, L, m) ∧ cInv lo hi t nb (ent Pb) (fun j => j < nb) (DD D0 M p q) n P L) nb _ ?_ K 0 _ ⟨Nat.zero_le _, n, P, L, m, rfl, hinv⟩ (by omega)
  intro q st hI
  obtain ⟨hq', n, P, L, m, rfl, hinv⟩ := hI
  unfold f_X0_addCrossings_u_L15
  simp only
  by_cases e : q = nb
  · subst e
    rw [if_pos (nI_le (Nat.le_refl q) (by omega))]
    refine Or.inl ⟨_, rfl, n, P, L, m, rfl, cInv_mono hinv (fun j _ => ⟨fun h => h, fun h => Or.inl h⟩) (fun M' p' q' hX => ?_)⟩
    have hq := hX.2.2.1
    unfold DD
    constructor
    · rintro (h | ⟨h1, h2⟩)
      · exact Or.inl h
      · exact Or.inr ⟨h1, by omega⟩
    · rintro (h | ⟨h1, h2⟩)
      · exact Or.inl h
      · exact Or.inr ⟨h1, by omega⟩
  · have hq : q < nb := by omega
    have z1 : ((0 : Int32) ≤ lg_cmp (sl p) (0 : Int64)) ↔ 0 ≤ ev (cnA lo hi M) (ent Pb p) := by rw [lg_cmp_ge, Int64.le_iff_toInt_le, hsl p hp, i64_z]
    have z2 : (lg_cmp (sl q) (0 : Int64) ≤ (0 : Int32)) ↔ ev (cnA lo hi M) (ent Pb q) ≤ 0 := by rw [lg_cmp_le, Int64.le_iff_toInt_le, hsl q hq, i64_z]
    rw [if_neg (nI_ge hq (by omega)), if_neg (nI_in (show p < roomOf t by omega) (by omega)), nI_clamp (show p < 2 ^ 31 by omega)]
    by_cases h1 : 0 ≤ ev (cnA lo hi M) (ent Pb p)
    · rw [if_pos (z1.mpr h1)]
      refine Or.inl ⟨_, rfl, n, P, L, m, rfl, cInv_mono hinv (fun j _ => ⟨fun h => h, fun h => Or.inl h⟩) (fun M' p' q' hX => ?_)⟩
      unfold DD
      constructor
      · rintro (h | ⟨h2, h3⟩)
        · exact Or.inl h
        · exact Or.inr ⟨h2, by omega⟩
      · rintro (h | ⟨h2, h3⟩)
        · exact Or.inl h
        · refine Or.inr ⟨h2, ?_⟩
          have hne : p' ≠ p := fun e => by
            have := hX.2.2.2.1
            rw [e, h2] at this; omega
          omega
    · have skip : ¬ (isX (cnA lo hi) (8 + 2 * t) nb (ent Pb) M p q) → cInv lo hi t nb (ent Pb) (fun j => j < nb) (DD D0 M p (q + 1)) n P L := fun hno => cInv_mono hinv (fun j _ => ⟨fun h => h, fun h => Or.inl h⟩) (fun M' p' q' hX => by
        unfold DD
        constructor
        · rintro (h | ⟨h2, h3⟩)
          · exact Or.inl h
          · exact Or.inr ⟨h2, by omega⟩
        · rintro (h | ⟨h2, h3⟩)
          · exact Or.inl h
          · refine Or.inr ⟨h2, ?_⟩
            have hne : ¬ (p' = p ∧ q' = q) := fun e => hno (by rw [← e.1, ← e.2, ← h2]; exact hX)
            omega)
      rw [if_neg (fun h => h1 (z1.mp h)), if_neg (nI_in (show q < roomOf t by omega) (by omega)), nI_clamp (show q < 2 ^ 31 by omega)]
      by_cases h2 : ev (cnA lo hi M) (ent Pb q) ≤ 0
      · rw [if_pos (z2.mpr h2), nI_1]
        exact Or.inr ⟨hq, _, rfl, by omega, n, P, L, m, rfl, skip fun hX => by have := hX.2.2.2.2.1; omega⟩
      · rw [if_neg (fun h => h2 (z2.mp h))]
        have hpq : p ≠ q := fun e => by rw [e] at h1; omega
        rcases edge_iff (K := K) (by have := hc.1; omega) hc.2.2.1 (by omega) hnb hp hq hpq with ⟨g1, g2⟩ | ⟨g1, g2⟩
        · have hX : isX (cnA lo hi) (8 + 2 * t) nb (ent Pb) M p q := ⟨hM, hp, hq, by omega, by omega, g2⟩
          have s1 := cctx_slack hc hM hp
          have s2 := cctx_slack hc hM hq
          have hneg : (-(sl p)).toInt = -ev (cnA lo hi M) (ent Pb p) := by rw [q64_neg (by rw [hsl p hp]; exact wthn_mono s1 (by decide)), hsl p hp]
          unfold wthn at s1 s2
          obtain ⟨m', a1, a2⟩ := f_mix (P := Pb) (m0 := m) (np := 8 * roomOf t) (p := p) (q := q) (tp := sl q) (tq := -(sl p)) (K := K) (by omega) (by omega) (by omega) (by omega) (by rw [hsl q hq]; omega) (by rw [hneg]; omega) (cctx_ent hc hp) (cctx_ent hc hq)
          have a2' : ∀ w, w < 8 → (m' w).toInt = cv (cnA lo hi) M (ent Pb) p q w := fun w hw => by rw [a2 w hw, hsl q hq, hneg]; rfl
          obtain ⟨P', b1, b2, b3, b4⟩ := f_addv (K := K) (P := P) (L := L) (m := m') hK (by have := hc.1; omega) hinv.1 a2' (cv_vtx hc.2.1 hV hX) (fun e he hpe => by
            rcases hinv.2.1 e he with ⟨j, hj, hk, hpj⟩ | ⟨M', p', q', hD, hX', hpc⟩
            · exact cv_notold ha hV hX (hV j hj) (prop8_trans hpj hpe)
            · rcases hD with h | ⟨h3, h4⟩
              · exact hD0 M' p' q' h hX' p q hX (prop8_trans hpc hpe)
              · subst h3
                have := cv_same ha hV hc.2.2.1.1.2 hX' hX (prop8_trans hpc hpe)
                omega) (hmet p q hX)
          rw [g1, Option.bind_some, if_neg (by decide), if_neg (show ¬ (nI q < 0 ∨ roomOf t ≤ q) from fun h => by
            rcases h with h | h
            · exact nI_pos (by omega) h
            · omega), if_neg (show ¬ (nI p < 0 ∨ roomOf t ≤ p) from fun h => by
            rcases h with h | h
            · exact nI_pos (by omega) h
            · omega), a1, Option.bind_some, if_neg (show ¬ (nI p < 0 ∨ roomOf t ≤ p) from fun h => by
            rcases h with h | h
            · exact nI_pos (by omega) h
            · omega), if_neg (show ¬ (nI q < 0 ∨ roomOf t ≤ q) from fun h => by
            rcases h with h | h
            · exact nI_pos (by omega) h
            · omega), b1, Option.bind_some, nI_1]
          refine Or.inr ⟨hq, _, rfl, by omega, n + 1, P', _, m', rfl, cInv_add hinv b2 b3 b4 (fun j h => h) (fun M' p' q' h => ?_) (Or.inr ⟨M, p, q, Or.inr ⟨rfl, Or.inr ⟨rfl, by omega⟩⟩, hX, prop8_refl _⟩) (fun j _ h => Or.inl h) (fun M' p' q' h hX' => ?_)⟩
          · rcases h with h | ⟨h3, h4⟩
            · exact Or.inl h
            · exact Or.inr ⟨h3, by omega⟩
          · rcases h with h | ⟨h3, h4⟩
            · exact Or.inl (Or.inl h)
            · by_cases epq : p' = p ∧ q' = q
              · right; rw [h3, epq.1, epq.2]; exact prop8_refl _
              · exact Or.inl (Or.inr ⟨h3, by omega⟩)
        · rw [g1, Option.bind_some, if_pos rfl, nI_1]
          exact Or.inr ⟨hq, _, rfl, by omega, n, P, L, m, rfl, skip fun hX => g2 hX.2.2.2.2.2⟩
theorem f_crossall_u {lo hi : Nat → Nat → Int} {t nb n K M : Nat} {X Y F T met : Int32} {Pb P m sl : Nat → Int64} {Lb L : Nat → Int32} {D0 : Nat → Nat → Nat → Prop} (hK : 1000 ≤ K) (hc : cctx lo hi t X Y F T nb Pb Lb) (hsl : slOK lo hi nb Pb sl M) (hM : M = 8 + 2 * t ∨ M = 8 + 2 * t + 1)
    (hmet : ∀ p q, isX (cnA lo hi) (8 + 2 * t) nb (ent Pb) M p q → lims lo hi (t + 1) ((Lb p &&& Lb q) ||| met) (cv (cnA lo hi) M (ent Pb) p q)) (hD0 : ∀ M' p' q', D0 M' p' q' → isX (cnA lo hi) (8 + 2 * t) nb (ent Pb) M' p' q' → ∀ p q, isX (cnA lo hi) (8 + 2 * t) nb (ent Pb) M p q → ¬ prop8 (cv (cnA lo hi) M' (ent Pb) p' q') (cv (cnA lo hi) M (ent Pb) p q)) (hD0M : ∀ M' p' q', D0 M' p' q' → M' ≠ M)
    (hinv : cInv lo hi t nb (ent Pb) (fun j => j < nb) D0 n P L) :
    ∃ n' P' L' m', f_X0_addCrossings_u K (8 * roomOf (t + 1)) (roomOf (t + 1)) 8 (8 * roomOf t) (roomOf t) (roomOf t) (nI (roomOf (t + 1))) (nI n) P L m (nI nb) Pb Lb sl met = some (nI n', P', L', m') ∧ cInv lo hi t nb (ent Pb) (fun j => j < nb) (fun M' p' q' => D0 M' p' q' ∨ M' = M) n' P' L' := by
  have hnb := room_le (by have := hc.1; omega) hc.2.2.1.1
  have hr := roomOf_le t
  obtain ⟨r, h1, n', P', L', m', rfl, h2⟩ := lp_loop (f := f_X0_addCrossings_u_L3 K (8 * roomOf (t + 1)) (roomOf (t + 1)) 8 (8 * roomOf t) (roomOf t) (roomOf t) (nI (roomOf (t + 1))) (nI nb) Pb Lb sl met)
    (fun p st => p ≤ nb ∧ ∃ n P L m, st = (nI p, nI n, P, L, m) ∧ cInv lo hi t nb (ent Pb) (fun j => j < nb) (DD D0 M p 0) n P L) nb (fun r => ∃ n P L m, r = (nI n, P, L, m) ∧ cInv lo hi t nb (ent Pb) (fun j => j < nb) (fun M' p' q' => D0 M' p' q' ∨ M' = M) n P L) (fun p st hI => by
      obtain ⟨hp', n, P, L, m, rfl, hinv⟩ := hI
      unfold f_X0_addCrossings_u_L3
      simp only
      by_cases e : p = nb
      · subst e
        rw [if_pos (nI_le (Nat.le_refl p) (by omega))]
        refine Or.inl ⟨_, rfl, n, P, L, m, rfl, cInv_mono hinv (fun j _ => ⟨fun h => h, fun h => Or.inl h⟩) (fun M' p' q' hX => ?_)⟩
        have := hX.2.1
        unfold DD
        constructor
        · rintro (h | ⟨h1, h2⟩)
          · exact Or.inl h
          · exact Or.inr h1
        · rintro (h | h1)
          · exact Or.inl h
          · exact Or.inr ⟨h1, Or.inl this⟩
      · obtain ⟨r, a1, n2, P2, L2, m2, rfl, a2⟩ := f_crossrow_u (m := m) hK hc hsl hM hmet hD0 hD0M (show p < nb by omega) hinv
        rw [if_neg (nI_ge (show p < nb by omega) (by omega)), a1, Option.bind_some, nI_1]
        exact Or.inr ⟨by omega, _, rfl, by omega, n2, P2, L2, m2, rfl, a2⟩) K 0 ((0 : Int32), nI n, P, L, m) ⟨Nat.zero_le _, n, P, L, m, rfl, cInv_mono hinv (fun j _ => ⟨fun h => h, fun h => Or.inl h⟩) (fun M' p' q' hX => by
        unfold DD
        constructor
        · exact fun h => Or.inl h
        · rintro (h | ⟨h1, h2⟩)
          · exact h
          · omega)⟩ (by omega)
  exact ⟨n', P', L', m', by unfold f_X0_addCrossings_u; rw [h1]; rfl, h2⟩

/-! move, tell, check, pull, count are answered alike -/
theorem okFT_nat {f t : Int32} (h : okFT f t) : ∃ F T, F ≤ T ∧ T ≤ 100 ∧ f = nI F ∧ t = nI T := by
  unfold okFT at h
  have hf : ¬ f < 0 := by rw [Int32.lt_iff_toInt_lt, show (0 : Int32).toInt = 0 from rfl]; omega
  have ht : ¬ t < 0 := by rw [Int32.lt_iff_toInt_lt, show (0 : Int32).toInt = 0 from rfl]; omega
  obtain ⟨F, hF, rfl⟩ := nI_of hf
  obtain ⟨T, hT, rfl⟩ := nI_of ht
  rw [nI_toInt hF, nI_toInt hT] at h
  exact ⟨F, T, by omega, by omega, rfl, rfl⟩
theorem nat_okFT {F T : Nat} (h : F ≤ T) (h2 : T ≤ 100) : okFT (nI F) (nI T) := by
  unfold okFT
  rw [nI_toInt (by omega), nI_toInt (by omega)]
  omega
theorem g_upto (x : Int32) {M : Nat} (hM : M < 2 ^ 31) : (x < 0 ∧ f_X9_in x 0 (nI M) = some 0) ∨ (¬ x < 0 ∧ ¬ x ≤ nI M ∧ f_X9_in x 0 (nI M) = some 0) ∨ (¬ x < 0 ∧ x ≤ nI M ∧ f_X9_in x 0 (nI M) = some 1 ∧ ∃ v, v ≤ M ∧ x = nI v) := by
  unfold f_X9_in
  by_cases h : x < 0
  · exact Or.inl ⟨h, if_pos h⟩
  · refine Or.inr ?_
    obtain ⟨v, hv, rfl⟩ := nI_of h
    rw [if_neg h]
    by_cases h2 : v ≤ M
    · exact Or.inr ⟨h, nI_le h2 hM, if_neg (nI_nlt h2 hM), v, h2, rfl⟩
    · exact Or.inl ⟨h, nI_ge (by omega) hv, if_pos (nI_lt (by omega) hv)⟩
theorem ag_move {n : Nat} {sx sy sf st so s9 : Nat → Int32} {x1 x2 x3 cs il ld : Int32} {up dn : Nat → Int64} (h : SR n sx sy sf st so s9) (hR : RI n s9 cs il ld up dn) : ∃ ans sf' st' il' s9', f_X8_move (nI n) sf st x1 x2 x3 = some (ans, sf', st') ∧ f_X9_move 40 (nI n) il s9 x1 x2 x3 = some (ans, 0, il', s9') ∧ SR n sx sy sf' st' so s9' ∧ RI n s9' cs il' ld up dn := by
  have hn := h.1
  unfold f_X8_move f_X9_move
  rcases g_saying x1 hn with ⟨t1, t2, -⟩ | ⟨t1, t2, i, hi, rfl⟩
  · rw [t1, t2]; exact ⟨_, sf, st, il, s9, rfl, rfl, h, hR⟩
  · obtain ⟨h1, h2, h3, h4, h5, h6, h7⟩ := h.2 i hi
    rw [t1, t2]
    simp only [Option.bind_some, if_neg one_ne]
    rcases g_bit x2 with ⟨t1, t2⟩ | ⟨t1, t2, t3⟩
    · rw [t1, t2]; exact ⟨_, sf, st, il, s9, rfl, rfl, h, hR⟩
    · rw [t1, t2]
      simp only [Option.bind_some, if_neg one_ne]
      rcases g_upto x3 (M := 100) (by decide) with ⟨a1, a2⟩ | ⟨a1, a2, a3⟩ | ⟨a1, a2, a3, v, hv, rfl⟩
      · rw [if_pos a1, show (100 : Int32) = nI 100 from rfl, a2]; exact ⟨_, sf, st, il, s9, rfl, rfl, h, hR⟩
      · rw [if_neg a1, show (100 : Int32) = nI 100 from rfl, if_neg a2, a3]; exact ⟨_, sf, st, il, s9, rfl, rfl, h, hR⟩
      · rw [if_neg a1, show (100 : Int32) = nI 100 from rfl, if_pos a2, a3]
        simp only [Option.bind_some, if_neg one_ne]
        obtain ⟨F, T, hFT, hT, eF, eT⟩ := okFT_nat h6
        have ix : ((5 : Int32) * nI i) + (2 : Int32) = nI (5 * i + 2) := ix5 i 2
        rw [nI_clamp (show i < 2 ^ 31 by omega), ix]
        have hin : ¬ (nI i < 0 ∨ 4 ≤ i) := fun g => by
          rcases g with g | g
          · exact nI_pos (by omega) g
          · omega
        unfold f_X8_moveFrom f_X8_moveTo f_X9_move_J76
        rcases t3 with rfl | rfl
        · have i0 : nI (5 * i + 2) + (0 : Int32) = nI (5 * i + 2) := nI_add _ 0
          have i1 : nI (5 * i + 2) + (1 : Int32) = nI (5 * i + 3) := nI_add _ 1
          rw [if_pos rfl, if_pos rfl, if_neg hin, i0, i1, if_neg (nI_in (show 5 * i + 3 < 40 by omega) (by decide)), nI_clamp (show 5 * i + 3 < 2 ^ 31 by omega), ← h4, eT]
          by_cases hc : v ≤ T
          · rw [if_pos (nI_le hc (by omega)), if_pos (nI_le hc (by omega)), if_neg (nI_in (show 5 * i + 2 < 40 by omega) (by decide)), if_neg (nI_in (show 5 * i + 2 < 40 by omega) (by decide)), nI_clamp (show 5 * i + 2 < 2 ^ 31 by omega), ← h3]
            refine ⟨_, _, _, _, _, rfl, rfl, ⟨hn, fun j hj => ?_⟩, Or.inl rfl⟩
            obtain ⟨g1, g2, g3, g4, g5, g6, g7⟩ := h.2 j hj
            refine ⟨by rw [pk_un (by omega)]; exact g1, by rw [pk_un (by omega)]; exact g2, ?_, by rw [pk_un (by omega)]; exact g4, by rw [pk_un (by omega)]; exact g5, ?_, g7⟩
            · by_cases e : j = i
              · rw [e, va_up_self, pk_us]
              · rw [va_up_ne _ _ e, pk_un (by omega)]; exact g3
            · by_cases e : j = i
              · rw [e, va_up_self, eT]; exact nat_okFT hc hT
              · rw [va_up_ne _ _ e]; exact g6
          · rw [if_neg (nI_ge (show T < v by omega) (by omega)), if_neg (nI_ge (show T < v by omega) (by omega))]
            refine ⟨_, _, _, _, _, rfl, rfl, ⟨hn, fun j hj => ?_⟩, hR⟩
            obtain ⟨g1, g2, g3, g4, g5, g6, g7⟩ := h.2 j hj
            by_cases e : j = i
            · rw [e, va_up_self]; exact h.2 i hi
            · rw [va_up_ne _ _ e]; exact ⟨g1, g2, g3, g4, g5, g6, g7⟩
        · have i0 : nI (5 * i + 2) + (1 : Int32) = nI (5 * i + 3) := nI_add _ 1
          have i1 : nI (5 * i + 3) - (1 : Int32) = nI (5 * i + 2) := nI_pred _
          rw [if_neg one_ne, if_neg one_ne, if_neg hin, i0, i1, if_neg (nI_in (show 5 * i + 2 < 40 by omega) (by decide)), nI_clamp (show 5 * i + 2 < 2 ^ 31 by omega), ← h3, eF]
          by_cases hc : F ≤ v
          · rw [if_pos (nI_le hc (by omega)), if_pos (nI_le hc (by omega)), if_neg (nI_in (show 5 * i + 3 < 40 by omega) (by decide)), if_neg (nI_in (show 5 * i + 3 < 40 by omega) (by decide)), nI_clamp (show 5 * i + 3 < 2 ^ 31 by omega), ← h4]
            refine ⟨_, _, _, _, _, rfl, rfl, ⟨hn, fun j hj => ?_⟩, Or.inl rfl⟩
            obtain ⟨g1, g2, g3, g4, g5, g6, g7⟩ := h.2 j hj
            refine ⟨by rw [pk_un (by omega)]; exact g1, by rw [pk_un (by omega)]; exact g2, by rw [pk_un (by omega)]; exact g3, ?_, by rw [pk_un (by omega)]; exact g5, ?_, g7⟩
            · by_cases e : j = i
              · rw [e, va_up_self, pk_us]
              · rw [va_up_ne _ _ e, pk_un (by omega)]; exact g4
            · by_cases e : j = i
              · rw [e, va_up_self, eF]; exact nat_okFT hc (by omega)
              · rw [va_up_ne _ _ e]; exact g6
          · rw [if_neg (nI_ge (show v < F by omega) (by omega)), if_neg (nI_ge (show v < F by omega) (by omega))]
            refine ⟨_, _, _, _, _, rfl, rfl, ⟨hn, fun j hj => ?_⟩, hR⟩
            obtain ⟨g1, g2, g3, g4, g5, g6, g7⟩ := h.2 j hj
            by_cases e : j = i
            · rw [e, va_up_self]; exact h.2 i hi
            · rw [va_up_ne _ _ e]; exact ⟨g1, g2, g3, g4, g5, g6, g7⟩
def TD (ca ra : Nat → Int32) : Prop := ∀ w, w < 8 → ca w = ra w ∧ ∃ v, v ≤ 1000 ∧ ca w = nI v
theorem ag_tell {ca ra : Nat → Int32} {x1 x2 : Int32} (h : TD ca ra) : ∃ ans ca' ra', f_X8_tell 8 ca x1 x2 = some (ans, ca') ∧ f_X9_tell 8 ra x1 x2 = some (ans, 0, ra') ∧ TD ca' ra' := by
  unfold f_X8_tell f_X9_tell
  rcases g_world x1 with ⟨t1, t2⟩ | ⟨t1, t2, w, hw, rfl⟩
  · rw [t1, t2]; exact ⟨_, ca, ra, rfl, rfl, h⟩
  · rw [t1, t2]
    simp only [Option.bind_some, if_neg one_ne]
    rcases g_upto x2 (M := 1000) (by decide) with ⟨a1, a2⟩ | ⟨a1, a2, a3⟩ | ⟨a1, a2, a3, v, hv, rfl⟩
    · rw [if_pos a1, show (1000 : Int32) = nI 1000 from rfl, a2]; exact ⟨_, ca, ra, rfl, rfl, h⟩
    · rw [if_neg a1, show (1000 : Int32) = nI 1000 from rfl, if_neg a2, a3]; exact ⟨_, ca, ra, rfl, rfl, h⟩
    · rw [if_neg a1, show (1000 : Int32) = nI 1000 from rfl, if_pos a2, a3]
      simp only [Option.bind_some, if_neg one_ne]
      rw [if_neg (nI_in hw (by decide)), if_neg (nI_in hw (by decide)), if_neg (nI_in hw (by decide)), if_neg (nI_in hw (by decide)), nI_clamp (show w < 2 ^ 31 by omega), (h w hw).1]
      refine ⟨_, _, _, rfl, rfl, fun k hk => ?_⟩
      by_cases e : k = w
      · rw [e, pk_us, pk_us]; exact ⟨rfl, v, hv, rfl⟩
      · rw [pk_un e, pk_un e]; exact h k hk
def ts (a : Nat → Int32) (x : Int32) : Nat → Nat
  | 0 => 0
  | k + 1 => ts a x k + if hb x k = true then (a k).toNatClampNeg else 0
theorem ts_le {ca ra : Nat → Int32} (h : TD ca ra) (x : Int32) : ∀ k, k ≤ 8 → ts ca x k ≤ 1000 * k
  | 0, _ => Nat.le_refl 0
  | k + 1, hk => by
    have := ts_le h x k (by omega)
    obtain ⟨-, v, hv, e⟩ := h k (by omega)
    rw [ts, e, nI_clamp (by omega)]
    split <;> omega
theorem f_told {ca ra : Nat → Int32} {K : Nat} (hK : 1000 ≤ K) (h : TD ca ra) (x : Int32) : f_X7_chance K 8 ca x = some (nI (ts ca x 8)) ∧ f_X9_toldOf K 8 ra x = some (nI (ts ca x 8)) := by
  unfold f_X7_chance f_X9_toldOf
  constructor
  · obtain ⟨r, h1, rfl⟩ := lp_loop (f := f_X7_chance_L4 8 ca x) (fun j st => j ≤ 8 ∧ st = (nI (ts ca x j), nI j)) 8 (fun r => r = nI (ts ca x 8)) (fun j st hI => by
      obtain ⟨hj, rfl⟩ := hI
      unfold f_X7_chance_L4
      simp only
      by_cases e : j = 8
      · subst e
        rw [if_pos (show (8 : Int32) ≤ nI 8 from nI_le (Nat.le_refl 8) (by decide))]
        exact Or.inl ⟨_, rfl, rfl⟩
      · have hj8 : j < 8 := by omega
        obtain ⟨-, v, hv, ev'⟩ := h j hj8
        rw [if_neg (show ¬ (8 : Int32) ≤ nI j from nI_ge hj8 (by decide)), f_has x hj8, Option.bind_some, nI_1]
        refine Or.inr ⟨hj8, ?_⟩
        by_cases hb' : hb x j = true
        · rw [if_pos hb', if_neg one_ne, if_neg (nI_in hj8 (by decide)), nI_clamp (by omega), ev', nI_add]
          refine ⟨_, rfl, by omega, ?_⟩
          rw [ts, if_pos hb', ev', nI_clamp (by omega)]
        · rw [if_neg hb', if_pos rfl]
          refine ⟨_, rfl, by omega, ?_⟩
          rw [ts, if_neg hb']; rfl) K 0 (0, 0) ⟨Nat.zero_le _, rfl⟩ (by omega)
    rw [h1]; rfl
  · obtain ⟨r, h1, rfl⟩ := lp_loop (f := f_X9_toldOf_L4 8 ra x) (fun j st => j ≤ 8 ∧ st = (nI (ts ca x j), nI j)) 8 (fun r => r = nI (ts ca x 8)) (fun j st hI => by
      obtain ⟨hj, rfl⟩ := hI
      unfold f_X9_toldOf_L4
      simp only
      by_cases e : j = 8
      · subst e
        rw [if_pos (show (8 : Int32) ≤ nI 8 from nI_le (Nat.le_refl 8) (by decide))]
        exact Or.inl ⟨_, rfl, rfl⟩
      · have hj8 : j < 8 := by omega
        obtain ⟨hr, v, hv, ev'⟩ := h j hj8
        rw [if_neg (show ¬ (8 : Int32) ≤ nI j from nI_ge hj8 (by decide)), hb_shr x hj8, nI_1]
        refine Or.inr ⟨hj8, ?_⟩
        by_cases hb' : hb x j = true
        · rw [if_pos hb', if_pos rfl, if_neg (nI_in hj8 (by decide)), nI_clamp (by omega), ← hr, ev', nI_add]
          refine ⟨_, rfl, by omega, ?_⟩
          rw [ts, if_pos hb', ev', nI_clamp (by omega)]
        · rw [if_neg hb', if_neg (by decide), show nI (ts ca x j) + (0 : Int32) = nI (ts ca x j) from nI_add _ 0]
          refine ⟨_, rfl, by omega, ?_⟩
          rw [ts, if_neg hb']; rfl) K 0 (0, 0) ⟨Nat.zero_le _, rfl⟩ (by omega)
    rw [h1]; rfl
theorem ag_count {K n L : Nat} {sx sy sf st so s9 ca ra : Nat → Int32} {x1 : Int32} (hK : 1000 ≤ K) (h : SR n sx sy sf st so s9) (hT : TD ca ra) : ∃ ans, f_X8_count K 8 (nI n) (nI L) so ca x1 = some ans ∧ f_X9_count K 40 8 (nI L) (nI n) s9 ra x1 = some (ans, 0) := by
  unfold f_X8_count f_X9_count
  by_cases e0 : x1 = 0
  · rw [if_pos e0, if_pos e0]; exact ⟨_, rfl, rfl⟩
  · rw [if_neg e0, if_neg e0]
    by_cases e1 : x1 = 1
    · rw [if_pos e1, if_pos e1]
      obtain ⟨set, p1, p2, p3, -⟩ := f_onSets hK h
      obtain ⟨o, ho, rfl⟩ := set_small h.1 p3
      rw [p1, p2, Option.bind_some, Option.bind_some, f_bc (by omega), f_ones _ (by omega), gbc_small o (by omega)]
      exact ⟨_, rfl, rfl⟩
    · rw [if_neg e1, if_neg e1]
      by_cases e2 : x1 = 2
      · rw [if_pos e2, if_pos e2]; exact ⟨_, rfl, rfl⟩
      · rw [if_neg e2, if_neg e2]
        by_cases e3 : x1 = 3
        · rw [if_pos e3, if_pos e3, (f_told hK hT 255).1, (f_told hK hT 255).2]; exact ⟨_, rfl, rfl⟩
        · rw [if_neg e3, if_neg e3]; exact ⟨_, rfl, rfl⟩
theorem f_whole {ca ra : Nat → Int32} {K : Nat} (hK : 1000 ≤ K) (h : TD ca ra) : (f_X7_isWhole K 8 ca = some 1 ∧ nI (ts ca 255 8) = 1000) ∨ (f_X7_isWhole K 8 ca = some 0 ∧ ¬ nI (ts ca 255 8) = 1000) := by
  unfold f_X7_isWhole
  rw [(f_told hK h 255).1, Option.bind_some]
  by_cases e : nI (ts ca 255 8) = 1000
  · exact Or.inl ⟨if_pos e, e⟩
  · exact Or.inr ⟨if_neg e, e⟩
theorem f_kept {f t : Int32} {a y : Nat} (h : okFT f t) (ha : a ≤ 8000) (hy : y ≤ 8000) : (f_X4_isKeptBy f t (nI a).toInt64 (nI y).toInt64 = some 1 ∧ ¬ (100 : Int32) * nI a < f * nI y ∧ ¬ t * nI y < (100 : Int32) * nI a) ∨ (f_X4_isKeptBy f t (nI a).toInt64 (nI y).toInt64 = some 0 ∧ ((100 : Int32) * nI a < f * nI y ∨ (¬ (100 : Int32) * nI a < f * nI y ∧ t * nI y < (100 : Int32) * nI a))) := by
  obtain ⟨F, T, hFT, hT, rfl, rfl⟩ := okFT_nat h
  have b1 : F * y ≤ 100 * 8000 := Nat.mul_le_mul (by omega) hy
  have b2 : T * y ≤ 100 * 8000 := Nat.mul_le_mul (by omega) hy
  have i64 : ∀ k, k < 2 ^ 31 → (nI k).toInt64.toInt = (k : Int) := fun k hk => by rw [Int32.toInt_toInt64, nI_toInt hk]
  have m1 : ((100 : Int64) * (nI a).toInt64).toInt = 100 * (a : Int) := by
    rw [q64_mul, i64 a (by omega)]
    · rfl
    · rw [i64 a (by omega), show (100 : Int64).toInt = 100 from rfl]; unfold wthn; omega
  have m2 : ∀ c, c * y ≤ 100 * 8000 → c ≤ 100 → ((nI c).toInt64 * (nI y).toInt64).toInt = ((c * y : Nat) : Int) := fun c hc hc2 => by
    have e : (nI c).toInt64.toInt * (nI y).toInt64.toInt = ((c * y : Nat) : Int) := by rw [i64 c (by omega), i64 y (by omega), Int.natCast_mul]
    rw [q64_mul, e]
    rw [e]; unfold wthn; omega
  have s1 : (((100 : Int64) * (nI a).toInt64) - ((nI F).toInt64 * (nI y).toInt64)).toInt = 100 * (a : Int) - ((F * y : Nat) : Int) := by
    rw [q64_sub, m1, m2 F b1 (by omega)]
    rw [m1, m2 F b1 (by omega)]; unfold wthn; omega
  have s2 : (((nI T).toInt64 * (nI y).toInt64) - ((100 : Int64) * (nI a).toInt64)).toInt = ((T * y : Nat) : Int) - 100 * (a : Int) := by
    rw [q64_sub, m1, m2 T b2 (by omega)]
    rw [m1, m2 T b2 (by omega)]; unfold wthn; omega
  have c1 : (lg_cmp (((100 : Int64) * (nI a).toInt64) - ((nI F).toInt64 * (nI y).toInt64)) (0 : Int64) < (0 : Int32)) ↔ 100 * a < F * y := by rw [lg_cmp_lt, Int64.lt_iff_toInt_lt, s1, i64_z]; omega
  have c2 : (lg_cmp (((nI T).toInt64 * (nI y).toInt64) - ((100 : Int64) * (nI a).toInt64)) (0 : Int64) < (0 : Int32)) ↔ T * y < 100 * a := by rw [lg_cmp_lt, Int64.lt_iff_toInt_lt, s2, i64_z]; omega
  have d1 : ((100 : Int32) * nI a < nI F * nI y) ↔ 100 * a < F * y := by
    rw [show (100 : Int32) = nI 100 from rfl, nI_mul, nI_mul]; exact nI_ltI (by omega) (by omega)
  have d2 : (nI T * nI y < (100 : Int32) * nI a) ↔ T * y < 100 * a := by
    rw [show (100 : Int32) = nI 100 from rfl, nI_mul, nI_mul]; exact nI_ltI (by omega) (by omega)
  unfold f_X4_isKeptBy f_X4_overFrom f_X4_underTo
  simp only [Option.bind_some, c1, c2, d1, d2]
  by_cases h1 : 100 * a < F * y
  · exact Or.inr ⟨if_pos h1, Or.inl h1⟩
  · rw [if_neg h1]
    by_cases h2 : T * y < 100 * a
    · exact Or.inr ⟨if_pos h2, Or.inr ⟨h1, h2⟩⟩
    · exact Or.inl ⟨if_neg h2, h1, h2⟩
theorem ag_check {K n : Nat} {sx sy sf st so s9 ca ra : Nat → Int32} (hK : 1000 ≤ K) (h : SR n sx sy sf st so s9) (hT : TD ca ra) : ∃ ans, f_X8_check K 8 (nI n) sx sy sf st so ca = some ans ∧ f_X9_check K 40 8 (nI n) s9 ra = some (ans, 0) := by
  have hn := h.1
  have hTD := fun x => f_told (x := x) hK hT
  unfold f_X8_check f_X9_check
  rw [(hTD 255).2]
  rcases f_whole hK hT with ⟨t1, t2⟩ | ⟨t1, t2⟩
  · rw [t1, Option.bind_some, Option.bind_some, if_neg one_ne, if_pos t2]
    have key : ∀ j, j < n → ∃ q : Bool, (∀ c : Int32, f_X8_check_L16 K 8 (nI n) sx sy sf st so ca (c, nI j) = some (.inr (c + (if q then 1 else 0), nI (j + 1)))) ∧ ∀ c : Int32, f_X9_check_L24 K 40 8 (nI n) s9 ra (c, nI j) = some (.inr (c + (if q then 1 else 0), nI (j + 1))) := fun j hj => by
      obtain ⟨h1, h2, h3, h4, h5, h6, h7⟩ := h.2 j hj
      have hin : ¬ (nI j < 0 ∨ 4 ≤ j) := fun g => by
        rcases g with g | g
        · exact nI_pos (by omega) g
        · omega
      have i0 : ((5 : Int32) * nI j) = nI (5 * j) := by rw [show (5 : Int32) = nI 5 from rfl, nI_mul]
      have i1 : nI (5 * j) + (1 : Int32) = nI (5 * j + 1) := nI_add _ 1
      have i2 : nI (5 * j) + (2 : Int32) = nI (5 * j + 2) := nI_add _ 2
      have i3 : nI (5 * j) + (3 : Int32) = nI (5 * j + 3) := nI_add _ 3
      have i4 : nI (5 * j) + (4 : Int32) = nI (5 * j + 4) := nI_add _ 4
      have hxy : (sy j &&& s9 (5 * j)) = (sx j &&& sy j) := by rw [h1, Int32.and_comm]
      have hz : ∀ c : Int32, c + 0 = c := fun c => Int32.add_zero c
      have L1 : ∀ c : Int32, f_X8_check_L16 K 8 (nI n) sx sy sf st so ca (c, nI j) = if so j = 1 then ((f_X4_isKeptBy (sf j) (st j) (nI (ts ca (sx j &&& sy j) 8)).toInt64 (nI (ts ca (sy j) 8)).toInt64).bind fun z3_0 => if ¬ (z3_0 = 0 ∨ z3_0 = 1) then none else some z3_0).bind (fun z5_0 => if z5_0 = (0 : Int32) then some (.inr (c + 1, nI (j + 1))) else some (.inr (c, nI (j + 1)))) else some (.inr (c, nI (j + 1))) := fun c => by
        unfold f_X8_check_L16 f_X7_keeps
        simp only
        rw [if_neg (nI_ge hj (by omega)), nI_clamp (show j < 2 ^ 31 by omega), if_neg hin, if_neg hin, (hTD _).1, (hTD _).1, Option.bind_some, Option.bind_some, nI_1]
      have L2 : ∀ c : Int32, f_X9_check_L24 K 40 8 (nI n) s9 ra (c, nI j) = if (100 : Int32) * nI (ts ca (sx j &&& sy j) 8) < sf j * nI (ts ca (sy j) 8) then (if so j = 1 then some (.inr (c + 1, nI (j + 1))) else some (.inr (c + 0, nI (j + 1)))) else if st j * nI (ts ca (sy j) 8) < (100 : Int32) * nI (ts ca (sx j &&& sy j) 8) then (if so j = 1 then some (.inr (c + 1, nI (j + 1))) else some (.inr (c + 0, nI (j + 1)))) else if so j = 1 then some (.inr (c + 0, nI (j + 1))) else some (.inr (c + 0, nI (j + 1))) := fun c => by
        unfold f_X9_check_L24 f_X9_check_J113
        simp only
        have q : ∀ k, k < 40 → ¬ (nI k < 0 ∨ 40 ≤ k) := fun k hk g => by
          rcases g with g | g
          · exact nI_pos (by omega) g
          · omega
        have tt : ∀ v, f_X9_toldOf K 8 ra v = some (nI (ts ca v 8)) := fun v => (hTD v).2
        rw [if_neg (nI_ge hj (by omega))]
        simp only [i0, i1, i2, i3, i4, nI_clamp (show 5 * j < 2 ^ 31 by omega), nI_clamp (show 5 * j + 1 < 2 ^ 31 by omega), nI_clamp (show 5 * j + 2 < 2 ^ 31 by omega), nI_clamp (show 5 * j + 3 < 2 ^ 31 by omega), nI_clamp (show 5 * j + 4 < 2 ^ 31 by omega), if_neg (q (5 * j) (by omega)), if_neg (q (5 * j + 1) (by omega)), if_neg (q (5 * j + 2) (by omega)), if_neg (q (5 * j + 3) (by omega)), if_neg (q (5 * j + 4) (by omega)), hxy, ← h2, ← h3, ← h4, ← h5, tt, Option.bind_some, nI_1, if_true, if_neg one_ne]
      have kk := f_kept (a := ts ca (sx j &&& sy j) 8) (y := ts ca (sy j) 8) h6 (ts_le hT _ 8 (by omega)) (ts_le hT _ 8 (by omega))
      by_cases ho : so j = 1
      · rcases kk with ⟨k1, k2, k3⟩ | ⟨k1, k2⟩
        · refine ⟨false, fun c => ?_, fun c => ?_⟩
          · rw [L1 c, if_pos ho, k1]
            simp only [Option.bind_some]
            rw [if_neg (show ¬ ¬ ((1 : Int32) = 0 ∨ True) by decide), Option.bind_some, if_neg one_ne]
            show _ = some (Sum.inr (c + 0, nI (j + 1)))
            rw [hz c]
          · rw [L2 c, if_neg k2, if_neg k3, if_pos ho]; rfl
        · refine ⟨true, fun c => ?_, fun c => ?_⟩
          · rw [L1 c, if_pos ho, k1]; rfl
          · rw [L2 c]
            rcases k2 with k2 | ⟨k2, k3⟩
            · rw [if_pos k2, if_pos ho]; rfl
            · rw [if_neg k2, if_pos k3, if_pos ho]; rfl
      · refine ⟨false, fun c => ?_, fun c => ?_⟩
        · rw [L1 c, if_neg ho]
          show _ = some (Sum.inr (c + 0, nI (j + 1)))
          rw [hz c]
        · rw [L2 c, if_neg ho, if_neg ho]
          show (if _ then _ else if _ then _ else _) = some (Sum.inr (c + 0, nI (j + 1)))
          split
          · rfl
          · split <;> rfl
    have run : ∃ g : Nat → Int32, g 0 = 0 ∧ ∀ j, j < n → f_X8_check_L16 K 8 (nI n) sx sy sf st so ca (g j, nI j) = some (.inr (g (j + 1), nI (j + 1))) ∧ f_X9_check_L24 K 40 8 (nI n) s9 ra (g j, nI j) = some (.inr (g (j + 1), nI (j + 1))) := by
      have : ∀ j, ∃ q : Bool, j < n → (∀ c : Int32, f_X8_check_L16 K 8 (nI n) sx sy sf st so ca (c, nI j) = some (.inr (c + (if q then 1 else 0), nI (j + 1)))) ∧ ∀ c : Int32, f_X9_check_L24 K 40 8 (nI n) s9 ra (c, nI j) = some (.inr (c + (if q then 1 else 0), nI (j + 1))) := fun j => by
        by_cases hj : j < n
        · obtain ⟨q, hq⟩ := key j hj; exact ⟨q, fun _ => hq⟩
        · exact ⟨true, fun g => absurd g hj⟩
      obtain ⟨q, hq⟩ := Classical.axiomOfChoice this
      refine ⟨fun j => Nat.rec (0 : Int32) (fun k c => c + (if q k then 1 else 0)) j, rfl, fun j hj => ⟨(hq j hj).1 _, (hq j hj).2 _⟩⟩
    obtain ⟨g, g0, gs⟩ := run
    have e1 : ∀ r, f_X8_check_L16 K 8 (nI n) sx sy sf st so ca (r, nI n) = some (.inl r) := fun r => by
      unfold f_X8_check_L16; simp only; rw [if_pos (nI_le (Nat.le_refl n) (by omega))]
    have e2 : ∀ r, f_X9_check_L24 K 40 8 (nI n) s9 ra (r, nI n) = some (.inl r) := fun r => by
      unfold f_X9_check_L24; simp only; rw [if_pos (nI_le (Nat.le_refl n) (by omega))]
    obtain ⟨r1, l1, rfl⟩ := lp_loop (f := f_X8_check_L16 K 8 (nI n) sx sy sf st so ca) (fun j s => j ≤ n ∧ s = (g j, nI j)) n (fun r => r = g n) (fun j s hI => by
      obtain ⟨hj, rfl⟩ := hI
      by_cases e : j = n
      · subst e; exact Or.inl ⟨_, e1 _, rfl⟩
      · exact Or.inr ⟨by omega, _, (gs j (by omega)).1, by omega, rfl⟩) K 0 (0, 0) ⟨Nat.zero_le _, by rw [g0]; rfl⟩ (by omega)
    obtain ⟨r2, l2, rfl⟩ := lp_loop (f := f_X9_check_L24 K 40 8 (nI n) s9 ra) (fun j s => j ≤ n ∧ s = (g j, nI j)) n (fun r => r = g n) (fun j s hI => by
      obtain ⟨hj, rfl⟩ := hI
      by_cases e : j = n
      · subst e; exact Or.inl ⟨_, e2 _, rfl⟩
      · exact Or.inr ⟨by omega, _, (gs j (by omega)).2, by omega, rfl⟩) K 0 (0, 0) ⟨Nat.zero_le _, by rw [g0]; rfl⟩ (by omega)
    rw [l1, l2]
    exact ⟨_, rfl, rfl⟩
  · rw [t1, Option.bind_some, Option.bind_some, if_pos rfl, if_neg t2]
    exact ⟨_, rfl, rfl⟩
theorem ts_one {ca ra : Nat → Int32} (h : TD ca ra) {x : Int32} {w : Nat} (hw : w < 8) : ∀ k, k ≤ 8 → ts ca (x &&& ((1 : Int32) <<< (nI w &&& 31))) k = if w < k ∧ hb x w = true then (ca w).toNatClampNeg else 0 := by
  have ob : ∀ w, w < 8 → ∀ k, k < 8 → hb ((1 : Int32) <<< (nI w &&& 31)) k = decide (k = w) := by decide +kernel
  intro k
  induction k with
  | zero => intro _; rw [ts, if_neg (fun g => absurd g.1 (Nat.not_lt_zero w))]
  | succ k ih =>
    intro hk
    rw [ts, ih (by omega), hb_and, ob w hw k (by omega)]
    by_cases e : k = w
    · subst e
      rw [if_neg (fun g => absurd g.1 (Nat.lt_irrefl k)), Nat.zero_add]
      by_cases hb' : hb x k = true
      · rw [if_pos (by simp [hb']), if_pos ⟨by omega, hb'⟩]
      · rw [if_neg (by simp [hb']), if_neg (fun g => hb' g.2)]
    · rw [if_neg (show ¬ (hb x k && decide (k = w)) = true by simp [e]), Nat.add_zero]
      by_cases g : w < k ∧ hb x w = true
      · rw [if_pos g, if_pos ⟨by omega, g.2⟩]
      · rw [if_neg g, if_neg (fun g' => g ⟨by omega, g'.2⟩)]
theorem ag_pull {K : Nat} {ca ra : Nat → Int32} {x1 x2 x3 : Int32} {u1 u2 : Int64} (hK : 1000 ≤ K) (hT : TD ca ra) : ∃ ans u1' u2', f_X8_pull K 8 ca u1 u2 x1 x2 x3 = some (ans, u1', u2') ∧ f_X9_pull K 8 ra x1 x2 x3 = some (ans, 0) := by
  have hTD := fun x => f_told (x := x) hK hT
  unfold f_X8_pull f_X9_pull
  rcases g_thing x1 with ⟨t1, t2⟩ | ⟨t1, t2⟩
  · rw [t1, t2]; exact ⟨_, _, _, rfl, rfl⟩
  · rw [t1, t2]
    simp only [Option.bind_some, if_neg one_ne]
    rcases g_world x2 with ⟨t1, t2⟩ | ⟨t1, t2, w, hw, rfl⟩
    · rw [t1, t2]; exact ⟨_, _, _, rfl, rfl⟩
    · rw [t1, t2]
      simp only [Option.bind_some, if_neg one_ne]
      rcases g_bit x3 with ⟨t1, t2⟩ | ⟨t1, t2, t3⟩
      · rw [t1, t2]; exact ⟨_, _, _, rfl, rfl⟩
      · rw [t1, t2, (hTD 255).2, (hTD x1).2, (hTD x1).1, (hTD (x1 &&& ((1 : Int32) <<< (nI w &&& 31)))).1, ts_one hT hw 8 (by omega)]
        unfold f_X1_forget
        simp only [Option.bind_some, if_neg one_ne]
        rcases f_whole hK hT with ⟨a1, a2⟩ | ⟨a1, a2⟩
        · rw [a1, Option.bind_some, if_neg one_ne, if_pos a2]
          have hy := ts_le hT x1 8 (by omega)
          have i64 : ∀ k, k < 2 ^ 31 → (nI k).toInt64.toInt = (k : Int) := fun k hk => by rw [Int32.toInt_toInt64, nI_toInt hk]
          obtain ⟨hr, v, hv, ev'⟩ := hT w hw
          unfold f_X8_pull_J71 f_X1_set
          by_cases h0 : ts ca x1 8 = 0
          · rw [h0, if_pos (show nI 0 = (0 : Int32) from rfl)]
            have z : (nI 0).toInt64 = (0 : Int64) := by decide
            rw [z, if_pos (by decide), if_pos (by decide), Option.bind_some]
            obtain ⟨a, p1, p2⟩ := f_least (U := 0) (B := 0) (what := x3) hK (show -2000000000 ≤ (0 : Int64).toInt ∧ (0 : Int64).toInt ≤ 2000000000 by decide) (by decide)
            dsimp only
            rw [p1, Option.bind_some]
            rcases p2 with ⟨-, rfl⟩ | ⟨p2, -⟩
            · exact ⟨_, _, _, rfl, rfl⟩
            · exact absurd p2 (by decide)
          · have cc : ¬ lg_cmp (nI (ts ca x1 8)).toInt64 (0 : Int64) ≤ 0 := fun g => by
              have g' : lg_cmp (nI (ts ca x1 8)).toInt64 (0 : Int64) ≤ 0 := g
              rw [lg_cmp_le, Int64.le_iff_toInt_le, i64 _ (by omega), i64_z] at g'
              omega
            rw [if_neg (nI_ne0 (by omega) (by omega)), if_neg cc, if_neg cc, Option.bind_some]
            dsimp only
            have fin : ∀ k, k ≤ 1000 → ∃ ans, f_X1_inLeastTerms K (nI k).toInt64 (nI (ts ca x1 8)).toInt64 x3 = some ans ∧ f_X9_tells K (nI k).toInt64 (nI (ts ca x1 8)).toInt64 x3 = some ans := fun k hk => by
              have bU : wthn 2000000000 (nI k).toInt64.toInt := by rw [i64 k (by omega)]; unfold wthn; omega
              have bB : 0 < (nI (ts ca x1 8)).toInt64.toInt := by rw [i64 _ (by omega)]; omega
              obtain ⟨a, p1, p2⟩ := f_least (what := x3) hK bU (Int.le_of_lt bB)
              obtain ⟨a', q1, q2⟩ := f_tells (what := x3) hK bU bB
              rcases p2 with ⟨g, -⟩ | ⟨-, p2⟩
              · omega
              · rw [lterm_unique bB bB rfl p2 q2] at p1
                exact ⟨_, p1, q1⟩
            rw [hb_shr x1 hw]
            by_cases hb' : hb x1 w = true
            · rw [if_pos hb', if_pos rfl, if_pos ⟨hw, hb'⟩, if_neg (nI_in hw (by decide)), nI_clamp (show w < 2 ^ 31 by omega), ← hr, ev', nI_clamp (show v < 2 ^ 31 by omega)]
              obtain ⟨ans, p1, p2⟩ := fin v hv
              rw [p1, p2]
              exact ⟨_, _, _, rfl, rfl⟩
            · rw [if_neg hb', if_neg (show ¬ (0 : Int32) = 1 by decide), if_neg (fun g => hb' g.2)]
              obtain ⟨ans, p1, p2⟩ := fin 0 (by omega)
              have z : (nI 0).toInt64 = (0 : Int64) := by decide
              rw [z] at p1 p2
              rw [z, p1, p2]
              exact ⟨_, _, _, rfl, rfl⟩
        · rw [a1, Option.bind_some, if_pos rfl, if_neg a2]
          unfold f_X8_pull_J71
          obtain ⟨a, p1, p2⟩ := f_least (U := 0) (B := 0) (what := x3) hK (show -2000000000 ≤ (0 : Int64).toInt ∧ (0 : Int64).toInt ≤ 2000000000 by decide) (by decide)
          rw [p1, Option.bind_some]
          rcases p2 with ⟨-, rfl⟩ | ⟨p2, -⟩
          · exact ⟨_, _, _, rfl, rfl⟩
          · exact absurd p2 (by decide)

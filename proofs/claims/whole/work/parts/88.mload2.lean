/-- how many sets below σ have t members -/
def tcnt (t : Nat) : Nat → Nat
  | 0 => 0
  | σ + 1 => tcnt t σ + if ct_cd (hb (nI σ)) 8 = t then 1 else 0
theorem tcnt_mono (t : Nat) {a b : Nat} (h : a ≤ b) : tcnt t a ≤ tcnt t b := by
  induction b with
  | zero => have : a = 0 := by omega
            subst this; exact Nat.le_refl _
  | succ b ih =>
    by_cases e : a = b + 1
    · subst e; exact Nat.le_refl _
    · have := ih (by omega)
      rw [tcnt]; omega
def tot5 (s : Nat) : Nat :=
  match s with
  | 1 => 1
  | 2 => 8
  | 3 => 24
  | 4 => 32
  | 5 => 16
  | _ => 0
theorem tot_ok : ∀ s, s < 5 → tcnt s 16 * 2 ^ s = tot5 (s + 1) := by decide +kernel
theorem shn : ∀ n, n < 5 → ((1 : Int32) <<< (nI n &&& 31)) = nI (2 ^ n) := by decide +kernel
theorem low_bits : ∀ n, n < 5 → ∀ σ, σ < 2 ^ n → ct_cd (hb (nI σ)) n = ct_cd (hb (nI σ)) 8 := by decide +kernel
theorem f_subsets {sy : Nat → Int32} {wd wi : Int32} {n s c K : Nat} {set : Int32} {wl : Nat → Nat} {world ti : Nat → Int32} {up dn sm nw : Nat → Int64} (hK : 100 ≤ K) (hsy : syOK sy n) (hw : wiOK wi) (hs0 : 0 < s) (hs8 : s ≤ 8) (hc : c + tot5 s ≤ 4800)
    (hwl : s ≤ 5 → ∀ j, j < s → wl j < 8 ∧ world j = nI (wl j)) (hinj : ∀ i j, i < s → j < s → wl i = wl j → i = j) (hl : lst sy wd wi n set c up dn) :
    ∃ r, lp (f_X9_loads_L125 K 40 38400 4800 5 4 30 8 (nI n) wd wi sy world set (nI s)) K ((0 : Int32), nI c, up, dn, ti, sm, nw) = some r ∧ ∃ c' up' dn' ti' sm' nw', r = (nI c', up', dn', ti', sm', nw') ∧ c' ≤ c + tot5 s ∧ extL c up dn c' up' dn' ∧ lst sy wd wi n set c' up' dn' ∧
      (s ≤ 5 → ∀ σ, σ < 2 ^ n → (nI σ &&& (set ^^^ (-1 : Int32))) = 0 → ct_cd (hb (nI σ)) 8 = s - 1 → ∀ q, q < 2 ^ (s - 1) → ∀ v, hits sy wd wi n set s wl (enm (hb (nI σ)) n) (sdOf q) v → listed c' up' v) := by
  have hn := hsy.1
  have hn16 : 2 ^ n ≤ 16 := by
    rcases (show n = 0 ∨ n = 1 ∨ n = 2 ∨ n = 3 ∨ n = 4 by omega) with rfl | rfl | rfl | rfl | rfl <;> decide
  by_cases h5 : s ≤ 5
  · obtain ⟨t, rfl⟩ : ∃ t, s = t + 1 := ⟨s - 1, by omega⟩
    rw [← tot_ok t (by omega)] at hc ⊢
    rw [show t + 1 - 1 = t by omega]
    have hp : 0 < 2 ^ t := Nat.pow_pos (by decide)
    have hmul : ∀ a b, a ≤ b → a * 2 ^ t ≤ b * 2 ^ t := fun a b h => Nat.mul_le_mul_right _ h
    refine lp_loop (f := f_X9_loads_L125 K 40 38400 4800 5 4 30 8 (nI n) wd wi sy world set (nI (t + 1)))
      (fun σ st => σ ≤ 2 ^ n ∧ ∃ c' up' dn' ti' sm' nw', st = (nI σ, nI c', up', dn', ti', sm', nw') ∧ c' ≤ c + tcnt t σ * 2 ^ t ∧ extL c up dn c' up' dn' ∧ lst sy wd wi n set c' up' dn' ∧
        ∀ σ', σ' < σ → (nI σ' &&& (set ^^^ (-1 : Int32))) = 0 → ct_cd (hb (nI σ')) 8 = t → ∀ q, q < 2 ^ t → ∀ v, hits sy wd wi n set (t + 1) wl (enm (hb (nI σ')) n) (sdOf q) v → listed c' up' v) (2 ^ n) _ ?_ K 0 _
      ⟨Nat.zero_le _, c, up, dn, ti, sm, nw, rfl, by omega, extL_refl c up dn, hl, fun σ' h => absurd h (Nat.not_lt_zero σ')⟩ (by omega)
    intro σ st hI
    obtain ⟨hσ, c', up', dn', ti', sm', nw', rfl, h1, h2, h3, h4⟩ := hI
    unfold f_X9_loads_L125
    simp only
    rw [shn n (by omega)]
    by_cases e : σ = 2 ^ n
    · subst e
      rw [if_pos (nI_le (Nat.le_refl _) (by omega))]
      refine Or.inl ⟨_, rfl, c', up', dn', ti', sm', nw', rfl, ?_, h2, h3, fun _ => h4⟩
      have := hmul _ _ (tcnt_mono t hn16)
      omega
    · have hσn : σ < 2 ^ n := by omega
      rw [if_neg (nI_ge hσn (by omega)), if_neg (show ¬ (6 : Int32) ≤ nI (t + 1) from nI_ge (show t + 1 < 6 by omega) (by decide))]
      by_cases hsub : (nI σ &&& (set ^^^ (-1 : Int32))) = 0
      · rw [if_pos hsub, f_ones (nI σ) hK, Option.bind_some, nI_pred]
        by_cases hcd : ct_cd (hb (nI σ)) 8 = t
        · rw [if_pos (by rw [hcd])]
          have hlow := low_bits n (by omega) σ hσn
          obtain ⟨ti2, p2, q2⟩ := f_tight (x := nI σ) (n := n) (t := t) (ti := ti') hK hn (by rw [hlow]; exact hcd) (by omega)
          have hroom : c' + 2 ^ t ≤ 4800 := by
            have a1 := hmul _ _ (tcnt_mono t (show σ + 1 ≤ 16 by omega))
            rw [tcnt, if_pos hcd, Nat.add_mul, Nat.one_mul] at a1
            omega
          obtain ⟨r, p3, c2, up2, dn2, sm2, nw2, rfl, g1, g2, g3, g4⟩ := f_sides (sy := sy) (wd := wd) (wi := wi) (n := n) (s := t + 1) (c := c') (set := set) (wl := wl) (tt := enm (hb (nI σ)) n) (world := world) (tight := ti2) (up := up') (dn := dn') (sm := sm') (nw := nw') hK hsy hw h5 hs0 hroom (hwl h5) hinj (fun i hi => ⟨(enm_in (hb (nI σ)) n i (by rw [hlow, hcd]; omega)).1, q2 i (by omega)⟩) h3
          rw [p2, Option.bind_some, p3, Option.bind_some, nI_1]
          rw [show t + 1 - 1 = t by omega] at g1 g4
          refine Or.inr ⟨hσn, _, rfl, by omega, c2, up2, dn2, ti2, sm2, nw2, rfl, ?_, extL_trans h2 g2, g3, fun σ' hσ' hs' hc' q hq v hv => ?_⟩
          · rw [tcnt, if_pos hcd, Nat.add_mul, Nat.one_mul]; omega
          · by_cases eσ : σ' = σ
            · subst eσ; exact g4 q hq v hv
            · exact listed_ext g2 (h4 σ' (by omega) hs' hc' q hq v hv)
        · rw [if_neg (fun h => hcd ((nI_eq (by have := ct_cd_le (hb (nI σ)) 8; omega) (by omega)).mp h)), nI_1]
          refine Or.inr ⟨hσn, _, rfl, by omega, c', up', dn', ti', sm', nw', rfl, ?_, h2, h3, fun σ' hσ' hs' hc' q hq v hv => ?_⟩
          · have := hmul _ _ (tcnt_mono t (show σ ≤ σ + 1 by omega)); omega
          · by_cases eσ : σ' = σ
            · subst eσ; exact absurd hc' hcd
            · exact h4 σ' (by omega) hs' hc' q hq v hv
      · rw [if_neg hsub, nI_1]
        refine Or.inr ⟨hσn, _, rfl, by omega, c', up', dn', ti', sm', nw', rfl, ?_, h2, h3, fun σ' hσ' hs' hc' q hq v hv => ?_⟩
        · have := hmul _ _ (tcnt_mono t (show σ ≤ σ + 1 by omega)); omega
        · by_cases eσ : σ' = σ
          · subst eσ; exact absurd hs' hsub
          · exact h4 σ' (by omega) hs' hc' q hq v hv
  · obtain ⟨K', rfl⟩ : ∃ K', K = K' + 1 := ⟨K - 1, by omega⟩
    have g : f_X9_loads_L125 (K' + 1) 40 38400 4800 5 4 30 8 (nI n) wd wi sy world set (nI s) ((0 : Int32), nI c, up, dn, ti, sm, nw) = some (.inl (nI c, up, dn, ti, sm, nw)) := by
      unfold f_X9_loads_L125
      simp only
      have hpos : 0 < 2 ^ n := Nat.pow_pos (by decide)
      rw [shn n (by omega), if_neg (show ¬ nI (2 ^ n) ≤ (0 : Int32) from nI_nle hpos (by omega)), if_pos (show (6 : Int32) ≤ nI s from nI_le (show 6 ≤ s by omega) (by omega))]
    refine ⟨_, by rw [lp, g], c, up, dn, ti, sm, nw, rfl, by omega, extL_refl c up dn, hl, fun h => absurd h h5⟩
/-- the number of tries below W -/
def pcnt : Nat → Nat
  | 0 => 0
  | W + 1 => pcnt W + if W = 0 then 0 else tot5 (ct_cd (hb (nI W)) 8)
theorem pcnt_all : pcnt 256 = 4712 := by decide +kernel
theorem pcnt_mono {a b : Nat} (h : a ≤ b) : pcnt a ≤ pcnt b := by
  induction b with
  | zero => have : a = 0 := by omega
            subst this; exact Nat.le_refl _
  | succ b ih =>
    by_cases e : a = b + 1
    · subst e; exact Nat.le_refl _
    · have := ih (by omega)
      rw [pcnt]; omega
theorem pop_pos : ∀ W, W < 256 → 0 < W → 0 < ct_cd (hb (nI W)) 8 := by decide +kernel
theorem f_worldsets {sy : Nat → Int32} {wd wi : Int32} {n K : Nat} {set : Int32} {wo ti : Nat → Int32} {up dn sm nw : Nat → Int64} (hK : 1000 ≤ K) (hsy : syOK sy n) (hw : wiOK wi) :
    ∃ r, lp (f_X9_loads_L63 K 40 38400 4800 5 4 30 8 (nI n) wd wi sy set) K ((1 : Int32), (0 : Int32), up, dn, wo, ti, sm, nw) = some r ∧ ∃ c' up' dn' wo' ti' sm' nw', r = (nI c', up', dn', wo', ti', sm', nw') ∧ c' ≤ 4712 ∧ lst sy wd wi n set c' up' dn' ∧
      ∀ W, 0 < W → W < 256 → ct_cd (hb (nI W)) 8 ≤ 5 → ∀ σ, σ < 2 ^ n → (nI σ &&& (set ^^^ (-1 : Int32))) = 0 → ct_cd (hb (nI σ)) 8 = ct_cd (hb (nI W)) 8 - 1 → ∀ q, q < 2 ^ (ct_cd (hb (nI W)) 8 - 1) → ∀ v, hits sy wd wi n set (ct_cd (hb (nI W)) 8) (enm (hb (nI W)) 8) (enm (hb (nI σ)) n) (sdOf q) v → listed c' up' v := by
  have hK1 : 100 ≤ K := by omega
  refine lp_loop (f := f_X9_loads_L63 K 40 38400 4800 5 4 30 8 (nI n) wd wi sy set)
    (fun W st => 1 ≤ W ∧ W ≤ 256 ∧ ∃ c' up' dn' wo' ti' sm' nw', st = (nI W, nI c', up', dn', wo', ti', sm', nw') ∧ c' ≤ pcnt W ∧ lst sy wd wi n set c' up' dn' ∧
      ∀ W', 0 < W' → W' < W → ct_cd (hb (nI W')) 8 ≤ 5 → ∀ σ, σ < 2 ^ n → (nI σ &&& (set ^^^ (-1 : Int32))) = 0 → ct_cd (hb (nI σ)) 8 = ct_cd (hb (nI W')) 8 - 1 → ∀ q, q < 2 ^ (ct_cd (hb (nI W')) 8 - 1) → ∀ v, hits sy wd wi n set (ct_cd (hb (nI W')) 8) (enm (hb (nI W')) 8) (enm (hb (nI σ)) n) (sdOf q) v → listed c' up' v) 256 _ ?_ K 1 _
    ⟨Nat.le_refl 1, by omega, 0, up, dn, wo, ti, sm, nw, rfl, Nat.zero_le _, fun e h => absurd h (Nat.not_lt_zero e), fun W' h1 h2 => by omega⟩ (by omega)
  intro W st hI
  obtain ⟨hW1, hW, c', up', dn', wo', ti', sm', nw', rfl, h1, h3, h4⟩ := hI
  unfold f_X9_loads_L63
  simp only
  by_cases e : W = 256
  · subst e
    rw [if_pos (show (256 : Int32) ≤ nI 256 from nI_le (Nat.le_refl _) (by decide))]
    exact Or.inl ⟨_, rfl, c', up', dn', wo', ti', sm', nw', rfl, by rw [pcnt_all] at h1; exact h1, h3, h4⟩
  · have hW2 : W < 256 := by omega
    rw [if_neg (show ¬ (256 : Int32) ≤ nI W from nI_ge hW2 (by decide)), f_ones (nI W) hK1, Option.bind_some]
    have hpos := pop_pos W hW2 (by omega)
    have h8 := ct_cd_le (hb (nI W)) 8
    have hstep : pcnt (W + 1) = pcnt W + tot5 (ct_cd (hb (nI W)) 8) := by rw [pcnt, if_neg (by omega)]
    have hroom : c' + tot5 (ct_cd (hb (nI W)) 8) ≤ 4800 := by
      have a1 := pcnt_mono (show W + 1 ≤ 256 by omega)
      rw [pcnt_all] at a1
      omega
    -- the worlds
    have hwo : ∃ wo2, lp (f_X9_loads_L81 5 (nI W) (nI (ct_cd (hb (nI W)) 8))) K ((0 : Int32), (0 : Int32), wo') = some wo2 ∧ (ct_cd (hb (nI W)) 8 ≤ 5 → ∀ j, j < ct_cd (hb (nI W)) 8 → wo2 j = nI (enm (hb (nI W)) 8 j)) := by
      by_cases h5 : ct_cd (hb (nI W)) 8 ≤ 5
      · obtain ⟨wo2, p, q⟩ := f_worlds (x := nI W) (wo := wo') hK1 rfl h5
        exact ⟨wo2, p, fun _ => q⟩
      · obtain ⟨K', rfl⟩ : ∃ K', K = K' + 1 := ⟨K - 1, by omega⟩
        have g : f_X9_loads_L81 5 (nI W) (nI (ct_cd (hb (nI W)) 8)) ((0 : Int32), (0 : Int32), wo') = some (.inl wo') := by
          unfold f_X9_loads_L81
          simp only
          rw [if_neg (by decide), if_pos (show (6 : Int32) ≤ nI (ct_cd (hb (nI W)) 8) from nI_le (show 6 ≤ ct_cd (hb (nI W)) 8 by omega) (by omega))]
        exact ⟨wo', by rw [lp, g], fun h => absurd h h5⟩
    obtain ⟨wo2, p2, q2⟩ := hwo
    obtain ⟨r, p3, c2, up2, dn2, ti2, sm2, nw2, rfl, g1, g2, g3, g4⟩ := f_subsets (sy := sy) (wd := wd) (wi := wi) (n := n) (s := ct_cd (hb (nI W)) 8) (c := c') (set := set) (wl := enm (hb (nI W)) 8) (world := wo2) (ti := ti') (up := up') (dn := dn') (sm := sm') (nw := nw') hK1 hsy hw hpos h8 hroom (fun h5 j hj => ⟨(enm_in (hb (nI W)) 8 j hj).1, q2 h5 j hj⟩) (fun i j hi hj he => enm_inj (hb (nI W)) 8 i j hi hj he) h3
    rw [p2, Option.bind_some, p3, Option.bind_some, nI_1]
    refine Or.inr ⟨hW2, _, rfl, by omega, by omega, c2, up2, dn2, wo2, ti2, sm2, nw2, rfl, by rw [hstep]; omega, g3, fun W' hW' hlt h5 σ hσ hs' hcd q hq v hv => ?_⟩
    by_cases eW : W' = W
    · subst eW; exact g4 h5 σ hσ hs' hcd q hq v hv
    · exact listed_ext g2 (h4 W' hW' (by omega) h5 σ hσ hs' hcd q hq v hv)

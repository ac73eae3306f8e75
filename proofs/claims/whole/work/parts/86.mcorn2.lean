theorem spr_succ {wl : Nat → Nat} {b : Nat → Int} (j w : Nat) : spr wl b (j + 1) w = spr wl b j w + (if wl j = w then b j else 0) := rfl
theorem f_now {s K : Nat} {wl : Nat → Nat} {world : Nat → Int32} {m nw up dn : Nat → Int64} {cs : Int32} {σ : Int64} (hK : 100 ≤ K) (hs : s ≤ 5) (hσ : σ.toInt = 1 ∨ σ.toInt = -1) (hwl : ∀ j, j < s → wl j < 8 ∧ world j = nI (wl j)) (hinj : ∀ i j, i < s → j < s → wl i = wl j → i = j)
    (hm : ∀ j, j < s → wthn 2000000000 (mat m s j s)) (h0 : ∀ w, w < 8 → (nw w).toInt = 0) :
    (∃ nw', lp (f_X9_corner_L403 5 30 8 cs up dn world m (nI s) (nI (s + 1)) σ) K ((0 : Int32), nw) = some (.inl (cs, up, dn, m, nw')) ∧ ∃ j, j < s ∧ σ.toInt * mat m s j s < 0) ∨
    (∃ nw', lp (f_X9_corner_L403 5 30 8 cs up dn world m (nI s) (nI (s + 1)) σ) K ((0 : Int32), nw) = some (.inr nw') ∧ (∀ j, j < s → 0 ≤ σ.toInt * mat m s j s) ∧ ∀ w, w < 8 → (nw' w).toInt = spr wl (fun j => σ.toInt * mat m s j s) s w) := by
  have := lp_loop (f := f_X9_corner_L403 5 30 8 cs up dn world m (nI s) (nI (s + 1)) σ)
    (fun k st => k ≤ s ∧ ∃ nw' : Nat → Int64, st = (nI k, nw') ∧ (∀ j, j < k → 0 ≤ σ.toInt * mat m s j s) ∧ ∀ w, w < 8 → (nw' w).toInt = spr wl (fun j => σ.toInt * mat m s j s) k w) s
    (fun res => (∃ nw', res = .inl (cs, up, dn, m, nw') ∧ ∃ j, j < s ∧ σ.toInt * mat m s j s < 0) ∨ (∃ nw', res = .inr nw' ∧ (∀ j, j < s → 0 ≤ σ.toInt * mat m s j s) ∧ ∀ w, w < 8 → (nw' w).toInt = spr wl (fun j => σ.toInt * mat m s j s) s w))
    (fun k st hI => by
      obtain ⟨hk, nw', rfl, h1, h2⟩ := hI
      unfold f_X9_corner_L403
      simp only
      by_cases e : k = s
      · subst e
        rw [if_pos (nI_le (Nat.le_refl k) (by omega))]
        exact Or.inl ⟨_, rfl, Or.inr ⟨nw', rfl, h1, h2⟩⟩
      · have hks : k < s := by omega
        obtain ⟨w1, w2⟩ := hwl k hks
        have hix := ix30 (j := s) hs hks (Nat.le_refl s)
        rw [if_neg (nI_ge hks (by omega)), if_neg (nI_in (show k < 5 by omega) (by decide)), ix_nI, if_neg (nI_in hix (by decide)), nI_clamp (show k < 2 ^ 31 by omega), w2, if_neg (nI_in w1 (by decide)), if_neg (show ¬ (nI k < 0 ∨ 5 ≤ k) from fun h => by
          rcases h with h | h
          · exact nI_pos (by omega) h
          · omega), if_neg (nI_in w1 (by decide)), nI_clamp (show wl k < 2 ^ 31 by omega), nI_clamp (show (s + 1) * k + s < 2 ^ 31 by omega), pk_uLs, nI_1]
        have hv : (σ * m ((s + 1) * k + s)).toInt = σ.toInt * mat m s k s := by
          refine q64_mul ?_
          have := hm k hks
          unfold mat at this
          unfold wthn at *
          rcases hσ with h | h <;> rw [h] <;> omega
        have hneg : ((0 : Int32) ≤ lg_cmp (σ * m ((s + 1) * k + s)) (0 : Int64)) ↔ 0 ≤ σ.toInt * mat m s k s := by
          rw [lg_cmp_ge, Int64.le_iff_toInt_le, hv, i64_z]
        by_cases hc : 0 ≤ σ.toInt * mat m s k s
        · rw [if_pos (hneg.mpr hc)]
          refine Or.inr ⟨hks, _, rfl, by omega, _, rfl, fun j hj => ?_, fun w hw => ?_⟩
          · by_cases ej : j = k
            · rw [ej]; exact hc
            · exact h1 j (by omega)
          · rw [spr_succ]
            by_cases ew : w = wl k
            · subst ew
              rw [pk_uLs, hv, if_pos rfl, spr_off (fun j hj e' => by have := hinj j k (by omega) hks e'; omega)]
              omega
            · rw [pk_uLn ew, if_neg (fun h => ew h.symm), h2 w hw]; omega
        · rw [if_neg (fun h => hc (hneg.mp h))]
          exact Or.inl ⟨_, rfl, Or.inl ⟨_, rfl, k, hks, by omega⟩⟩) K 0 _ ⟨Nat.zero_le _, nw, rfl, fun j h => absurd h (Nat.not_lt_zero j), fun w hw => by rw [h0 w hw]; rfl⟩ (by omega)
  obtain ⟨res, h1, h2⟩ := this
  rcases h2 with ⟨nw', rfl, h3⟩ | ⟨nw', rfl, h3⟩
  · exact Or.inl ⟨nw', h1, h3⟩
  · exact Or.inr ⟨nw', h1, h3⟩
theorem f_held {sy : Nat → Int32} {wd wi : Int32} {n K : Nat} {set : Int32} {m nw up dn : Nat → Int64} {cs : Int32} (hK : 100 ≤ K) (hsy : syOK sy n) (hw : wiOK wi) (ho : ∀ w, w < 8 → wthn 2000000000 (nw w).toInt) :
    (lp (f_X9_corner_L463 K 40 8 (nI n) cs wd wi sy up dn m nw set) K (0 : Int32) = some (.inl (cs, up, dn, m, nw)) ∧ ∃ i, i < n ∧ hb set i = true ∧ ¬ (0 ≤ ev (rowOf sy wd wi i 0) (fun w => (nw w).toInt) ∧ ev (rowOf sy wd wi i 1) (fun w => (nw w).toInt) ≤ 0)) ∨
    (lp (f_X9_corner_L463 K 40 8 (nI n) cs wd wi sy up dn m nw set) K (0 : Int32) = some (.inr ()) ∧ ∀ i, i < n → hb set i = true → 0 ≤ ev (rowOf sy wd wi i 0) (fun w => (nw w).toInt) ∧ ev (rowOf sy wd wi i 1) (fun w => (nw w).toInt) ≤ 0) := by
  have hn := hsy.1
  have := lp_loop (f := f_X9_corner_L463 K 40 8 (nI n) cs wd wi sy up dn m nw set)
    (fun k st => k ≤ n ∧ st = nI k ∧ ∀ i, i < k → hb set i = true → 0 ≤ ev (rowOf sy wd wi i 0) (fun w => (nw w).toInt) ∧ ev (rowOf sy wd wi i 1) (fun w => (nw w).toInt) ≤ 0) n
    (fun res => (res = .inl (cs, up, dn, m, nw) ∧ ∃ i, i < n ∧ hb set i = true ∧ ¬ (0 ≤ ev (rowOf sy wd wi i 0) (fun w => (nw w).toInt) ∧ ev (rowOf sy wd wi i 1) (fun w => (nw w).toInt) ≤ 0)) ∨ (res = .inr () ∧ ∀ i, i < n → hb set i = true → 0 ≤ ev (rowOf sy wd wi i 0) (fun w => (nw w).toInt) ∧ ev (rowOf sy wd wi i 1) (fun w => (nw w).toInt) ≤ 0))
    (fun k st hI => by
      obtain ⟨hk, rfl, h1⟩ := hI
      unfold f_X9_corner_L463
      simp only
      by_cases e : k = n
      · subst e
        rw [if_pos (nI_le (Nat.le_refl k) (by omega))]
        exact Or.inl ⟨_, rfl, Or.inr ⟨rfl, h1⟩⟩
      · have hkn : k < n := by omega
        rw [if_neg (nI_ge hkn (by omega)), hb_shr set (show k < 8 by omega)]
        cases hs : hb set k
        · rw [if_neg (by decide), nI_1]
          refine Or.inr ⟨hkn, _, rfl, by omega, rfl, fun i hi hb' => ?_⟩
          by_cases ei : i = k
          · subst ei; rw [hs] at hb'; exact absurd hb' (by decide)
          · exact h1 i (by omega) hb'
        · have hh := f_isHeld (sy := sy) (wd := wd) (wi := wi) (i := k) (fr := 0) (na := 8) (of := nw) hK hsy hw hkn (by decide) (by decide) (fun w hw' => by rw [Nat.zero_add]; exact ho w hw')
          simp only [Nat.zero_add] at hh
          have hh' : f_X9_isHeld K 40 8 wd wi sy nw (nI k) (0 : Int32) = _ := hh
          rw [if_pos (by decide), hh', Option.bind_some]
          by_cases hc : 0 ≤ ev (rowOf sy wd wi k 0) (fun w => (nw w).toInt) ∧ ev (rowOf sy wd wi k 1) (fun w => (nw w).toInt) ≤ 0
          · rw [if_pos hc, if_neg (by decide), nI_1]
            refine Or.inr ⟨hkn, _, rfl, by omega, rfl, fun i hi hb' => ?_⟩
            by_cases ei : i = k
            · subst ei; exact hc
            · exact h1 i (by omega) hb'
          · rw [if_neg hc, if_pos rfl]
            exact Or.inl ⟨_, rfl, Or.inl ⟨rfl, k, hkn, hs, hc⟩⟩) K 0 _ ⟨Nat.zero_le _, rfl, fun i h => absurd h (Nat.not_lt_zero i)⟩ (by omega)
  obtain ⟨res, h1, h2⟩ := this
  rcases h2 with ⟨rfl, h3⟩ | ⟨rfl, h3⟩
  · exact Or.inl ⟨h1, h3⟩
  · exact Or.inr ⟨h1, h3⟩
theorem f_copy {K c : Nat} {nw up : Nat → Int64} (hK : 100 ≤ K) (hc : c < 4800) : ∃ up', lp (f_X9_corner_L506 38400 8 (nI c) nw) K ((0 : Int32), up) = some up' ∧ (∀ w, w < 8 → up' (8 * c + w) = nw w) ∧ ∀ x, x < 8 * c → up' x = up x := by
  refine lp_loop (f := f_X9_corner_L506 38400 8 (nI c) nw) (fun k st => k ≤ 8 ∧ ∃ up' : Nat → Int64, st = (nI k, up') ∧ (∀ w, w < k → up' (8 * c + w) = nw w) ∧ ∀ x, x < 8 * c → up' x = up x) 8 _ ?_ K 0 _ ⟨Nat.zero_le _, up, rfl, fun w h => absurd h (Nat.not_lt_zero w), fun _ _ => rfl⟩ (by omega)
  intro k st hI
  obtain ⟨hk, up', rfl, h1, h2⟩ := hI
  unfold f_X9_corner_L506
  simp only
  have ix : ((8 : Int32) * nI c) + nI k = nI (8 * c + k) := by rw [show (8 : Int32) = nI 8 from rfl, nI_mul, nI_add]
  by_cases e : k = 8
  · subst e
    rw [if_pos (show (8 : Int32) ≤ nI 8 from nI_le (Nat.le_refl 8) (by decide))]
    exact Or.inl ⟨up', rfl, h1, h2⟩
  · have hk8 : k < 8 := by omega
    rw [if_neg (show ¬ (8 : Int32) ≤ nI k from nI_ge hk8 (by decide)), if_neg (nI_in hk8 (by decide)), ix, if_neg (nI_in (show 8 * c + k < 38400 by omega) (by decide)), nI_clamp (show 8 * c + k < 2 ^ 31 by omega), nI_clamp (show k < 2 ^ 31 by omega), nI_1]
    refine Or.inr ⟨hk8, _, rfl, by omega, _, rfl, fun w hw => ?_, fun x hx => ?_⟩
    · by_cases e' : w = k
      · subst e'; rw [pk_uLs]
      · rw [pk_uLn (by omega)]; exact h1 w (by omega)
    · rw [pk_uLn (by omega)]; exact h2 x hx
/-- what a call of corner leaves -/
def crnQ (sy : Nat → Int32) (wd wi : Int32) (n : Nat) (set : Int32) (s : Nat) (wl tt sd : Nat → Nat) (c : Nat) (up dn : Nat → Int64) (r : Int32 × (Nat → Int64) × (Nat → Int64) × (Nat → Int64) × (Nat → Int64)) : Prop :=
  ∃ c' up' dn' sm' nw', r = (nI c', up', dn', sm', nw') ∧ c ≤ c' ∧ c' ≤ c + 1 ∧ (∀ e, e < c → (∀ w, w < 8 → up' (8 * e + w) = up (8 * e + w)) ∧ dn' e = dn e) ∧ (∀ e, c ≤ e → e < c' → gdE sy wd wi n set up' dn' e) ∧ ∀ v, hits sy wd wi n set s wl tt sd v → ∃ e, e < c' ∧ prop8 v (ent up' e)
def crnT (σ : Int64) (K : Nat) (sy : Nat → Int32) (wd wi : Int32) (n : Nat) (set : Int32) (s c : Nat) (world : Nat → Int32) (up dn nw bm : Nat → Int64) (bf : Int64) : Option (Int32 × (Nat → Int64) × (Nat → Int64) × (Nat → Int64) × (Nat → Int64)) :=
  (lp (f_X9_corner_L379 8) K ((0 : Int32), nw)).bind fun z55_0 =>
      (lp (f_X9_corner_L403 5 30 8 (nI c) up dn world bm (nI s) (nI (s + 1)) σ) K ((0 : Int32), z55_0)).bind fun z56 => match z56 with
      | .inl r => some r
      | .inr z56_0 =>
        (lp (f_X9_corner_L463 K 40 8 (nI n) (nI c) wd wi sy up dn bm z56_0 set) K (0 : Int32)).bind fun z57 => match z57 with
        | .inl r => some r
        | .inr _ =>
          (lp (f_X9_corner_L506 38400 8 (nI c) z56_0) K ((0 : Int32), up)).bind fun z58_0 =>
          if nI c < 0 ∨ 4800 ≤ (nI c).toNatClampNeg then none else
          some (nI c + (1 : Int32), z58_0, vp_updL dn (nI c).toNatClampNeg (σ * bf), bm, z56_0)
theorem spr_nonneg {wl : Nat → Nat} {b : Nat → Int} {s : Nat} (h : ∀ j, j < s → 0 ≤ b j) (w : Nat) : 0 ≤ spr wl b s w := sg_nonneg fun j hj => by
  split
  · exact h j hj
  · exact Int.le_refl _
theorem spr_mul (wl : Nat → Nat) (b : Nat → Int) (σ : Int) (s w : Nat) : spr wl (fun j => σ * b j) s w = σ * spr wl b s w := by
  unfold spr
  rw [← sg_mul]
  exact sg_cong fun j _ => by split <;> simp
theorem f_crnT {sy : Nat → Int32} {wd wi : Int32} {n s c K : Nat} {set : Int32} {wl tt sd : Nat → Nat} {world : Nat → Int32} {up dn nw bm : Nat → Int64} {bf σ : Int64} (hK : 100 ≤ K) (hsy : syOK sy n) (hw : wiOK wi) (hs : s ≤ 5) (hs0 : 0 < s) (hc : c < 4800)
    (hwl : ∀ j, j < s → wl j < 8 ∧ world j = nI (wl j)) (hinj : ∀ i j, i < s → j < s → wl i = wl j → i = j) (hσ : (σ.toInt = 1 ∧ 0 < bf.toInt) ∨ (σ.toInt = -1 ∧ bf.toInt < 0)) (hbf : wthn 2000000000 bf.toInt)
    (hm : ∀ j, j < s → wthn 2000000000 (mat bm s j s)) (hsol : ∀ i, i < s → sg (fun j => mat0 sy wd wi s wl tt sd i j * mat bm s j s) s = mat0 sy wd wi s wl tt sd i s * bf.toInt) :
    ∃ r, crnT σ K sy wd wi n set s c world up dn nw bm bf = some r ∧ crnQ sy wd wi n set s wl tt sd c up dn r := by
  have hwl8 : ∀ j, j < s → wl j < 8 := fun j hj => (hwl j hj).1
  obtain ⟨nw1, p1, q1⟩ := f_zeros (m := nw) hK
  have hσ' : σ.toInt = 1 ∨ σ.toInt = -1 := by rcases hσ with h | h; exact Or.inl h.1; exact Or.inr h.1
  have hσb : 0 < σ.toInt * bf.toInt := by rcases hσ with ⟨h, h'⟩ | ⟨h, h'⟩ <;> rw [h] <;> omega
  -- what a hit would give
  have hit : ∀ v, hits sy wd wi n set s wl tt sd v → 0 < su v ∧ ∀ w, w < 8 → su v * spr wl (fun j => σ.toInt * mat bm s j s) s w = (σ.toInt * bf.toInt) * v w := fun v hv => by
    obtain ⟨h1, h2⟩ := hits_sol hs0 hwl8 hinj hv hsol
    refine ⟨h1, fun w hw' => ?_⟩
    rw [spr_mul]
    have := h2 w hw'
    grind
  unfold crnT
  rw [p1, Option.bind_some]
  rcases f_now (wl := wl) (world := world) (m := bm) (up := up) (dn := dn) (cs := nI c) hK hs hσ' hwl hinj hm q1 with ⟨nw2, p2, j, hj, hneg⟩ | ⟨nw2, p2, hpos, hnw⟩
  · rw [p2, Option.bind_some]
    refine ⟨_, rfl, c, up, dn, bm, nw2, rfl, Nat.le_refl c, by omega, fun e he => ⟨fun w hw => rfl, rfl⟩, fun e h1 h2 => absurd h1 (by omega), fun v hv => ?_⟩
    exfalso
    obtain ⟨h1, h2⟩ := hit v hv
    have h3 := h2 (wl j) (hwl8 j hj)
    rw [spr_at hinj hj] at h3
    have h4 := Int.mul_nonneg (Int.le_of_lt hσb) (hv.1.1 (wl j) (hwl8 j hj))
    have h5 : su v * (σ.toInt * mat bm s j s) ≤ su v * -1 := Int.mul_le_mul_of_nonneg_left (by omega) (Int.le_of_lt h1)
    omega
  · rw [p2, Option.bind_some]
    have hsum : su (fun w => (nw2 w).toInt) = σ.toInt * bf.toInt := by
      have e1 : su (fun w => (nw2 w).toInt) = su (spr wl (fun j => σ.toInt * mat bm s j s) s) := ev_cong hnw
      have e2 : su (spr wl (fun j => σ.toInt * mat bm s j s) s) = σ.toInt * su (spr wl (fun j => mat bm s j s) s) := by
        unfold su
        rw [← ev_smul]
        exact ev_cong fun w _ => spr_mul wl _ _ s w
      have e3 := hsol (s - 1) (by omega)
      rw [mat0_last hwl8 _ (show s - 1 + 1 = s by omega)] at e3
      rw [e1, e2, e3]
      unfold mat0
      rw [if_pos (by omega), Int.one_mul]
    have hnn : ∀ w, w < 8 → 0 ≤ (nw2 w).toInt := fun w hw => by rw [hnw w hw]; exact spr_nonneg hpos w
    have hsb : σ.toInt * bf.toInt ≤ 2000000000 := by
      unfold wthn at hbf
      rcases hσ with ⟨h, h'⟩ | ⟨h, h'⟩ <;> rw [h] <;> omega
    have hle : ∀ w, w < 8 → wthn 2000000000 (nw2 w).toInt := fun w hw => by
      have h0 := hnn w hw
      have h1 : (nw2 w).toInt ≤ su (fun w => (nw2 w).toInt) := by
        unfold su ev
        rw [sg_skip _ w 7 (by omega)]
        dsimp only
        have := sg_nonneg (f := fun j => 1 * (nw2 (skp w j)).toInt) (n := 7) (fun k hk => by
          rw [Int.one_mul]
          exact hnn _ (by unfold skp; split <;> omega))
        omega
      unfold wthn; omega
    rcases f_held (n := n) (set := set) (m := bm) (nw := nw2) (up := up) (dn := dn) (cs := nI c) (wd := wd) hK hsy hw hle with ⟨p3, i, hi, hbi, hno⟩ | ⟨p3, hheld⟩
    · simp only
      rw [p3, Option.bind_some]
      refine ⟨_, rfl, c, up, dn, bm, nw2, rfl, Nat.le_refl c, by omega, fun e he => ⟨fun w hw => rfl, rfl⟩, fun e h1 h2 => absurd h1 (by omega), fun v hv => ?_⟩
      exfalso
      obtain ⟨h1, h2⟩ := hit v hv
      have hev : ∀ r : Nat → Int, su v * ev r (fun w => (nw2 w).toInt) = (σ.toInt * bf.toInt) * ev r v := fun r => by
        rw [← ev_smul, ← ev_smul]
        exact ev_cong fun w hw => by rw [hnw w hw]; exact h2 w hw
      obtain ⟨g0, g1⟩ := hv.1.2 i hi hbi
      refine hno ⟨?_, ?_⟩
      · refine Classical.byContradiction fun hlt => ?_
        have a1 := hev (rowOf sy wd wi i 0)
        have a2 := Int.mul_nonneg (Int.le_of_lt hσb) g0
        have a3 : su v * ev (rowOf sy wd wi i 0) (fun w => (nw2 w).toInt) ≤ su v * -1 := Int.mul_le_mul_of_nonneg_left (by omega) (Int.le_of_lt h1)
        omega
      · refine Classical.byContradiction fun hlt => ?_
        have a1 := hev (rowOf sy wd wi i 1)
        have a2 := Int.mul_nonneg (Int.le_of_lt hσb) (show 0 ≤ -ev (rowOf sy wd wi i 1) v by omega)
        have a3 : su v * 1 ≤ su v * ev (rowOf sy wd wi i 1) (fun w => (nw2 w).toInt) := Int.mul_le_mul_of_nonneg_left (by omega) (Int.le_of_lt h1)
        rw [Int.mul_neg] at a2
        omega
    · obtain ⟨up', p4, u1, u2⟩ := f_copy (nw := nw2) (up := up) hK hc
      simp only
      rw [p3, Option.bind_some]
      simp only
      rw [p4, Option.bind_some, if_neg (nI_in hc (by decide)), nI_clamp (by omega), nI_1]
      have hnew : ∀ w, w < 8 → ent up' c w = (nw2 w).toInt := fun w hw => by unfold ent; rw [u1 w hw]
      have hdn : (σ * bf).toInt = σ.toInt * bf.toInt := q64_mul (by unfold wthn; omega)
      refine ⟨_, rfl, c + 1, up', _, bm, nw2, rfl, by omega, Nat.le_refl _, fun e he => ⟨fun w hw => u2 _ (by omega), pk_uLn (by omega)⟩, fun e h1 h2 => ?_, fun v hv => ⟨c, by omega, ?_⟩⟩
      · have ec : e = c := by omega
        subst ec
        refine ⟨⟨fun w hw => by rw [hnew w hw]; exact hnn w hw, fun i hi hbi => ?_⟩, ?_, ?_, ?_⟩
        · have := hheld i hi hbi
          rw [ev_cong hnew, ev_cong hnew]
          exact this
        · rw [pk_uLs, hdn, ← hsum]
          exact ev_cong hnew
        · rw [pk_uLs, hdn]; exact hσb
        · rw [pk_uLs, hdn]; exact hsb
      · obtain ⟨h1, h2⟩ := hit v hv
        refine ⟨su v, σ.toInt * bf.toInt, by omega, fun w hw => ?_⟩
        rw [hnew w hw, hnw w hw]
        exact h2 w hw
theorem f_corner {sy : Nat → Int32} {wd wi : Int32} {n s c K : Nat} {set sides : Int32} {wl tt sd : Nat → Nat} {world tight : Nat → Int32} {up dn sm nw : Nat → Int64} (hK : 100 ≤ K) (hsy : syOK sy n) (hw : wiOK wi) (hs : s ≤ 5) (hs0 : 0 < s) (hc : c < 4800)
    (hwl : ∀ j, j < s → wl j < 8 ∧ world j = nI (wl j)) (hinj : ∀ i j, i < s → j < s → wl i = wl j → i = j) (htt : ∀ i, i + 1 < s → tt i < n ∧ tight i = nI (tt i)) (hsd : ∀ i, i + 1 < s → sd i < 2 ∧ ((sides >>> (nI i &&& 31)) &&& (1 : Int32)) = nI (sd i)) :
    ∃ r, f_X9_corner K 40 38400 4800 5 4 30 8 (nI n) (nI c) wd wi sy up dn world tight sm nw (nI s) sides set = some r ∧ crnQ sy wd wi n set s wl tt sd c up dn r := by
  obtain ⟨m1, p1, q1⟩ := f_fill (m := sm) hK hsy hw hs hwl htt hsd
  have hrows := mat0_rows sy wd wi hs0 wl tt sd
  unfold f_X9_corner
  rw [nI_1, p1, Option.bind_some]
  rcases f_elim (m := m1) (cs := nI c) (up := up) (dn := dn) (nw := nw) hK hs hs0 hrows q1 with ⟨m2, p2, z, ⟨j, hj, hzj⟩, hzs, hz⟩ | ⟨bf, m2, p2, hb0, hbl, hbj, hsol⟩
  · rw [p2, Option.bind_some]
    refine ⟨_, rfl, c, up, dn, m2, nw, rfl, Nat.le_refl c, by omega, fun e he => ⟨fun w hw => rfl, rfl⟩, fun e h1 h2 => absurd h1 (by omega), fun v hv => ?_⟩
    exact absurd (hits_regular hs0 (fun j hj => (hwl j hj).1) hinj hv hzs hz j hj) hzj
  · rw [p2, Option.bind_some]
    simp only
    have hb2 : wthn 2000000000 bf.toInt := by
      refine wthn_mono hbl ?_
      unfold lim5
      split <;> decide
    have hsg : ((0 : Int32) ≤ lg_cmp bf (0 : Int64)) ↔ 0 ≤ bf.toInt := by rw [lg_cmp_ge, Int64.le_iff_toInt_le, i64_z]
    by_cases h0 : 0 ≤ bf.toInt
    · rw [if_pos (hsg.mpr h0)]
      exact f_crnT (σ := 1) hK hsy hw hs hs0 hc hwl hinj (Or.inl ⟨rfl, by omega⟩) hb2 hbj hsol
    · rw [if_neg (fun h => h0 (hsg.mp h))]
      exact f_crnT (σ := -1) hK hsy hw hs hs0 hc hwl hinj (Or.inr ⟨rfl, by omega⟩) hb2 hbj hsol

/-! the reference's matrix: filling it -/
theorem ixlt {s i k j : Nat} (h : i < k) (hj : j ≤ s) : (s + 1) * i + j < (s + 1) * k := by
  have : (s + 1) * (i + 1) ≤ (s + 1) * k := Nat.mul_le_mul_left _ h
  rw [Nat.mul_succ] at this
  omega
theorem ix30 {s k j : Nat} (hs : s ≤ 5) (hk : k < s) (hj : j ≤ s) : (s + 1) * k + j < 30 := by
  have h1 : (s + 1) * k + j < (s + 1) * s := ixlt hk hj
  have h2 : (s + 1) * s ≤ 6 * 5 := Nat.mul_le_mul (by omega) hs
  omega
theorem ixinj {s i j i' j' : Nat} (hj : j ≤ s) (hj' : j' ≤ s) (h : (s + 1) * i + j = (s + 1) * i' + j') : i = i' ∧ j = j' := by
  rcases Nat.lt_trichotomy i i' with h1 | h1 | h1
  · have := ixlt h1 hj; omega
  · subst h1; exact ⟨rfl, by omega⟩
  · have := ixlt h1 hj'; omega
/-- the matrix of a choice of worlds wl, sayings tt and sides sd -/
def mat0 (sy : Nat → Int32) (wd wi : Int32) (s : Nat) (wl tt sd : Nat → Nat) (i j : Nat) : Int :=
  if i + 1 = s then 1 else if j < s then rowOf sy wd wi (tt i) (sd i) (wl j) else 0
def mat (m : Nat → Int64) (s i j : Nat) : Int := (m ((s + 1) * i + j)).toInt
theorem ix_nI (s k j : Nat) : (nI (s + 1) * nI k) + nI j = nI ((s + 1) * k + j) := by rw [nI_mul, nI_add]
theorem f_fillrow {sy : Nat → Int32} {wd wi : Int32} {n s k : Nat} {wl tt sd : Nat → Nat} {world tight : Nat → Int32} {sides : Int32} {m : Nat → Int64} {K : Nat} (hK : 100 ≤ K) (hsy : syOK sy n) (hw : wiOK wi) (hs : s ≤ 5) (hk : k < s)
    (hwl : ∀ j, j < s → wl j < 8 ∧ world j = nI (wl j)) (htt : ∀ i, i + 1 < s → tt i < n ∧ tight i = nI (tt i)) (hsd : ∀ i, i + 1 < s → sd i < 2 ∧ ((sides >>> (nI i &&& 31)) &&& (1 : Int32)) = nI (sd i)) :
    ∃ m', lp (f_X9_corner_L17 40 5 4 30 wd wi sy world tight (nI s) sides (nI (s + 1)) (nI k)) K ((0 : Int32), m) = some m' ∧ (∀ j, j < s → (m' ((s + 1) * k + j)).toInt = mat0 sy wd wi s wl tt sd k j) ∧ ∀ x, x < (s + 1) * k ∨ (s + 1) * k + s ≤ x → m' x = m x := by
  refine lp_loop (f := f_X9_corner_L17 40 5 4 30 wd wi sy world tight (nI s) sides (nI (s + 1)) (nI k))
    (fun j st => j ≤ s ∧ ∃ m' : Nat → Int64, st = (nI j, m') ∧ (∀ j', j' < j → (m' ((s + 1) * k + j')).toInt = mat0 sy wd wi s wl tt sd k j') ∧ ∀ x, x < (s + 1) * k ∨ (s + 1) * k + j ≤ x → m' x = m x) s _ ?_ K 0 _ ⟨Nat.zero_le _, m, rfl, fun j' h => absurd h (Nat.not_lt_zero _), fun _ _ => rfl⟩ (by omega)
  intro j st hI
  obtain ⟨hj, m', rfl, h1, h2⟩ := hI
  by_cases e : j = s
  · subst e
    exact Or.inl ⟨m', by unfold f_X9_corner_L17; exact if_pos (nI_le (Nat.le_refl j) (by omega)), h1, h2⟩
  · right
    have hjs : j < s := by omega
    have hix := ix30 hs hk (Nat.le_of_lt hjs)
    have step : ∀ v : Int64, v.toInt = mat0 sy wd wi s wl tt sd k j → (j + 1 ≤ s ∧ ∃ m'' : Nat → Int64, ((nI (j + 1), vp_updL m' ((s + 1) * k + j) v) : Int32 × (Nat → Int64)) = (nI (j + 1), m'') ∧ (∀ j', j' < j + 1 → (m'' ((s + 1) * k + j')).toInt = mat0 sy wd wi s wl tt sd k j') ∧ ∀ x, x < (s + 1) * k ∨ (s + 1) * k + (j + 1) ≤ x → m'' x = m x) := by
      intro v hv
      refine ⟨by omega, _, rfl, fun j' hj' => ?_, fun x hx => ?_⟩
      · by_cases e' : j' = j
        · subst e'; rw [pk_uLs]; exact hv
        · rw [pk_uLn (by omega)]; exact h1 j' (by omega)
      · rw [pk_uLn (by omega)]; exact h2 x (by omega)
    have hsub : nI s - (1 : Int32) = nI (s - 1) := by
      obtain ⟨s', rfl⟩ : ∃ s', s = s' + 1 := ⟨s - 1, by omega⟩
      exact nI_pred s'
    have sub0 : f_X9_corner_L17 40 5 4 30 wd wi sy world tight (nI s) sides (nI (s + 1)) (nI k) (nI j, m') = (if nI k = nI (s - 1) then (if nI ((s + 1) * k + j) < 0 ∨ 30 ≤ (nI ((s + 1) * k + j)).toNatClampNeg then none else some (.inr (nI (j + 1), vp_updL m' ((s + 1) * k + j) (1 : Int64))))
        else (if nI k < 0 ∨ 4 ≤ (nI k).toNatClampNeg then none else if nI j < 0 ∨ 5 ≤ (nI j).toNatClampNeg then none else (f_X9_part 40 wd wi sy (tight k) ((sides >>> (nI k &&& 31)) &&& (1 : Int32)) (world j)).bind fun z5_0 => if nI ((s + 1) * k + j) < 0 ∨ 30 ≤ (nI ((s + 1) * k + j)).toNatClampNeg then none else some (.inr (nI (j + 1), vp_updL m' ((s + 1) * k + j) z5_0.toInt64)))) := by
      unfold f_X9_corner_L17
      simp only
      rw [if_neg (nI_ge hjs (by omega)), hsub, ix_nI, nI_1, nI_clamp (show k < 2 ^ 31 by omega), nI_clamp (show j < 2 ^ 31 by omega), nI_clamp (show (s + 1) * k + j < 2 ^ 31 by omega)]
    rw [sub0]
    by_cases ek : k = s - 1
    · have hv := step 1 (by unfold mat0; rw [if_pos (by omega)]; rfl)
      refine ⟨hjs, _, ?_, hv⟩
      rw [if_pos (by rw [ek]), if_neg (nI_in hix (by decide))]
    · obtain ⟨t1, t2⟩ := htt k (by omega)
      obtain ⟨w1, w2⟩ := hwl j hjs
      obtain ⟨d1, d2⟩ := hsd k (by omega)
      have hn := hsy.1
      obtain ⟨r, p, q⟩ := f_part (sy := sy) (wd := wd) (wi := wi) (i := tt k) (side := sd k) (w := wl j) (by omega) d1 w1 (hsy.side t1 d1).1 (hsy.side t1 d1).2 hw.1 hw.2
      have hv := step r.toInt64 (by rw [Int32.toInt_toInt64, q]; unfold mat0; rw [if_neg (by omega), if_pos hjs]; rfl)
      refine ⟨hjs, _, ?_, hv⟩
      rw [if_neg (fun h => ek ((nI_eq (by omega) (by omega)).mp h)), if_neg (nI_in (show k < 4 by omega) (by decide)), if_neg (nI_in (show j < 5 by omega) (by decide)), t2, w2, d2, p, Option.bind_some, if_neg (nI_in hix (by decide))]
theorem f_fill {sy : Nat → Int32} {wd wi : Int32} {n s : Nat} {wl tt sd : Nat → Nat} {world tight : Nat → Int32} {sides : Int32} {m : Nat → Int64} {K : Nat} (hK : 100 ≤ K) (hsy : syOK sy n) (hw : wiOK wi) (hs : s ≤ 5)
    (hwl : ∀ j, j < s → wl j < 8 ∧ world j = nI (wl j)) (htt : ∀ i, i + 1 < s → tt i < n ∧ tight i = nI (tt i)) (hsd : ∀ i, i + 1 < s → sd i < 2 ∧ ((sides >>> (nI i &&& 31)) &&& (1 : Int32)) = nI (sd i)) :
    ∃ m', lp (f_X9_corner_L8 K 40 5 4 30 wd wi sy world tight (nI s) sides (nI (s + 1))) K ((0 : Int32), m) = some m' ∧ ∀ i j, i < s → j ≤ s → mat m' s i j = mat0 sy wd wi s wl tt sd i j := by
  refine lp_loop (f := f_X9_corner_L8 K 40 5 4 30 wd wi sy world tight (nI s) sides (nI (s + 1)))
    (fun k st => k ≤ s ∧ ∃ m' : Nat → Int64, st = (nI k, m') ∧ ∀ i j, i < k → j ≤ s → mat m' s i j = mat0 sy wd wi s wl tt sd i j) s _ ?_ K 0 _ ⟨Nat.zero_le _, m, rfl, fun i j h => absurd h (Nat.not_lt_zero _)⟩ (by omega)
  intro k st hI
  obtain ⟨hk, m', rfl, h1⟩ := hI
  by_cases e : k = s
  · subst e
    exact Or.inl ⟨m', by unfold f_X9_corner_L8; exact if_pos (nI_le (Nat.le_refl k) (by omega)), h1⟩
  · right
    have hks : k < s := by omega
    obtain ⟨m1, p, q1, q2⟩ := f_fillrow (m := m') hK hsy hw hs hks hwl htt hsd
    have hix := ix30 hs hks (Nat.le_refl s)
    have hsub : nI s - (1 : Int32) = nI (s - 1) := by
      obtain ⟨s', rfl⟩ : ∃ s', s = s' + 1 := ⟨s - 1, by omega⟩
      exact nI_pred s'
    have step : ∀ v : Int64, v.toInt = mat0 sy wd wi s wl tt sd k s → (k + 1 ≤ s ∧ ∃ m'' : Nat → Int64, ((nI (k + 1), vp_updL m1 ((s + 1) * k + s) v) : Int32 × (Nat → Int64)) = (nI (k + 1), m'') ∧ ∀ i j, i < k + 1 → j ≤ s → mat m'' s i j = mat0 sy wd wi s wl tt sd i j) := by
      intro v hv
      refine ⟨by omega, _, rfl, fun i j hi hj => ?_⟩
      unfold mat
      by_cases e' : i = k
      · subst e'
        by_cases ej : j = s
        · subst ej; rw [pk_uLs]; exact hv
        · rw [pk_uLn (by omega)]; exact q1 j (by omega)
      · have := ixlt (s := s) (show i < k by omega) hj
        rw [pk_uLn (by omega), q2 _ (Or.inl this)]
        exact h1 i j (by omega) hj
    refine ⟨hks, ?_⟩
    by_cases ek : k = s - 1
    · have hv := step 1 (by unfold mat0; rw [if_pos (by omega)]; rfl)
      refine ⟨_, ?_, hv⟩
      unfold f_X9_corner_L8
      simp only
      rw [if_neg (nI_ge hks (by omega)), p, Option.bind_some, hsub, if_pos (by rw [ek]), ix_nI, if_neg (nI_in hix (by decide)), nI_clamp (by omega), nI_1]
    · have hv := step 0 (by unfold mat0; rw [if_neg (by omega), if_neg (by omega)]; rfl)
      refine ⟨_, ?_, hv⟩
      unfold f_X9_corner_L8
      simp only
      rw [if_neg (nI_ge hks (by omega)), p, Option.bind_some, hsub, if_neg (fun h => ek ((nI_eq (by omega) (by omega)).mp h)), ix_nI, if_neg (nI_in hix (by decide)), nI_clamp (by omega), nI_1]

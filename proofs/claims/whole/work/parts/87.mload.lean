/-! the reference's list of corners -/
def enm (S : Nat → Bool) : Nat → Nat → Nat
  | 0, _ => 0
  | n + 1, j => if S n = true then (if j = ct_cd S n then n else enm S n j) else enm S n j
theorem enm_in (S : Nat → Bool) : ∀ n j, j < ct_cd S n → enm S n j < n ∧ S (enm S n j) = true
  | 0, j, h => absurd h (Nat.not_lt_zero j)
  | n + 1, j, h => by
    rw [ct_cd] at h
    rw [enm]
    by_cases hn : S n = true
    · rw [if_pos hn] at h ⊢
      by_cases e : j = ct_cd S n
      · rw [if_pos e]; exact ⟨by omega, hn⟩
      · rw [if_neg e]; have := enm_in S n j (by omega); exact ⟨by omega, this.2⟩
    · rw [if_neg hn] at h ⊢
      have := enm_in S n j (by omega); exact ⟨by omega, this.2⟩
theorem enm_all (S : Nat → Bool) : ∀ n w, w < n → S w = true → ∃ j, j < ct_cd S n ∧ enm S n j = w
  | 0, w, h, _ => absurd h (Nat.not_lt_zero w)
  | n + 1, w, h, hs => by
    rw [ct_cd]
    by_cases e : w = n
    · subst e
      exact ⟨ct_cd S w, by rw [if_pos hs]; omega, by rw [enm, if_pos hs, if_pos rfl]⟩
    · obtain ⟨j, hj, he⟩ := enm_all S n w (by omega) hs
      refine ⟨j, by omega, ?_⟩
      rw [enm]
      by_cases hn : S n = true
      · rw [if_pos hn, if_neg (by omega)]; exact he
      · rw [if_neg hn]; exact he
theorem enm_inj (S : Nat → Bool) : ∀ n i j, i < ct_cd S n → j < ct_cd S n → enm S n i = enm S n j → i = j
  | 0, i, j, h, _, _ => absurd h (Nat.not_lt_zero i)
  | n + 1, i, j, hi, hj, he => by
    rw [ct_cd] at hi hj
    rw [enm, enm] at he
    by_cases hn : S n = true
    · rw [if_pos hn] at hi hj
      rw [if_pos hn, if_pos hn] at he
      by_cases ei : i = ct_cd S n <;> by_cases ej : j = ct_cd S n
      · omega
      · rw [if_pos ei, if_neg ej] at he; have := enm_in S n j (by omega); omega
      · rw [if_neg ei, if_pos ej] at he; have := enm_in S n i (by omega); omega
      · rw [if_neg ei, if_neg ej] at he; exact enm_inj S n i j (by omega) (by omega) he
    · rw [if_neg hn] at hi hj
      rw [if_neg hn, if_neg hn] at he
      exact enm_inj S n i j (by omega) (by omega) he
theorem ct_cd_step (S : Nat → Bool) {a b : Nat} (h : a ≤ b) : ct_cd S a ≤ ct_cd S b := by
  induction b with
  | zero => have : a = 0 := by omega
            subst this; exact Nat.le_refl _
  | succ b ih =>
    by_cases e : a = b + 1
    · subst e; exact Nat.le_refl _
    · have := ih (by omega)
      rw [ct_cd]; split <;> omega
theorem f_ones (x : Int32) {K : Nat} (hK : 100 ≤ K) : f_X9_ones K x = some (nI (ct_cd (hb x) 8)) := by
  have h : lp (f_X9_ones_L4 x) K ((0 : Int32), (0 : Int32)) = some (nI (ct_cd (hb x) 8)) := lp_run (f := f_X9_ones_L4 x) (fun k => ((nI (ct_cd (hb x) k), nI k) : Int32 × Int32)) (n := 8) (r := nI (ct_cd (hb x) 8)) (fun i hi => by
    unfold f_X9_ones_L4
    simp only
    rw [if_neg (show ¬ (8 : Int32) ≤ nI i from nI_ge hi (by decide)), hb_shr x hi, nI_1, ct_cd]
    cases hb x i
    · simp
    · simp [nI_1]) (by
    unfold f_X9_ones_L4
    exact if_pos (show (8 : Int32) ≤ nI 8 from nI_le (Nat.le_refl 8) (by decide))) (by omega)
  unfold f_X9_ones
  rw [h]
  rfl
theorem f_worlds {x : Int32} {s K : Nat} {wo : Nat → Int32} (hK : 100 ≤ K) (hs : ct_cd (hb x) 8 = s) (h5 : s ≤ 5) : ∃ wo', lp (f_X9_loads_L81 5 x (nI s)) K ((0 : Int32), (0 : Int32), wo) = some wo' ∧ ∀ j, j < s → wo' j = nI (enm (hb x) 8 j) := by
  refine lp_loop (f := f_X9_loads_L81 5 x (nI s)) (fun k st => k ≤ 8 ∧ ∃ wo' : Nat → Int32, st = (nI (ct_cd (hb x) k), nI k, wo') ∧ ∀ j, j < ct_cd (hb x) k → wo' j = nI (enm (hb x) k j)) 8 _ ?_ K 0 _ ⟨Nat.zero_le _, wo, rfl, fun j h => absurd h (Nat.not_lt_zero j)⟩ (by omega)
  intro k st hI
  obtain ⟨hk, wo', rfl, h1⟩ := hI
  unfold f_X9_loads_L81
  simp only
  by_cases e : k = 8
  · subst e
    rw [if_pos (show (8 : Int32) ≤ nI 8 from nI_le (Nat.le_refl 8) (by decide))]
    exact Or.inl ⟨wo', rfl, fun j hj => h1 j (by rw [hs]; exact hj)⟩
  · have hk8 : k < 8 := by omega
    rw [if_neg (show ¬ (8 : Int32) ≤ nI k from nI_ge hk8 (by decide)), if_neg (show ¬ (6 : Int32) ≤ nI s from nI_ge (show s < 6 by omega) (by decide)), hb_shr x hk8]
    cases hx : hb x k
    · rw [if_neg (by decide), nI_1]
      refine Or.inr ⟨hk8, _, rfl, by omega, wo', by rw [ct_cd, hx]; simp, fun j hj => ?_⟩
      rw [ct_cd, hx] at hj
      rw [enm, hx, if_neg (by decide)]
      exact h1 j (by simpa using hj)
    · have hlt : ct_cd (hb x) k < s := by
        have := ct_cd_step (hb x) (show k + 1 ≤ 8 by omega)
        rw [ct_cd, hx, if_pos rfl] at this
        omega
      rw [if_pos (by decide), if_neg (nI_in (show ct_cd (hb x) k < 5 by omega) (by decide)), nI_clamp (by omega), nI_1, nI_1]
      refine Or.inr ⟨hk8, _, rfl, by omega, _, by rw [ct_cd, hx, if_pos rfl], fun j hj => ?_⟩
      rw [ct_cd, hx, if_pos rfl] at hj
      rw [enm, hx, if_pos rfl]
      by_cases ej : j = ct_cd (hb x) k
      · rw [if_pos ej, ej, pk_us]
      · rw [if_neg ej, pk_un ej]; exact h1 j (by omega)
theorem f_tight {x : Int32} {n t K : Nat} {ti : Nat → Int32} (hK : 100 ≤ K) (hn : n ≤ 4) (hs : ct_cd (hb x) n = t) (h5 : t ≤ 4) : ∃ ti', lp (f_X9_loads_L168 4 (nI n) x) K ((0 : Int32), (0 : Int32), ti) = some ti' ∧ ∀ j, j < t → ti' j = nI (enm (hb x) n j) := by
  refine lp_loop (f := f_X9_loads_L168 4 (nI n) x) (fun k st => k ≤ n ∧ ∃ ti' : Nat → Int32, st = (nI (ct_cd (hb x) k), nI k, ti') ∧ ∀ j, j < ct_cd (hb x) k → ti' j = nI (enm (hb x) k j)) n _ ?_ K 0 _ ⟨Nat.zero_le _, ti, rfl, fun j h => absurd h (Nat.not_lt_zero j)⟩ (by omega)
  intro k st hI
  obtain ⟨hk, ti', rfl, h1⟩ := hI
  unfold f_X9_loads_L168
  simp only
  by_cases e : k = n
  · subst e
    rw [if_pos (nI_le (Nat.le_refl k) (by omega))]
    exact Or.inl ⟨ti', rfl, fun j hj => h1 j (by rw [hs]; exact hj)⟩
  · have hkn : k < n := by omega
    rw [if_neg (nI_ge hkn (by omega)), hb_shr x (show k < 8 by omega)]
    cases hx : hb x k
    · rw [if_neg (by decide), nI_1]
      refine Or.inr ⟨hkn, _, rfl, by omega, ti', by rw [ct_cd, hx]; simp, fun j hj => ?_⟩
      rw [ct_cd, hx] at hj
      rw [enm, hx, if_neg (by decide)]
      exact h1 j (by simpa using hj)
    · have hlt : ct_cd (hb x) k < t := by
        have := ct_cd_step (hb x) (show k + 1 ≤ n by omega)
        rw [ct_cd, hx, if_pos rfl] at this
        omega
      rw [if_pos (by decide), if_neg (nI_in (show ct_cd (hb x) k < 4 by omega) (by decide)), nI_clamp (by omega), nI_1, nI_1]
      refine Or.inr ⟨hkn, _, rfl, by omega, _, by rw [ct_cd, hx, if_pos rfl], fun j hj => ?_⟩
      rw [ct_cd, hx, if_pos rfl] at hj
      rw [enm, hx, if_pos rfl]
      by_cases ej : j = ct_cd (hb x) k
      · rw [if_pos ej, ej, pk_us]
      · rw [if_neg ej, pk_un ej]; exact h1 j (by omega)
def lst (sy : Nat → Int32) (wd wi : Int32) (n : Nat) (set : Int32) (c : Nat) (up dn : Nat → Int64) : Prop := ∀ e, e < c → gdE sy wd wi n set up dn e
def extL (c : Nat) (up dn : Nat → Int64) (c' : Nat) (up' dn' : Nat → Int64) : Prop := c ≤ c' ∧ ∀ e, e < c → (∀ w, w < 8 → up' (8 * e + w) = up (8 * e + w)) ∧ dn' e = dn e
def listed (c : Nat) (up : Nat → Int64) (v : Nat → Int) : Prop := ∃ e, e < c ∧ prop8 v (ent up e)
theorem extL_refl (c : Nat) (up dn : Nat → Int64) : extL c up dn c up dn := ⟨Nat.le_refl c, fun e _ => ⟨fun _ _ => rfl, rfl⟩⟩
theorem extL_trans {c c' c'' : Nat} {up dn up' dn' up'' dn'' : Nat → Int64} (h1 : extL c up dn c' up' dn') (h2 : extL c' up' dn' c'' up'' dn'') : extL c up dn c'' up'' dn'' := by
  refine ⟨Nat.le_trans h1.1 h2.1, fun e he => ?_⟩
  have a := h1.2 e he
  have b := h2.2 e (Nat.lt_of_lt_of_le he h1.1)
  exact ⟨fun w hw => by rw [b.1 w hw, a.1 w hw], by rw [b.2, a.2]⟩
theorem ent_ext {c c' : Nat} {up dn up' dn' : Nat → Int64} (h : extL c up dn c' up' dn') {e : Nat} (he : e < c) : ∀ w, w < 8 → ent up' e w = ent up e w := fun w hw => by
  unfold ent; rw [(h.2 e he).1 w hw]
theorem listed_ext {c c' : Nat} {up dn up' dn' : Nat → Int64} {v : Nat → Int} (h : extL c up dn c' up' dn') (hl : listed c up v) : listed c' up' v := by
  obtain ⟨e, he, p, q, hp, hpq⟩ := hl
  exact ⟨e, Nat.lt_of_lt_of_le he h.1, p, q, hp, fun w hw => by rw [ent_ext h he w hw]; exact hpq w hw⟩
theorem gdE_ext {sy : Nat → Int32} {wd wi : Int32} {n : Nat} {set : Int32} {c c' : Nat} {up dn up' dn' : Nat → Int64} (h : extL c up dn c' up' dn') {e : Nat} (he : e < c) (hg : gdE sy wd wi n set up dn e) : gdE sy wd wi n set up' dn' e := by
  have hx := ent_ext h he
  obtain ⟨⟨g1, g2⟩, g3, g4, g5⟩ := hg
  rw [← (h.2 e he).2] at g3 g4 g5
  refine ⟨⟨fun w hw => by rw [hx w hw]; exact g1 w hw, fun i hi hb' => ?_⟩, ?_, g4, g5⟩
  · rw [ev_cong hx, ev_cong hx]; exact g2 i hi hb'
  · rw [← g3]; exact ev_cong hx
def sdOf (q : Nat) (i : Nat) : Nat := if hb (nI q) i then 1 else 0
theorem sh1 : ∀ s, s < 5 → ((1 : Int32) <<< ((nI (s + 1) - (1 : Int32)) &&& 31)) = nI (2 ^ s) := by decide +kernel
theorem f_sides {sy : Nat → Int32} {wd wi : Int32} {n s c K : Nat} {set : Int32} {wl tt : Nat → Nat} {world tight : Nat → Int32} {up dn sm nw : Nat → Int64} (hK : 100 ≤ K) (hsy : syOK sy n) (hw : wiOK wi) (hs : s ≤ 5) (hs0 : 0 < s) (hc : c + 2 ^ (s - 1) ≤ 4800)
    (hwl : ∀ j, j < s → wl j < 8 ∧ world j = nI (wl j)) (hinj : ∀ i j, i < s → j < s → wl i = wl j → i = j) (htt : ∀ i, i + 1 < s → tt i < n ∧ tight i = nI (tt i)) (hl : lst sy wd wi n set c up dn) :
    ∃ r, lp (f_X9_loads_L209 K 40 38400 4800 5 4 30 8 (nI n) wd wi sy world tight set (nI s)) K ((0 : Int32), nI c, up, dn, sm, nw) = some r ∧ ∃ c' up' dn' sm' nw', r = (nI c', up', dn', sm', nw') ∧ c' ≤ c + 2 ^ (s - 1) ∧ extL c up dn c' up' dn' ∧ lst sy wd wi n set c' up' dn' ∧ ∀ q, q < 2 ^ (s - 1) → ∀ v, hits sy wd wi n set s wl tt (sdOf q) v → listed c' up' v := by
  obtain ⟨t, rfl⟩ : ∃ t, s = t + 1 := ⟨s - 1, by omega⟩
  have hp : 2 ^ t ≤ 16 := by
    rcases (show t = 0 ∨ t = 1 ∨ t = 2 ∨ t = 3 ∨ t = 4 by omega) with rfl | rfl | rfl | rfl | rfl <;> decide
  rw [show t + 1 - 1 = t by omega] at hc ⊢
  refine lp_loop (f := f_X9_loads_L209 K 40 38400 4800 5 4 30 8 (nI n) wd wi sy world tight set (nI (t + 1)))
    (fun q st => q ≤ 2 ^ t ∧ ∃ c' up' dn' sm' nw', st = (nI q, nI c', up', dn', sm', nw') ∧ c' ≤ c + q ∧ extL c up dn c' up' dn' ∧ lst sy wd wi n set c' up' dn' ∧ ∀ q', q' < q → ∀ v, hits sy wd wi n set (t + 1) wl tt (sdOf q') v → listed c' up' v) (2 ^ t) _ ?_ K 0 _
    ⟨Nat.zero_le _, c, up, dn, sm, nw, rfl, by omega, extL_refl c up dn, hl, fun q' h => absurd h (Nat.not_lt_zero q')⟩ (by omega)
  intro q st hI
  obtain ⟨hq, c', up', dn', sm', nw', rfl, h1, h2, h3, h4⟩ := hI
  unfold f_X9_loads_L209
  simp only
  rw [sh1 t (by omega)]
  by_cases e : q = 2 ^ t
  · subst e
    rw [if_pos (nI_le (Nat.le_refl _) (by omega))]
    exact Or.inl ⟨_, rfl, c', up', dn', sm', nw', rfl, h1, h2, h3, h4⟩
  · have hqt : q < 2 ^ t := by omega
    rw [if_neg (nI_ge hqt (by omega))]
    obtain ⟨r, p, c2, up2, dn2, sm2, nw2, rfl, g1, g2, g3, g4, g5⟩ := f_corner (sy := sy) (wd := wd) (wi := wi) (n := n) (s := t + 1) (c := c') (set := set) (sides := nI q) (wl := wl) (tt := tt) (sd := sdOf q) (world := world) (tight := tight) (up := up') (dn := dn') (sm := sm') (nw := nw') hK hsy hw hs hs0 (by omega) hwl hinj htt (fun i hi => by
      unfold sdOf
      refine ⟨by split <;> decide, ?_⟩
      rw [hb_shr (nI q) (show i < 8 by omega)]
      cases hb (nI q) i <;> rfl)
    rw [p, Option.bind_some, nI_1]
    have hx : extL c' up' dn' c2 up2 dn2 := ⟨g1, g3⟩
    refine Or.inr ⟨hqt, _, rfl, by omega, c2, up2, dn2, sm2, nw2, rfl, by omega, extL_trans h2 hx, fun e he => ?_, fun q' hq' v hv => ?_⟩
    · by_cases hec : e < c'
      · exact gdE_ext hx hec (h3 e hec)
      · exact g4 e (by omega) he
    · by_cases eq : q' = q
      · subst eq; exact g5 v hv
      · exact listed_ext hx (h4 q' (by omega) v hv)

/-! common divisors, and how great the numbers of a vertex are -/
def fb : Nat → Nat
  | 0 => 0
  | 1 => 1
  | n + 2 => fb n + fb (n + 1)
def eu (s : Nat × Nat) : Nat × Nat := (s.2, s.1 % s.2)
def eui : Nat → Nat × Nat → Nat × Nat
  | 0, s => s
  | n + 1, s => eui n (eu s)
theorem eui_fb : ∀ (k : Nat) (a b : Nat), (∀ j, j ≤ k → (eui j (a, b)).2 ≠ 0) → fb (k + 1) ≤ b ∧ (b < a → fb (k + 2) ≤ a)
  | 0, a, b, h => by
    have h0 : b ≠ 0 := h 0 (Nat.le_refl 0)
    have e1 : fb 1 = 1 := rfl
    have e2 : fb 2 = 1 := rfl
    rw [e1, e2]
    exact ⟨by omega, fun _ => by omega⟩
  | k + 1, a, b, h => by
    have h0 : b ≠ 0 := h 0 (Nat.zero_le _)
    have ih := eui_fb k b (a % b) (fun j hj => h (j + 1) (by omega))
    have hlt : a % b < b := Nat.mod_lt _ (by omega)
    have i2 := ih.2 hlt
    refine ⟨i2, fun hba => ?_⟩
    have e : fb (k + 1 + 2) = fb (k + 1) + fb (k + 2) := rfl
    have hd := Nat.div_add_mod a b
    have hq : 1 ≤ a / b := Nat.div_pos (Nat.le_of_lt hba) (by omega)
    have hm : b * 1 ≤ b * (a / b) := Nat.mul_le_mul_left _ hq
    have := ih.1
    omega
theorem fb_big : 9223372036854775808 ≤ fb 99 := by decide +kernel
theorem eui_gcd : ∀ (k : Nat) (a b : Nat), (eui k (a, b)).2 = 0 → (∀ j, j < k → (eui j (a, b)).2 ≠ 0) → (eui k (a, b)).1 = Nat.gcd a b
  | 0, a, b, h, _ => by
    have : b = 0 := h
    subst this; exact (Nat.gcd_zero_right a).symm
  | k + 1, a, b, h, hn => by
    have := eui_gcd k b (a % b) h (fun j hj => hn (j + 1) (by omega))
    rw [eui, eu, this, Nat.gcd_comm b (a % b), ← Nat.gcd_rec, Nat.gcd_comm]
theorem eui_succ : ∀ (k : Nat) (s : Nat × Nat), eui (k + 1) s = eu (eui k s)
  | 0, _ => rfl
  | k + 1, s => by rw [eui, eui_succ k (eu s)]; rfl
def isN (x : Int64) (n : Nat) : Prop := x.toInt = (n : Int)
theorem isN_lt {x : Int64} {n : Nat} (h : isN x n) : n < 9223372036854775808 := by
  have := x.toInt_lt
  unfold isN at h; omega
theorem isN_div {x y : Int64} {a b : Nat} (hx : isN x a) (hy : isN y b) (hb : b ≠ 0) : isN (x / y) (a / b) := by
  unfold isN at *
  have := isN_lt (x := x) hx
  have hle := Nat.div_le_self a b
  rw [Int64.toInt_div, hx, hy, Int.bmod_def, ← Int.ofNat_tdiv]
  generalize a / b = q at hle ⊢
  omega
theorem isN_rem {x y : Int64} {a b : Nat} (hx : isN x a) (hy : isN y b) (hb : b ≠ 0) : isN (x - x / y * y) (a % b) := by
  have hd := isN_div hx hy hb
  have hlt := isN_lt hx
  have e := Nat.div_add_mod a b
  have hmul : b * (a / b) ≤ a := by omega
  have hm : isN (x / y * y) (b * (a / b)) := by
    unfold isN at *
    rw [q64_mul (by rw [hd, hy]; unfold wthn; have : ((a / b : Nat) : Int) * (b : Int) = ((b * (a / b) : Nat) : Int) := by rw [Int.natCast_mul, Int.mul_comm]
                    rw [this]; omega), hd, hy, Int.natCast_mul, Int.mul_comm]
  unfold isN at *
  rw [q64_sub (by rw [hx, hm]; unfold wthn; omega), hx, hm]
  omega
theorem f_gcd {x y : Int64} {a b K : Nat} (hK : 200 ≤ K) (hx : isN x a) (hy : isN y b) : ∃ g, f_X8_commonDivisor K x y = some g ∧ isN g (Nat.gcd a b) := by
  have := lp_loop (f := f_X8_commonDivisor_L9) (fun k st => k ≤ 100 ∧ (∀ j, j < k → (eui j (a, b)).2 ≠ 0) ∧ ∃ u v : Int64, st = (u, v, nI k) ∧ isN u (eui k (a, b)).1 ∧ isN v (eui k (a, b)).2) 100
    (fun g => isN g (Nat.gcd a b)) (fun k st hI => by
      obtain ⟨hk, hne, u, v, rfl, hu, hv⟩ := hI
      unfold f_X8_commonDivisor_L9
      simp only
      have hz : (eui k (a, b)).2 = 0 → isN u (Nat.gcd a b) := fun h0 => by rw [← eui_gcd k a b h0 hne]; exact hu
      by_cases h100 : k = 100
      · exfalso
        have h99 : fb 99 ≤ b := (eui_fb 98 a b (fun j hj => hne j (by omega))).1
        have := fb_big
        have := isN_lt hy
        omega
      · rw [if_neg (show ¬ (100 : Int32) ≤ nI k from nI_ge (show k < 100 by omega) (by decide))]
        by_cases h0 : (eui k (a, b)).2 = 0
        · have hv0 : v = 0 := by
            unfold isN at hv
            rw [h0] at hv
            exact i64_ne0.mpr hv
          rw [if_pos ((lg_cmp_eq _ _).mpr hv0)]
          exact Or.inl ⟨_, rfl, hz h0⟩
        · have hv0 : ¬ v = 0 := fun e => h0 (by
            have := i64_ne0.mp e
            unfold isN at hv
            omega)
          rw [if_neg (fun h => hv0 ((lg_cmp_eq _ _).mp h)), if_neg hv0, nI_1]
          refine Or.inr ⟨by omega, _, rfl, by omega, fun j hj => ?_, _, _, rfl, ?_, ?_⟩
          · by_cases e : j = k
            · rw [e]; exact h0
            · exact hne j (by omega)
          · rw [eui_succ]; exact hv
          · rw [eui_succ]; exact isN_rem hu hv h0) K 0 _ ⟨Nat.zero_le _, fun j h => absurd h (Nat.not_lt_zero j), x, y, rfl, hx, hy⟩ (by omega)
  obtain ⟨g, h1, h2⟩ := this
  have h1' : lp f_X8_commonDivisor_L9 K (x, y, (0 : Int32)) = some g := h1
  exact ⟨g, by unfold f_X8_commonDivisor; rw [h1']; rfl, h2⟩
/-- no common divisor -/
def prim (v : Nat → Int) : Prop := ∀ g : Int, (∀ w, w < 8 → g ∣ v w) → g ∣ 1
theorem prim_dvd {v u : Nat → Int} {s d : Int} (hs : 0 < s) (hd : d ≠ 0) (hv : prim v) (h : ∀ w, w < 8 → s * u w = d * v w) : s ∣ d := by
  -- s / gcd divides every v w
  have hg : 0 < Int.gcd s d := Int.gcd_pos_of_ne_zero_left d (by omega)
  obtain ⟨s', hs'⟩ := Int.gcd_dvd_left s d
  obtain ⟨d', hd'⟩ := Int.gcd_dvd_right s d
  have hgz : ((Int.gcd s d : Nat) : Int) ≠ 0 := by omega
  have hco : Int.gcd s' d' = 1 := by
    have h1 : Int.gcd s d = Int.gcd s d * Int.gcd s' d' := by
      have e : Int.gcd s d = Int.gcd (((Int.gcd s d : Nat) : Int) * s') (((Int.gcd s d : Nat) : Int) * d') := by rw [← hs', ← hd']
      rw [Int.gcd_mul_left] at e
      simpa using e
    have : Int.gcd s d * 1 = Int.gcd s d * Int.gcd s' d' := by omega
    exact (Nat.eq_of_mul_eq_mul_left hg this).symm
  generalize ((Int.gcd s d : Nat) : Int) = g at hs' hd' hgz
  have hdv : ∀ w, w < 8 → s' ∣ v w := fun w hw => by
    have e1 := h w hw
    rw [hs', hd'] at e1
    have e2 : g * (s' * u w) = g * (d' * v w) := by
      rw [← Int.mul_assoc, ← Int.mul_assoc]; exact e1
    have e3 : s' * u w = d' * v w := Int.eq_of_mul_eq_mul_left hgz e2
    have hn : s'.natAbs ∣ d'.natAbs * (v w).natAbs := by
      rw [← Int.natAbs_mul, ← e3, Int.natAbs_mul]; exact Nat.dvd_mul_right _ _
    exact Int.natAbs_dvd_natAbs.mp (Nat.Coprime.dvd_of_dvd_mul_left hco hn)
  have h1 := hv s' hdv
  obtain ⟨t, ht⟩ := h1
  refine ⟨t * d', ?_⟩
  rw [hd', hs']
  have : g * s' * (t * d') = g * d' * (s' * t) := by grind
  rw [this, ← ht]; omega
/-- the numbers of a vertex without a common divisor -/
theorem vtx_size {sy : Nat → Int32} {wd wi : Int32} {n : Nat} {set : Int32} (hsy : syOK sy n) (hw : wiOK wi) {v : Nat → Int} (hp : prim v) (hv : vtx (cnA (fun j => rowOf sy wd wi (enm (hb set) n j) 0) (fun j => rowOf sy wd wi (enm (hb set) n j) 1)) (8 + 2 * ct_cd (hb set) n) v) :
    ∃ s, 0 < s ∧ s ≤ n + 1 ∧ su v ≤ lim5 s := by
  obtain ⟨W, a1, a2, a3, σ, a4, a5, a6, q, a7, a8⟩ := vtx_hits hsy.1 hv
  have hn := hsy.1
  have hpos := pop_pos W a2 a1
  have hwl : ∀ j, j < ct_cd (hb (nI W)) 8 → enm (hb (nI W)) 8 j < 8 := fun j hj => (enm_in _ _ j hj).1
  have hinj : ∀ i j, i < ct_cd (hb (nI W)) 8 → j < ct_cd (hb (nI W)) 8 → enm (hb (nI W)) 8 i = enm (hb (nI W)) 8 j → i = j := fun i j hi hj => enm_inj _ _ i j hi hj
  have hlow := low_bits n (by omega) σ a4
  generalize ct_cd (hb (nI W)) 8 = s at *
  obtain ⟨m, p1, q1⟩ := f_fill (sy := sy) (wd := wd) (wi := wi) (n := n) (s := s) (wl := enm (hb (nI W)) 8) (tt := enm (hb (nI σ)) n) (sd := sdOf q) (world := fun j => nI (enm (hb (nI W)) 8 j)) (tight := fun i => nI (enm (hb (nI σ)) n i)) (sides := nI q) (m := fun _ => 0) (K := 1000) (by decide) hsy hw a3 (fun j hj => ⟨hwl j hj, rfl⟩) (fun i hi => ⟨(enm_in (hb (nI σ)) n i (by rw [hlow, a6]; omega)).1, rfl⟩) (fun i hi => by
    unfold sdOf
    refine ⟨by split <;> decide, ?_⟩
    rw [hb_shr (nI q) (show i < 8 by omega)]
    cases hb (nI q) i <;> rfl)
  rcases f_elim (m := m) (K := 1000) (cs := 0) (up := fun _ => 0) (dn := fun _ => 0) (nw := fun _ => 0) (by decide) a3 hpos (mat0_rows sy wd wi hpos _ _ _) q1 with ⟨m2, -, z, ⟨j, hj, hzj⟩, hzs, hz⟩ | ⟨bf, m2, -, hb0, hbl, hbj, hsol⟩
  · exact absurd (hits_regular hpos hwl hinj a8 hzs hz j hj) hzj
  · obtain ⟨h1, h2⟩ := hits_sol hpos hwl hinj a8 hsol
    have hd := prim_dvd h1 hb0 hp h2
    have hcd := ct_cd_le (hb (nI σ)) n
    refine ⟨s, hpos, by rw [hlow, a6] at hcd; omega, ?_⟩
    have hle : su v ≤ bf.toInt.natAbs := by
      obtain ⟨t, ht⟩ := hd
      have ht0 : t ≠ 0 := fun e => hb0 (by rw [ht, e, Int.mul_zero])
      rw [ht, Int.natAbs_mul]
      have e1 : ((su v).natAbs : Int) = su v := Int.natAbs_of_nonneg (Int.le_of_lt h1)
      have e2 : 1 ≤ t.natAbs := by omega
      have e3 : (su v).natAbs * 1 ≤ (su v).natAbs * t.natAbs := Nat.mul_le_mul_left _ e2
      omega
    unfold wthn at hbl
    omega

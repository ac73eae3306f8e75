/-! the reference's answers from its list -/
def okR (c : Nat) (up dn : Nat → Int64) : Prop := c ≤ 4712 ∧ ∀ e, e < c → (∀ w, w < 8 → 0 ≤ ent up e w) ∧ su (ent up e) = (dn e).toInt ∧ 0 < (dn e).toInt ∧ (dn e).toInt ≤ 2000000000
theorem okR_ent {c : Nat} {up dn : Nat → Int64} (h : okR c up dn) {e : Nat} (he : e < c) : ∀ w, w < 8 → 0 ≤ ent up e w ∧ ent up e w ≤ 2000000000 := ent_le (h.2 e he).1 (by rw [(h.2 e he).2.1]; exact (h.2 e he).2.2.2)
theorem f_chance {c K e : Nat} {up dn : Nat → Int64} {thing : Int32} (hK : 1000 ≤ K) (h : okR c up dn) (he : e < c) : ∃ r, f_X9_chance K 38400 up (nI e) thing = some r ∧ r.toInt = wt thing (ent up e) := by
  have hc := h.1
  have hx := okR_ent h he
  obtain ⟨r, h1, h2⟩ := lp_loop (f := f_X9_chance_L5 38400 up (nI e) thing) (fun k st => k ≤ 8 ∧ ∃ a : Int64, st = (a, nI k) ∧ a.toInt = sg (fun w => (if hb thing w then 1 else 0) * ent up e w) k) 8 (fun r => r.toInt = wt thing (ent up e)) (fun k st hI => by
    obtain ⟨hk, a, rfl, ha⟩ := hI
    unfold f_X9_chance_L5
    simp only
    by_cases e8 : k = 8
    · subst e8
      rw [if_pos (show (8 : Int32) ≤ nI 8 from nI_le (Nat.le_refl 8) (by decide))]
      exact Or.inl ⟨a, rfl, ha⟩
    · have hk8 : k < 8 := by omega
      rw [if_neg (show ¬ (8 : Int32) ≤ nI k from nI_ge hk8 (by decide)), hb_shr thing hk8]
      cases hbk : hb thing k
      · rw [if_neg (by decide), nI_1]
        refine Or.inr ⟨hk8, _, rfl, by omega, _, rfl, ?_⟩
        have : a + (0 : Int64) = a := by simp
        rw [this, sg, ha, hbk]; simp
      · rw [if_pos (by decide), ix8, if_neg (nI_in (show 8 * e + k < 38400 by omega) (by decide)), nI_clamp (by omega), nI_1]
        refine Or.inr ⟨hk8, _, rfl, by omega, _, rfl, ?_⟩
        have hb1 := sg_within (f := fun w => (if hb thing w then 1 else 0) * ent up e w) (B := 2000000000) (n := k) (fun w hw => by
          have := hx w (by omega)
          unfold wthn
          split <;> simp <;> omega)
        have hx1 := hx k hk8
        unfold wthn at hb1
        have e1 : (up (8 * e + k)).toInt = ent up e k := rfl
        rw [q64_add (by rw [ha, e1]; unfold wthn; omega), ha, sg, hbk, e1]; simp) K 0 ((0 : Int64), (0 : Int32)) ⟨Nat.zero_le _, 0, rfl, rfl⟩ (by omega)
  exact ⟨r, by unfold f_X9_chance; rw [h1]; rfl, h2⟩
theorem f_gcd9 {x y : Int64} {a b K : Nat} (hK : 1000 ≤ K) (hx : isN x a) (hy : isN y b) : ∃ g, lp f_X9_gcd_L17 K (x, y) = some g ∧ isN g (Nat.gcd a b) := by
  refine lp_loop (f := f_X9_gcd_L17) (fun k st => k ≤ 100 ∧ (∀ j, j < k → (eui j (a, b)).2 ≠ 0) ∧ ∃ u v : Int64, st = (u, v) ∧ isN u (eui k (a, b)).1 ∧ isN v (eui k (a, b)).2) 100
    (fun g => isN g (Nat.gcd a b)) (fun k st hI => ?_) K 0 _ ⟨Nat.zero_le _, fun j h => absurd h (Nat.not_lt_zero j), x, y, rfl, hx, hy⟩ (by omega)
  obtain ⟨hk, hne, u, v, rfl, hu, hv⟩ := hI
  unfold f_X9_gcd_L17
  simp only
  by_cases h0 : (eui k (a, b)).2 = 0
  · have hv0 : v = 0 := by
      unfold isN at hv
      rw [h0] at hv
      exact i64_ne0.mpr hv
    rw [if_pos ((lg_cmp_eq _ _).mpr hv0)]
    exact Or.inl ⟨_, rfl, by rw [← eui_gcd k a b h0 hne]; exact hu⟩
  · have hv0 : ¬ v = 0 := fun e => h0 (by
      have := i64_ne0.mp e
      unfold isN at hv
      omega)
    have h100 : k < 100 := Classical.byContradiction fun hn => by
      have h99 : fb 99 ≤ b := (eui_fb 98 a b (fun j hj => hne j (by omega))).1
      have := fb_big
      have := isN_lt hy
      omega
    rw [if_neg (fun h => hv0 ((lg_cmp_eq _ _).mp h)), if_neg hv0]
    refine Or.inr ⟨h100, _, rfl, by omega, fun j hj => ?_, _, _, rfl, ?_, ?_⟩
    · by_cases e : j = k
      · rw [e]; exact h0
      · exact hne j (by omega)
    · rw [eui_succ]; exact hv
    · rw [eui_succ]; exact isN_rem hu hv h0
theorem f_tells {U B : Int64} {what : Int32} {K : Nat} (hK : 1000 ≤ K) (hU : wthn 2000000000 U.toInt) (hB : 0 < B.toInt) : ∃ a, f_X9_tells K U B what = some a ∧ lterm U.toInt B.toInt what a := by
  have hUB : wthn 9223372036854775807 U.toInt := wthn_mono hU (by decide)
  have hg : ∃ g, f_X9_gcd K U B = some g ∧ isN g (Int.gcd U.toInt B.toInt) := by
    have hgcd : Nat.gcd U.toInt.natAbs B.toInt.toNat = Int.gcd U.toInt B.toInt := by
      unfold Int.gcd
      congr 1
      omega
    unfold f_X9_gcd
    have c : ((0 : Int32) ≤ lg_cmp U (0 : Int64)) ↔ 0 ≤ U.toInt := by rw [lg_cmp_ge, Int64.le_iff_toInt_le, i64_z]
    by_cases h0 : 0 ≤ U.toInt
    · obtain ⟨g, p, q⟩ := f_gcd9 (K := K) (x := U) (y := B) (a := U.toInt.natAbs) (b := B.toInt.toNat) hK (by unfold isN; omega) (by unfold isN; omega)
      rw [if_pos (c.mpr h0), p]
      exact ⟨g, rfl, by rw [← hgcd]; exact q⟩
    · obtain ⟨g, p, q⟩ := f_gcd9 (K := K) (x := -U) (y := B) (a := U.toInt.natAbs) (b := B.toInt.toNat) hK (by unfold isN; rw [q64_neg hUB]; omega) (by unfold isN; omega)
      rw [if_neg (fun h => h0 (c.mp h)), p]
      exact ⟨g, rfl, by rw [← hgcd]; exact q⟩
  obtain ⟨g, p, q⟩ := hg
  have hpos : 0 < Int.gcd U.toInt B.toInt := Int.gcd_pos_of_ne_zero_right _ (by omega)
  have hg0 : ¬ g = 0 := fun e => by
    have := i64_ne0.mp e
    unfold isN at q; omega
  have dv : ∀ x : Int64, ((Int.gcd U.toInt B.toInt : Nat) : Int) ∣ x.toInt → wthn 9223372036854775807 x.toInt → (x / g).toInt * ((Int.gcd U.toInt B.toInt : Nat) : Int) = x.toInt := fun x hx hw => by
    unfold isN at q
    have e1 : (x / g).toInt = x.toInt.tdiv ((Int.gcd U.toInt B.toInt : Nat) : Int) := by
      rw [Int64.toInt_div, q, Int.bmod_def]
      have hab : (x.toInt.tdiv ((Int.gcd U.toInt B.toInt : Nat) : Int)).natAbs ≤ x.toInt.natAbs := by rw [Int.natAbs_tdiv]; exact Nat.div_le_self _ _
      unfold wthn at hw
      generalize x.toInt.tdiv ((Int.gcd U.toInt B.toInt : Nat) : Int) = y at hab ⊢
      omega
    rw [e1]
    exact Int.tdiv_mul_cancel hx
  unfold f_X9_tells
  rw [p, Option.bind_some]
  by_cases hw : what = 0
  · rw [if_pos hw, if_neg hg0]
    refine ⟨_, rfl, ?_⟩
    unfold lterm
    rw [if_pos hw]
    exact dv U (Int.gcd_dvd_left _ _) hUB
  · rw [if_neg hw, if_neg hg0]
    refine ⟨_, rfl, ?_⟩
    unfold lterm
    rw [if_neg hw]
    exact dv B (Int.gcd_dvd_right _ _) (by have := B.toInt_lt; unfold wthn; omega)
/-- one turn of bounds, once numerator u and denominator l are known -/
theorem bnd_turn {c k : Nat} {nu de : Nat → Int} {which : Int32} {U B u l : Int64} {x5 : Int32} (hf : fbest k nu de which U.toInt B.toInt) (hu : u.toInt = nu k) (hl : l.toInt = de k) (hb : ∀ e, e ≤ k → wthn 2000000000 (nu e) ∧ wthn 2000000000 (de e)) (hd : 0 < de k) (hU : B.toInt = 0 ∨ wthn 2000000000 U.toInt) :
    ∃ U' B' : Int64, (if (lg_cmp B (0 : Int64)) = (0 : Int32) then f_X9_bounds_J142 x5 u l
              else
                if which = (0 : Int32) then
                  if (0 : Int32) ≤ (lg_cmp ((u * B) - (U * l)) (0 : Int64)) then
                    some (.inr (x5 + 1, U, B))
                  else
                    f_X9_bounds_J142 x5 u l
                else
                  if (lg_cmp ((u * B) - (U * l)) (0 : Int64)) ≤ (0 : Int32) then
                    some (.inr (x5 + 1, U, B))
                  else
                    f_X9_bounds_J142 x5 u l) = (some (.inr (x5 + 1, U', B')) : Option ((Int64 × Int64) ⊕ (Int32 × Int64 × Int64))) ∧ fbest (k + 1) nu de which U'.toInt B'.toInt ∧ (B'.toInt = 0 ∨ wthn 2000000000 U'.toInt) := by
  have z0 : (lg_cmp B (0 : Int64) = (0 : Int32)) ↔ B.toInt = 0 := by rw [lg_cmp_eq, i64_ne0]
  have take : (B.toInt = 0 ∨ (if which = 0 then nu k * B.toInt < U.toInt * de k else U.toInt * de k < nu k * B.toInt)) → fbest (k + 1) nu de which u.toInt l.toInt ∧ (l.toInt = 0 ∨ wthn 2000000000 u.toInt) := fun h => by
    rw [hu, hl]
    exact ⟨fbest_take hf hd h, Or.inr (hb k (Nat.le_refl k)).1⟩
  by_cases h0 : B.toInt = 0
  · rw [if_pos (z0.mpr h0)]
    exact ⟨u, l, rfl, take (Or.inl h0)⟩
  · rw [if_neg (fun h => h0 (z0.mp h))]
    have hBp : 0 < B.toInt := by rcases hf with ⟨h1, _⟩ | ⟨h1, _⟩ <;> omega
    have b2 : wthn 2000000000 B.toInt := by
      rcases hf with ⟨h1, _⟩ | ⟨h1, ⟨e, he, _, _, g3⟩, _⟩
      · omega
      · rw [g3]; exact (hb e (by omega)).2
    have b1 := hU.resolve_left h0
    have m1 := wthn_mul (show wthn 2000000000 u.toInt from by rw [hu]; exact (hb k (Nat.le_refl k)).1) b2
    have m2 := wthn_mul b1 (show wthn 2000000000 l.toInt from by rw [hl]; exact (hb k (Nat.le_refl k)).2)
    have e1 : (u * B).toInt = u.toInt * B.toInt := q64_mul (wthn_mono m1 (by decide))
    have e2 : (U * l).toInt = U.toInt * l.toInt := q64_mul (wthn_mono m2 (by decide))
    unfold wthn at m1 m2
    have e3 : ((u * B) - (U * l)).toInt = nu k * B.toInt - U.toInt * de k := by rw [q64_sub (by rw [e1, e2]; unfold wthn; omega), e1, e2, hu, hl]
    have z1 : ((0 : Int32) ≤ lg_cmp ((u * B) - (U * l)) (0 : Int64)) ↔ U.toInt * de k ≤ nu k * B.toInt := by rw [lg_cmp_ge, Int64.le_iff_toInt_le, e3, i64_z]; omega
    have z2 : (lg_cmp ((u * B) - (U * l)) (0 : Int64) ≤ (0 : Int32)) ↔ nu k * B.toInt ≤ U.toInt * de k := by rw [lg_cmp_le, Int64.le_iff_toInt_le, e3, i64_z]; omega
    by_cases hw : which = 0
    · rw [if_pos hw]
      by_cases h1 : U.toInt * de k ≤ nu k * B.toInt
      · rw [if_pos (z1.mpr h1)]
        exact ⟨U, B, rfl, fbest_stay hf hBp (by rw [if_pos hw]; exact h1), Or.inr b1⟩
      · rw [if_neg (fun h => h1 (z1.mp h))]
        exact ⟨u, l, rfl, take (Or.inr (by rw [if_pos hw]; omega))⟩
    · rw [if_neg hw]
      by_cases h1 : nu k * B.toInt ≤ U.toInt * de k
      · rw [if_pos (z2.mpr h1)]
        exact ⟨U, B, rfl, fbest_stay hf hBp (by rw [if_neg hw]; exact h1), Or.inr b1⟩
      · rw [if_neg (fun h => h1 (z2.mp h))]
        exact ⟨u, l, rfl, take (Or.inr (by rw [if_neg hw]; omega))⟩
def bNum (thing other isD : Int32) : Nat → Int := if isD = 0 then ind (thing &&& other) else fun w => ind thing w - ind other w
def bDen (other isD : Int32) : Nat → Int := if isD = 0 then ind other else fun _ => 1
theorem f_bounds {c K : Nat} {up dn : Nat → Int64} {thing other which isD : Int32} {U0 : Int64} (hK : 10000 ≤ K) (h : okR c up dn) (hD : isD = 0 ∨ isD = 1) :
    ∃ (s : Int32) (U B : Int64), f_X9_bounds K 38400 4800 (nI c) U0 up dn thing other which isD = some (s, U, B) ∧ fbest c (fun e => ev (bNum thing other isD) (ent up e)) (fun e => ev (bDen other isD) (ent up e)) which U.toInt B.toInt ∧ (B.toInt = 0 ∨ wthn 2000000000 U.toInt) ∧ ((s = 1 ∧ 0 < B.toInt) ∨ (s = 0 ∧ B.toInt = 0)) := by
  have hc := h.1
  have sp : ∀ e, e < c → ∀ s : Int32, 0 ≤ ev (ind s) (ent up e) ∧ ev (ind s) (ent up e) ≤ 2000000000 := fun e he s => by
    have h1 := wt_le (t := s) (h.2 e he).1
    have h2 := h.2 e he
    rw [wt_ind] at h1
    omega
  have bnd : ∀ e, e < c → wthn 2000000000 (ev (bNum thing other isD) (ent up e)) ∧ wthn 2000000000 (ev (bDen other isD) (ent up e)) := fun e he => by
    unfold bNum bDen
    rcases hD with hD | hD
    · rw [if_pos hD, if_pos hD]
      have a := sp e he (thing &&& other)
      have b := sp e he other
      unfold wthn; omega
    · rw [if_neg (by rw [hD]; decide), if_neg (by rw [hD]; decide), ev_diff]
      have a := sp e he thing
      have b := sp e he other
      have g := h.2 e he
      have : ev (fun _ => 1) (ent up e) = (dn e).toInt := g.2.1
      rw [this]
      unfold wthn; omega
  obtain ⟨r, h1, U, B, rfl, h2, h3⟩ := lp_loop (f := f_X9_bounds_L8 K 38400 4800 (nI c) up dn thing other which isD)
    (fun k st => k ≤ c ∧ ∃ U B : Int64, st = (nI k, U, B) ∧ fbest k (fun e => ev (bNum thing other isD) (ent up e)) (fun e => ev (bDen other isD) (ent up e)) which U.toInt B.toInt ∧ (B.toInt = 0 ∨ wthn 2000000000 U.toInt)) c
    (fun r => ∃ U B : Int64, r = (U, B) ∧ fbest c (fun e => ev (bNum thing other isD) (ent up e)) (fun e => ev (bDen other isD) (ent up e)) which U.toInt B.toInt ∧ (B.toInt = 0 ∨ wthn 2000000000 U.toInt)) (fun k st hI => by
    obtain ⟨hk, U, B, rfl, hf, hU⟩ := hI
    unfold f_X9_bounds_L8
    simp only
    by_cases e : k = c
    · subst e
      rw [if_pos (nI_le (Nat.le_refl k) (by omega))]
      exact Or.inl ⟨_, rfl, U, B, rfl, hf, hU⟩
    · have hkc : k < c := by omega
      rw [if_neg (nI_ge hkc (by omega))]
      have z0 : (lg_cmp B (0 : Int64) = (0 : Int32)) ↔ B.toInt = 0 := by rw [lg_cmp_eq, i64_ne0]
      rcases hD with hD | hD
      · obtain ⟨w1, p1, q1⟩ := f_chance (thing := thing &&& other) (K := K) (by omega) h hkc
        obtain ⟨w2, p2, q2⟩ := f_chance (thing := other) (K := K) (by omega) h hkc
        rw [wt_ind] at q1 q2
        have n1 : ev (bNum thing other isD) (ent up k) = ev (ind (thing &&& other)) (ent up k) := by unfold bNum; rw [if_pos hD]
        have n2 : ev (bDen other isD) (ent up k) = ev (ind other) (ent up k) := by unfold bDen; rw [if_pos hD]
        have c1 : (lg_cmp w2 (0 : Int64) ≤ (0 : Int32)) ↔ ¬ 0 < ev (bDen other isD) (ent up k) := by rw [lg_cmp_le, Int64.le_iff_toInt_le, q2, i64_z, n2]; omega
        simp only [if_pos hD]
        rw [p1, Option.bind_some, p2, Option.bind_some]
        by_cases hd : 0 < ev (bDen other isD) (ent up k)
        · rw [if_neg (fun g => c1.mp g hd)]
          obtain ⟨U', B', g1, g2, g3⟩ := bnd_turn (c := c) (x5 := nI k) (u := w1) (l := w2) hf (by rw [q1, n1]) (by rw [q2, n2]) (fun e he => bnd e (by omega)) hd hU
          refine Or.inr ⟨hkc, (nI k + 1, U', B'), ?_, by omega, U', B', by rw [nI_1], g2, g3⟩
          rw [← g1]
          by_cases hb0 : lg_cmp B (0 : Int64) = (0 : Int32)
          · simp only [if_pos hb0]
          · simp only [if_neg hb0]
        · rw [if_pos (c1.mpr hd), nI_1]
          exact Or.inr ⟨hkc, _, rfl, by omega, U, B, rfl, fbest_skip hf hd, hU⟩
      · have hD0 : ¬ isD = 0 := by rw [hD]; decide
        obtain ⟨w1, p1, q1⟩ := f_chance (thing := thing) (K := K) (by omega) h hkc
        obtain ⟨w2, p2, q2⟩ := f_chance (thing := other) (K := K) (by omega) h hkc
        rw [wt_ind] at q1 q2
        have n1 : ev (bNum thing other isD) (ent up k) = ev (ind thing) (ent up k) - ev (ind other) (ent up k) := by unfold bNum; rw [if_neg hD0, ev_diff]
        have n2 : ev (bDen other isD) (ent up k) = (dn k).toInt := by unfold bDen; rw [if_neg hD0]; exact (h.2 k hkc).2.1
        have hd : 0 < ev (bDen other isD) (ent up k) := by rw [n2]; exact (h.2 k hkc).2.2.1
        have c1 : ¬ (lg_cmp (dn k) (0 : Int64) ≤ (0 : Int32)) := fun g => by
          rw [lg_cmp_le, Int64.le_iff_toInt_le, i64_z] at g
          rw [n2] at hd; omega
        have e12 : (w1 - w2).toInt = ev (bNum thing other isD) (ent up k) := by
          rw [n1, q64_sub (by rw [q1, q2, ← n1]; exact wthn_mono (bnd k hkc).1 (by decide)), q1, q2]
        simp only [if_neg hD0]
        rw [p1, Option.bind_some, p2, Option.bind_some, if_neg (nI_in (show k < 4800 by omega) (by decide)), nI_clamp (by omega), if_neg c1]
        obtain ⟨U', B', g1, g2, g3⟩ := bnd_turn (c := c) (x5 := nI k) (u := w1 - w2) (l := dn k) hf e12 (by rw [n2]) (fun e he => bnd e (by omega)) hd hU
        refine Or.inr ⟨hkc, (nI k + 1, U', B'), ?_, by omega, U', B', by rw [nI_1], g2, g3⟩
        rw [← g1]
        by_cases hb0 : lg_cmp B (0 : Int64) = (0 : Int32)
        · simp only [if_pos hb0]
        · simp only [if_neg hb0, Option.bind_some]) K 0 ((0 : Int32), U0, (0 : Int64)) ⟨Nat.zero_le _, U0, 0, rfl, Or.inl ⟨rfl, fun e h => absurd h (Nat.not_lt_zero e)⟩, Or.inl rfl⟩ (by omega)
  unfold f_X9_bounds
  rw [h1, Option.bind_some]
  simp only
  have z : (lg_cmp B (0 : Int64) ≤ (0 : Int32)) ↔ B.toInt ≤ 0 := by rw [lg_cmp_le, Int64.le_iff_toInt_le, i64_z]
  by_cases h0 : B.toInt ≤ 0
  · rw [if_pos (z.mpr h0)]
    refine ⟨0, U, B, rfl, h2, h3, Or.inr ⟨rfl, ?_⟩⟩
    rcases h2 with ⟨g, _⟩ | ⟨g, _⟩ <;> omega
  · rw [if_neg (fun g => h0 (z.mp g))]
    exact ⟨1, U, B, rfl, h2, h3, Or.inl ⟨rfl, by omega⟩⟩

/-! the class's answers from a list of corners -/
def ind (t : Int32) : Nat → Int := fun w => if hb t w then 1 else 0
theorem wt_ind (t : Int32) (x : Nat → Int) : wt t x = ev (ind t) x := rfl
theorem ev_diff (a b x : Nat → Int) : ev (fun w => a w - b w) x = ev a x - ev b x := by
  have := ev_add_l a b x 1 (-1)
  have e : ev (fun w => 1 * a w + -1 * b w) x = ev (fun w => a w - b w) x := by
    unfold ev; exact sg_cong fun w _ => by grind
  rw [← e, this]; omega
theorem wt_le {t : Int32} {x : Nat → Int} (h : ∀ w, w < 8 → 0 ≤ x w) : 0 ≤ wt t x ∧ wt t x ≤ su x := by
  refine ⟨wt_nonneg h, ?_⟩
  have h2 : 0 ≤ ev (fun w => (fun _ => 1) w - ind t w) x := sg_nonneg fun w hw => by
    have := h w hw
    dsimp only [ind]
    split <;> simp <;> omega
  rw [ev_diff] at h2
  unfold su
  rw [wt_ind]; omega
theorem wt_255 (x : Nat → Int) : wt 255 x = ev (fun _ => 1) x := by
  unfold wt ev
  refine sg_cong fun w hw => ?_
  have : ∀ w, w < 8 → hb 255 w = true := by decide
  dsimp only
  rw [this w hw]; rfl
theorem f_set {u l : Int64} (hl : 0 < l.toInt) : f_X1_set u l = some (u, l) := by
  have : ¬ lg_cmp l (0 : Int64) ≤ (0 : Int32) := fun h => by
    rw [lg_cmp_le, Int64.le_iff_toInt_le, i64_z] at h; omega
  unfold f_X1_set
  rw [if_neg this, if_neg this]
theorem f_improve {U B u l : Int64} {which : Int32} (hB : 0 ≤ B.toInt) (hl : 0 < l.toInt) (b1 : wthn 2000000000 U.toInt) (b2 : wthn 2000000000 B.toInt) (b3 : wthn 2000000000 u.toInt) (b4 : wthn 2000000000 l.toInt) :
    ((B.toInt = 0 ∨ (if which = 0 then u.toInt * B.toInt < U.toInt * l.toInt else U.toInt * l.toInt < u.toInt * B.toInt)) ∧ f_X1_improve U B u l which = some (u, l)) ∨ (0 < B.toInt ∧ (if which = 0 then U.toInt * l.toInt ≤ u.toInt * B.toInt else u.toInt * B.toInt ≤ U.toInt * l.toInt) ∧ f_X1_improve U B u l which = some (U, B)) := by
  have m1 := wthn_mul b3 b2
  have m2 := wthn_mul b1 b4
  have e1 : (u * B).toInt = u.toInt * B.toInt := q64_mul (wthn_mono m1 (by decide))
  have e2 : (U * l).toInt = U.toInt * l.toInt := q64_mul (wthn_mono m2 (by decide))
  unfold wthn at m1 m2
  have e3 : ((u * B) - (U * l)).toInt = u.toInt * B.toInt - U.toInt * l.toInt := by rw [q64_sub (by rw [e1, e2]; unfold wthn; omega), e1, e2]
  have hJ : f_X1_improve_J46 u l = some (u, l) := by unfold f_X1_improve_J46; rw [f_set hl]; rfl
  have z0 : (lg_cmp B (0 : Int64) = (0 : Int32)) ↔ B.toInt = 0 := by rw [lg_cmp_eq, i64_ne0]
  have z1 : ((0 : Int32) ≤ lg_cmp ((u * B) - (U * l)) (0 : Int64)) ↔ U.toInt * l.toInt ≤ u.toInt * B.toInt := by rw [lg_cmp_ge, Int64.le_iff_toInt_le, e3, i64_z]; omega
  have z2 : (lg_cmp ((u * B) - (U * l)) (0 : Int64) ≤ (0 : Int32)) ↔ u.toInt * B.toInt ≤ U.toInt * l.toInt := by rw [lg_cmp_le, Int64.le_iff_toInt_le, e3, i64_z]; omega
  unfold f_X1_improve
  by_cases h0 : B.toInt = 0
  · rw [if_pos (z0.mpr h0)]; exact Or.inl ⟨Or.inl h0, hJ⟩
  · rw [if_neg (fun h => h0 (z0.mp h))]
    by_cases hw : which = 0
    · simp only [if_pos hw]
      by_cases h1 : U.toInt * l.toInt ≤ u.toInt * B.toInt
      · rw [if_pos (z1.mpr h1)]; exact Or.inr ⟨by omega, h1, rfl⟩
      · rw [if_neg (fun h => h1 (z1.mp h))]; exact Or.inl ⟨Or.inr (by omega), hJ⟩
    · simp only [if_neg hw]
      by_cases h1 : u.toInt * B.toInt ≤ U.toInt * l.toInt
      · rw [if_pos (z2.mpr h1)]; exact Or.inr ⟨by omega, h1, rfl⟩
      · rw [if_neg (fun h => h1 (z2.mp h))]; exact Or.inl ⟨Or.inr (by omega), hJ⟩
/-- a list that is in order: nonnegative, small, within its room -/
def okL (t n : Nat) (P : Nat → Int64) : Prop := n ≤ roomOf t ∧ ∀ i, i < n → (∀ w, w < 8 → 0 ≤ ent P i w) ∧ su (ent P i) ≤ 2000000000
theorem okL_ent {t n : Nat} {P : Nat → Int64} (h : okL t n P) {i : Nat} (hi : i < n) : ∀ w, w < 8 → 0 ≤ ent P i w ∧ ent P i w ≤ 2000000000 := ent_le (h.2 i hi).1 (h.2 i hi).2
theorem fb_bound {c : Nat} {nu de : Nat → Int} {which : Int32} {U B : Int64} (h : fbest c nu de which U.toInt B.toInt) (hU : B.toInt = 0 → U.toInt = 0) (hb : ∀ e, e < c → wthn 2000000000 (nu e) ∧ wthn 2000000000 (de e)) : 0 ≤ B.toInt ∧ wthn 2000000000 U.toInt ∧ wthn 2000000000 B.toInt := by
  rcases h with ⟨h1, _⟩ | ⟨h1, ⟨e, he, _, g2, g3⟩, _⟩
  · rw [h1, hU h1]; exact ⟨by decide, by unfold wthn; decide, by unfold wthn; decide⟩
  · rw [g2]
    exact ⟨by omega, (hb e he).1, by rw [g3]; exact (hb e he).2⟩
theorem f_findShare {t n K : Nat} {P : Nat → Int64} {thing cond which : Int32} (hK : 1000 ≤ K) (h : okL t n P) :
    ∃ U B : Int64, f_X0_findShare K (8 * roomOf t) (nI n) P thing cond which = some (U, B) ∧ fbest n (fun e => ev (ind (thing &&& cond)) (ent P e)) (fun e => ev (ind cond) (ent P e)) which U.toInt B.toInt ∧ (B.toInt = 0 → U.toInt = 0) := by
  have hr := roomOf_le t
  have hn := h.1
  have bnd : ∀ e, e < n → ∀ s : Int32, 0 ≤ ev (ind s) (ent P e) ∧ wthn 2000000000 (ev (ind s) (ent P e)) := fun e he s => by
    have h1 := wt_le (t := s) (h.2 e he).1
    have h2 := (h.2 e he).2
    rw [wt_ind] at h1
    unfold wthn; omega
  obtain ⟨r, h1, U, B, rfl, h2, h3⟩ := lp_loop (f := f_X0_findShare_L8 K (8 * roomOf t) (nI n) P thing cond which)
    (fun k st => k ≤ n ∧ ∃ U B : Int64, st = (nI k, U, B) ∧ fbest k (fun e => ev (ind (thing &&& cond)) (ent P e)) (fun e => ev (ind cond) (ent P e)) which U.toInt B.toInt ∧ (B.toInt = 0 → U.toInt = 0)) n
    (fun r => ∃ U B : Int64, r = (U, B) ∧ fbest n (fun e => ev (ind (thing &&& cond)) (ent P e)) (fun e => ev (ind cond) (ent P e)) which U.toInt B.toInt ∧ (B.toInt = 0 → U.toInt = 0)) (fun k st hI => by
    obtain ⟨hk, U, B, rfl, hf, hU⟩ := hI
    unfold f_X0_findShare_L8
    simp only
    by_cases e : k = n
    · subst e
      rw [if_pos (nI_le (Nat.le_refl k) (by omega))]
      exact Or.inl ⟨_, rfl, U, B, rfl, hf, hU⟩
    · have hkn : k < n := by omega
      obtain ⟨w1, p1, q1⟩ := f_weight (P := P) (np := 8 * roomOf t) (i := k) (thing := cond) (K := K) (by omega) (by omega) (by omega) (okL_ent h hkn)
      obtain ⟨w2, p2, q2⟩ := f_weight (P := P) (np := 8 * roomOf t) (i := k) (thing := thing &&& cond) (K := K) (by omega) (by omega) (by omega) (okL_ent h hkn)
      rw [wt_ind] at q1 q2
      have c1 : (lg_cmp w1 (0 : Int64) ≤ (0 : Int32)) ↔ ¬ 0 < ev (ind cond) (ent P k) := by rw [lg_cmp_le, Int64.le_iff_toInt_le, q1, i64_z]; omega
      rw [if_neg (nI_ge hkn (by omega)), p1, Option.bind_some]
      by_cases hd : 0 < ev (ind cond) (ent P k)
      · obtain ⟨g1, g2, g3⟩ := fb_bound hf hU (fun e he => ⟨(bnd e (by omega) _).2, (bnd e (by omega) _).2⟩)
        rw [if_neg (fun hh => c1.mp hh hd), p2, Option.bind_some]
        rcases f_improve (which := which) (u := w2) (l := w1) g1 (by rw [q1]; exact hd) g2 g3 (by rw [q2]; exact (bnd k hkn _).2) (by rw [q1]; exact (bnd k hkn _).2) with ⟨i1, i2⟩ | ⟨i1, i2, i3⟩
        · rw [i2, Option.bind_some, nI_1]
          rw [q1, q2] at i1
          refine Or.inr ⟨hkn, _, rfl, by omega, w2, w1, rfl, ?_, fun hz => by rw [q1] at hz; omega⟩
          rw [q1, q2]
          exact fbest_take hf hd i1
        · rw [i3, Option.bind_some, nI_1]
          rw [q1, q2] at i2
          exact Or.inr ⟨hkn, _, rfl, by omega, U, B, rfl, fbest_stay hf i1 i2, hU⟩
      · rw [if_pos (c1.mpr hd), nI_1]
        exact Or.inr ⟨hkn, _, rfl, by omega, U, B, rfl, fbest_skip hf hd, hU⟩) K 0 ((0 : Int32), (0 : Int64), (0 : Int64)) ⟨Nat.zero_le _, 0, 0, rfl, Or.inl ⟨rfl, fun e h => absurd h (Nat.not_lt_zero e)⟩, fun _ => rfl⟩ (by omega)
  refine ⟨U, B, ?_, h2, h3⟩
  unfold f_X0_findShare f_X1_forget
  rw [Option.bind_some]
  simp only
  rw [h1]; rfl
theorem f_findDifference {t n K : Nat} {P : Nat → Int64} {thing other which : Int32} (hK : 1000 ≤ K) (h : okL t n P) (hpos : ∀ i, i < n → 0 < su (ent P i)) :
    ∃ U B : Int64, f_X0_findDifference K (8 * roomOf t) (nI n) P thing other which = some (U, B) ∧ fbest n (fun e => ev (fun w => ind thing w - ind other w) (ent P e)) (fun e => ev (fun _ => 1) (ent P e)) which U.toInt B.toInt ∧ (B.toInt = 0 → U.toInt = 0) := by
  have hr := roomOf_le t
  have hn := h.1
  have all : ∀ x : Nat → Int, wt 255 x = ev (fun _ => 1) x := fun x => wt_255 x
  have bnd : ∀ e, e < n → wthn 2000000000 (ev (fun w => ind thing w - ind other w) (ent P e)) ∧ wthn 2000000000 (ev (fun _ => 1) (ent P e)) := fun e he => by
    have h1 := wt_le (t := thing) (h.2 e he).1
    have h3 := wt_le (t := other) (h.2 e he).1
    have h2 := (h.2 e he).2
    have h4 := hpos e he
    rw [wt_ind] at h1 h3
    rw [ev_diff]
    unfold su at h1 h2 h3 h4
    unfold wthn; omega
  obtain ⟨r, h1, U, B, rfl, h2, h3⟩ := lp_loop (f := f_X0_findDifference_L8 K (8 * roomOf t) (nI n) P thing other which)
    (fun k st => k ≤ n ∧ ∃ U B : Int64, st = (nI k, U, B) ∧ fbest k (fun e => ev (fun w => ind thing w - ind other w) (ent P e)) (fun e => ev (fun _ => 1) (ent P e)) which U.toInt B.toInt ∧ (B.toInt = 0 → U.toInt = 0)) n
    (fun r => ∃ U B : Int64, r = (U, B) ∧ fbest n (fun e => ev (fun w => ind thing w - ind other w) (ent P e)) (fun e => ev (fun _ => 1) (ent P e)) which U.toInt B.toInt ∧ (B.toInt = 0 → U.toInt = 0)) (fun k st hI => by
    obtain ⟨hk, U, B, rfl, hf, hU⟩ := hI
    unfold f_X0_findDifference_L8
    simp only
    by_cases e : k = n
    · subst e
      rw [if_pos (nI_le (Nat.le_refl k) (by omega))]
      exact Or.inl ⟨_, rfl, U, B, rfl, hf, hU⟩
    · have hkn : k < n := by omega
      obtain ⟨w1, p1, q1⟩ := f_weight (P := P) (np := 8 * roomOf t) (i := k) (thing := thing) (K := K) (by omega) (by omega) (by omega) (okL_ent h hkn)
      obtain ⟨w2, p2, q2⟩ := f_weight (P := P) (np := 8 * roomOf t) (i := k) (thing := other) (K := K) (by omega) (by omega) (by omega) (okL_ent h hkn)
      obtain ⟨w3, p3, q3⟩ := f_weight (P := P) (np := 8 * roomOf t) (i := k) (thing := 255) (K := K) (by omega) (by omega) (by omega) (okL_ent h hkn)
      rw [wt_ind] at q1 q2
      rw [all] at q3
      have hd : 0 < ev (fun _ => 1) (ent P k) := hpos k hkn
      have b := bnd k hkn
      have e12 : (w1 - w2).toInt = ev (fun w => ind thing w - ind other w) (ent P k) := by
        rw [ev_diff, q64_sub (by rw [q1, q2, ← ev_diff]; exact wthn_mono b.1 (by decide)), q1, q2]
      obtain ⟨g1, g2, g3⟩ := fb_bound hf hU (fun e he => bnd e (by omega))
      rw [if_neg (nI_ge hkn (by omega)), p1, Option.bind_some, p2, Option.bind_some, p3, Option.bind_some]
      rcases f_improve (which := which) (u := w1 - w2) (l := w3) g1 (by rw [q3]; exact hd) g2 g3 (by rw [e12]; exact b.1) (by rw [q3]; exact b.2) with ⟨i1, i2⟩ | ⟨i1, i2, i3⟩
      · rw [i2, Option.bind_some, nI_1]
        rw [q3, e12] at i1
        refine Or.inr ⟨hkn, _, rfl, by omega, _, w3, rfl, ?_, fun hz => by rw [q3] at hz; omega⟩
        rw [q3, e12]
        exact fbest_take hf hd i1
      · rw [i3, Option.bind_some, nI_1]
        rw [q3, e12] at i2
        exact Or.inr ⟨hkn, _, rfl, by omega, U, B, rfl, fbest_stay hf i1 i2, hU⟩) K 0 ((0 : Int32), (0 : Int64), (0 : Int64)) ⟨Nat.zero_le _, 0, 0, rfl, Or.inl ⟨rfl, fun e h => absurd h (Nat.not_lt_zero e)⟩, fun _ => rfl⟩ (by omega)
  refine ⟨U, B, ?_, h2, h3⟩
  unfold f_X0_findDifference f_X1_forget
  rw [Option.bind_some]
  simp only
  rw [h1]; rfl
theorem i64_abs {U : Int64} (h : wthn 9223372036854775807 U.toInt) : isN (if 0 < U then U else -U) U.toInt.natAbs := by
  unfold isN
  have c : (0 < U) ↔ 0 < U.toInt := by rw [Int64.lt_iff_toInt_lt, i64_z]
  by_cases h0 : 0 < U.toInt
  · rw [if_pos (c.mpr h0)]; omega
  · rw [if_neg (fun hh => h0 (c.mp hh)), q64_neg h]; omega
theorem f_least {U B : Int64} {what : Int32} {K : Nat} (hK : 1000 ≤ K) (hU : wthn 2000000000 U.toInt) (hB : 0 ≤ B.toInt) : ∃ a, f_X1_inLeastTerms K U B what = some a ∧ ((B.toInt = 0 ∧ a = -1000000000000000000) ∨ (0 < B.toInt ∧ lterm U.toInt B.toInt what a)) := by
  have hUB : wthn 9223372036854775807 U.toInt := wthn_mono hU (by decide)
  obtain ⟨g, p, q⟩ := f_gcd (K := K) (by omega) (i64_abs hUB) (show isN B B.toInt.toNat from by unfold isN; omega)
  have hgcd : Nat.gcd U.toInt.natAbs B.toInt.toNat = Int.gcd U.toInt B.toInt := by
    unfold Int.gcd
    congr 1
    omega
  rw [hgcd] at q
  unfold f_X1_inLeastTerms
  rw [p, Option.bind_some]
  by_cases h0 : B.toInt = 0
  · rw [if_pos ((lg_cmp_eq _ _).mpr (i64_ne0.mpr h0))]
    exact ⟨_, rfl, Or.inl ⟨h0, rfl⟩⟩
  · have hpos : 0 < Int.gcd U.toInt B.toInt := Int.gcd_pos_of_ne_zero_right _ h0
    have hg0 : ¬ g = 0 := fun e => by
      have := i64_ne0.mp e
      unfold isN at q; omega
    rw [if_neg (fun h => h0 (i64_ne0.mp ((lg_cmp_eq _ _).mp h))), if_neg (fun h => hg0 ((lg_cmp_eq _ _).mp h))]
    have dv : ∀ x : Int64, ((Int.gcd U.toInt B.toInt : Nat) : Int) ∣ x.toInt → wthn 9223372036854775807 x.toInt → (x / g).toInt * ((Int.gcd U.toInt B.toInt : Nat) : Int) = x.toInt := fun x hx hw => by
      unfold isN at q
      have e1 : (x / g).toInt = x.toInt.tdiv ((Int.gcd U.toInt B.toInt : Nat) : Int) := by
        rw [Int64.toInt_div, q, Int.bmod_def]
        have hab : (x.toInt.tdiv ((Int.gcd U.toInt B.toInt : Nat) : Int)).natAbs ≤ x.toInt.natAbs := by rw [Int.natAbs_tdiv]; exact Nat.div_le_self _ _
        unfold wthn at hw
        generalize x.toInt.tdiv ((Int.gcd U.toInt B.toInt : Nat) : Int) = y at hab ⊢
        omega
      rw [e1]
      exact Int.tdiv_mul_cancel hx
    by_cases hw : what = 0
    · rw [if_pos hw, if_neg hg0]
      refine ⟨_, rfl, Or.inr ⟨by omega, ?_⟩⟩
      unfold lterm
      rw [if_pos hw]
      exact dv U (Int.gcd_dvd_left _ _) hUB
    · rw [if_neg hw, if_neg hg0]
      refine ⟨_, rfl, Or.inr ⟨by omega, ?_⟩⟩
      unfold lterm
      rw [if_neg hw]
      exact dv B (Int.gcd_dvd_right _ _) (by have := B.toInt_lt; unfold wthn; omega)

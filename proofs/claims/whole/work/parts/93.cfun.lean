/-! the class's Corners: weights, measures, edges, mixtures, adding -/
def wt (thing : Int32) (x : Nat → Int) : Int := ev (fun w => if hb thing w then 1 else 0) x
theorem av_wt (X Y : Int32) (e : Int) (x : Nat → Int) : ev (av X Y e) x = 100 * wt (X &&& Y) x + -e * wt Y x := by
  unfold wt
  rw [← ev_add_l]
  unfold ev
  refine sg_cong fun w _ => ?_
  unfold av
  dsimp only
  rw [hb_and]
  cases hb X w <;> cases hb Y w <;> simp only [Bool.true_and, Bool.false_and, Bool.and_true, Bool.and_false, if_true, if_false, Bool.false_eq_true] <;> grind
theorem wt_in {thing : Int32} {x : Nat → Int} {B : Int} (h : ∀ w, w < 8 → 0 ≤ x w ∧ x w ≤ B) : 0 ≤ wt thing x ∧ wt thing x ≤ 8 * B := by
  have h1 : 0 ≤ wt thing x := sg_nonneg fun w hw => by
    have := h w hw
    dsimp only
    split <;> simp <;> omega
  refine ⟨h1, ?_⟩
  have h2 := sg_within (f := fun w => (if hb thing w then 1 else 0) * x w) (B := B) (n := 8) (fun w hw => by
    have := h w hw
    unfold wthn
    split <;> simp <;> omega)
  exact h2.2
theorem ix8 (i k : Nat) : ((8 : Int32) * nI i) + nI k = nI (8 * i + k) := by rw [show (8 : Int32) = nI 8 from rfl, nI_mul, nI_add]
theorem f_weight {P : Nat → Int64} {np i K : Nat} {thing : Int32} (hK : 100 ≤ K) (hi : 8 * i + 8 ≤ np) (hnp : np < 2 ^ 31) (hx : ∀ w, w < 8 → 0 ≤ ent P i w ∧ ent P i w ≤ 2000000000) :
    ∃ r, f_X0_weight K np P (nI i) thing = some r ∧ r.toInt = wt thing (ent P i) := by
  obtain ⟨r, h1, h2⟩ := lp_loop (f := f_X0_weight_L5 np P (nI i) thing) (fun k st => k ≤ 8 ∧ ∃ a : Int64, st = (a, nI k) ∧ a.toInt = sg (fun w => (if hb thing w then 1 else 0) * ent P i w) k) 8 (fun r => r.toInt = wt thing (ent P i)) (fun k st hI => by
    obtain ⟨hk, a, rfl, ha⟩ := hI
    unfold f_X0_weight_L5
    simp only
    by_cases e : k = 8
    · subst e
      rw [if_pos (show (8 : Int32) ≤ nI 8 from nI_le (Nat.le_refl 8) (by decide))]
      exact Or.inl ⟨a, rfl, ha⟩
    · have hk8 : k < 8 := by omega
      rw [if_neg (show ¬ (8 : Int32) ≤ nI k from nI_ge hk8 (by decide)), f_has thing hk8, Option.bind_some]
      cases hbk : hb thing k
      · rw [if_pos (by decide), nI_1]
        exact Or.inr ⟨hk8, _, rfl, by omega, a, rfl, by rw [sg, ha, hbk]; simp⟩
      · rw [if_neg (by decide), ix8, if_neg (nI_in (show 8 * i + k < np by omega) hnp), nI_clamp (by omega), nI_1]
        refine Or.inr ⟨hk8, _, rfl, by omega, _, rfl, ?_⟩
        have hb1 := sg_within (f := fun w => (if hb thing w then 1 else 0) * ent P i w) (B := 2000000000) (n := k) (fun w hw => by
          have := hx w (by omega)
          unfold wthn
          split <;> simp <;> omega)
        have hx1 := hx k hk8
        unfold wthn at hb1
        have e1 : (P (8 * i + k)).toInt = ent P i k := rfl
        rw [q64_add (by rw [ha, e1]; unfold wthn; omega), ha, sg, hbk, e1]; simp) K 0 _ ⟨Nat.zero_le _, 0, rfl, rfl⟩ (by omega)
  have h1' : lp (f_X0_weight_L5 np P (nI i) thing) K ((0 : Int64), (0 : Int32)) = some r := h1
  exact ⟨r, by unfold f_X0_weight; rw [h1']; rfl, h2⟩
theorem f_slack {X Y e : Int32} {b c : Int64} {x : Nat → Int} (he : 0 ≤ e.toInt ∧ e.toInt ≤ 100) (hb' : b.toInt = wt (X &&& Y) x) (hc : c.toInt = wt Y x) (hx : ∀ w, w < 8 → 0 ≤ x w ∧ x w ≤ 2000000000) :
    (((100 : Int64) * b) - (e.toInt64 * c)).toInt = ev (av X Y e.toInt) x ∧ ((e.toInt64 * c) - ((100 : Int64) * b)).toInt = -ev (av X Y e.toInt) x := by
  have w1 := wt_in (thing := X &&& Y) hx
  have w2 := wt_in (thing := Y) hx
  have h100 : (100 : Int64).toInt = 100 := rfl
  have m1 : ((100 : Int64) * b).toInt = 100 * wt (X &&& Y) x := by
    rw [q64_mul (by rw [h100, hb']; unfold wthn; omega), h100, hb']
  have bnd := wthn_mul (a := e.toInt) (b := wt Y x) (A := 100) (B := 16000000000) (by unfold wthn; omega) (by unfold wthn; omega)
  have m2 : (e.toInt64 * c).toInt = e.toInt * wt Y x := by
    rw [q64_mul (by rw [Int32.toInt_toInt64, hc]; exact wthn_mono bnd (by decide)), Int32.toInt_toInt64, hc]
  unfold wthn at bnd
  rw [av_wt]
  have e1 : -e.toInt * wt Y x = -(e.toInt * wt Y x) := by grind
  constructor
  · rw [q64_sub (by rw [m1, m2]; unfold wthn; omega), m1, m2]; omega
  · rw [q64_sub (by rw [m1, m2]; unfold wthn; omega), m1, m2]; omega
theorem f_measure {P ov0 un0 : Nat → Int64} {np no nu c K : Nat} {X Y F T : Int32} (hK : 100 ≤ K) (hKc : c < K) (h1 : 8 * c ≤ np) (h2 : c ≤ no) (h3 : c ≤ nu) (hnp : np < 2 ^ 31) (hno : no < 2 ^ 31) (hnu : nu < 2 ^ 31) (hF : 0 ≤ F.toInt ∧ F.toInt ≤ 100) (hT : 0 ≤ T.toInt ∧ T.toInt ≤ 100) (hx : ∀ i, i < c → ∀ w, w < 8 → 0 ≤ ent P i w ∧ ent P i w ≤ 2000000000) :
    ∃ ov un, f_X0_measure K np no nu (nI c) P ov0 un0 X Y F T = some (ov, un) ∧ ∀ i, i < c → (ov i).toInt = ev (av X Y F.toInt) (ent P i) ∧ (un i).toInt = -ev (av X Y T.toInt) (ent P i) := by
  obtain ⟨r, g1, g2⟩ := lp_loop (f := f_X0_measure_L2 K np no nu (nI c) P X Y F T) (fun k st => k ≤ c ∧ ∃ ov un : Nat → Int64, st = (nI k, ov, un) ∧ ∀ i, i < k → (ov i).toInt = ev (av X Y F.toInt) (ent P i) ∧ (un i).toInt = -ev (av X Y T.toInt) (ent P i)) c
    (fun r => ∀ i, i < c → (r.1 i).toInt = ev (av X Y F.toInt) (ent P i) ∧ (r.2 i).toInt = -ev (av X Y T.toInt) (ent P i)) (fun k st hI => by
    obtain ⟨hk, ov, un, rfl, h⟩ := hI
    unfold f_X0_measure_L2
    simp only
    by_cases e : k = c
    · subst e
      rw [if_pos (nI_le (Nat.le_refl k) (by omega))]
      exact Or.inl ⟨_, rfl, h⟩
    · have hkc : k < c := by omega
      obtain ⟨r1, p1, q1⟩ := f_weight (P := P) (np := np) (i := k) (thing := X &&& Y) hK (by omega) hnp (hx k hkc)
      obtain ⟨r2, p2, q2⟩ := f_weight (P := P) (np := np) (i := k) (thing := Y) hK (by omega) hnp (hx k hkc)
      have s1 := (f_slack (X := X) (Y := Y) hF q1 q2 (hx k hkc)).1
      have s2 := (f_slack (X := X) (Y := Y) hT q1 q2 (hx k hkc)).2
      rw [if_neg (nI_ge hkc (by omega)), p1, Option.bind_some, p2, Option.bind_some]
      unfold f_X4_overFrom f_X4_underTo
      rw [Option.bind_some, if_neg (nI_in (show k < no by omega) hno), Option.bind_some, if_neg (nI_in (show k < nu by omega) hnu), nI_clamp (by omega), nI_1]
      refine Or.inr ⟨hkc, _, rfl, by omega, _, _, rfl, fun i hi => ?_⟩
      by_cases ei : i = k
      · subst ei; rw [pk_uLs, pk_uLs]; exact ⟨s1, s2⟩
      · rw [pk_uLn ei, pk_uLn ei]; exact h i (by omega)) K 0 _ ⟨Nat.zero_le _, ov0, un0, rfl, fun i h => absurd h (Nat.not_lt_zero i)⟩ (by omega)
  have g1' : lp (f_X0_measure_L2 K np no nu (nI c) P X Y F T) K ((0 : Int32), ov0, un0) = some r := g1
  obtain ⟨ov, un⟩ := r
  exact ⟨ov, un, by unfold f_X0_measure; rw [g1']; rfl, g2⟩
theorem and_eq_iff (a b : Int32) : (a &&& b) = b ↔ ∀ k, k < 32 → hb b k = true → hb a k = true := by
  constructor
  · intro h k _ hk
    have : hb (a &&& b) k = hb b k := by rw [h]
    rw [hb_and, hk] at this
    simpa using this
  · intro h
    apply Int32.toBitVec_inj.mp
    apply BitVec.eq_of_getLsbD_eq
    intro k hk
    have e : hb (a &&& b) k = hb b k := by
      rw [hb_and]
      cases hbk : hb b k
      · simp
      · rw [h k hk hbk]; rfl
    exact e
/-- the bits that limits may have -/
def okBits (x : Int32) : Prop := ∀ k, k < 32 → hb x k = true → k < 8 ∨ (10 ≤ k ∧ k < 18)
theorem hb_ext {a b : Int32} (h : ∀ k, k < 32 → hb a k = hb b k) : a = b := by
  apply Int32.toBitVec_inj.mp
  apply BitVec.eq_of_getLsbD_eq
  intro k hk
  exact h k hk
theorem pop8_cd : ∀ a, a < 256 → pop8 a = ct_cd (fun i => a.testBit i) 8 := by decide +kernel
theorem f_bcount {x : Int32} (hx : okBits x) : f_J6_bitCount_0f7a4 x = some (nI (ct_cd (fun k => hb x k) 8 + ct_cd (fun k => hb x (k + 10)) 8)) := by
  obtain ⟨A, hA, hAb⟩ := mask8 (fun k => hb x k)
  obtain ⟨B, hB, hBb⟩ := mask8 (fun k => hb x (k + 10))
  have hA' : ∀ k, k < 8 → A.testBit k = hb x k := fun k hk => by rw [← hAb k hk, hb_nI A (by omega)]
  have hB' : ∀ k, k < 8 → B.testBit k = hb x (k + 10) := fun k hk => by rw [← hBb k hk, hb_nI B (by omega)]
  have e : x = nI (1024 * B + A) := hb_ext fun k hk => by
    rw [hb_nI _ hk, show 1024 = 2 ^ 10 from rfl, Nat.testBit_two_pow_mul_add B (show A < 2 ^ 10 by omega) k]
    by_cases h1 : k < 8
    · rw [if_pos (by omega), hA' k h1]
    · by_cases h2 : k < 10
      · rw [if_pos h2, Nat.testBit_lt_two_pow (Nat.lt_of_lt_of_le hA (show 2 ^ 8 ≤ 2 ^ k from Nat.pow_le_pow_right (by decide) (by omega)))]
        exact Bool.eq_false_iff.mpr fun h => by have := hx k hk h; omega
      · rw [if_neg h2]
        by_cases h3 : k < 18
        · rw [hB' (k - 10) (by omega), show k - 10 + 10 = k by omega]
        · rw [Nat.testBit_lt_two_pow (Nat.lt_of_lt_of_le hB (show 2 ^ 8 ≤ 2 ^ (k - 10) from Nat.pow_le_pow_right (by decide) (by omega)))]
          exact Bool.eq_false_iff.mpr fun h => by have := hx k hk h; omega
  have t := Nat.eq_of_beq_eq_true (gbc_tab A hA B hB)
  rw [e, f_bc (by omega), t, pop8_cd A hA, pop8_cd B hB, ← e]
  rw [ct_cd_cong (fun k hk => hA' k hk), ct_cd_cong (fun k hk => hB' k hk)]
theorem f_isEdge {L : Nat → Int32} {nl c i j K : Nat} (hKc : c < K) (hc : c ≤ nl) (hnl : nl < 2 ^ 31) (hi : i < c) (hj : j < c) (hL : ∀ r, r < c → okBits (L r)) :
    f_X0_isEdge K nl (nI c) L (nI i) (nI j) = some 1 ∧ (∀ r, r < c → r ≠ i → r ≠ j → ¬ ∀ k, k < 32 → hb (L i) k = true → hb (L j) k = true → hb (L r) k = true) ∨
    f_X0_isEdge K nl (nI c) L (nI i) (nI j) = some 0 ∧ (ct_cd (fun k => hb (L i &&& L j) k) 8 + ct_cd (fun k => hb (L i &&& L j) (k + 10)) 8 < 6 ∨ ∃ r, r < c ∧ r ≠ i ∧ r ≠ j ∧ ∀ k, k < 32 → hb (L i) k = true → hb (L j) k = true → hb (L r) k = true) := by
  have hok : okBits (L i &&& L j) := fun k hk h => by
    rw [hb_and, Bool.and_eq_true] at h
    exact hL i hi k hk h.1
  have hsub : ∀ r, ((L r &&& (L i &&& L j)) = (L i &&& L j)) ↔ ∀ k, k < 32 → hb (L i) k = true → hb (L j) k = true → hb (L r) k = true := fun r => by
    rw [and_eq_iff]
    refine forall_congr' fun k => forall_congr' fun hk => ?_
    rw [hb_and, Bool.and_eq_true]
    exact and_imp
  have b8 := ct_cd_le (fun k => hb (L i &&& L j) k) 8
  have b8' := ct_cd_le (fun k => hb (L i &&& L j) (k + 10)) 8
  unfold f_X0_isEdge
  rw [if_neg (nI_in (show i < nl by omega) hnl), if_neg (nI_in (show j < nl by omega) hnl), nI_clamp (by omega), nI_clamp (by omega), f_bcount hok, Option.bind_some]
  by_cases h6 : 6 ≤ ct_cd (fun k => hb (L i &&& L j) k) 8 + ct_cd (fun k => hb (L i &&& L j) (k + 10)) 8
  · rw [if_pos (show (6 : Int32) ≤ nI _ from nI_le h6 (by omega))]
    have := lp_loop (f := f_X0_isEdge_L28 nl (nI c) L (nI i) (nI j) (L i &&& L j)) (fun k st => k ≤ c ∧ st = nI k ∧ ∀ r, r < k → r ≠ i → r ≠ j → ¬ ∀ k, k < 32 → hb (L i) k = true → hb (L j) k = true → hb (L r) k = true) c
      (fun res => (res = .inr () ∧ ∀ r, r < c → r ≠ i → r ≠ j → ¬ ∀ k, k < 32 → hb (L i) k = true → hb (L j) k = true → hb (L r) k = true) ∨ (res = .inl 0 ∧ ∃ r, r < c ∧ r ≠ i ∧ r ≠ j ∧ ∀ k, k < 32 → hb (L i) k = true → hb (L j) k = true → hb (L r) k = true))
      (fun k st hI => by
        obtain ⟨hk, rfl, h⟩ := hI
        unfold f_X0_isEdge_L28
        simp only
        by_cases e : k = c
        · subst e
          rw [if_pos (nI_le (Nat.le_refl k) (by omega))]
          exact Or.inl ⟨_, rfl, Or.inl ⟨rfl, h⟩⟩
        · have hkc : k < c := by omega
          rw [if_neg (nI_ge hkc (by omega))]
          by_cases e1 : k = i
          · rw [if_pos (by rw [e1]), nI_1]
            exact Or.inr ⟨hkc, _, rfl, by omega, rfl, fun r hr h1 h2 => by
              by_cases er : r = k
              · omega
              · exact h r (by omega) h1 h2⟩
          · rw [if_neg (fun hh => e1 ((nI_eq (by omega) (by omega)).mp hh))]
            by_cases e2 : k = j
            · rw [if_pos (by rw [e2]), nI_1]
              exact Or.inr ⟨hkc, _, rfl, by omega, rfl, fun r hr h1 h2 => by
                by_cases er : r = k
                · omega
                · exact h r (by omega) h1 h2⟩
            · rw [if_neg (fun hh => e2 ((nI_eq (by omega) (by omega)).mp hh)), if_neg (nI_in (show k < nl by omega) hnl), nI_clamp (by omega)]
              by_cases hs : (L k &&& (L i &&& L j)) = (L i &&& L j)
              · rw [if_pos hs]
                exact Or.inl ⟨_, rfl, Or.inr ⟨rfl, k, hkc, e1, e2, (hsub k).mp hs⟩⟩
              · rw [if_neg hs, nI_1]
                exact Or.inr ⟨hkc, _, rfl, by omega, rfl, fun r hr h1 h2 => by
                  by_cases er : r = k
                  · rw [er]; exact fun hh => hs ((hsub k).mpr hh)
                  · exact h r (by omega) h1 h2⟩) K 0 _ ⟨Nat.zero_le _, rfl, fun r h => absurd h (Nat.not_lt_zero r)⟩ (by omega)
    obtain ⟨res, g1, g2⟩ := this
    have g1' : lp (f_X0_isEdge_L28 nl (nI c) L (nI i) (nI j) (L i &&& L j)) K (0 : Int32) = some res := g1
    rw [g1', Option.bind_some]
    rcases g2 with ⟨rfl, g3⟩ | ⟨rfl, g3⟩
    · exact Or.inl ⟨rfl, g3⟩
    · exact Or.inr ⟨rfl, Or.inr g3⟩
  · rw [if_neg (show ¬ (6 : Int32) ≤ nI _ from nI_ge (show _ < 6 by omega) (by decide))]
    exact Or.inr ⟨rfl, Or.inl (by omega)⟩

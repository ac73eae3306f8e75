theorem bef_or {x y : Nat → Int} (h : ¬ bef lexp x y) : (∀ w, w < 8 → su x * y w = su y * x w) ∨ bef lexp y x := by
  by_cases hz : nz (fun w => su x * y w + -su y * x w)
  · rcases lexp_ord.2.2.1 _ hz with h1 | h1
    · exact absurd h1 h
    · exact Or.inr (lexp_ord.2.2.2.2 _ _ (fun w _ => by grind) h1)
  · refine Or.inl fun w hw => ?_
    have : su x * y w + -su y * x w = 0 := Classical.byContradiction fun hne => hz ⟨w, hw, hne⟩
    grind
def firstAns (Q : (Nat → Int) → Prop) (world : Nat) (what : Int32) (a : Int64) : Prop := (noRow Q ∧ a = -1000000000000000000) ∨ ∃ x, Q x ∧ 0 < su x ∧ (∀ y, Q y → 0 < su y → ¬ bef lexp y x) ∧ lterm (x world) (su x) what a
theorem firstAns_unique {Q : (Nat → Int) → Prop} {world : Nat} {what : Int32} {a a' : Int64} (hw : world < 8) (h1 : firstAns Q world what a) (h2 : firstAns Q world what a') : a = a' := by
  rcases h1 with ⟨n1, e1⟩ | ⟨x, q1, s1, l1, t1⟩ <;> rcases h2 with ⟨n2, e2⟩ | ⟨y, q2, s2, l2, t2⟩
  · rw [e1, e2]
  · have := n1 y q2; omega
  · have := n2 x q1; omega
  · refine lterm_unique s1 s2 ?_ t1 t2
    rcases bef_or (l1 y q2 s2) with h | h
    · have := h world hw; grind
    · exact absurd h (l2 x q1 s1)
/-- what is least in the list is least in the cone -/
theorem least_cone {Q : (Nat → Int) → Prop} {c : Nat} {E : Nat → Nat → Int} (hc : cmpl Q c E) {x : Nat → Int} (hx : 0 < su x) (hl : ∀ e, e < c → ¬ bef lexp (E e) x) : ∀ y, Q y → ¬ bef lexp y x := by
  intro y hy hb'
  obtain ⟨κ, μ, hκ, hμ, hxy⟩ := hc.2 y hy
  have o := lexp_ord
  -- partial sums of what stands ahead
  have part : ∀ m, m ≤ c → (∀ w, w < 8 → sg (fun e => μ e * (su x * E e w + -su (E e) * x w)) m = 0) ∨ lexp (fun w => sg (fun e => μ e * (su x * E e w + -su (E e) * x w)) m) := by
    intro m
    induction m with
    | zero => intro _; exact Or.inl fun w _ => rfl
    | succ m ih =>
      intro hm
      have hμm := hμ m (by omega)
      have step : (∀ w, w < 8 → μ m * (su x * E m w + -su (E m) * x w) = 0) ∨ lexp (fun w => μ m * (su x * E m w + -su (E m) * x w)) := by
        by_cases h0 : μ m = 0
        · exact Or.inl fun w _ => by rw [h0, Int.zero_mul]
        · rcases bef_or (hl m (by omega)) with h | h
          · exact Or.inl fun w hw => by have := h w hw; have e : su x * E m w + -su (E m) * x w = 0 := by grind
                                        rw [e, Int.mul_zero]
          · exact Or.inr (o.1 _ _ (by omega) h)
      rcases ih (by omega) with h1 | h1 <;> rcases step with h2 | h2
      · exact Or.inl fun w hw => by rw [sg, h1 w hw, h2 w hw]; rfl
      · exact Or.inr (o.2.2.2.2 _ _ (fun w hw => by rw [sg, h1 w hw]; omega) h2)
      · exact Or.inr (o.2.2.2.2 _ _ (fun w hw => by rw [sg, h2 w hw]; omega) h1)
      · exact Or.inr (o.2.2.2.2 _ _ (fun w hw => by rw [sg]) (o.2.1 _ _ h1 h2))
  have hsu : κ * su y = sg (fun e => μ e * su (E e)) c := by
    unfold su
    rw [← ev_smul, ev_cong hxy]
    unfold ev
    have e2 : sg (fun w => 1 * sg (fun e => μ e * E e w) c) 8 = sg (fun w => sg (fun e => μ e * E e w) c) 8 := sg_cong fun w _ => by rw [Int.one_mul]
    rw [e2, sg_swap]
    exact sg_cong fun e _ => by
      rw [← sg_mul]; exact sg_cong fun w _ => by rw [Int.one_mul]
  have tot : ∀ w, w < 8 → sg (fun e => μ e * (su x * E e w + -su (E e) * x w)) c = κ * (su x * y w + -su y * x w) := fun w hw => by
    have e1 : sg (fun e => μ e * (su x * E e w + -su (E e) * x w)) c = su x * sg (fun e => μ e * E e w) c + -x w * sg (fun e => μ e * su (E e)) c := by
      rw [← sg_mul, ← sg_mul, ← sg_add]
      exact sg_cong fun e _ => by grind
    rw [e1, ← hxy w hw, ← hsu]; grind
  rcases part c (Nat.le_refl c) with h | h
  · obtain ⟨w, hw, _, hp⟩ := hb'
    have h1 := h w hw
    rw [tot w hw] at h1
    rcases Int.mul_eq_zero.mp h1 with e | e
    · omega
    · have : su y * x w + -su x * y w = 0 := by grind
      dsimp only at hp
      omega
  · have h1 : lexp (fun w => su x * y w + -su y * x w) := ordr_div o hκ (o.2.2.2.2 _ _ tot h)
    refine o.2.2.2.1 _ h1 (o.2.2.2.2 _ _ (fun w _ => ?_) hb')
    grind
theorem f_isAhead {t n K p q : Nat} {P : Nat → Int64} (hK : 1000 ≤ K) (h : okL t n P) (hp : p < n) (hq : q < n) : (f_X0_isAhead K (8 * roomOf t) P (nI p) (nI q) = some 1 ∧ bef lexp (ent P p) (ent P q)) ∨ (f_X0_isAhead K (8 * roomOf t) P (nI p) (nI q) = some 0 ∧ ¬ bef lexp (ent P p) (ent P q)) := by
  have hr := roomOf_le t
  have hn := h.1
  obtain ⟨a, p1, q1⟩ := f_weight (P := P) (np := 8 * roomOf t) (i := p) (thing := 255) (K := K) (by omega) (by omega) (by omega) (okL_ent h hp)
  obtain ⟨b, p2, q2⟩ := f_weight (P := P) (np := 8 * roomOf t) (i := q) (thing := 255) (K := K) (by omega) (by omega) (by omega) (okL_ent h hq)
  rw [wt_255] at q1 q2
  have q1' : a.toInt = su (ent P p) := q1
  have q2' : b.toInt = su (ent P q) := q2
  have bp : wthn 2000000000 (su (ent P p)) := by
    have h1 := (h.2 p hp).2
    have h2 := (wt_le (t := 255) (h.2 p hp).1).1
    rw [wt_255] at h2
    unfold wthn su at *; omega
  have bq : wthn 2000000000 (su (ent P q)) := by
    have h1 := (h.2 q hq).2
    have h2 := (wt_le (t := 255) (h.2 q hq).1).1
    rw [wt_255] at h2
    unfold wthn su at *; omega
  have := lp_loop (f := f_X0_isAhead_L22 (8 * roomOf t) P (nI p) (nI q) a b) (fun k st => k ≤ 8 ∧ st = nI k ∧ ∀ w, w < k → su (ent P p) * ent P q w + -su (ent P q) * ent P p w = 0) 8
    (fun r => (r = .inr () ∧ ¬ bef lexp (ent P p) (ent P q)) ∨ (r = .inl 0 ∧ ¬ bef lexp (ent P p) (ent P q)) ∨ (r = .inl 1 ∧ bef lexp (ent P p) (ent P q))) (fun k st hI => by
    obtain ⟨hk, rfl, hz⟩ := hI
    unfold f_X0_isAhead_L22
    simp only
    by_cases e : k = 8
    · subst e
      rw [if_pos (show (8 : Int32) ≤ nI 8 from nI_le (Nat.le_refl 8) (by decide))]
      refine Or.inl ⟨_, rfl, Or.inl ⟨rfl, fun hb' => ?_⟩⟩
      obtain ⟨w, hw, _, hpos⟩ := hb'
      have := hz w hw
      dsimp only at hpos
      omega
    · have hk8 : k < 8 := by omega
      have m1 := wthn_mul (show wthn 2000000000 (ent P p k) from by have := okL_ent h hp k hk8; unfold wthn; omega) bq
      have m2 := wthn_mul (show wthn 2000000000 (ent P q k) from by have := okL_ent h hq k hk8; unfold wthn; omega) bp
      have e1 : (P (8 * p + k) * b).toInt = ent P p k * su (ent P q) := by
        have : (P (8 * p + k)).toInt = ent P p k := rfl
        rw [q64_mul (by rw [this, q2']; exact wthn_mono m1 (by decide)), this, q2']
      have e2 : (P (8 * q + k) * a).toInt = ent P q k * su (ent P p) := by
        have : (P (8 * q + k)).toInt = ent P q k := rfl
        rw [q64_mul (by rw [this, q1']; exact wthn_mono m2 (by decide)), this, q1']
      have c1 : (lg_cmp (P (8 * p + k) * b) (P (8 * q + k) * a) = (0 : Int32)) ↔ su (ent P p) * ent P q k + -su (ent P q) * ent P p k = 0 := by
        rw [lg_cmp_eq, ← Int64.toInt_inj, e1, e2]
        constructor
        · intro hh; grind
        · intro hh; grind
      have c2 : ((0 : Int32) ≤ lg_cmp (P (8 * p + k) * b) (P (8 * q + k) * a)) ↔ su (ent P p) * ent P q k + -su (ent P q) * ent P p k ≤ 0 := by
        rw [lg_cmp_ge, Int64.le_iff_toInt_le, e1, e2]
        have e3 : su (ent P p) * ent P q k + -su (ent P q) * ent P p k = ent P q k * su (ent P p) - ent P p k * su (ent P q) := by grind
        rw [e3]; omega
      rw [if_neg (show ¬ (8 : Int32) ≤ nI k from nI_ge hk8 (by decide)), ix8, ix8, if_neg (nI_in (show 8 * p + k < 8 * roomOf t by omega) (by omega)), if_neg (nI_in (show 8 * q + k < 8 * roomOf t by omega) (by omega)), nI_clamp (show 8 * p + k < 2 ^ 31 by omega), nI_clamp (show 8 * q + k < 2 ^ 31 by omega)]
      by_cases h0 : su (ent P p) * ent P q k + -su (ent P q) * ent P p k = 0
      · rw [if_pos (c1.mpr h0), nI_1]
        refine Or.inr ⟨hk8, _, rfl, by omega, rfl, fun w hw => ?_⟩
        by_cases ew : w = k
        · rw [ew]; exact h0
        · exact hz w (by omega)
      · rw [if_neg (fun hh => h0 (c1.mp hh))]
        by_cases h1 : su (ent P p) * ent P q k + -su (ent P q) * ent P p k ≤ 0
        · rw [if_pos (c2.mpr h1)]
          refine Or.inl ⟨_, rfl, Or.inr (Or.inl ⟨rfl, fun hb' => ?_⟩)⟩
          obtain ⟨w, hw, hz', hpos⟩ := hb'
          dsimp only at hpos hz'
          rcases Nat.lt_trichotomy w k with g | g | g
          · have := hz w g; omega
          · subst g; omega
          · have := hz' k g; omega
        · rw [if_neg (fun hh => h1 (c2.mp hh))]
          exact Or.inl ⟨_, rfl, Or.inr (Or.inr ⟨rfl, k, hk8, hz, by dsimp only; omega⟩)⟩) K 0 _ ⟨Nat.zero_le _, rfl, fun w h => absurd h (Nat.not_lt_zero w)⟩ (by omega)
  obtain ⟨r, h1, h2⟩ := this
  have h1' : lp (f_X0_isAhead_L22 (8 * roomOf t) P (nI p) (nI q) a b) K (0 : Int32) = some r := h1
  unfold f_X0_isAhead
  rw [p1, Option.bind_some, p2, Option.bind_some, h1', Option.bind_some]
  rcases h2 with ⟨rfl, h3⟩ | ⟨rfl, h3⟩ | ⟨rfl, h3⟩
  · exact Or.inr ⟨rfl, h3⟩
  · exact Or.inr ⟨rfl, h3⟩
  · exact Or.inl ⟨rfl, h3⟩
theorem one_bit : ∀ w, w < 8 → ∀ k, k < 8 → hb ((1 : Int32) <<< (nI w &&& 31)) k = decide (k = w) := by decide +kernel
theorem wt_one {w : Nat} (hw : w < 8) (x : Nat → Int) : wt ((1 : Int32) <<< (nI w &&& 31)) x = x w := by
  have := sg_one x w 8
  rw [if_pos hw] at this
  rw [← this]
  unfold wt ev
  refine sg_cong fun k hk => ?_
  dsimp only
  rw [one_bit w hw k hk]
  simp
theorem f_first {Q : (Nat → Int) → Prop} {t n K world : Nat} {P : Nat → Int64} (hK : 1000 ≤ K) (h : okL t n P) (hc : cmpl Q n (ent P)) (hw : world < 8) : ∃ U B : Int64, f_X0_findInFirstRow K (8 * roomOf t) (nI n) P (nI world) = some (U, B) ∧ wthn 2000000000 U.toInt ∧ ((B.toInt = 0 ∧ noRow Q) ∨ (0 < B.toInt ∧ ∃ x, Q x ∧ 0 < su x ∧ (∀ y, Q y → 0 < su y → ¬ bef lexp y x) ∧ U.toInt = x world ∧ B.toInt = su x)) := by
  have hr := roomOf_le t
  have hn := h.1
  unfold f_X0_findInFirstRow f_X1_forget
  rw [Option.bind_some]
  simp only
  by_cases h0 : n = 0
  · subst h0
    rw [if_pos (show nI 0 = (0 : Int32) from rfl)]
    exact ⟨0, 0, rfl, by unfold wthn; decide, Or.inl ⟨rfl, (noRow_list hc).mp rfl⟩⟩
  · rw [if_neg (nI_ne0 (by omega) (by omega))]
    have su_p : ∀ e, e < n → 0 < su (ent P e) := fun e he => (hc.1 e he).2
    obtain ⟨r, h1, m, rfl, hm, hl⟩ := lp_loop (f := f_X0_findInFirstRow_L17 K (8 * roomOf t) (nI n) P) (fun k st => 1 ≤ k ∧ k ≤ n ∧ ∃ m, st = (nI m, nI k) ∧ m < n ∧ ∀ e, e < k → ¬ bef lexp (ent P e) (ent P m)) n (fun r => ∃ m, r = nI m ∧ m < n ∧ ∀ e, e < n → ¬ bef lexp (ent P e) (ent P m)) (fun k st hI => by
      obtain ⟨hk1, hk, m, rfl, hm, hl⟩ := hI
      unfold f_X0_findInFirstRow_L17
      simp only
      by_cases e : k = n
      · subst e
        rw [if_pos (nI_le (Nat.le_refl k) (by omega))]
        exact Or.inl ⟨_, rfl, m, rfl, hm, hl⟩
      · have hkn : k < n := by omega
        rw [if_neg (nI_ge hkn (by omega))]
        rcases f_isAhead hK h hkn hm with ⟨g1, g2⟩ | ⟨g1, g2⟩
        · rw [g1, Option.bind_some, if_neg (by decide), nI_1]
          refine Or.inr ⟨hkn, _, rfl, by omega, by omega, k, rfl, hkn, fun e he hb' => ?_⟩
          by_cases ek : e = k
          · rw [ek] at hb'; exact bef_prop lexp_ord (prop8_refl _) hb'
          · exact hl e (by omega) (bef_trans lexp_ord (su_p e (by omega)) (su_p k hkn) (su_p m hm) hb' g2)
        · rw [g1, Option.bind_some, if_pos rfl, nI_1]
          refine Or.inr ⟨hkn, _, rfl, by omega, by omega, m, rfl, hm, fun e he => ?_⟩
          by_cases ek : e = k
          · rw [ek]; exact g2
          · exact hl e (by omega)) K 1 ((0 : Int32), (1 : Int32)) ⟨Nat.le_refl 1, by omega, 0, rfl, by omega, fun e he => by
        have : e = 0 := by omega
        rw [this]; exact bef_prop lexp_ord (prop8_refl _)⟩ (by omega)
    obtain ⟨a, p1, q1⟩ := f_weight (P := P) (np := 8 * roomOf t) (i := m) (thing := (1 : Int32) <<< (nI world &&& 31)) (K := K) (by omega) (by omega) (by omega) (okL_ent h hm)
    obtain ⟨b, p2, q2⟩ := f_weight (P := P) (np := 8 * roomOf t) (i := m) (thing := 255) (K := K) (by omega) (by omega) (by omega) (okL_ent h hm)
    rw [wt_one hw] at q1
    rw [wt_255] at q2
    have q2' : b.toInt = su (ent P m) := q2
    have hsm := su_p m hm
    rw [h1, Option.bind_some, p1, Option.bind_some, p2, Option.bind_some, f_set (by rw [q2']; exact hsm)]
    exact ⟨a, b, rfl, by rw [q1]; have := okL_ent h hm world hw; unfold wthn; omega, Or.inr ⟨by rw [q2']; exact hsm, ent P m, (hc.1 m hm).1, hsm, fun y hy _ => least_cone hc hsm hl y hy, q1, q2'⟩⟩
def neverAns (Q : (Nat → Int) → Prop) (a : Int32) : Prop := ∀ k, k < 32 → (hb a k = true ↔ k < 8 ∧ ∀ x, Q x → x k = 0)
theorem neverAns_unique {Q : (Nat → Int) → Prop} {a a' : Int32} (h1 : neverAns Q a) (h2 : neverAns Q a') : a = a' := hb_ext fun k hk => by
  have e := (h1 k hk).trans (h2 k hk).symm
  cases q1 : hb a k <;> cases q2 : hb a' k
  · rfl
  · rw [q1, q2] at e; exact absurd (e.mpr rfl) (by decide)
  · rw [q1, q2] at e; exact absurd (e.mp rfl) (by decide)
  · rfl
theorem zero_list {Q : (Nat → Int) → Prop} {c : Nat} {E : Nat → Nat → Int} (hc : cmpl Q c E) (k : Nat) (hk : k < 8) : (∀ e, e < c → E e k = 0) ↔ ∀ x, Q x → x k = 0 := by
  constructor
  · intro h x hx
    obtain ⟨κ, μ, hκ, -, hx'⟩ := hc.2 x hx
    have := hx' k hk
    rw [sg_zero fun e he => by rw [h e he, Int.mul_zero]] at this
    rcases Int.mul_eq_zero.mp this with e | e
    · omega
    · exact e
  · intro h e he
    exact h _ (hc.1 e he).1

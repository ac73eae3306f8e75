theorem f_never {lo hi : Nat → Nat → Int} {Q : (Nat → Int) → Prop} {t n K : Nat} {P : Nat → Int64} {L : Nat → Int32} (hK : 1000 ≤ K) (ht : t ≤ 4) (hx : xct lo hi t n P L) (hc : cmpl Q n (ent P)) : ∃ a, f_X0_worldsWithoutChance K (roomOf t) (nI n) L = some a ∧ neverAns Q a := by
  have hr := roomOf_le t
  have hn := room_le ht hx.1
  have b255 : ∀ k, k < 32 → hb 255 k = decide (k < 8) := by decide
  obtain ⟨a, h1, h2⟩ := lp_loop (f := f_X0_worldsWithoutChance_L6 (roomOf t) (nI n) L) (fun k st => k ≤ n ∧ ∃ a, st = (a, nI k) ∧ ∀ j, j < 32 → (hb a j = true ↔ j < 8 ∧ ∀ e, e < k → ent P e j = 0)) n (fun a => neverAns Q a) (fun k st hI => by
    obtain ⟨hk, a, rfl, h⟩ := hI
    unfold f_X0_worldsWithoutChance_L6
    simp only
    by_cases e : k = n
    · subst e
      rw [if_pos (nI_le (Nat.le_refl k) (by omega))]
      refine Or.inl ⟨a, rfl, fun j hj => ?_⟩
      rw [h j hj]
      constructor
      · rintro ⟨h3, h4⟩; exact ⟨h3, (zero_list hc j h3).mp h4⟩
      · rintro ⟨h3, h4⟩; exact ⟨h3, (zero_list hc j h3).mpr h4⟩
    · have hkn : k < n := by omega
      rw [if_neg (nI_ge hkn (by omega)), if_neg (nI_in (show k < roomOf t by omega) (by omega)), nI_clamp (by omega), nI_1]
      refine Or.inr ⟨hkn, _, rfl, by omega, _, rfl, fun j hj => ?_⟩
      rw [hb_and, Bool.and_eq_true, h j hj]
      constructor
      · rintro ⟨⟨h3, h4⟩, h5⟩
        refine ⟨h3, fun e he => ?_⟩
        by_cases ek : e = k
        · have h6 := (lims_iff (c := j) ht (hx.1.1 k hkn).2.2 (by omega)).mp (by unfold bitOf; rw [if_pos h3]; exact h5)
          rw [cnA_coord h3] at h6
          rw [ek]; exact h6
        · exact h4 e (by omega)
      · rintro ⟨h3, h4⟩
        refine ⟨⟨h3, fun e he => h4 e (by omega)⟩, ?_⟩
        have h6 := (lims_iff (c := j) ht (hx.1.1 k hkn).2.2 (by omega)).mpr (by rw [cnA_coord h3]; exact h4 k (by omega))
        unfold bitOf at h6
        rw [if_pos h3] at h6
        exact h6) K 0 ((255 : Int32), (0 : Int32)) ⟨Nat.zero_le _, 255, rfl, fun j hj => by
      rw [b255 j hj, decide_eq_true_eq]
      exact ⟨fun h => ⟨h, fun e he => absurd he (Nat.not_lt_zero e)⟩, fun h => h.1⟩⟩ (by omega)
  exact ⟨a, by unfold f_X0_worldsWithoutChance; rw [h1]; rfl, h2⟩
/-- whether all rows keep a saying -/
def keepAns (Q : (Nat → Int) → Prop) (X Y : Int32) (F T : Int) (a : Int32) : Prop := (a = 1 ∧ ∀ x, Q x → 0 ≤ ev (av X Y F) x ∧ ev (av X Y T) x ≤ 0) ∨ (a = 0 ∧ ¬ ∀ x, Q x → 0 ≤ ev (av X Y F) x ∧ ev (av X Y T) x ≤ 0)
theorem keepAns_unique {Q : (Nat → Int) → Prop} {X Y : Int32} {F T : Int} {a a' : Int32} (h1 : keepAns Q X Y F T a) (h2 : keepAns Q X Y F T a') : a = a' := by
  rcases h1 with ⟨e1, g1⟩ | ⟨e1, g1⟩ <;> rcases h2 with ⟨e2, g2⟩ | ⟨e2, g2⟩
  · rw [e1, e2]
  · exact absurd g1 g2
  · exact absurd g2 g1
  · rw [e1, e2]
theorem keep_list {Q : (Nat → Int) → Prop} {c : Nat} {E : Nat → Nat → Int} (hc : cmpl Q c E) (f g : Nat → Int) : (∀ e, e < c → 0 ≤ ev f (E e) ∧ ev g (E e) ≤ 0) ↔ ∀ x, Q x → 0 ≤ ev f x ∧ ev g x ≤ 0 := by
  constructor
  · intro h x hx
    refine ⟨gens_lin (hc.2 x hx) fun e he => (h e he).1, ?_⟩
    have := gens_lin (l := fun w => -1 * g w + 0 * g w) (hc.2 x hx) (fun e he => by rw [ev_add_l]; have := (h e he).2; omega)
    rw [ev_add_l] at this
    omega
  · intro h e he
    exact h _ (hc.1 e he).1
theorem f_allKeep {Q : (Nat → Int) → Prop} {t n K : Nat} {P : Nat → Int64} {X Y F T : Int32} (hK : 1000 ≤ K) (h : okL t n P) (hc : cmpl Q n (ent P)) (hF : 0 ≤ F.toInt ∧ F.toInt ≤ 100) (hT : 0 ≤ T.toInt ∧ T.toInt ≤ 100) : ∃ a, f_X0_allKeep K (8 * roomOf t) (nI n) P X Y F T = some a ∧ keepAns Q X Y F.toInt T.toInt a := by
  have hr := roomOf_le t
  have hn := h.1
  have := lp_loop (f := f_X0_allKeep_L2 K (8 * roomOf t) (nI n) P X Y F T) (fun k st => k ≤ n ∧ st = nI k ∧ ∀ e, e < k → 0 ≤ ev (av X Y F.toInt) (ent P e) ∧ ev (av X Y T.toInt) (ent P e) ≤ 0) n
    (fun r => (r = .inr () ∧ ∀ e, e < n → 0 ≤ ev (av X Y F.toInt) (ent P e) ∧ ev (av X Y T.toInt) (ent P e) ≤ 0) ∨ (r = .inl 0 ∧ ¬ ∀ e, e < n → 0 ≤ ev (av X Y F.toInt) (ent P e) ∧ ev (av X Y T.toInt) (ent P e) ≤ 0)) (fun k st hI => by
    obtain ⟨hk, rfl, hh⟩ := hI
    unfold f_X0_allKeep_L2
    simp only
    by_cases e : k = n
    · subst e
      rw [if_pos (nI_le (Nat.le_refl k) (by omega))]
      exact Or.inl ⟨_, rfl, Or.inl ⟨rfl, hh⟩⟩
    · have hkn : k < n := by omega
      obtain ⟨w1, p1, q1⟩ := f_weight (P := P) (np := 8 * roomOf t) (i := k) (thing := X &&& Y) (K := K) (by omega) (by omega) (by omega) (okL_ent h hkn)
      obtain ⟨w2, p2, q2⟩ := f_weight (P := P) (np := 8 * roomOf t) (i := k) (thing := Y) (K := K) (by omega) (by omega) (by omega) (okL_ent h hkn)
      have s1 := (f_slack (X := X) (Y := Y) hF q1 q2 (okL_ent h hkn)).1
      have s2 := (f_slack (X := X) (Y := Y) hT q1 q2 (okL_ent h hkn)).2
      rw [if_neg (nI_ge hkn (by omega)), p1, Option.bind_some, p2, Option.bind_some]
      unfold f_X4_isKeptBy f_X4_overFrom f_X4_underTo
      simp only [Option.bind_some]
      have c1 : (lg_cmp (((100 : Int64) * w1) - (F.toInt64 * w2)) (0 : Int64) < (0 : Int32)) ↔ ev (av X Y F.toInt) (ent P k) < 0 := by rw [lg_cmp_lt, Int64.lt_iff_toInt_lt, s1, i64_z]
      have c2 : (lg_cmp ((T.toInt64 * w2) - ((100 : Int64) * w1)) (0 : Int64) < (0 : Int32)) ↔ 0 < ev (av X Y T.toInt) (ent P k) := by rw [lg_cmp_lt, Int64.lt_iff_toInt_lt, s2, i64_z]; omega
      by_cases h1 : ev (av X Y F.toInt) (ent P k) < 0
      · rw [if_pos (c1.mpr h1), Option.bind_some, if_pos rfl]
        exact Or.inl ⟨_, rfl, Or.inr ⟨rfl, fun g => by have := (g k hkn).1; omega⟩⟩
      · rw [if_neg (fun g => h1 (c1.mp g))]
        by_cases h2 : 0 < ev (av X Y T.toInt) (ent P k)
        · rw [if_pos (c2.mpr h2), Option.bind_some, if_pos rfl]
          exact Or.inl ⟨_, rfl, Or.inr ⟨rfl, fun g => by have := (g k hkn).2; omega⟩⟩
        · rw [if_neg (fun g => h2 (c2.mp g)), Option.bind_some, if_neg (by decide), nI_1]
          refine Or.inr ⟨hkn, _, rfl, by omega, rfl, fun e he => ?_⟩
          by_cases ek : e = k
          · rw [ek]; exact ⟨by omega, by omega⟩
          · exact hh e (by omega)) K 0 _ ⟨Nat.zero_le _, rfl, fun e he => absurd he (Nat.not_lt_zero e)⟩ (by omega)
  obtain ⟨r, h1, h2⟩ := this
  have h1' : lp (f_X0_allKeep_L2 K (8 * roomOf t) (nI n) P X Y F T) K (0 : Int32) = some r := h1
  unfold f_X0_allKeep
  rw [h1', Option.bind_some]
  rcases h2 with ⟨rfl, h3⟩ | ⟨rfl, h3⟩
  · exact ⟨_, rfl, Or.inl ⟨rfl, (keep_list hc _ _).mp h3⟩⟩
  · exact ⟨_, rfl, Or.inr ⟨rfl, fun g => h3 ((keep_list hc _ _).mpr g)⟩⟩

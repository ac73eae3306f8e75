/-! the two readers see the same tokens -/
def btA (L : Nat) (cb : Nat → Int32) (k : Nat) : Int32 := if k < L then cb k else -1
theorem f_at {L : Nat} {cb : Nat → Int32} {k : Nat} (hL : L ≤ 200) (hk : k < 2 ^ 31) : f_X5_at 200 (nI L) cb (nI k) = some (btA L cb k) := by
  unfold f_X5_at btA
  rw [if_neg (nI_pos hk)]
  by_cases h : k < L
  · rw [if_neg (nI_ge h (by omega)), if_neg (show ¬ (200 : Int32) ≤ nI k from nI_ge (show k < 200 by omega) (by decide)), if_neg (nI_in (show k < 200 by omega) (by decide)), nI_clamp hk, if_pos h]
  · rw [if_pos (nI_le (by omega) hk), if_neg h]
theorem f_byteAt {L : Nat} {cb rt : Nat → Int32} {k : Nat} (h : TX L cb rt) (hk : k < 2 ^ 31) : f_X9_byteAt 200 (nI L) rt (nI k) = some (btA L cb k) := by
  have hL := h.1
  unfold f_X9_byteAt btA
  by_cases h' : k < L
  · first
    | rw [if_neg (nI_ge h' (by omega)), if_neg (nI_in (show k < 200 by omega) (by decide)), nI_clamp hk, if_pos h', (h.2 k h').1]
    | rw [if_pos (nI_lt h' (by omega)), if_neg (nI_in (show k < 200 by omega) (by decide)), nI_clamp hk, if_pos h', (h.2 k h').1]
  · first
    | rw [if_pos (nI_le (by omega) hk), if_neg h']
    | rw [if_neg (nI_nlt (by omega) hk), if_neg h']
def sc (P : Nat → Prop) (p q : Nat) : Prop := p ≤ q ∧ (∀ k, p ≤ k → k < q → P k) ∧ ¬ P q
theorem sc_unique {P : Nat → Prop} {p q r : Nat} (h1 : sc P p q) (h2 : sc P p r) : q = r := by
  by_cases h : q < r
  · exact absurd (h2.2.1 q h1.1 h) h1.2.2
  · by_cases h' : r < q
    · exact absurd (h1.2.1 r h2.1 h') h2.2.2
    · omega
theorem lp_scan {f : Int32 → Option (Int32 ⊕ Int32)} {P : Nat → Prop} {L K p : Nat} (hK : 1000 ≤ K) (hL : L ≤ 200) (hp : p ≤ L) (hP : ¬ P L) (hf : ∀ k, k ≤ L → (P k ∧ f (nI k) = some (.inr (nI (k + 1)))) ∨ (¬ P k ∧ f (nI k) = some (.inl (nI k)))) : ∃ q, lp f K (nI p) = some (nI q) ∧ q ≤ L ∧ sc P p q := by
  obtain ⟨r, h1, q, rfl, h2, h3⟩ := lp_loop (f := f) (fun j s => s = nI (p + j) ∧ p + j ≤ L ∧ ∀ k, p ≤ k → k < p + j → P k) (L - p) (fun r => ∃ q, r = nI q ∧ q ≤ L ∧ sc P p q) (fun j s hI => by
    obtain ⟨rfl, hj, hh⟩ := hI
    rcases hf (p + j) hj with ⟨a, b⟩ | ⟨a, b⟩
    · have : p + j ≠ L := fun e => hP (e ▸ a)
      refine Or.inr ⟨by omega, _, b, rfl, by omega, fun k h1 h2 => ?_⟩
      by_cases e : k = p + j
      · rw [e]; exact a
      · exact hh k h1 (by omega)
    · exact Or.inl ⟨_, b, p + j, rfl, hj, by omega, hh, a⟩) K 0 (nI p) ⟨rfl, hp, fun k h1 h2 => absurd h2 (by omega)⟩ (by omega)
  exact ⟨q, h1, h2, h3⟩
theorem bt_out {L : Nat} {cb : Nat → Int32} {k : Nat} (h : L ≤ k) : btA L cb k = -1 := if_neg (by omega)
/-- blanks -/
def isB (L : Nat) (cb : Nat → Int32) (k : Nat) : Prop := btA L cb k = 32
theorem isB_out {L : Nat} {cb : Nat → Int32} {k : Nat} (h : L ≤ k) : ¬ isB L cb k := fun g => by
  unfold isB at g; rw [bt_out h] at g; exact absurd g (by decide)
theorem c_blank {L K : Nat} {cb : Nat → Int32} {p : Nat} (hK : 1000 ≤ K) (hL : L ≤ 200) (hp : p ≤ L) : ∃ q, lp (f_X6_step_L0 200 (nI L) cb) K (nI p) = some (nI q) ∧ q ≤ L ∧ sc (isB L cb) p q := lp_scan hK hL hp (isB_out (Nat.le_refl L)) (fun k hk => by
  unfold f_X6_step_L0
  simp only
  by_cases h : k < L
  · rw [if_neg (nI_ge h (by omega)), f_at hL (by omega), Option.bind_some, nI_1]
    by_cases e : btA L cb k = 32
    · exact Or.inl ⟨e, if_pos e⟩
    · exact Or.inr ⟨e, if_neg e⟩
  · rw [if_pos (nI_le (by omega) (by omega))]
    exact Or.inr ⟨isB_out (by omega), rfl⟩)
theorem r_blank {L K : Nat} {cb rt : Nat → Int32} {p : Nat} (hK : 1000 ≤ K) (h : TX L cb rt) (hp : p ≤ L) : ∃ q, lp (f_X9_advances_L0 200 (nI L) rt) K (nI p) = some (nI q) ∧ q ≤ L ∧ sc (isB L cb) p q := lp_scan hK h.1 hp (isB_out (Nat.le_refl L)) (fun k hk => by
  have hL := h.1
  unfold f_X9_advances_L0
  simp only
  rw [f_byteAt h (by omega), Option.bind_some, nI_1]
  by_cases e : btA L cb k = 32
  · exact Or.inl ⟨e, if_pos e⟩
  · exact Or.inr ⟨e, if_neg e⟩)
/-- letters -/
def isL (L : Nat) (cb : Nat → Int32) (k : Nat) : Prop := ¬ btA L cb k < 97 ∧ ¬ 122 < btA L cb k
theorem isL_out {L : Nat} {cb : Nat → Int32} {k : Nat} (h : L ≤ k) : ¬ isL L cb k := fun g => by
  have := g.1; rw [bt_out h] at this; exact absurd this (by decide)
theorem f_isLetter (x : Int32) : ((¬ x < 97 ∧ ¬ 122 < x) ∧ f_X6_isLetter x = some 1 ∧ f_X9_in x 97 122 = some 1) ∨ (¬ (¬ x < 97 ∧ ¬ 122 < x) ∧ f_X6_isLetter x = some 0 ∧ f_X9_in x 97 122 = some 0) := by
  unfold f_X6_isLetter f_X9_in
  by_cases h1 : x < 97
  · exact Or.inr ⟨fun g => g.1 h1, if_pos h1, if_pos h1⟩
  · rw [if_neg h1]
    by_cases h2 : 122 < x
    · exact Or.inr ⟨fun g => g.2 h2, if_pos h2, if_pos h2⟩
    · exact Or.inl ⟨⟨h1, h2⟩, if_neg h2, if_neg h2⟩
theorem f_isDigit (x : Int32) : ((¬ x < 48 ∧ ¬ 57 < x) ∧ f_X6_isDigit x = some 1 ∧ f_X9_in x 48 57 = some 1) ∨ (¬ (¬ x < 48 ∧ ¬ 57 < x) ∧ f_X6_isDigit x = some 0 ∧ f_X9_in x 48 57 = some 0) := by
  unfold f_X6_isDigit f_X9_in
  by_cases h1 : x < 48
  · exact Or.inr ⟨fun g => g.1 h1, if_pos h1, if_pos h1⟩
  · rw [if_neg h1]
    by_cases h2 : 57 < x
    · exact Or.inr ⟨fun g => g.2 h2, if_pos h2, if_pos h2⟩
    · exact Or.inl ⟨⟨h1, h2⟩, if_neg h2, if_neg h2⟩
theorem c_word {L K : Nat} {cb : Nat → Int32} {p : Nat} (hK : 1000 ≤ K) (hL : L ≤ 200) (hp : p ≤ L) : ∃ q, lp (f_X6_stepOverWord_L0 200 (nI L) cb) K (nI p) = some (nI q) ∧ q ≤ L ∧ sc (isL L cb) p q := lp_scan hK hL hp (isL_out (Nat.le_refl L)) (fun k hk => by
  unfold f_X6_stepOverWord_L0
  simp only
  by_cases h : k < L
  · rw [if_neg (nI_ge h (by omega)), f_at hL (by omega), Option.bind_some, nI_1]
    rcases f_isLetter (btA L cb k) with ⟨a, b, -⟩ | ⟨a, b, -⟩
    · rw [b]; exact Or.inl ⟨a, rfl⟩
    · rw [b]; exact Or.inr ⟨a, rfl⟩
  · rw [if_pos (nI_le (by omega) (by omega))]
    exact Or.inr ⟨isL_out (by omega), rfl⟩)
theorem r_word {L K : Nat} {cb rt : Nat → Int32} {p : Nat} (hK : 1000 ≤ K) (h : TX L cb rt) (hp : p ≤ L) : ∃ q, lp (f_X9_advances_L66 200 (nI L) rt) K (nI p) = some (nI q) ∧ q ≤ L ∧ sc (isL L cb) p q := lp_scan hK h.1 hp (isL_out (Nat.le_refl L)) (fun k hk => by
  have hL := h.1
  unfold f_X9_advances_L66
  simp only
  rw [f_byteAt h (by omega), Option.bind_some, nI_1]
  rcases f_isLetter (btA L cb k) with ⟨a, -, b⟩ | ⟨a, -, b⟩
  · rw [b]; exact Or.inl ⟨a, rfl⟩
  · rw [b]; exact Or.inr ⟨a, rfl⟩)
theorem lp_more {σ ρ : Type} {f : σ → Option (ρ ⊕ σ)} : ∀ (k d : Nat) (s : σ) (r : ρ), lp f k s = some r → lp f (k + d) s = some r := by
  intro k
  induction k with
  | zero => intro d s r h; cases h
  | succ k ih =>
    intro d s r h
    rw [show k + 1 + d = (k + d) + 1 by omega]
    unfold lp at h ⊢
    cases e : f s with
    | none => rw [e] at h; cases h
    | some o =>
      rw [e] at h
      cases o with
      | inl r' => exact h
      | inr s' => exact ih d s' r h
def sgn (v : Nat) : Bool := [33, 38, 124, 40, 41, 45, 59].contains v
def chr (v : Nat) : Int32 := ((nI v).toUInt32 % 65536).toInt32
def idx (v : Nat) : Option (Int32 ⊕ Unit) := lp (f_J1_indexOfChar_4cfef_L7 7 (chr v).toInt8.toInt32) 10 0
theorem idx_ok : ∀ v, v < 256 → (sgn v = true ∧ ∃ r, r < 7 ∧ idx v = some (.inl (nI r))) ∨ (sgn v = false ∧ idx v = some (.inr ())) := by decide +kernel
theorem enc_ok : ∀ v, v < 256 → f_J1_canEncode_9a6ad (chr v) = some 1 := by decide +kernel
theorem f_idx {K v : Nat} (hK : 1000 ≤ K) (hv : v < 256) : (sgn v = true ∧ ∃ r, f_J0_indexOf_0f7a4 K (chr v) = some r ∧ ¬ r < 0) ∨ (sgn v = false ∧ ∃ r, f_J0_indexOf_0f7a4 K (chr v) = some r ∧ r < 0) := by
  have e : f_J0_indexOf_0f7a4 K (chr v) = (lp (f_J1_indexOfChar_4cfef_L7 7 (chr v).toInt8.toInt32) K 0).bind fun z4 => match z4 with
    | .inl r => some r
    | .inr _ => some (-1 : Int32) := by
    unfold f_J0_indexOf_0f7a4 f_J0_indexOf_7cf53
    rw [show f_J0_isLatin1_aae02 = some 1 by decide, show f_J0_length_8abf5 = some 7 by decide]
    simp only [Option.bind_some, if_neg one_ne]
    unfold f_J1_indexOf_4cfef
    rw [enc_ok v hv, Option.bind_some, if_neg one_ne, if_pos (by decide)]
    unfold f_J1_indexOfChar_4cfef
    rw [show (if (0 : Int32) < (0 : Int32) then (0 : Int32) else 0) = 0 by decide, show (if (7 : Int32) < (7 : Int32) then (7 : Int32) else 7) = 7 by decide]
    cases lp (f_J1_indexOfChar_4cfef_L7 7 (chr v).toInt8.toInt32) K 0 with
    | none => rfl
    | some o => cases o <;> rfl
  obtain ⟨d, rfl⟩ : ∃ d, K = 10 + d := ⟨K - 10, by omega⟩
  rcases idx_ok v hv with ⟨h1, r, hr, h2⟩ | ⟨h1, h2⟩
  · refine Or.inl ⟨h1, nI r, ?_, nI_pos (by omega)⟩
    rw [e, lp_more 10 d _ _ h2]; rfl
  · refine Or.inr ⟨h1, -1, ?_, by decide⟩
    rw [e, lp_more 10 d _ _ h2]; rfl
/-- digits -/
def isD (L : Nat) (cb : Nat → Int32) (k : Nat) : Prop := ¬ btA L cb k < 48 ∧ ¬ 57 < btA L cb k
theorem isD_out {L : Nat} {cb : Nat → Int32} {k : Nat} (h : L ≤ k) : ¬ isD L cb k := fun g => by
  have := g.1; rw [bt_out h] at this; exact absurd this (by decide)
theorem bt_nat {a b : Nat} {x : Int32} (ha : a ≤ b) (hb' : b < 2 ^ 31) (h : ¬ x < nI a ∧ ¬ nI b < x) : ∃ v, a ≤ v ∧ v ≤ b ∧ x = nI v := by
  have h0 : ¬ x < 0 := fun g => h.1 (by
    rw [Int32.lt_iff_toInt_lt] at g ⊢
    rw [nI_toInt (by omega)]
    have : (0 : Int32).toInt = 0 := rfl
    omega)
  obtain ⟨v, hv, rfl⟩ := nI_of h0
  exact ⟨v, Classical.byContradiction fun g => h.1 (nI_lt (by omega) (by omega)), Classical.byContradiction fun g => h.2 (nI_lt (by omega) hv), rfl⟩
theorem isD_nat {L : Nat} {cb : Nat → Int32} {k : Nat} (h : isD L cb k) : ∃ v, 48 ≤ v ∧ v ≤ 57 ∧ btA L cb k = nI v := bt_nat (by decide) (by decide) h
theorem isL_nat {L : Nat} {cb : Nat → Int32} {k : Nat} (h : isL L cb k) : ∃ v, 97 ≤ v ∧ v ≤ 122 ∧ btA L cb k = nI v := bt_nat (by decide) (by decide) h
def rv (L : Nat) (cb : Nat → Int32) (p : Nat) : Nat → Nat
  | 0 => 0
  | j + 1 => if rv L cb p j ≤ 999 then 10 * rv L cb p j + ((btA L cb (p + j)).toNatClampNeg - 48) else rv L cb p j
theorem rv_le {L : Nat} {cb : Nat → Int32} {p : Nat} : ∀ j, (∀ i, i < j → isD L cb (p + i)) → rv L cb p j ≤ 9999
  | 0, _ => Nat.zero_le _
  | j + 1, h => by
    have := rv_le j (fun i hi => h i (by omega))
    obtain ⟨v, h1, h2, h3⟩ := isD_nat (h j (by omega))
    rw [rv, h3, nI_clamp (by omega)]
    split <;> omega
theorem c_num {L K : Nat} {cb : Nat → Int32} {p : Nat} (hK : 1000 ≤ K) (hL : L ≤ 200) (hp : p ≤ L) : ∃ q, lp (f_X6_stepOverNumber_L5 200 (nI L) cb) K (nI p, 0) = some (nI q, nI (min (rv L cb p (q - p)) 1000)) ∧ q ≤ L ∧ sc (isD L cb) p q := by
  obtain ⟨r, h1, q, rfl, h2, h3⟩ := lp_loop (f := f_X6_stepOverNumber_L5 200 (nI L) cb) (fun j s => s = (nI (p + j), nI (min (rv L cb p j) 1000)) ∧ p + j ≤ L ∧ ∀ i, i < j → isD L cb (p + i)) (L - p) (fun r => ∃ q, r = (nI q, nI (min (rv L cb p (q - p)) 1000)) ∧ q ≤ L ∧ sc (isD L cb) p q) (fun j s hI => by
    obtain ⟨rfl, hj, hh⟩ := hI
    have done : ¬ isD L cb (p + j) → ∃ q, ((nI (p + j), nI (min (rv L cb p j) 1000)) : Int32 × Int32) = (nI q, nI (min (rv L cb p (q - p)) 1000)) ∧ q ≤ L ∧ sc (isD L cb) p q := fun g => ⟨p + j, by rw [show p + j - p = j by omega], hj, by omega, fun k h1 h2 => by
      have := hh (k - p) (by omega)
      rwa [show p + (k - p) = k by omega] at this, g⟩
    unfold f_X6_stepOverNumber_L5
    simp only
    by_cases h : p + j < L
    · rw [if_neg (nI_ge h (by omega)), f_at hL (by omega), Option.bind_some, Option.bind_some]
      rcases f_isDigit (btA L cb (p + j)) with ⟨a, b, -⟩ | ⟨a, b, -⟩
      · obtain ⟨v, h1, h2, h3⟩ := isD_nat (L := L) (cb := cb) (k := p + j) a
        have hb := rv_le j hh
        rw [b, Option.bind_some, if_neg one_ne, nI_1, h3, show (10 : Int32) = nI 10 from rfl, show (48 : Int32) = nI 48 from rfl, nI_mul, nI_add, nI_sub (by omega)]
        refine Or.inr ⟨by omega, _, rfl, ?_, by omega, fun i hi => ?_⟩
        · have e : (if (1000 : Int32) < nI (10 * min (rv L cb p j) 1000 + v - 48) then (1000 : Int32) else nI (10 * min (rv L cb p j) 1000 + v - 48)) = nI (min (rv L cb p (j + 1)) 1000) := by
            rw [rv, h3, nI_clamp (by omega)]
            by_cases g : rv L cb p j ≤ 999
            · rw [if_pos g, Nat.min_eq_left (show rv L cb p j ≤ 1000 by omega)]
              by_cases g2 : 1000 < 10 * rv L cb p j + v - 48
              · rw [if_pos (show (1000 : Int32) < _ from nI_lt g2 (by omega)), Nat.min_eq_right (by omega)]; rfl
              · rw [if_neg (show ¬ (1000 : Int32) < _ from nI_nlt (a := 1000) (by omega) (by decide)), Nat.min_eq_left (by omega), show 10 * rv L cb p j + v - 48 = 10 * rv L cb p j + (v - 48) by omega]
            · rw [if_neg g, Nat.min_eq_right (show 1000 ≤ rv L cb p j by omega), if_pos (show (1000 : Int32) < _ from nI_lt (show 1000 < 10 * 1000 + v - 48 by omega) (by omega))]; rfl
          rw [e]; rfl
        · by_cases ei : i = j
          · rw [ei]; exact a
          · exact hh i (by omega)
      · rw [b, Option.bind_some, if_pos rfl]
        exact Or.inl ⟨_, rfl, done a⟩
    · rw [if_pos (nI_le (by omega) (by omega))]
      exact Or.inl ⟨_, rfl, done (isD_out (by omega))⟩) K 0 (nI p, 0) ⟨rfl, hp, fun i hi => absurd hi (Nat.not_lt_zero i)⟩ (by omega)
  exact ⟨q, h1, h2, h3⟩
theorem r_num {L K : Nat} {cb rt : Nat → Int32} {p : Nat} (hK : 1000 ≤ K) (hT : TX L cb rt) (hp : p ≤ L) : ∃ q, lp (f_X9_advances_L185 200 (nI L) rt) K (nI p, 0) = some (nI q, nI (rv L cb p (q - p))) ∧ q ≤ L ∧ sc (isD L cb) p q ∧ rv L cb p (q - p) ≤ 9999 := by
  have hL := hT.1
  obtain ⟨r, h1, q, rfl, h2, h3, h4⟩ := lp_loop (f := f_X9_advances_L185 200 (nI L) rt) (fun j s => s = (nI (p + j), nI (rv L cb p j)) ∧ p + j ≤ L ∧ ∀ i, i < j → isD L cb (p + i)) (L - p) (fun r => ∃ q, r = (nI q, nI (rv L cb p (q - p))) ∧ q ≤ L ∧ sc (isD L cb) p q ∧ rv L cb p (q - p) ≤ 9999) (fun j s hI => by
    obtain ⟨rfl, hj, hh⟩ := hI
    have hb := rv_le j hh
    have done : ¬ isD L cb (p + j) → ∃ q, ((nI (p + j), nI (rv L cb p j)) : Int32 × Int32) = (nI q, nI (rv L cb p (q - p))) ∧ q ≤ L ∧ sc (isD L cb) p q ∧ rv L cb p (q - p) ≤ 9999 := fun g => ⟨p + j, by rw [show p + j - p = j by omega], hj, ⟨by omega, fun k h1 h2 => by
      have := hh (k - p) (by omega)
      rwa [show p + (k - p) = k by omega] at this, g⟩, by rw [show p + j - p = j by omega]; exact hb⟩
    unfold f_X9_advances_L185
    simp only
    rw [f_byteAt hT (by omega), Option.bind_some, Option.bind_some]
    rcases f_isDigit (btA L cb (p + j)) with ⟨a, -, b⟩ | ⟨a, -, b⟩
    · obtain ⟨v, h1, h2, h3⟩ := isD_nat (L := L) (cb := cb) (k := p + j) a
      have hpL : p + j < L := Classical.byContradiction fun g => isD_out (by omega) a
      rw [b, Option.bind_some, if_neg one_ne, nI_1, h3, show (10 : Int32) = nI 10 from rfl, show (48 : Int32) = nI 48 from rfl, nI_mul, nI_add, nI_sub (by omega)]
      refine Or.inr ⟨by omega, ?_⟩
      have hh' : ∀ i, i < j + 1 → isD L cb (p + i) := fun i hi => by
        by_cases ei : i = j
        · rw [ei]; exact a
        · exact hh i (by omega)
      by_cases g : rv L cb p j ≤ 999
      · rw [if_pos (show nI (rv L cb p j) ≤ (999 : Int32) from nI_le g (by decide))]
        refine ⟨_, rfl, ?_, by omega, hh'⟩
        rw [rv, if_pos g, h3, nI_clamp (by omega), show 10 * rv L cb p j + v - 48 = 10 * rv L cb p j + (v - 48) by omega]; rfl
      · rw [if_neg (show ¬ nI (rv L cb p j) ≤ (999 : Int32) from nI_ge (show 999 < rv L cb p j by omega) (by omega))]
        refine ⟨_, rfl, ?_, by omega, hh'⟩
        rw [rv, if_neg g]; rfl
    · rw [b, Option.bind_some, if_pos rfl]
      exact Or.inl ⟨_, rfl, done a⟩) K 0 (nI p, 0) ⟨rfl, hp, fun i hi => absurd hi (Nat.not_lt_zero i)⟩ (by omega)
  exact ⟨q, h1, h2, h3, h4⟩

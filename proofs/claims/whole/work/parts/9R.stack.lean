/-! the stack of the reference's formula reader -/
def itn {σ ρ : Type} (f : σ → Option (ρ ⊕ σ)) : Nat → σ → σ → Prop
  | 0, s, s' => s = s'
  | n + 1, s, s' => ∃ s1, f s = some (.inr s1) ∧ itn f n s1 s'
theorem itn_lp {σ ρ : Type} {f : σ → Option (ρ ⊕ σ)} : ∀ (n : Nat) (s s' : σ) (K : Nat), itn f n s s' → lp f (n + K) s = lp f K s'
  | 0, s, s', K, h => by
    have h' : s = s' := h
    rw [h', Nat.zero_add]
  | n + 1, s, s', K, h => by
    obtain ⟨s1, h1, h2⟩ := h
    have := itn_lp n s1 s' K h2
    rw [← this, show n + 1 + K = (n + K) + 1 by omega]
    show (match f s with | none => none | some (.inl r) => some r | some (.inr s') => lp f (n + K) s') = _
    rw [h1]
theorem itn_trans {σ ρ : Type} {f : σ → Option (ρ ⊕ σ)} : ∀ (n m : Nat) (s s' s'' : σ), itn f n s s' → itn f m s' s'' → itn f (n + m) s s''
  | 0, m, s, s', s'', h, g => by
    have h' : s = s' := h
    rw [h', Nat.zero_add]; exact g
  | n + 1, m, s, s', s'', h, g => by
    obtain ⟨s1, h1, h2⟩ := h
    rw [show n + 1 + m = (n + m) + 1 by omega]
    exact ⟨s1, h1, itn_trans n m s1 s' s'' h2 g⟩
theorem itn_one {σ ρ : Type} {f : σ → Option (ρ ⊕ σ)} {s s' : σ} (h : f s = some (.inr s')) : itn f 1 s s' := ⟨s', h, rfl⟩
def not8 (w : Int32) : Int32 := (255 : Int32) &&& (w ^^^ (-1 : Int32))
def nots : Nat → Int32 → Int32
  | 0, w => w
  | r + 1, w => nots r (not8 w)
theorem nots_end : ∀ (r : Nat) (w : Int32), nots (r + 1) w = not8 (nots r w)
  | 0, _ => rfl
  | r + 1, w => by
    show nots (r + 1) (not8 w) = _
    rw [nots_end r (not8 w)]; rfl
theorem nI_dec {m : Nat} (h : 0 < m) : nI m - (1 : Int32) = nI (m - 1) := nI_sub (b := 1) h
/-- a finished operand takes the ! that wait for it -/
theorem f_nots {K δ m k r : Nat} {signs sets : Nat → Int32} (hK : 1000 ≤ K) (hm : m ≤ 24) (hk : k < 24) (hr : r ≤ m) (hδ : r ≤ δ) (hδ2 : δ ≤ 6) (h1 : ∀ i, i < r → signs (m - 1 - i) = 33) (h2 : r < m → ¬ signs (m - r - 1) = 33) : ∃ sets', lp (f_X9_formula_L329 24 24 (nI (k + 1)) signs 0) K (nI δ, nI m, sets) = some (nI (δ - r), nI (m - r), sets') ∧ sets' k = nots r (sets k) ∧ ∀ i, i ≠ k → sets' i = sets i := by
  obtain ⟨x, g1, sets', rfl, g2, g3⟩ := lp_loop (f := f_X9_formula_L329 24 24 (nI (k + 1)) signs 0) (fun j s => j ≤ r ∧ ∃ sets', s = (nI (δ - j), nI (m - j), sets') ∧ sets' k = nots j (sets k) ∧ ∀ i, i ≠ k → sets' i = sets i) r (fun x => ∃ sets', x = (nI (δ - r), nI (m - r), sets') ∧ sets' k = nots r (sets k) ∧ ∀ i, i ≠ k → sets' i = sets i) (fun j s hI => by
    obtain ⟨hj, sets', rfl, a1, a2⟩ := hI
    unfold f_X9_formula_L329
    simp only
    rw [if_pos trivial]
    by_cases e : j = r
    · subst e
      refine Or.inl ⟨_, ?_, sets', rfl, a1, a2⟩
      by_cases z : j < m
      · rw [if_neg (nI_nle (by omega) (by omega)), nI_dec (by omega), if_neg (nI_in (show m - j - 1 < 24 by omega) (by decide)), nI_clamp (by omega), if_neg (h2 z)]
      · rw [if_pos (show nI (m - j) ≤ (0 : Int32) from nI_le (b := 0) (by omega) (by decide))]
    · have hjr : j < r := by omega
      have s33 := h1 j hjr
      rw [show m - 1 - j = m - j - 1 by omega] at s33
      rw [if_neg (nI_nle (by omega) (by omega)), nI_dec (show 0 < m - j by omega), if_neg (nI_in (show m - j - 1 < 24 by omega) (by decide)), nI_clamp (show m - j - 1 < 2 ^ 31 by omega), if_pos s33, nI_dec (show 0 < k + 1 by omega), show k + 1 - 1 = k by omega, if_neg (nI_in hk (by decide)), if_neg (nI_in hk (by decide)), nI_clamp (show k < 2 ^ 31 by omega), show nI (δ - j) + (-1 : Int32) = nI (δ - j) - 1 by rw [Int32.sub_eq_add_neg], nI_dec (show 0 < δ - j by omega)]
      refine Or.inr ⟨hjr, _, rfl, by omega, upd sets' k (not8 (sets' k)), ?_, ?_, fun i hi => ?_⟩
      · rw [show δ - j - 1 = δ - (j + 1) by omega, show m - j - 1 = m - (j + 1) by omega]; rfl
      · rw [pk_us, a1, nots_end]
      · rw [pk_un hi]; exact a2 i hi) K 0 (nI δ, nI m, sets) ⟨Nat.zero_le _, sets, rfl, rfl, fun _ _ => rfl⟩ (by omega)
  exact ⟨sets', g1, g2, g3⟩
theorem f_nots1 {K : Nat} {S x2 m : Int32} {signs sets : Nat → Int32} (hK : 1000 ≤ K) : lp (f_X9_formula_L329 24 24 S signs 1) K (x2, m, sets) = some (x2, m, sets) := by
  obtain ⟨d, rfl⟩ : ∃ d, K = d + 1 := ⟨K - 1, by omega⟩
  unfold lp f_X9_formula_L329
  simp only
  rw [if_neg one_ne]
theorem f_join {m k : Nat} {signs sets : Nat → Int32} (hm : m < 24) (hk : k + 1 < 24) : f_X9_joins 24 24 (nI (m + 1)) (nI (k + 2)) signs sets = some (nI m, nI (k + 1), upd sets k (if signs m = 38 then sets k &&& sets (k + 1) else sets k ||| sets (k + 1))) := by
  have e1 : nI (m + 1) - (1 : Int32) = nI m := nI_dec (by omega)
  have e2 : nI (k + 2) - (1 : Int32) = nI (k + 1) := nI_dec (by omega)
  have e3 : nI (k + 1) - (1 : Int32) = nI k := nI_dec (by omega)
  unfold f_X9_joins
  rw [e1, e2, e3, if_neg (nI_in (show k < 24 by omega) (by decide)), if_neg (nI_in hk (by decide)), if_neg (nI_in hm (by decide)), nI_clamp (show m < 2 ^ 31 by omega), nI_clamp (show k < 2 ^ 31 by omega), nI_clamp (show k + 1 < 2 ^ 31 by omega)]
  by_cases h : signs m = 38
  · rw [if_pos h, if_pos h, if_neg (fun g => by
      rcases g with g | g
      · exact nI_pos (by omega) g
      · omega)]
  · rw [if_neg h, if_neg h, if_neg (fun g => by
      rcases g with g | g
      · exact nI_pos (by omega) g
      · omega)]

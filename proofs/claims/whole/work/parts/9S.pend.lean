/-! what waits on the reference's stack above an open bracket -/
def pend (signs sets : Nat → Int32) (m0 k0 : Nat) (a b : Option Int32) (c : Int32) (m k : Nat) : Prop :=
  match a, b with
  | none, none => m = m0 ∧ k = k0 + 1 ∧ sets k0 = c
  | some x, none => m = m0 + 1 ∧ k = k0 + 2 ∧ signs m0 = 124 ∧ sets k0 = x ∧ sets (k0 + 1) = c
  | none, some y => m = m0 + 1 ∧ k = k0 + 2 ∧ signs m0 = 38 ∧ sets k0 = y ∧ sets (k0 + 1) = c
  | some x, some y => m = m0 + 2 ∧ k = k0 + 3 ∧ signs m0 = 124 ∧ signs (m0 + 1) = 38 ∧ sets k0 = x ∧ sets (k0 + 1) = y ∧ sets (k0 + 2) = c
def andv (b : Option Int32) (c : Int32) : Int32 := match b with
  | none => c
  | some y => y &&& c
def orv (a : Option Int32) (c : Int32) : Int32 := match a with
  | none => c
  | some x => x ||| c
def baseS (signs : Nat → Int32) (m0 : Nat) : Prop := m0 = 0 ∨ (0 < m0 ∧ signs (m0 - 1) = 40)
theorem lp_inr {σ ρ : Type} {f : σ → Option (ρ ⊕ σ)} {s s' : σ} {K : Nat} (h : f s = some (.inr s')) : lp f (K + 1) s = lp f K s' := by
  show (match f s with | none => none | some (.inl r) => some r | some (.inr s') => lp f K s') = _
  rw [h]
theorem lp_inl {σ ρ : Type} {f : σ → Option (ρ ⊕ σ)} {s : σ} {r : ρ} {K : Nat} (h : f s = some (.inl r)) : lp f (K + 1) s = some r := by
  show (match f s with | none => none | some (.inl r) => some r | some (.inr s') => lp f K s') = _
  rw [h]
abbrev jSt := Int32 × Int32 × (Nat → Int32)
/-- all that waits is joined -/
theorem join_all {f : jSt → Option (jSt ⊕ jSt)} {signs sets : Nat → Int32} {m0 k0 m k K : Nat} {a b : Option Int32} {c : Int32} (hK : 1000 ≤ K) (hm : m ≤ 24) (hk : k ≤ 24) (hp : pend signs sets m0 k0 a b c m k)
    (hJ : ∀ (m k : Nat) (sets : Nat → Int32), m0 ≤ m → m < 24 → k + 1 < 24 → (signs m = 38 ∨ signs m = 124) → f (nI (m + 1), nI (k + 2), sets) = some (.inr (nI m, nI (k + 1), upd sets k (if signs m = 38 then sets k &&& sets (k + 1) else sets k ||| sets (k + 1)))))
    (hS : ∀ sets, f (nI m0, nI (k0 + 1), sets) = some (.inl (nI m0, nI (k0 + 1), sets))) :
    ∃ sets', lp f K (nI m, nI k, sets) = some (nI m0, nI (k0 + 1), sets') ∧ sets' k0 = orv a (andv b c) ∧ ∀ i, i < k0 → sets' i = sets i := by
  obtain ⟨d, rfl⟩ : ∃ d, K = d + 1 + 1 + 1 := ⟨K - 3, by omega⟩
  have n124 : ¬ (124 : Int32) = 38 := by decide
  cases a with
  | none =>
    cases b with
    | none =>
      obtain ⟨rfl, rfl, h1⟩ := hp
      exact ⟨sets, lp_inl (hS sets), h1, fun _ _ => rfl⟩
    | some y =>
      obtain ⟨rfl, rfl, h1, h2, h3⟩ := hp
      refine ⟨_, (lp_inr (hJ m0 k0 sets (Nat.le_refl _) (by omega) (by omega) (Or.inl h1))).trans (lp_inl (hS _)), ?_, fun i hi => pk_un (by omega)⟩
      rw [pk_us, if_pos h1, h2, h3]; rfl
  | some x =>
    cases b with
    | none =>
      obtain ⟨rfl, rfl, h1, h2, h3⟩ := hp
      refine ⟨_, (lp_inr (hJ m0 k0 sets (Nat.le_refl _) (by omega) (by omega) (Or.inr h1))).trans (lp_inl (hS _)), ?_, fun i hi => pk_un (by omega)⟩
      rw [pk_us, if_neg (by rw [h1]; exact n124), h2, h3]; rfl
    | some y =>
      obtain ⟨rfl, rfl, h1, h2, h3, h4, h5⟩ := hp
      refine ⟨_, ((lp_inr (hJ (m0 + 1) (k0 + 1) sets (by omega) (by omega) (by omega) (Or.inl h2))).trans (lp_inr (hJ m0 k0 _ (Nat.le_refl _) (by omega) (by omega) (Or.inr h1)))).trans (lp_inl (hS _)), ?_, fun i hi => ?_⟩
      · rw [pk_us, if_neg (by rw [h1]; exact n124), pk_un (by omega), pk_us, if_pos h2, h3, h4, h5]; rfl
      · rw [pk_un (by omega), pk_un (by omega)]
theorem L182_join {m k : Nat} {signs sets : Nat → Int32} {v : Int32} (hm : m < 24) (hk : k + 1 < 24) (h : signs m = 38 ∨ (signs m = 124 ∧ v = 124)) : f_X9_formula_L182 24 24 signs v (nI (m + 1), nI (k + 2), sets) = some (.inr (nI m, nI (k + 1), upd sets k (if signs m = 38 then sets k &&& sets (k + 1) else sets k ||| sets (k + 1)))) := by
  have e1 : nI (m + 1) - (1 : Int32) = nI m := nI_dec (by omega)
  unfold f_X9_formula_L182 f_X9_formula_J228
  simp only
  rw [if_neg (nI_nle (by omega) (by omega)), f_join hm hk, e1, if_neg (nI_in hm (by decide)), nI_clamp (show m < 2 ^ 31 by omega), Option.bind_some]
  rcases h with h | ⟨h, rfl⟩
  · rw [if_pos h]
  · rw [if_neg (show ¬ signs m = 38 by rw [h]; decide), if_neg (fun g => by
      rcases g with g | g
      · exact nI_pos (by omega) g
      · omega), if_pos h, if_pos rfl]
theorem L182_stop {m : Nat} {k : Int32} {signs sets : Nat → Int32} {v : Int32} (hm : m ≤ 24) (h : baseS signs m ∨ (0 < m ∧ signs (m - 1) = 124 ∧ v = 38)) : f_X9_formula_L182 24 24 signs v (nI m, k, sets) = some (.inl (nI m, k, sets)) := by
  unfold f_X9_formula_L182
  simp only
  have key : ∀ c : Int32, 0 < m → signs (m - 1) = c → ¬ c = 38 → (c = 124 → ¬ v = 124) → (if nI m ≤ 0 then some (Sum.inl (nI m, k, sets)) else if nI m - 1 < 0 ∨ 24 ≤ (nI m - 1).toNatClampNeg then none else if signs (nI m - 1).toNatClampNeg = 38 then f_X9_formula_J228 24 24 (nI m) k signs sets else if nI m - 1 < 0 ∨ 24 ≤ (nI m - 1).toNatClampNeg then none else if signs (nI m - 1).toNatClampNeg = 124 then if v = 124 then f_X9_formula_J228 24 24 (nI m) k signs sets else some (Sum.inl (nI m, k, sets)) else some (Sum.inl (nI m, k, sets))) = some (Sum.inl (nI m, k, sets)) := fun c h0 h1 h2 h3 => by
    rw [if_neg (nI_nle h0 (by omega)), nI_dec h0, if_neg (nI_in (show m - 1 < 24 by omega) (by decide)), if_neg (nI_in (show m - 1 < 24 by omega) (by decide)), nI_clamp (show m - 1 < 2 ^ 31 by omega), h1, if_neg h2]
    by_cases g : c = 124
    · rw [if_pos g, if_neg (h3 g)]
    · rw [if_neg g]
  rcases h with (rfl | ⟨h0, h1⟩) | ⟨h0, h1, rfl⟩
  · rw [if_pos (show nI 0 ≤ (0 : Int32) by decide)]
  · exact key 40 h0 h1 (by decide) (fun g => absurd g (by decide))
  · exact key 124 h0 h1 (by decide) (fun _ => by decide)
theorem L182_or {signs sets : Nat → Int32} {m0 k0 m k K : Nat} {a b : Option Int32} {c : Int32} (hK : 1000 ≤ K) (hm : m ≤ 24) (hm0 : m0 ≤ 24) (hk : k ≤ 24) (hB : baseS signs m0) (hp : pend signs sets m0 k0 a b c m k) : ∃ sets', lp (f_X9_formula_L182 24 24 signs 124) K (nI m, nI k, sets) = some (nI m0, nI (k0 + 1), sets') ∧ sets' k0 = orv a (andv b c) ∧ ∀ i, i < k0 → sets' i = sets i :=
  join_all hK hm hk hp (fun m k sets _ h1 h2 h3 => L182_join h1 h2 (h3.imp id fun g => ⟨g, rfl⟩)) (fun sets => L182_stop hm0 (Or.inl hB))
theorem L182_and {signs sets : Nat → Int32} {m0 k0 m k K : Nat} {a b : Option Int32} {c : Int32} (hK : 1000 ≤ K) (hm : m ≤ 24) (hk : k ≤ 24) (hB : baseS signs m0) (hp : pend signs sets m0 k0 a b c m k) : ∃ (m' k' : Nat) (sets' : Nat → Int32), lp (f_X9_formula_L182 24 24 signs 38) K (nI m, nI k, sets) = some (nI m', nI k', sets') ∧ pend signs sets' m0 k0 a none (andv b c) m' k' ∧ m' ≤ m ∧ k' ≤ k ∧ ∀ i, i < k0 → sets' i = sets i := by
  obtain ⟨d, rfl⟩ : ∃ d, K = d + 1 + 1 + 1 := ⟨K - 3, by omega⟩
  cases a with
  | none =>
    cases b with
    | none =>
      obtain ⟨rfl, rfl, h1⟩ := hp
      exact ⟨m, k0 + 1, sets, lp_inl (L182_stop hm (Or.inl hB)), ⟨rfl, rfl, h1⟩, Nat.le_refl _, Nat.le_refl _, fun _ _ => rfl⟩
    | some y =>
      obtain ⟨rfl, rfl, h1, h2, h3⟩ := hp
      refine ⟨m0, k0 + 1, _, (lp_inr (L182_join (m := m0) (k := k0) (by omega) (by omega) (Or.inl h1))).trans (lp_inl (L182_stop (by omega) (Or.inl hB))), ⟨rfl, rfl, ?_⟩, by omega, by omega, fun i hi => pk_un (by omega)⟩
      rw [pk_us, if_pos h1, h2, h3]; rfl
  | some x =>
    cases b with
    | none =>
      obtain ⟨rfl, rfl, h1, h2, h3⟩ := hp
      exact ⟨m0 + 1, k0 + 2, sets, lp_inl (L182_stop hm (Or.inr ⟨by omega, h1, rfl⟩)), ⟨rfl, rfl, h1, h2, h3⟩, Nat.le_refl _, Nat.le_refl _, fun _ _ => rfl⟩
    | some y =>
      obtain ⟨rfl, rfl, h1, h2, h3, h4, h5⟩ := hp
      refine ⟨m0 + 1, k0 + 2, _, (lp_inr (L182_join (m := m0 + 1) (k := k0 + 1) (by omega) (by omega) (Or.inl h2))).trans (lp_inl (L182_stop (m := m0 + 1) (by omega) (Or.inr ⟨by omega, h1, rfl⟩))), ⟨rfl, rfl, h1, ?_, ?_⟩, by omega, by omega, fun i hi => pk_un (by omega)⟩
      · rw [pk_un (by omega), h3]
      · rw [pk_us, if_pos h2, h4, h5]; rfl
/-- at a closing bracket -/
theorem L283_all {signs sets : Nat → Int32} {m0 k0 m k K : Nat} {a b : Option Int32} {c : Int32} (hK : 1000 ≤ K) (hm : m ≤ 24) (hm0 : m0 < 24) (hk : k ≤ 24) (hB : signs m0 = 40) (hp : pend signs sets (m0 + 1) k0 a b c m k) : ∃ sets', lp (f_X9_formula_L283 24 24 signs) K (nI m, nI k, sets) = some (nI (m0 + 1), nI (k0 + 1), sets') ∧ sets' k0 = orv a (andv b c) ∧ ∀ i, i < k0 → sets' i = sets i :=
  join_all hK hm hk hp (fun m k sets _ h1 h2 h3 => by
    have e1 : nI (m + 1) - (1 : Int32) = nI m := nI_dec (by omega)
    unfold f_X9_formula_L283
    simp only
    rw [f_join h1 h2, e1, if_neg (nI_in h1 (by decide)), nI_clamp (show m < 2 ^ 31 by omega), if_neg (by rcases h3 with h3 | h3 <;> rw [h3] <;> decide), Option.bind_some]) (fun sets => by
    have e1 : nI (m0 + 1) - (1 : Int32) = nI m0 := nI_dec (by omega)
    unfold f_X9_formula_L283
    simp only
    rw [e1, if_neg (nI_in hm0 (by decide)), nI_clamp (show m0 < 2 ^ 31 by omega), if_pos hB])
/-- at the end -/
theorem L420_all {signs sets : Nat → Int32} {k0 m k K : Nat} {a b : Option Int32} {c : Int32} (hK : 1000 ≤ K) (hm : m ≤ 24) (hk : k ≤ 24) (hp : pend signs sets 0 k0 a b c m k) : ∃ sets', lp (f_X9_formula_L420 24 24 (-1) signs) K (nI m, nI k, sets) = some (nI 0, nI (k0 + 1), sets') ∧ sets' k0 = orv a (andv b c) ∧ ∀ i, i < k0 → sets' i = sets i :=
  join_all hK hm hk hp (fun m k sets _ h1 h2 h3 => by
    unfold f_X9_formula_L420
    simp only
    rw [show f_X9_isWell (-1) = some 1 by decide, Option.bind_some, if_neg one_ne, if_neg (nI_nle (by omega) (by omega)), f_join h1 h2, Option.bind_some]) (fun sets => by
    unfold f_X9_formula_L420
    simp only
    rw [show f_X9_isWell (-1) = some 1 by decide, Option.bind_some, if_neg one_ne, if_pos (show nI 0 ≤ (0 : Int32) by decide)])

/-! sums of whole numbers, and fewer equations than unknowns -/
def sg (f : Nat → Int) : Nat → Int
  | 0 => 0
  | n + 1 => sg f n + f n
theorem sg_cong {f g : Nat → Int} : ∀ {n : Nat}, (∀ k, k < n → f k = g k) → sg f n = sg g n
  | 0, _ => rfl
  | n + 1, h => by rw [sg, sg, sg_cong (fun k hk => h k (by omega)), h n (by omega)]
theorem sg_add (f g : Nat → Int) : ∀ n, sg (fun k => f k + g k) n = sg f n + sg g n
  | 0 => rfl
  | n + 1 => by rw [sg, sg, sg, sg_add f g n]; omega
theorem sg_mul (c : Int) (f : Nat → Int) : ∀ n, sg (fun k => c * f k) n = c * sg f n
  | 0 => by simp [sg]
  | n + 1 => by rw [sg, sg, sg_mul c f n, Int.mul_add]
theorem sg_zero {f : Nat → Int} {n : Nat} (h : ∀ k, k < n → f k = 0) : sg f n = 0 := by
  rw [sg_cong (g := fun _ => 0) h]
  induction n with
  | zero => rfl
  | succ n ih => rw [sg, ih (fun k hk => h k (by omega))]; rfl
def skp (p j : Nat) : Nat := if j < p then j else j + 1
theorem sg_skip (f : Nat → Int) (p : Nat) : ∀ n, p ≤ n → sg f (n + 1) = f p + sg (fun j => f (skp p j)) n := by
  intro n
  induction n with
  | zero =>
    intro h
    have : p = 0 := by omega
    subst this
    simp [sg]
  | succ n ih =>
    intro h
    by_cases hp : p = n + 1
    · subst hp
      have e : sg (fun j => f (skp (n + 1) j)) (n + 1) = sg f (n + 1) := sg_cong (fun k hk => by simp [skp, hk])
      rw [e, sg]
      omega
    · have ih' := ih (by omega)
      rw [sg, ih', sg]
      have e : skp p n = n + 1 := by simp [skp]; omega
      rw [e]
      omega
theorem hom_sol : ∀ (m n : Nat) (A : Nat → Nat → Int), m < n → ∃ x : Nat → Int, (∃ j, j < n ∧ x j ≠ 0) ∧ ∀ i, i < m → sg (fun j => A i j * x j) n = 0 := by
  intro m
  induction m with
  | zero =>
    intro n A h
    exact ⟨fun _ => 1, ⟨0, h, by decide⟩, fun i hi => absurd hi (Nat.not_lt_zero i)⟩
  | succ m ih =>
    intro n A h
    by_cases hz : ∀ j, j < n → A m j = 0
    · obtain ⟨x, hx, hs⟩ := ih n A (by omega)
      refine ⟨x, hx, fun i hi => ?_⟩
      by_cases him : i = m
      · subst him
        exact sg_zero (fun k hk => by rw [hz k hk, Int.zero_mul])
      · exact hs i (by omega)
    · obtain ⟨p, hp, ha⟩ : ∃ p, p < n ∧ A m p ≠ 0 := by
        refine Classical.byContradiction fun hc => hz fun j hj => Classical.byContradiction fun hne => hc ⟨j, hj, hne⟩
      obtain ⟨n', rfl⟩ : ∃ n', n = n' + 1 := ⟨n - 1, by omega⟩
      obtain ⟨y, ⟨j, hj, hy⟩, hs⟩ := ih n' (fun i j => A m p * A i (skp p j) - A i p * A m (skp p j)) (by omega)
      have skl : ∀ j, j < n' → skp p j < n' + 1 := fun j hj => by unfold skp; split <;> omega
      have skn : ∀ j, skp p j ≠ p := fun j => by unfold skp; split <;> omega
      -- the unknown at skp p j is a * y j, the one at p is what is left
      let T : Int := sg (fun j => A m (skp p j) * y j) n'
      let x : Nat → Int := fun k => if k = p then -T else A m p * y (if k < p then k else k - 1)
      have xs : ∀ j, x (skp p j) = A m p * y j := by
        intro j
        simp only [x, if_neg (skn j)]
        congr 2
        unfold skp
        by_cases hq : j < p
        · simp [hq]
        · rw [if_neg hq, if_neg (by omega)]; omega
      have xp : x p = -T := by simp [x]
      have row : ∀ i, sg (fun k => A i k * x k) (n' + 1) = A i p * -T + A m p * sg (fun j => A i (skp p j) * y j) n' := by
        intro i
        rw [sg_skip _ p n' (by omega), xp, ← sg_mul]
        congr 1
        exact sg_cong (fun k _ => by rw [xs k]; grind)
      refine ⟨x, ⟨skp p j, skl j hj, ?_⟩, fun i hi => ?_⟩
      · rw [xs j]
        exact Int.mul_ne_zero ha hy
      · rw [row i]
        by_cases him : i = m
        · subst him
          show A i p * -T + A i p * T = 0
          grind
        · have h1 := hs i (by omega)
          have e : sg (fun j => (A m p * A i (skp p j) - A i p * A m (skp p j)) * y j) n' = A m p * sg (fun j => A i (skp p j) * y j) n' + -(A i p) * T := by
            rw [← sg_mul, ← sg_mul, ← sg_add]
            exact sg_cong (fun k _ => by grind)
          rw [e] at h1
          grind
/-- a loop's function: an invariant and a measure -/
theorem lp_total {σ ρ : Type} (f : σ → Option (ρ ⊕ σ)) (I : σ → Prop) (μ : σ → Nat) (Q : ρ → Prop) (hs : ∀ s, I s → (∃ r, f s = some (.inl r) ∧ Q r) ∨ (∃ s', f s = some (.inr s') ∧ I s' ∧ μ s' < μ s)) : ∀ (K : Nat) (s : σ), I s → μ s < K → ∃ r, lp f K s = some r ∧ Q r := by
  intro K
  induction K with
  | zero => intro s _ h; omega
  | succ K ih =>
    intro s hI hK
    rw [lp]
    rcases hs s hI with ⟨r, h1, h2⟩ | ⟨s', h1, h2, h3⟩
    · rw [h1]; exact ⟨r, rfl, h2⟩
    · rw [h1]; exact ih s' h2 (by omega)

/-! the elimination, step by step -/
def dk (A : Nat → Nat → Int) (k : Nat) : Int :=
  match k with
  | 0 => 1
  | 1 => A 0 0
  | 2 => d2 A 0 1 0 1
  | 3 => d3 A 0 1 2 0 1 2
  | 4 => d4 A 0 1 2 3 0 1 2 3
  | _ => d5 A 0 1 2 3 4 0 1 2 3 4
theorem dk_succ (A : Nat → Nat → Int) {k : Nat} (hk : k < 5) : dk A (k + 1) = bar A k k k := by
  rcases (show k = 0 ∨ k = 1 ∨ k = 2 ∨ k = 3 ∨ k = 4 by omega) with rfl | rfl | rfl | rfl | rfl <;> rfl
theorem bar_piv (A : Nat → Nat → Int) {k : Nat} (hk : k < 5) (j : Nat) : bar A (k + 1) k j = bar A k k j := by
  rcases (show k = 0 ∨ k = 1 ∨ k = 2 ∨ k = 3 ∨ k = 4 by omega) with rfl | rfl | rfl | rfl | rfl <;> rfl
theorem bar_step (A : Nat → Nat → Int) {k i : Nat} (hk : k < 5) (hi : i < 5) (hne : i ≠ k) (j : Nat) : dk A k * bar A (k + 1) i j = bar A k k k * bar A k i j - bar A k i k * bar A k k j := by
  rcases (show k = 0 ∨ k = 1 ∨ k = 2 ∨ k = 3 ∨ k = 4 by omega) with rfl | rfl | rfl | rfl | rfl
  · rcases (show i = 1 ∨ i = 2 ∨ i = 3 ∨ i = 4 by omega) with rfl | rfl | rfl | rfl
    · exact syl0 A 1 j
    · exact syl0 A 2 j
    · exact syl0 A 3 j
    · exact syl0 A 4 j
  · rcases (show i = 0 ∨ i = 2 ∨ i = 3 ∨ i = 4 by omega) with rfl | rfl | rfl | rfl
    · exact crm1_0 A j
    · exact syl1 A 2 j
    · exact syl1 A 3 j
    · exact syl1 A 4 j
  · rcases (show i = 0 ∨ i = 1 ∨ i = 3 ∨ i = 4 by omega) with rfl | rfl | rfl | rfl
    · exact crm2_0 A j
    · exact crm2_1 A j
    · exact syl2 A 3 j
    · exact syl2 A 4 j
  · rcases (show i = 0 ∨ i = 1 ∨ i = 2 ∨ i = 4 by omega) with rfl | rfl | rfl | rfl
    · exact crm3_0 A j
    · exact crm3_1 A j
    · exact crm3_2 A j
    · exact syl3 A 4 j
  · rcases (show i = 0 ∨ i = 1 ∨ i = 2 ∨ i = 3 by omega) with rfl | rfl | rfl | rfl
    · exact crm4_0 A j
    · exact crm4_1 A j
    · exact crm4_2 A j
    · exact crm4_3 A j
theorem bar_perm (A : Nat → Nat → Int) (σ : Nat → Nat) {k : Nat} (hk : k ≤ 4) (hf : ∀ r, r < k → σ r = r) (hσ : ∀ i, k ≤ i → k ≤ σ i) (i j : Nat) : bar (fun r c => A (σ r) c) k i j = bar A k (σ i) j := by
  by_cases hik : i < k
  · rw [hf i hik]
    rcases (show k = 1 ∨ k = 2 ∨ k = 3 ∨ k = 4 by omega) with rfl | rfl | rfl | rfl
    · have s0 := hf 0 (by omega)
      simp only [bar, if_pos hik]; rw [s0]
    · have s0 := hf 0 (by omega)
      have s1 := hf 1 (by omega)
      rcases (show i = 0 ∨ i = 1 by omega) with rfl | rfl <;> simp [bar, d2, s0, s1]
    · have s0 := hf 0 (by omega)
      have s1 := hf 1 (by omega)
      have s2 := hf 2 (by omega)
      rcases (show i = 0 ∨ i = 1 ∨ i = 2 by omega) with rfl | rfl | rfl <;> simp [bar, d3, d2, s0, s1, s2]
    · have s0 := hf 0 (by omega)
      have s1 := hf 1 (by omega)
      have s2 := hf 2 (by omega)
      have s3 := hf 3 (by omega)
      rcases (show i = 0 ∨ i = 1 ∨ i = 2 ∨ i = 3 by omega) with rfl | rfl | rfl | rfl <;> simp [bar, d4, d3, d2, s0, s1, s2, s3]
  · have hs := hσ i (by omega)
    rcases (show k = 0 ∨ k = 1 ∨ k = 2 ∨ k = 3 ∨ k = 4 by omega) with rfl | rfl | rfl | rfl | rfl
    · rfl
    · have s0 := hf 0 (by omega)
      simp only [bar, if_neg hik, if_neg (show ¬ σ i < 1 by omega), d2, s0]
    · have s0 := hf 0 (by omega)
      have s1 := hf 1 (by omega)
      simp only [bar, if_neg hik, if_neg (show ¬ σ i < 2 by omega), d3, d2, s0, s1]
    · have s0 := hf 0 (by omega)
      have s1 := hf 1 (by omega)
      have s2 := hf 2 (by omega)
      simp only [bar, if_neg hik, if_neg (show ¬ σ i < 3 by omega), d4, d3, d2, s0, s1, s2]
    · have s0 := hf 0 (by omega)
      have s1 := hf 1 (by omega)
      have s2 := hf 2 (by omega)
      have s3 := hf 3 (by omega)
      simp only [bar, if_neg hik, if_neg (show ¬ σ i < 4 by omega), d5, d4, d3, d2, s0, s1, s2, s3]
theorem dk_perm (A : Nat → Nat → Int) (σ : Nat → Nat) {k : Nat} (hk : k ≤ 4) (hf : ∀ r, r < k → σ r = r) : dk (fun r c => A (σ r) c) k = dk A k := by
  rcases (show k = 0 ∨ k = 1 ∨ k = 2 ∨ k = 3 ∨ k = 4 by omega) with rfl | rfl | rfl | rfl | rfl
  · rfl
  · simp only [dk, hf 0 (by omega)]
  · simp only [dk, d2, hf 0 (by omega), hf 1 (by omega)]
  · simp only [dk, d3, d2, hf 0 (by omega), hf 1 (by omega), hf 2 (by omega)]
  · simp only [dk, d4, d3, d2, hf 0 (by omega), hf 1 (by omega), hf 2 (by omega), hf 3 (by omega)]
/-- columns that are done -/
theorem bar_cols {A : Nat → Nat → Int} : ∀ {k : Nat}, k ≤ 5 → (∀ m, m ≤ k → dk A m ≠ 0) → ∀ i j, i < 5 → j < k → bar A k i j = if i = j then dk A k else 0
  | 0, _, _, i, j, _, hj => absurd hj (Nat.not_lt_zero j)
  | k + 1, hk, hd, i, j, hi, hj => by
    have ih := bar_cols (A := A) (k := k) (by omega) (fun m hm => hd m (by omega))
    have h0 := hd k (by omega)
    by_cases hik : i = k
    · subst hik
      rw [bar_piv A (by omega) j]
      by_cases e : j = i
      · subst e; rw [if_pos rfl, dk_succ A (by omega)]
      · rw [ih i j (by omega) (by omega), if_neg (by omega), if_neg (by omega)]
    · have hs := bar_step A (k := k) (i := i) (by omega) hi hik j
      by_cases e : j = k
      · subst e
        have : dk A j * bar A (j + 1) i j = 0 := by rw [hs]; grind
        rw [if_neg hik]
        rcases Int.mul_eq_zero.mp this with h | h
        · exact absurd h h0
        · exact h
      · rw [ih k j (by omega) (by omega), if_neg (by omega), ih i j hi (by omega)] at hs
        by_cases eij : i = j
        · subst eij
          rw [if_pos rfl] at hs ⊢
          rw [dk_succ A (by omega)]
          have : dk A k * (bar A (k + 1) i i - bar A k k k) = 0 := by grind
          rcases Int.mul_eq_zero.mp this with h | h
          · exact absurd h h0
          · omega
        · rw [if_neg eij] at hs ⊢
          have : dk A k * bar A (k + 1) i j = 0 := by rw [hs]; simp
          rcases Int.mul_eq_zero.mp this with h | h
          · exact absurd h h0
          · exact h
/-- the same solutions -/
theorem bar_ker {A : Nat → Nat → Int} {s : Nat} (hs : s ≤ 5) (z : Nat → Int) : ∀ {k : Nat}, k ≤ s → (∀ m, m ≤ k → dk A m ≠ 0) → ((∀ i, i < s → sg (fun j => A i j * z j) (s + 1) = 0) ↔ ∀ i, i < s → sg (fun j => bar A k i j * z j) (s + 1) = 0)
  | 0, _, _ => Iff.rfl
  | k + 1, hk, hd => by
    rw [bar_ker hs z (k := k) (by omega) (fun m hm => hd m (by omega))]
    have h0 := hd k (by omega)
    have h1 := hd (k + 1) (by omega)
    rw [dk_succ A (by omega)] at h1
    have row : ∀ i, i < s → i ≠ k → dk A k * sg (fun j => bar A (k + 1) i j * z j) (s + 1) = bar A k k k * sg (fun j => bar A k i j * z j) (s + 1) + -bar A k i k * sg (fun j => bar A k k j * z j) (s + 1) := fun i hi hne => by
      rw [← sg_mul, ← sg_mul, ← sg_mul, ← sg_add]
      refine sg_cong fun j _ => ?_
      have := bar_step A (k := k) (i := i) (by omega) (by omega) hne j
      grind
    have rowk : sg (fun j => bar A (k + 1) k j * z j) (s + 1) = sg (fun j => bar A k k j * z j) (s + 1) := sg_cong fun j _ => by rw [bar_piv A (by omega) j]
    constructor
    · intro h i hi
      by_cases e : i = k
      · subst e; rw [rowk]; exact h i hi
      · have := row i hi e
        rw [h i hi, h k (by omega)] at this
        rcases Int.mul_eq_zero.mp (show dk A k * sg (fun j => bar A (k + 1) i j * z j) (s + 1) = 0 by rw [this]; simp) with h2 | h2
        · exact absurd h2 h0
        · exact h2
    · intro h i hi
      have hkk : sg (fun j => bar A k k j * z j) (s + 1) = 0 := by rw [← rowk]; exact h k (by omega)
      by_cases e : i = k
      · subst e; exact hkk
      · have := row i hi e
        rw [h i hi, hkk] at this
        rcases Int.mul_eq_zero.mp (show bar A k k k * sg (fun j => bar A k i j * z j) (s + 1) = 0 by omega) with h2 | h2
        · exact absurd h2 h1
        · exact h2
theorem RB_100 {x : Nat → Int} {h : Int} (hx : RB x h) (hh : h ≤ 100) : RB x 100 := by
  obtain ⟨e, f, p, q, he, hf, hs, r⟩ := hx
  exact ⟨e, f, p, q, he, hf, by omega, r⟩
theorem wthn_mono {A B v : Int} (h : wthn A v) (hAB : A ≤ B) : wthn B v := by unfold wthn at *; omega
def rows5 (A : Nat → Nat → Int) (s : Nat) : Prop := ∃ o, o < s ∧ ∀ r, r < s → RB (A r) (if r = o then 1 else 100)
theorem five_bound {A : Nat → Nat → Int} (h : rows5 A 5) (c0 c1 c2 c3 c4 : Nat) : wthn 2000000000 (d5 A 0 1 2 3 4 c0 c1 c2 c3 c4) := by
  obtain ⟨o, ho, h⟩ := h
  have k0 := h 0 (by omega)
  have k1 := h 1 (by omega)
  have k2 := h 2 (by omega)
  have k3 := h 3 (by omega)
  have k4 := h 4 (by omega)
  rcases (show o = 0 ∨ o = 1 ∨ o = 2 ∨ o = 3 ∨ o = 4 by omega) with rfl | rfl | rfl | rfl | rfl <;> exact wthn_mono (d5_bound k0 k1 k2 k3 k4 c0 c1 c2 c3 c4) (by decide)
theorem bar_bound {A : Nat → Nat → Int} {s : Nat} (hs : s ≤ 5) (h : rows5 A s) {k i : Nat} (hk : k ≤ s) (hi : i < s) (j : Nat) : wthn 2000000000 (bar A k i j) := by
  have R : ∀ r, r < s → RB (A r) 100 := by
    obtain ⟨o, ho, h⟩ := h
    intro r hr
    have := h r hr
    by_cases e : r = o
    · rw [if_pos e] at this; exact RB_100 this (by decide)
    · rw [if_neg e] at this; exact this
  have b1 : ∀ r, r < s → ∀ c, wthn 2000000000 (A r c) := fun r hr c => wthn_mono ((RB_h (R r hr)).2 c) (by decide)
  have b2 : ∀ r0 r1, r0 < s → r1 < s → ∀ c0 c1, wthn 2000000000 (d2 A r0 r1 c0 c1) := fun r0 r1 h0 h1 c0 c1 => wthn_mono (r2_bound (R r0 h0) (R r1 h1) c0 c1) (by decide)
  have b3 : ∀ r0 r1 r2, r0 < s → r1 < s → r2 < s → ∀ c0 c1 c2, wthn 2000000000 (d3 A r0 r1 r2 c0 c1 c2) := fun r0 r1 r2 h0 h1 h2 c0 c1 c2 => wthn_mono (r3_bound (R r0 h0) (R r1 h1) (R r2 h2) c0 c1 c2) (by decide)
  have b4 : ∀ r0 r1 r2 r3, r0 < s → r1 < s → r2 < s → r3 < s → ∀ c0 c1 c2 c3, wthn 2000000000 (d4 A r0 r1 r2 r3 c0 c1 c2 c3) := fun r0 r1 r2 r3 h0 h1 h2 h3 c0 c1 c2 c3 => wthn_mono (r4_bound (R r0 h0) (R r1 h1) (R r2 h2) (R r3 h3) c0 c1 c2 c3) (by decide)
  rcases (show k = 0 ∨ k = 1 ∨ k = 2 ∨ k = 3 ∨ k = 4 ∨ k = 5 by omega) with rfl | rfl | rfl | rfl | rfl | rfl
  · exact b1 i hi j
  · simp only [bar]
    split
    · exact b1 0 (by omega) j
    · exact b2 0 i (by omega) hi 0 j
  · simp only [bar]
    split
    · split <;> exact b2 0 1 (by omega) (by omega) _ _
    · exact b3 0 1 i (by omega) (by omega) hi 0 1 j
  · simp only [bar]
    split
    · split <;> exact b3 0 1 2 (by omega) (by omega) (by omega) _ _ _
    · exact b4 0 1 2 i (by omega) (by omega) (by omega) hi 0 1 2 j
  · simp only [bar]
    split
    · split <;> exact b4 0 1 2 3 (by omega) (by omega) (by omega) (by omega) _ _ _ _
    · have hs5 : s = 5 := by omega
      have hi4 : i = 4 := by omega
      subst hs5 hi4
      exact five_bound h _ _ _ _ _
  · have hs5 : s = 5 := by omega
    subst hs5
    simp only [bar]
    split <;> exact five_bound h _ _ _ _ _
def lim5 (s : Nat) : Int :=
  match s with
  | 0 => 1
  | 1 => 1
  | 2 => 100
  | 3 => 20000
  | 4 => 4000000
  | _ => 2000000000
theorem dk_bound {A : Nat → Nat → Int} {s : Nat} (hs : s ≤ 5) (hs0 : 0 < s) (h : rows5 A s) : wthn (lim5 s) (dk A s) := by
  obtain ⟨o, ho, h'⟩ := h
  rcases (show s = 1 ∨ s = 2 ∨ s = 3 ∨ s = 4 ∨ s = 5 by omega) with rfl | rfl | rfl | rfl | rfl
  · have k0 := h' 0 (by omega)
    rcases (show o = 0 by omega) with rfl
    exact (RB_h k0).2 0
  · have k0 := h' 0 (by omega)
    have k1 := h' 1 (by omega)
    rcases (show o = 0 ∨ o = 1 by omega) with rfl | rfl <;> exact wthn_mono (r2_bound k0 k1 0 1) (by decide)
  · have k0 := h' 0 (by omega)
    have k1 := h' 1 (by omega)
    have k2 := h' 2 (by omega)
    rcases (show o = 0 ∨ o = 1 ∨ o = 2 by omega) with rfl | rfl | rfl <;> exact wthn_mono (r3_bound k0 k1 k2 0 1 2) (by decide)
  · have k0 := h' 0 (by omega)
    have k1 := h' 1 (by omega)
    have k2 := h' 2 (by omega)
    have k3 := h' 3 (by omega)
    rcases (show o = 0 ∨ o = 1 ∨ o = 2 ∨ o = 3 by omega) with rfl | rfl | rfl | rfl <;> exact wthn_mono (r4_bound k0 k1 k2 k3 0 1 2 3) (by decide)
  · exact five_bound ⟨o, ho, h'⟩ _ _ _ _ _
/-- a column without a pivot: a solution that is not 0 -/
theorem no_pivot {A : Nat → Nat → Int} {s k : Nat} (hs : s ≤ 5) (hk : k < s) (hd : ∀ m, m ≤ k → dk A m ≠ 0) (h0 : ∀ i, k ≤ i → i < s → bar A k i k = 0) : ∃ z : Nat → Int, z k ≠ 0 ∧ (∀ j, k < j → z j = 0) ∧ ∀ i, i < s → sg (fun j => A i j * z j) (s + 1) = 0 := by
  refine ⟨fun j => if j < k then -bar A k j k else if j = k then dk A k else 0, ?_, fun j hj => ?_, ?_⟩
  · simp only [if_neg (Nat.lt_irrefl k), if_true]
    exact hd k (Nat.le_refl k)
  · simp only [if_neg (show ¬ j < k by omega), if_neg (show ¬ j = k by omega)]
  · refine (bar_ker hs _ (Nat.le_of_lt hk) hd).mpr fun i hi => ?_
    have part : ∀ n, k < n → sg (fun j => bar A k i j * (if j < k then -bar A k j k else if j = k then dk A k else 0)) n = sg (fun j => bar A k i j * -bar A k j k) k + bar A k i k * dk A k := by
      intro n
      induction n with
      | zero => intro h; omega
      | succ n ih =>
        intro hn
        rw [sg]
        by_cases e : n = k
        · subst e
          rw [if_neg (Nat.lt_irrefl n), if_pos rfl]
          congr 1
          exact sg_cong fun j hj => by rw [if_pos hj]
        · rw [ih (by omega), if_neg (by omega), if_neg e]; omega
    rw [part (s + 1) (by omega)]
    have cols := fun j (hj : j < k) => bar_cols (A := A) (k := k) (by omega) hd i j (by omega) hj
    by_cases hik : i < k
    · have e : sg (fun j => bar A k i j * -bar A k j k) k = sg (fun j => (if j = i then 1 else 0) * (dk A k * -bar A k j k)) k := sg_cong fun j hj => by
        rw [cols j hj]
        by_cases e : j = i
        · rw [if_pos e.symm, if_pos e]; omega
        · rw [if_neg (fun h => e h.symm), if_neg e]; simp
      rw [e, sg_one _ i k, if_pos hik]; grind
    · have e : sg (fun j => bar A k i j * -bar A k j k) k = 0 := sg_zero fun j hj => by
        rw [cols j hj, if_neg (by omega)]; simp
      rw [e, h0 i (by omega) hi]; simp
/-- all columns done: the solution -/
theorem done_sol {A : Nat → Nat → Int} {s : Nat} (hs : s ≤ 5) (hs0 : 0 < s) (hd : ∀ m, m ≤ s → dk A m ≠ 0) : ∀ i, i < s → sg (fun j => A i j * bar A s j s) s = A i s * dk A s := by
  have := (bar_ker hs (fun j => if j < s then bar A s j s else -dk A s) (Nat.le_refl s) hd).mpr (fun i hi => by
    rw [sg, if_neg (Nat.lt_irrefl s)]
    have e : sg (fun j => bar A s i j * (if j < s then bar A s j s else -dk A s)) s = sg (fun j => (if j = i then 1 else 0) * (dk A s * bar A s j s)) s := sg_cong fun j hj => by
      rw [bar_cols (A := A) (k := s) hs hd i j (by omega) hj, if_pos hj]
      by_cases e : j = i
      · rw [if_pos e.symm, if_pos e]; omega
      · rw [if_neg (fun h => e h.symm), if_neg e]; simp
    rw [e, sg_one _ i s, if_pos hi]; grind)
  intro i hi
  have h1 := this i hi
  rw [sg, if_neg (Nat.lt_irrefl s)] at h1
  rw [sg_cong (g := fun j => A i j * (if j < s then bar A s j s else -dk A s)) (fun j hj => by rw [if_pos hj])]
  have e : A i s * -dk A s = -(A i s * dk A s) := by grind
  omega

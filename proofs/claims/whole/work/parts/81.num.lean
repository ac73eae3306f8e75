/-! loops by invariants, bits of sets -/
theorem lp_loop {σ ρ : Type} {f : σ → Option (ρ ⊕ σ)} (I : Nat → σ → Prop) (n : Nat) (Q : ρ → Prop) (h : ∀ i s, I i s → (∃ r, f s = some (.inl r) ∧ Q r) ∨ (i < n ∧ ∃ s', f s = some (.inr s') ∧ I (i + 1) s')) : ∀ (K i : Nat) (s : σ), I i s → n - i < K → ∃ r, lp f K s = some r ∧ Q r := by
  intro K
  induction K with
  | zero => intro i s _ h; omega
  | succ K ih =>
    intro i s hI hK
    rw [lp]
    rcases h i s hI with ⟨r, h1, h2⟩ | ⟨hi, s', h1, h2⟩
    · rw [h1]; exact ⟨r, rfl, h2⟩
    · rw [h1]; exact ih (i + 1) s' h2 (by omega)
/-- a loop whose states are known -/
theorem lp_run {σ ρ : Type} {f : σ → Option (ρ ⊕ σ)} (S : Nat → σ) {n : Nat} {r : ρ} (h : ∀ i, i < n → f (S i) = some (.inr (S (i + 1)))) (he : f (S n) = some (.inl r)) {K : Nat} (hK : n < K) : lp f K (S 0) = some r := by
  obtain ⟨r', h1, h2⟩ := lp_loop (f := f) (fun i s => i ≤ n ∧ s = S i) n (fun r' => r' = r) (fun i s hI => by
    obtain ⟨hi, rfl⟩ := hI
    by_cases e : i = n
    · subst e; exact Or.inl ⟨r, he, rfl⟩
    · exact Or.inr ⟨by omega, S (i + 1), h i (by omega), by omega, rfl⟩) K 0 (S 0) ⟨Nat.zero_le n, rfl⟩ (by omega)
  rw [h1, h2]
theorem nI_mul (a b : Nat) : nI a * nI b = nI (a * b) := by
  unfold nI
  exact (Int32.ofNat_mul a b).symm
def hb (v : Int32) (w : Nat) : Bool := v.toBitVec.getLsbD w
theorem sh_amt : ∀ w, w < 8 → ((nI w &&& 31).toBitVec.smod 32).toNat = w := by decide +kernel
theorem hb_shr (v : Int32) {w : Nat} (hw : w < 8) : ((v >>> (nI w &&& 31)) &&& (1 : Int32)) = if hb v w then 1 else 0 := by
  apply Int32.toBitVec_inj.mp
  have e1 : (v >>> (nI w &&& 31)).toBitVec = v.toBitVec.sshiftRight w := by
    show v.toBitVec.sshiftRight ((nI w &&& 31).toBitVec.smod 32).toNat = _
    rw [sh_amt w hw]
  rw [Int32.toBitVec_and, e1]
  unfold hb
  apply BitVec.eq_of_getLsbD_eq
  intro i hi
  rw [BitVec.getLsbD_and, BitVec.getLsbD_sshiftRight]
  have one : ∀ i, i < 32 → (1 : Int32).toBitVec.getLsbD i = decide (i = 0) := by decide
  rw [one i hi]
  by_cases h0 : i = 0
  · subst h0
    cases hb : v.toBitVec.getLsbD w
    · simp [hb]; omega
    · simp [hb, show ¬ 32 ≤ w by omega]; omega
  · cases hb : v.toBitVec.getLsbD w
    · simp [h0]
    · simp [h0]
theorem hb_and (a b : Int32) (w : Nat) : hb (a &&& b) w = (hb a w && hb b w) := by
  unfold hb; rw [Int32.toBitVec_and, BitVec.getLsbD_and]
theorem f_has (v : Int32) {w : Nat} (hw : w < 8) : f_X8_has v (nI w) = some (if hb v w then 1 else 0) := by
  unfold f_X8_has
  rw [hb_shr v hw]
  cases hb v w <;> simp
theorem q64_add {x y : Int64} (h : wthn 9223372036854775807 (x.toInt + y.toInt)) : (x + y).toInt = x.toInt + y.toInt := by
  unfold wthn at h; rw [Int64.toInt_add, Int.bmod_def]; omega
theorem q64_sub {x y : Int64} (h : wthn 9223372036854775807 (x.toInt - y.toInt)) : (x - y).toInt = x.toInt - y.toInt := by
  unfold wthn at h; rw [Int64.toInt_sub, Int.bmod_def]; omega
theorem q64_mul {x y : Int64} (h : wthn 9223372036854775807 (x.toInt * y.toInt)) : (x * y).toInt = x.toInt * y.toInt := by
  unfold wthn at h; rw [Int64.toInt_mul, Int.bmod_def]; omega
theorem q64_neg {x : Int64} (h : wthn 9223372036854775807 x.toInt) : (-x).toInt = -x.toInt := by
  unfold wthn at h; rw [Int64.toInt_neg, Int.bmod_def]; omega
theorem q32_add {x y : Int32} (h : wthn 2147483647 (x.toInt + y.toInt)) : (x + y).toInt = x.toInt + y.toInt := by
  unfold wthn at h; rw [Int32.toInt_add, Int.bmod_def]; omega
theorem q32_sub {x y : Int32} (h : wthn 2147483647 (x.toInt - y.toInt)) : (x - y).toInt = x.toInt - y.toInt := by
  unfold wthn at h; rw [Int32.toInt_sub, Int.bmod_def]; omega
theorem q32_mul {x y : Int32} (h : wthn 2147483647 (x.toInt * y.toInt)) : (x * y).toInt = x.toInt * y.toInt := by
  unfold wthn at h; rw [Int32.toInt_mul, Int.bmod_def]; omega
theorem q32_neg {x : Int32} (h : wthn 2147483647 x.toInt) : (-x).toInt = -x.toInt := by
  unfold wthn at h; rw [Int32.toInt_neg, Int.bmod_def]; omega

theorem least_ex (P : Nat → Prop) : ∀ n : Nat, (∃ k, k < n ∧ P k) → ∃ k, k < n ∧ P k ∧ ∀ j, j < k → ¬ P j := by
  intro n
  induction n with
  | zero => rintro ⟨k, hk, -⟩; omega
  | succ n ih =>
    rintro ⟨k, hk, hP⟩
    by_cases h : ∃ k, k < n ∧ P k
    · obtain ⟨k', h1, h2, h3⟩ := ih h
      exact ⟨k', by omega, h2, h3⟩
    · have hkn : k = n := Classical.byContradiction fun hne => h ⟨k, by omega, hP⟩
      exact ⟨k, hk, hP, fun j hj hPj => h ⟨j, by omega, hPj⟩⟩
def lexp (d : Nat → Int) : Prop := ∃ w, w < 8 ∧ (∀ v, v < w → d v = 0) ∧ 0 < d w
theorem lexp_ord : ordr lexp := by
  refine ⟨?_, ?_, ?_, ?_, ?_⟩
  · rintro d k hk ⟨w, hw, h1, h2⟩
    exact ⟨w, hw, fun v hv => by dsimp only; rw [h1 v hv, Int.mul_zero], Int.mul_pos hk h2⟩
  · rintro d e ⟨w, hw, h1, h2⟩ ⟨w', hw', h1', h2'⟩
    rcases Nat.lt_trichotomy w w' with h | h | h
    · exact ⟨w, hw, fun v hv => by dsimp only; rw [h1 v hv, h1' v (by omega)]; rfl, by dsimp only; rw [h1' w h]; omega⟩
    · subst h
      exact ⟨w, hw, fun v hv => by dsimp only; rw [h1 v hv, h1' v hv]; rfl, by dsimp only; omega⟩
    · exact ⟨w', hw', fun v hv => by dsimp only; rw [h1 v (by omega), h1' v hv]; rfl, by dsimp only; rw [h1 w' h]; omega⟩
  · intro d hz
    obtain ⟨w, hw, h1, h2⟩ := least_ex (fun w => d w ≠ 0) 8 hz
    have h3 : ∀ v, v < w → d v = 0 := fun v hv => Classical.byContradiction fun h => h2 v hv h
    rcases Int.lt_or_gt_of_ne h1 with h | h
    · exact Or.inr ⟨w, hw, fun v hv => by dsimp only; rw [h3 v hv]; rfl, by dsimp only; omega⟩
    · exact Or.inl ⟨w, hw, h3, h⟩
  · rintro d ⟨w, hw, h1, h2⟩ ⟨w', hw', h1', h2'⟩
    rcases Nat.lt_trichotomy w w' with h | h | h
    · have := h1' w h; dsimp only at this; omega
    · subst h; dsimp only at h2'; omega
    · have := h1 w' h; dsimp only at h2'; omega
  · rintro d e hde ⟨w, hw, h1, h2⟩
    exact ⟨w, hw, fun v hv => by rw [← hde v (by omega)]; exact h1 v hv, by rw [← hde w hw]; exact h2⟩
theorem ordr_neg {pos : (Nat → Int) → Prop} (ho : ordr pos) : ordr (fun d => pos (fun w => -1 * d w)) := by
  refine ⟨fun d k hk h => ho.2.2.2.2 _ _ (fun w _ => by grind) (ho.1 _ k hk h), fun d e h1 h2 => ho.2.2.2.2 _ _ (fun w _ => by grind) (ho.2.1 _ _ h1 h2), fun d hz => ?_, fun d h1 h2 => ?_, fun d e hde h => ho.2.2.2.2 _ _ (fun w hw => by rw [hde w hw]) h⟩
  · rcases ho.2.2.1 d hz with h | h
    · exact Or.inr (ho.2.2.2.2 _ _ (fun w _ => by grind) h)
    · exact Or.inl h
  · exact ho.2.2.2.1 _ (ho.2.2.2.2 _ _ (fun w _ => by grind) h2) h1
theorem ct_cd_split {S T B : Nat → Bool} : ∀ {n : Nat}, (∀ k, k < n → (S k = true ∧ T k = false ∧ B k = true) ∨ (S k = false ∧ T k = true ∧ B k = true) ∨ (S k = false ∧ T k = false ∧ B k = false)) → ct_cd S n + ct_cd T n = ct_cd B n
  | 0, _ => rfl
  | n + 1, h => by
    have ih := ct_cd_split (S := S) (T := T) (B := B) (n := n) (fun k hk => h k (by omega))
    rw [ct_cd, ct_cd, ct_cd]
    rcases h n (by omega) with ⟨h1, h2, h3⟩ | ⟨h1, h2, h3⟩ | ⟨h1, h2, h3⟩
    · rw [h1, h2, h3]; simp; omega
    · rw [h1, h2, h3]; simp; omega
    · rw [h1, h2, h3]; simp; omega
/-- the number of vertices of a simple cone -/
theorem simple_total {a : Nat → Nat → Int} {N : Nat} (ha : coords a N) (hN2 : N ≤ 16) (h7 : ∀ u, vtx a N u → ct_cd (tgt a N u) N = 7) :
    3 * ct_ss N (fun B => if vB a N B = true then 1 else 0) + 120 ≤ (N : Int) * (((N : Int) - 1) * ((N : Int) - 14) + 60) := by
  refine ct_total (dn := dB a N lexp) (up := dB a N (fun d => lexp (fun w => -1 * d w))) ha.1 hN2 (fun B hB => ?_) (fun B _ c hc => (dB_iff.mp hc).1) (fun B _ c hc => (dB_iff.mp hc).1) (fun B hB => ?_) (fun T _ hex => one_least ha lexp_ord h7 T hex) (fun T _ hex => one_least ha (ordr_neg lexp_ord) h7 T hex)
  · obtain ⟨u, hu, rfl⟩ := vB_iff.mp hB
    exact ⟨tgt_sp a N u, h7 u hu⟩
  · obtain ⟨u, hu, rfl⟩ := vB_iff.mp hB
    rw [← h7 u hu]
    have ho := lexp_ord
    refine ct_cd_split fun k hk => ?_
    cases hB : tgt a N u k
    · refine Or.inr (Or.inr ⟨?_, ?_, rfl⟩)
      · refine Bool.eq_false_iff.mpr fun h => ?_
        have := (dB_iff.mp h).1; rw [hB] at this; exact absurd this (by decide)
      · refine Bool.eq_false_iff.mpr fun h => ?_
        have := (dB_iff.mp h).1; rw [hB] at this; exact absurd this (by decide)
    · obtain ⟨d, hd⟩ := edg_ex ha hu (h7 u hu) hB
      have hdz : nz d := nz_of_ev (a := a k) (by have := hd.2.1; omega)
      rcases ho.2.2.1 d hdz with h | h
      · refine Or.inr (Or.inl ⟨Bool.eq_false_iff.mpr fun hc => ?_, dB_iff.mpr ⟨hB, d, hd, ho.2.2.2.2 _ _ (fun w _ => by grind) h⟩, rfl⟩)
        obtain ⟨-, d', hd', hp⟩ := dB_iff.mp hc
        exact ho.2.2.2.1 d' (edg_pos ha ho hu hd hd' h) hp
      · refine Or.inl ⟨dB_iff.mpr ⟨hB, d, hd, h⟩, Bool.eq_false_iff.mpr fun hc => ?_, rfl⟩
        obtain ⟨-, d', hd', hp⟩ := dB_iff.mp hc
        have hp' : lexp d' := ho.2.2.2.2 _ _ (fun w _ => by grind) hp
        exact ho.2.2.2.1 d (edg_pos ha ho hu hd' hd hp') h

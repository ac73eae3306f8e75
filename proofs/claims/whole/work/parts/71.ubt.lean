def ct_phi : Nat → Int
  | 0 => -20
  | 1 => 10
  | 2 => -4
  | 3 => 1
  | _ => 0
def ct_psi : Nat → Int
  | 1 => 60
  | 2 => -12
  | 3 => 2
  | _ => 0
theorem ct_h_phi : ∀ d, d < 8 → ct_h ct_phi (7 - d) d = if d ≤ 3 then 1 else 0 := by decide
theorem ct_h_psi4 : ∀ u d, 4 ≤ d → ct_h ct_psi u d = 0
  | 0, d, h => by
    rw [ct_h]; unfold ct_psi
    split <;> first | omega | rfl
  | u + 1, d, h => by rw [ct_h, ct_h_psi4 u d h, ct_h_psi4 u (d + 1) (by omega)]; rfl
theorem ct_h_psi3 : ∀ u, ct_h ct_psi u 3 = 2
  | 0 => rfl
  | u + 1 => by rw [ct_h, ct_h_psi3 u, ct_h_psi4 u 4 (by omega)]; rfl
theorem ct_h_psi2 : ∀ u : Nat, ct_h ct_psi u 2 = -12 + 2 * (u : Int)
  | 0 => rfl
  | u + 1 => by rw [ct_h, ct_h_psi2 u, ct_h_psi3 u]; omega
theorem ct_h_psi1 : ∀ u : Nat, ct_h ct_psi u 1 = 60 - 13 * (u : Int) + (u : Int) * (u : Int)
  | 0 => rfl
  | u + 1 => by rw [ct_h, ct_h_psi1 u, ct_h_psi2 u, Int.natCast_add]; grind
/-- T within B -/
def ct_in (T B : Nat → Bool) : Prop := ∀ k, T k = true → B k = true
theorem ct_half {N : Nat} {VB oc : (Nat → Bool) → Bool} {dn : (Nat → Bool) → Nat → Bool} (hB : ∀ B, VB B = true → ct_sp N B ∧ ct_cd B N = 7) (hd : ∀ B, VB B = true → ct_in (dn B) B)
    (ho : ∀ T, oc T = true ↔ ∃ B, VB B = true ∧ ct_in T B)
    (h1 : ∀ T, ct_sp N T → oc T = true → ∃ B, VB B = true ∧ ct_in (dn B) T ∧ ct_in T B ∧ ∀ B', VB B' = true → ct_in (dn B') T → ct_in T B' → B' = B) :
    ct_ss N (fun B => if VB B = true ∧ ct_cd (dn B) N ≤ 3 then 1 else 0) = ct_ss N (fun T => if oc T = true then ct_phi (ct_cd T N) else 0) := by
  have e1 : ct_ss N (fun B => if VB B = true ∧ ct_cd (dn B) N ≤ 3 then 1 else 0) = ct_ss N (fun B => ct_ss N (fun T => if VB B = true then (if ct_ib (dn B) B T N = true then ct_phi (ct_cd T N) else 0) else 0)) := by
    refine ct_ss_cong fun B _ => ?_
    by_cases hv : VB B = true
    · obtain ⟨h2, h3⟩ := ct_itv (dn B) B N ct_phi (fun k _ => hd B hv k)
      have h7 := (hB B hv).2
      rw [h7] at h2 h3
      simp only [hv, if_true, true_and]
      rw [h2, ct_h_phi _ (by omega)]
    · simp only [hv, if_false, false_and]
      exact (ct_ss_zero N).symm
  rw [e1, ct_ss_comm N N (fun B T => if VB B = true then (if ct_ib (dn B) B T N = true then ct_phi (ct_cd T N) else 0) else 0)]
  refine ct_ss_cong fun T hT => ?_
  have into : ∀ B, VB B = true → ct_ib (dn B) B T N = true → ct_in (dn B) T ∧ ct_in T B := fun B hv hi => by
    have h2 := ct_ib_iff.mp hi
    have hsp := (hB B hv).1
    refine ⟨fun k hk => ?_, fun k hk => ?_⟩
    · by_cases hkN : k < N
      · exact (h2 k hkN).1 hk
      · have := hd B hv k hk
        rw [hsp k (by omega)] at this
        exact absurd this (by decide)
    · by_cases hkN : k < N
      · exact (h2 k hkN).2 hk
      · rw [hT k (by omega)] at hk
        exact absurd hk (by decide)
  by_cases hoc : oc T = true
  · rw [if_pos hoc]
    obtain ⟨B0, b1, b2, b3, b4⟩ := h1 T hT hoc
    rw [ct_ss_single N B0 _ (hB B0 b1).1 (fun B _ hne => ?_)]
    · rw [if_pos b1, if_pos (ct_ib_iff.mpr fun k _ => ⟨b2 k, b3 k⟩)]
    · by_cases hv : VB B = true
      · rw [if_pos hv]
        refine if_neg fun hi => hne ?_
        have := into B hv hi
        exact b4 B hv this.1 this.2
      · rw [if_neg hv]
  · rw [if_neg hoc]
    refine ct_ss_z fun B _ => ?_
    by_cases hv : VB B = true
    · rw [if_pos hv]
      exact if_neg fun hi => hoc ((ho T).mpr ⟨B, hv, (into B hv hi).2⟩)
    · rw [if_neg hv]
theorem ct_sg_cd (T : Nat → Bool) (c : Int) : ∀ n, sg (fun F => if T F = true then c else 0) n = c * (ct_cd T n : Int)
  | 0 => by simp [sg, ct_cd]
  | n + 1 => by
    rw [sg, ct_sg_cd T c n, ct_cd]
    by_cases h : T n = true
    · rw [if_pos h, if_pos h, Int.natCast_add, Int.mul_add]; simp
    · rw [if_neg h, if_neg h]; simp
theorem ct_cd_le (T : Nat → Bool) : ∀ n, ct_cd T n ≤ n
  | 0 => Nat.le_refl _
  | n + 1 => by
    have := ct_cd_le T n
    rw [ct_cd]; split <;> omega
theorem ct_cd_mono {T S : Nat → Bool} (h : ct_in T S) : ∀ n, ct_cd T n ≤ ct_cd S n
  | 0 => Nat.le_refl _
  | n + 1 => by
    have := ct_cd_mono h n
    rw [ct_cd, ct_cd]
    by_cases h1 : T n = true
    · rw [if_pos h1, if_pos (h n h1)]; omega
    · rw [if_neg h1]; split <;> omega
def ct_on (F : Nat) : Nat → Bool := fun k => decide (k = F)
def ct_pr (F G : Nat) : Nat → Bool := fun k => decide (k = F) || decide (k = G)
theorem ct_cd_on (F : Nat) : ∀ n, ct_cd (ct_on F) n = if F < n then 1 else 0
  | 0 => rfl
  | n + 1 => by
    rw [ct_cd, ct_cd_on F n]; unfold ct_on
    by_cases h : n = F
    · subst h; simp
    · by_cases h2 : F < n
      · simp [h, h2, show F < n + 1 by omega]
      · simp [h, h2, show ¬ F < n + 1 by omega]
theorem ct_two {T : Nat → Bool} {N F : Nat} (hT : ct_sp N T) (h2 : ct_cd T N = 2) (hF : T F = true) : ∃ G, G < N ∧ G ≠ F ∧ T = ct_pr F G := by
  have hFN : F < N := Classical.byContradiction fun h => by rw [hT F (by omega)] at hF; exact absurd hF (by decide)
  have ex : ∃ G, T G = true ∧ G ≠ F := Classical.byContradiction fun hn => by
    have : ct_in T (ct_on F) := fun k hk => by
      unfold ct_on
      exact decide_eq_true (Classical.byContradiction fun h => hn ⟨k, hk, h⟩)
    have := ct_cd_mono this N
    rw [ct_cd_on] at this
    split at this <;> omega
  obtain ⟨G, hG, hne⟩ := ex
  have hGN : G < N := Classical.byContradiction fun h => by rw [hT G (by omega)] at hG; exact absurd hG (by decide)
  refine ⟨G, hGN, hne, funext fun k => ?_⟩
  by_cases hk : k = F ∨ k = G
  · rcases hk with rfl | rfl
    · rw [hF]; simp [ct_pr]
    · rw [hG]; simp [ct_pr]
  · have hk1 : k ≠ F := fun h => hk (Or.inl h)
    have hk2 : k ≠ G := fun h => hk (Or.inr h)
    have e : ct_pr F G k = false := by simp [ct_pr, hk1, hk2]
    rw [e]
    refine Classical.byContradiction fun h => ?_
    have hkt : T k = true := by cases h1 : T k <;> simp_all
    -- three members, counted as sums
    have three : ∀ n, n ≤ N → ct_cd (ct_on F) n + ct_cd (ct_on G) n + ct_cd (ct_on k) n ≤ ct_cd T n := by
      intro n
      induction n with
      | zero => intro _; simp [ct_cd]
      | succ n ih =>
        intro hn
        have ih := ih (by omega)
        simp only [ct_cd]
        have a1 : (if ct_on F n = true then 1 else 0) + (if ct_on G n = true then 1 else 0) + (if ct_on k n = true then 1 else 0) ≤ (if T n = true then 1 else 0) := by
          by_cases q1 : n = F
          · subst q1; simp [ct_on, hF, Ne.symm hne, Ne.symm hk1]
          · by_cases q2 : n = G
            · subst q2; simp [ct_on, hG, hne, Ne.symm hk2]
            · by_cases q3 : n = k
              · subst q3; simp [ct_on, hkt, hk1, hk2]
              · simp [ct_on, q1, q2, q3]
        omega
    have := three N (Nat.le_refl N)
    have hkN : k < N := Classical.byContradiction fun h => by rw [hT k (by omega)] at hkt; exact absurd hkt (by decide)
    rw [ct_cd_on, ct_cd_on, ct_cd_on, if_pos hFN, if_pos hGN, if_pos hkN] at this
    omega
theorem ct_phi_psi : ∀ j : Nat, (if j = 0 then 120 else 0) + 6 * ct_phi j = ct_psi j * (j : Int) := by
  intro j
  rcases (show j = 0 ∨ j = 1 ∨ j = 2 ∨ j = 3 ∨ 4 ≤ j by omega) with rfl | rfl | rfl | rfl | h
  · rfl
  · rfl
  · rfl
  · rfl
  · have e1 : ct_phi j = 0 := by unfold ct_phi; split <;> first | omega | rfl
    have e2 : ct_psi j = 0 := by unfold ct_psi; split <;> first | omega | rfl
    rw [e1, e2, if_neg (by omega)]; simp
theorem ct_ss_empty (N : Nat) (c : Int) : ct_ss N (fun T => if ct_cd T N = 0 then c else 0) = c := by
  have z : ∀ (n : Nat), ct_cd (fun _ => false) n = 0 := fun n => by
    induction n with
    | zero => rfl
    | succ n ih => rw [ct_cd, ih]; rfl
  rw [ct_ss_single N (fun _ => false) _ (fun _ _ => rfl) (fun B hB hne => if_neg fun h0 => hne (funext fun k => ?_)), if_pos (z N)]
  by_cases hk : k < N
  · have : ∀ n, ct_cd B n = 0 → ∀ k, k < n → B k = false := by
      intro n
      induction n with
      | zero => intro _ k hk; omega
      | succ n ih =>
        intro h k hk
        rw [ct_cd] at h
        by_cases hb : B n = true
        · rw [if_pos hb] at h; omega
        · by_cases e : k = n
          · subst e; cases h1 : B k <;> simp_all
          · exact ih (by omega) k (by omega)
    exact this N h0 k hk
  · exact hB k (by omega)
/-- Φ, from above -/
theorem ct_bound {N : Nat} (hN : 8 ≤ N) (hN2 : N ≤ 16) {VB oc : (Nat → Bool) → Bool} (hB : ∀ B, VB B = true → ct_sp N B ∧ ct_cd B N = 7)
    (ho : ∀ T, oc T = true ↔ ∃ B, VB B = true ∧ ct_in T B) (hne : ∃ B, VB B = true) :
    6 * ct_ss N (fun T => if oc T = true then ct_phi (ct_cd T N) else 0) + 120 ≤ (N : Int) * (((N : Int) - 1) * ((N : Int) - 14) + 60) := by
  have hoc1 : ∀ T F, oc T = true → T F = true → oc (ct_on F) = true := fun T F h hF => by
    obtain ⟨B, hv, hi⟩ := (ho T).mp h
    refine (ho _).mpr ⟨B, hv, fun k hk => ?_⟩
    have : k = F := of_decide_eq_true hk
    rw [this]; exact hi F hF
  have hoc2 : ∀ T F G, oc T = true → T F = true → T G = true → oc (ct_pr F G) = true := fun T F G h hF hG => by
    obtain ⟨B, hv, hi⟩ := (ho T).mp h
    refine (ho _).mpr ⟨B, hv, fun k hk => ?_⟩
    have : k = F ∨ k = G := by
      simp only [ct_pr, Bool.or_eq_true, decide_eq_true_eq] at hk; exact hk
    rcases this with e | e
    · rw [e]; exact hi F hF
    · rw [e]; exact hi G hG
  let R : Nat → Nat → Bool := fun F G => decide (G = F) || (decide (G < N) && oc (ct_pr F G))
  have key : ct_ss N (fun T => (if ct_cd T N = 0 then 120 else 0) + 6 * (if oc T = true then ct_phi (ct_cd T N) else 0)) ≤ ct_ss N (fun T => sg (fun F => if oc (ct_on F) = true then (if ct_ib (ct_on F) (R F) T N = true then ct_psi (ct_cd T N) else 0) else 0) N) := by
    refine ct_ss_le fun T hT => ?_
    by_cases hoc : oc T = true
    · rw [if_pos hoc, ct_phi_psi, ← ct_sg_cd]
      refine Int.le_of_eq (sg_cong fun F hF => ?_)
      by_cases hTF : T F = true
      · rw [if_pos hTF, if_pos (hoc1 T F hoc hTF), if_pos]
        refine ct_ib_iff.mpr fun k hk => ⟨fun h => ?_, fun h => ?_⟩
        · have : k = F := of_decide_eq_true h
          rw [this]; exact hTF
        · simp only [R, Bool.or_eq_true, Bool.and_eq_true, decide_eq_true_eq]
          exact Or.inr ⟨hk, hoc2 T F k hoc hTF h⟩
      · rw [if_neg hTF]
        by_cases h1 : oc (ct_on F) = true
        · rw [if_pos h1, if_neg]
          intro h
          exact hTF ((ct_ib_iff.mp h F hF).1 (by simp [ct_on]))
        · rw [if_neg h1]
    · rw [if_neg hoc]
      have h0 : (if ct_cd T N = 0 then (120 : Int) else 0) = 0 := by
        refine if_neg fun h => hoc ?_
        obtain ⟨B, hv⟩ := hne
        refine (ho T).mpr ⟨B, hv, fun k hk => ?_⟩
        by_cases hkN : k < N
        · have : ct_in (ct_on k) T := fun j hj => by
            have : j = k := of_decide_eq_true hj
            rw [this]; exact hk
          have := ct_cd_mono this N
          rw [ct_cd_on, if_pos hkN] at this
          omega
        · rw [hT k (by omega)] at hk; exact absurd hk (by decide)
      rw [h0]
      have nn : ∀ n, n ≤ N → 0 ≤ sg (fun F => if oc (ct_on F) = true then (if ct_ib (ct_on F) (R F) T N = true then ct_psi (ct_cd T N) else 0) else 0) n := by
        intro n
        induction n with
        | zero => intro _; exact Int.le_refl _
        | succ n ih =>
          intro hn
          have ih := ih (by omega)
          rw [sg]
          have : 0 ≤ (if oc (ct_on n) = true then (if ct_ib (ct_on n) (R n) T N = true then ct_psi (ct_cd T N) else 0) else 0) := by
            by_cases h1 : oc (ct_on n) = true
            · rw [if_pos h1]
              by_cases h2 : ct_ib (ct_on n) (R n) T N = true
              · rw [if_pos h2]
                have hTn : T n = true := (ct_ib_iff.mp h2 n (by omega)).1 (by simp [ct_on])
                by_cases h3 : ct_cd T N = 2
                · obtain ⟨G, hG, hGn, e⟩ := ct_two hT h3 hTn
                  have h4 := (ct_ib_iff.mp h2 G hG).2 (by rw [e]; simp [ct_pr])
                  simp only [R, Bool.or_eq_true, Bool.and_eq_true, decide_eq_true_eq] at h4
                  rcases h4 with h5 | h5
                  · exact absurd h5 hGn
                  · rw [← e] at h5; exact absurd h5.2 hoc
                · unfold ct_psi; split <;> first | omega | decide
              · rw [if_neg h2]; decide
            · rw [if_neg h1]; decide
          omega
      have := nn N (Nat.le_refl N)
      omega
  rw [ct_ss_add, ct_ss_empty, ct_ss_mul, ← ct_ss_sg] at key
  have up : sg (fun F => ct_ss N (fun T => if oc (ct_on F) = true then (if ct_ib (ct_on F) (R F) T N = true then ct_psi (ct_cd T N) else 0) else 0)) N ≤ (N : Int) * (((N : Int) - 1) * ((N : Int) - 14) + 60) := by
    have each : ∀ F, F < N → ct_ss N (fun T => if oc (ct_on F) = true then (if ct_ib (ct_on F) (R F) T N = true then ct_psi (ct_cd T N) else 0) else 0) ≤ ((N : Int) - 1) * ((N : Int) - 14) + 60 := by
      intro F hF
      by_cases h1 : oc (ct_on F) = true
      · simp only [h1, if_true]
        have hFR : ∀ k, k < N → ct_on F k = true → R F k = true := fun k _ h => by
          have : k = F := of_decide_eq_true h
          simp [R, this]
        obtain ⟨h2, h3⟩ := ct_itv (ct_on F) (R F) N ct_psi hFR
        rw [h2, ct_cd_on, if_pos hF, ct_h_psi1]
        obtain ⟨B, hv, hi⟩ := (ho _).mp h1
        have hBR : ct_in B (R F) := fun k hk => by
          have hkN : k < N := Classical.byContradiction fun h => by rw [(hB B hv).1 k (by omega)] at hk; exact absurd hk (by decide)
          simp only [R, Bool.or_eq_true, Bool.and_eq_true, decide_eq_true_eq]
          refine Or.inr ⟨hkN, (ho _).mpr ⟨B, hv, fun j hj => ?_⟩⟩
          have : j = F ∨ j = k := by simpa [ct_pr] using hj
          rcases this with e | e
          · rw [e]; exact hi F (by simp [ct_on])
          · rw [e]; exact hk
        have m1 := ct_cd_mono hBR N
        rw [(hB B hv).2] at m1
        have m2 := ct_cd_le (R F) N
        generalize ct_cd (R F) N = r at m1 m2
        obtain ⟨u, rfl⟩ : ∃ u, r = u + 1 := ⟨r - 1, by omega⟩
        rw [show u + 1 - 1 = u by omega]
        have p1 : 0 ≤ ((u : Int) - 6) * ((N : Int) - 1 - (u : Int)) := Int.mul_nonneg (by omega) (by omega)
        have p2 : 0 ≤ ((N : Int) - 8) * ((N : Int) - 1 - (u : Int)) := Int.mul_nonneg (by omega) (by omega)
        grind
      · have p : ∀ n : Nat, n < 17 → 8 ≤ n → (0 : Int) ≤ ((n : Int) - 1) * ((n : Int) - 14) + 60 := by decide
        have := p N (by omega) hN
        rw [ct_ss_z fun T _ => if_neg h1]
        exact this
    have all : ∀ n, n ≤ N → sg (fun F => ct_ss N (fun T => if oc (ct_on F) = true then (if ct_ib (ct_on F) (R F) T N = true then ct_psi (ct_cd T N) else 0) else 0)) n ≤ (n : Int) * (((N : Int) - 1) * ((N : Int) - 14) + 60) := by
      intro n
      induction n with
      | zero => intro _; simp [sg]
      | succ n ih =>
        intro hn
        have h1 := ih (by omega)
        have h2 := each n (by omega)
        rw [sg, Int.natCast_add, Int.add_mul]
        simp only [Int.natCast_one, Int.one_mul]
        omega
    exact all N (Nat.le_refl N)
  omega
/-- the number of vertices, from above -/
theorem ct_total {N : Nat} (hN : 8 ≤ N) (hN2 : N ≤ 16) {VB : (Nat → Bool) → Bool} {dn up : (Nat → Bool) → Nat → Bool} (hB : ∀ B, VB B = true → ct_sp N B ∧ ct_cd B N = 7)
    (hd : ∀ B, VB B = true → ct_in (dn B) B) (hu : ∀ B, VB B = true → ct_in (up B) B) (hdu : ∀ B, VB B = true → ct_cd (dn B) N + ct_cd (up B) N = 7)
    (h1 : ∀ T, ct_sp N T → (∃ B, VB B = true ∧ ct_in T B) → ∃ B, VB B = true ∧ ct_in (dn B) T ∧ ct_in T B ∧ ∀ B', VB B' = true → ct_in (dn B') T → ct_in T B' → B' = B)
    (h2 : ∀ T, ct_sp N T → (∃ B, VB B = true ∧ ct_in T B) → ∃ B, VB B = true ∧ ct_in (up B) T ∧ ct_in T B ∧ ∀ B', VB B' = true → ct_in (up B') T → ct_in T B' → B' = B) :
    3 * ct_ss N (fun B => if VB B = true then 1 else 0) + 120 ≤ (N : Int) * (((N : Int) - 1) * ((N : Int) - 14) + 60) := by
  by_cases hne : ∃ B, VB B = true
  · let oc : (Nat → Bool) → Bool := fun T => @decide (∃ B, VB B = true ∧ ct_in T B) (Classical.propDecidable _)
    have ho : ∀ T, oc T = true ↔ ∃ B, VB B = true ∧ ct_in T B := fun T => by simp only [oc, decide_eq_true_eq]
    have a1 := ct_half hB hd ho (fun T hT h => h1 T hT ((ho T).mp h))
    have a2 := ct_half hB hu ho (fun T hT h => h2 T hT ((ho T).mp h))
    have a3 := ct_bound hN hN2 hB ho hne
    have a4 : ct_ss N (fun B => if VB B = true then 1 else 0) = ct_ss N (fun B => if VB B = true ∧ ct_cd (dn B) N ≤ 3 then 1 else 0) + ct_ss N (fun B => if VB B = true ∧ ct_cd (up B) N ≤ 3 then 1 else 0) := by
      rw [← ct_ss_add]
      refine ct_ss_cong fun B _ => ?_
      by_cases hv : VB B = true
      · have := hdu B hv
        simp only [hv, true_and, if_true]
        by_cases h3 : ct_cd (dn B) N ≤ 3
        · rw [if_pos h3, if_neg (by omega)]; rfl
        · rw [if_neg h3, if_pos (by omega)]; rfl
      · simp [hv]
    omega
  · have e : ct_ss N (fun B => if VB B = true then 1 else 0) = 0 := by
      exact ct_ss_z fun B _ => if_neg fun h => hne ⟨B, h⟩
    have p : ∀ n : Nat, n < 17 → 8 ≤ n → (120 : Int) ≤ (n : Int) * (((n : Int) - 1) * ((n : Int) - 14) + 60) := by decide
    have := p N (by omega) hN
    rw [e]; omega

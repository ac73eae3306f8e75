/-! subsets of the first n numbers, and sums over them -/
def ct_ins (n : Nat) (T : Nat → Bool) : Nat → Bool := fun k => if k = n then true else T k
def ct_ss : Nat → ((Nat → Bool) → Int) → Int
  | 0, f => f (fun _ => false)
  | n + 1, f => ct_ss n f + ct_ss n (fun T => f (ct_ins n T))
def ct_sp (n : Nat) (T : Nat → Bool) : Prop := ∀ k, n ≤ k → T k = false
theorem ct_sp_succ {n : Nat} {T : Nat → Bool} (h : ct_sp n T) : ct_sp (n + 1) T := fun k hk => h k (by omega)
theorem ct_sp_ins {n : Nat} {T : Nat → Bool} (h : ct_sp n T) : ct_sp (n + 1) (ct_ins n T) := fun k hk => by
  unfold ct_ins; rw [if_neg (by omega)]; exact h k (by omega)
theorem ct_ss_cong : ∀ {n : Nat} {f g : (Nat → Bool) → Int}, (∀ T, ct_sp n T → f T = g T) → ct_ss n f = ct_ss n g
  | 0, _, _, h => h _ (fun _ _ => rfl)
  | n + 1, f, g, h => by
    rw [ct_ss, ct_ss, ct_ss_cong (fun T hT => h T (ct_sp_succ hT)), ct_ss_cong (fun T hT => h _ (ct_sp_ins hT))]
theorem ct_ss_le : ∀ {n : Nat} {f g : (Nat → Bool) → Int}, (∀ T, ct_sp n T → f T ≤ g T) → ct_ss n f ≤ ct_ss n g
  | 0, _, _, h => h _ (fun _ _ => rfl)
  | n + 1, f, g, h => by
    have h1 := ct_ss_le (fun T hT => h T (ct_sp_succ hT))
    have h2 : ct_ss n (fun T => f (ct_ins n T)) ≤ ct_ss n (fun T => g (ct_ins n T)) := ct_ss_le (fun T hT => h _ (ct_sp_ins hT))
    rw [ct_ss, ct_ss]; omega
theorem ct_ss_add : ∀ (n : Nat) (f g : (Nat → Bool) → Int), ct_ss n (fun T => f T + g T) = ct_ss n f + ct_ss n g
  | 0, _, _ => rfl
  | n + 1, f, g => by rw [ct_ss, ct_ss, ct_ss, ct_ss_add n f g, ct_ss_add n (fun T => f (ct_ins n T)) (fun T => g (ct_ins n T))]; omega
theorem ct_ss_mul (c : Int) : ∀ (n : Nat) (f : (Nat → Bool) → Int), ct_ss n (fun T => c * f T) = c * ct_ss n f
  | 0, _ => rfl
  | n + 1, f => by rw [ct_ss, ct_ss, ct_ss_mul c n f, ct_ss_mul c n (fun T => f (ct_ins n T)), Int.mul_add]
theorem ct_ss_zero : ∀ (n : Nat), ct_ss n (fun _ => 0) = 0
  | 0 => rfl
  | n + 1 => by rw [ct_ss, ct_ss_zero n]; rfl
theorem ct_ss_z {n : Nat} {f : (Nat → Bool) → Int} (h : ∀ T, ct_sp n T → f T = 0) : ct_ss n f = 0 := by
  rw [ct_ss_cong (g := fun _ => 0) h, ct_ss_zero]
theorem ct_ss_comm (m : Nat) : ∀ (n : Nat) (f : (Nat → Bool) → (Nat → Bool) → Int), ct_ss n (fun T => ct_ss m (fun B => f T B)) = ct_ss m (fun B => ct_ss n (fun T => f T B))
  | 0, _ => rfl
  | n + 1, f => by
    rw [ct_ss, ct_ss_comm m n f, ct_ss_comm m n (fun T B => f (ct_ins n T) B), ← ct_ss_add]
    rfl
theorem ct_ss_sg (n : Nat) : ∀ (m : Nat) (f : Nat → (Nat → Bool) → Int), sg (fun F => ct_ss n (f F)) m = ct_ss n (fun T => sg (fun F => f F T) m)
  | 0, _ => by simp only [sg]; rw [ct_ss_zero]
  | m + 1, f => by simp only [sg]; rw [ct_ss_add, ct_ss_sg n m f]
theorem ct_ss_single : ∀ (n : Nat) (B0 : Nat → Bool) (f : (Nat → Bool) → Int), ct_sp n B0 → (∀ B, ct_sp n B → B ≠ B0 → f B = 0) → ct_ss n f = f B0
  | 0, B0, f, h, _ => by
    have : B0 = fun _ => false := funext fun k => h k (Nat.zero_le k)
    rw [this]; rfl
  | n + 1, B0, f, h, hz => by
    rw [ct_ss]
    by_cases hb : B0 n = true
    · have e1 : ct_ss n f = 0 := by
        refine ct_ss_z fun T hT => hz T (ct_sp_succ hT) fun e => ?_
        have := hT n (Nat.le_refl n)
        rw [e, hb] at this
        exact absurd this (by decide)
      have e0 : ct_ins n (fun k => if k = n then false else B0 k) = B0 := funext fun k => by
        unfold ct_ins
        by_cases hk : k = n
        · rw [if_pos hk, hk, hb]
        · simp only [if_neg hk]
      have e2 := ct_ss_single n (fun k => if k = n then false else B0 k) (fun T => f (ct_ins n T)) (fun k hk => by
        by_cases e : k = n
        · simp only [if_pos e]
        · simp only [if_neg e]; exact h k (by omega)) (fun B hB hne => hz _ (ct_sp_ins hB) fun e => hne (funext fun k => by
          by_cases hk : k = n
          · simp only [if_pos hk]; rw [hk]; exact hB n (Nat.le_refl n)
          · simp only [if_neg hk]; rw [← e]; unfold ct_ins; rw [if_neg hk]))
      rw [e1, e2, e0]; omega
    · have hb' : B0 n = false := by cases h1 : B0 n <;> simp_all
      have e1 : ct_ss n (fun T => f (ct_ins n T)) = 0 := by
        refine ct_ss_z fun T hT => hz _ (ct_sp_ins hT) fun e => ?_
        have h2 : ct_ins n T n = B0 n := by rw [e]
        unfold ct_ins at h2
        rw [if_pos rfl, hb'] at h2
        exact absurd h2 (by decide)
      rw [e1, ct_ss_single n B0 f (fun k hk => by
        by_cases e : k = n
        · rw [e]; exact hb'
        · exact h k (by omega)) (fun B hB hne => hz B (ct_sp_succ hB) hne)]
      omega
/-- how many -/
def ct_cd (T : Nat → Bool) : Nat → Nat
  | 0 => 0
  | n + 1 => ct_cd T n + if T n = true then 1 else 0
theorem ct_cd_cong {T S : Nat → Bool} : ∀ {n : Nat}, (∀ k, k < n → T k = S k) → ct_cd T n = ct_cd S n
  | 0, _ => rfl
  | n + 1, h => by rw [ct_cd, ct_cd, ct_cd_cong (fun k hk => h k (by omega)), h n (by omega)]
/-- D within T within B -/
def ct_ib (D B T : Nat → Bool) : Nat → Bool
  | 0 => true
  | n + 1 => ct_ib D B T n && ((!D n || T n) && (!T n || B n))
theorem ct_ib_cong {D B T S : Nat → Bool} : ∀ {n : Nat}, (∀ k, k < n → T k = S k) → ct_ib D B T n = ct_ib D B S n
  | 0, _ => rfl
  | n + 1, h => by rw [ct_ib, ct_ib, ct_ib_cong (fun k hk => h k (by omega)), h n (by omega)]
theorem ct_ib_iff {D B T : Nat → Bool} : ∀ {n : Nat}, ct_ib D B T n = true ↔ ∀ k, k < n → (D k = true → T k = true) ∧ (T k = true → B k = true)
  | 0 => by simp [ct_ib]
  | n + 1 => by
    have ih := ct_ib_iff (D := D) (B := B) (T := T) (n := n)
    rw [ct_ib, Bool.and_eq_true, ih]
    constructor
    · rintro ⟨h1, h2⟩ k hk
      by_cases e : k = n
      · subst e
        revert h2; cases D k <;> cases T k <;> cases B k <;> simp
      · exact h1 k (by omega)
    · intro h
      refine ⟨fun k hk => h k (by omega), ?_⟩
      have := h n (by omega)
      revert this; cases D n <;> cases T n <;> cases B n <;> simp
def ct_h (φ : Nat → Int) : Nat → Nat → Int
  | 0, d => φ d
  | u + 1, d => ct_h φ u d + ct_h φ u (d + 1)
theorem ct_h_shift (φ : Nat → Int) : ∀ u d, ct_h (fun x => φ (x + 1)) u d = ct_h φ u (d + 1)
  | 0, _ => rfl
  | u + 1, d => by rw [ct_h, ct_h, ct_h_shift φ u d, ct_h_shift φ u (d + 1)]
theorem ct_itv (D B : Nat → Bool) : ∀ (n : Nat) (φ : Nat → Int), (∀ k, k < n → D k = true → B k = true) →
    ct_ss n (fun T => if ct_ib D B T n = true then φ (ct_cd T n) else 0) = ct_h φ (ct_cd B n - ct_cd D n) (ct_cd D n) ∧ ct_cd D n ≤ ct_cd B n
  | 0, φ, _ => ⟨by simp [ct_ss, ct_ib, ct_cd, ct_h], Nat.le_refl _⟩
  | n + 1, φ, h => by
    obtain ⟨ih, hle⟩ := ct_itv D B n φ (fun k hk => h k (by omega))
    obtain ⟨ih2, -⟩ := ct_itv D B n (fun x => φ (x + 1)) (fun k hk => h k (by omega))
    have hn := h n (by omega)
    have e1 : ct_ss n (fun T => if ct_ib D B T (n + 1) = true then φ (ct_cd T (n + 1)) else 0) = if D n = true then 0 else ct_ss n (fun T => if ct_ib D B T n = true then φ (ct_cd T n) else 0) := by
      by_cases hd : D n = true
      · rw [if_pos hd]
        refine ct_ss_z fun T hT => if_neg ?_
        have := hT n (Nat.le_refl n)
        rw [ct_ib, hd, this]; simp
      · rw [if_neg hd]
        refine ct_ss_cong fun T hT => ?_
        have := hT n (Nat.le_refl n)
        have hd' : D n = false := by cases h1 : D n <;> simp_all
        rw [ct_ib, hd', this, ct_cd, this]; simp
    have ei : ∀ T, ct_sp n T → ct_ib D B (ct_ins n T) n = ct_ib D B T n := fun T _ => ct_ib_cong fun k hk => by unfold ct_ins; rw [if_neg (by omega)]
    have ec : ∀ T, ct_sp n T → ct_cd (ct_ins n T) n = ct_cd T n := fun T _ => ct_cd_cong fun k hk => by unfold ct_ins; rw [if_neg (by omega)]
    have en : ∀ T : Nat → Bool, ct_ins n T n = true := fun T => by unfold ct_ins; rw [if_pos rfl]
    have e2 : ct_ss n (fun T => if ct_ib D B (ct_ins n T) (n + 1) = true then φ (ct_cd (ct_ins n T) (n + 1)) else 0) = if B n = true then ct_ss n (fun T => if ct_ib D B T n = true then φ (ct_cd T n + 1) else 0) else 0 := by
      by_cases hb : B n = true
      · rw [if_pos hb]
        refine ct_ss_cong fun T hT => ?_
        rw [ct_ib, ct_cd, ei T hT, ec T hT, en T, hb]; simp
      · rw [if_neg hb]
        refine ct_ss_z fun T hT => if_neg ?_
        have hb' : B n = false := by cases h1 : B n <;> simp_all
        rw [ct_ib, en T, hb']; simp
    rw [ct_ss, e1, e2, ih, ih2, ct_h_shift, ct_cd, ct_cd]
    by_cases hd : D n = true
    · rw [if_pos hd, if_pos hd, if_pos (hn hd), if_pos (hn hd)]
      refine ⟨?_, by omega⟩
      rw [show ct_cd B n + 1 - (ct_cd D n + 1) = ct_cd B n - ct_cd D n by omega]; omega
    · rw [if_neg hd, if_neg hd]
      by_cases hb : B n = true
      · rw [if_pos hb, if_pos hb]
        refine ⟨?_, by omega⟩
        rw [show ct_cd B n + 1 - (ct_cd D n + 0) = ct_cd B n - ct_cd D n + 1 by omega, ct_h]; rfl
      · rw [if_neg hb, if_neg hb]
        exact ⟨by simp, by omega⟩

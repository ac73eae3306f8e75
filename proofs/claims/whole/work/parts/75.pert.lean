/-! a functional that vanishes where others do is a combination of them -/
theorem ev_add_l (f g x : Nat → Int) (p q : Int) : ev (fun w => p * f w + q * g w) x = p * ev f x + q * ev g x := by
  unfold ev
  rw [← sg_mul, ← sg_mul, ← sg_add]
  exact sg_cong (fun k _ => by grind)
theorem ev_unit (f : Nat → Int) (w : Nat) (hw : w < 8) : ev f (fun j => if j = w then 1 else 0) = f w := by
  have := sg_one f w 8
  rw [if_pos hw] at this
  rw [← this]
  exact sg_cong fun k _ => by rw [Int.mul_comm]
theorem fred : ∀ (m : Nat) (f : Nat → Nat → Int) (l : Nat → Int), (∃ y, (∀ c, c < m → ev (f c) y = 0) ∧ ev l y ≠ 0) ∨ ∃ (M : Int) (κ : Nat → Int), M ≠ 0 ∧ ∀ y, M * ev l y = sg (fun c => κ c * ev (f c) y) m := by
  intro m f
  induction m with
  | zero =>
    intro l
    by_cases h : ∃ w, w < 8 ∧ l w ≠ 0
    · obtain ⟨w, hw, hne⟩ := h
      exact Or.inl ⟨fun j => if j = w then 1 else 0, fun c hc => absurd hc (Nat.not_lt_zero c), by rw [ev_unit l w hw]; exact hne⟩
    · refine Or.inr ⟨1, fun _ => 0, by decide, fun y => ?_⟩
      have : ev l y = 0 := sg_zero fun k hk => by
        have : l k = 0 := Classical.byContradiction fun h1 => h ⟨k, hk, h1⟩
        rw [this, Int.zero_mul]
      rw [this]; rfl
  | succ m ih =>
    intro l
    rcases ih l with ⟨y, hy, hl⟩ | ⟨M, κ, hM, h⟩
    · by_cases hm : ev (f m) y = 0
      · refine Or.inl ⟨y, fun c hc => ?_, hl⟩
        by_cases e : c = m
        · rw [e]; exact hm
        · exact hy c (by omega)
      · rcases ih (fun w => ev (f m) y * l w + -ev l y * f m w) with ⟨y', hy', hl'⟩ | ⟨M, κ, hM, h⟩
        · rw [ev_add_l] at hl'
          refine Or.inl ⟨fun w => ev (f m) y * y' w + -ev (f m) y' * y w, fun c hc => ?_, ?_⟩
          · rw [ev_lin]
            by_cases e : c = m
            · subst e; grind
            · rw [hy c (by omega), hy' c (by omega)]; simp
          · rw [ev_lin]
            intro e; apply hl'; grind
        · refine Or.inr ⟨M * ev (f m) y, fun c => if c = m then M * ev l y else κ c, Int.mul_ne_zero hM hm, fun z => ?_⟩
          have h1 := h z
          rw [ev_add_l] at h1
          rw [sg, sg_cong (g := fun c => κ c * ev (f c) z) (fun k hk => by dsimp only; rw [if_neg (by omega)]), ← h1]; dsimp only; rw [if_pos rfl]
          grind
    · refine Or.inr ⟨M, fun c => if c = m then 0 else κ c, hM, fun z => ?_⟩
      rw [sg, sg_cong (g := fun c => κ c * ev (f c) z) (fun k hk => by dsimp only; rw [if_neg (by omega)]), ← h z]; dsimp only; rw [if_pos rfl]
      simp
theorem sg_left (f : Nat → Int) : ∀ n, sg f (n + 1) = f 0 + sg (fun k => f (k + 1)) n
  | 0 => by simp [sg]
  | n + 1 => by rw [sg, sg_left f n, sg]; omega
/-- a polynomial with small coefficients has no root -/
theorem poly0 {t : Int} (ht : 0 < t) : ∀ (n : Nat) (c : Nat → Int), (∀ k, k < n → -t < c k ∧ c k < t) → sg (fun k => c k * t ^ k) n = 0 → ∀ k, k < n → c k = 0 := by
  intro n
  induction n with
  | zero => intro c _ _ k hk; omega
  | succ n ih =>
    intro c hc h0
    rw [sg_left] at h0
    have e : sg (fun k => c (k + 1) * t ^ (k + 1)) n = t * sg (fun k => c (k + 1) * t ^ k) n := by
      rw [← sg_mul]
      exact sg_cong fun k _ => by rw [Int.pow_succ]; grind
    rw [e] at h0
    simp only [Int.pow_zero, Int.mul_one] at h0
    have hc0 := hc 0 (by omega)
    have hz : sg (fun k => c (k + 1) * t ^ k) n = 0 := by
      refine Classical.byContradiction fun hne => ?_
      rcases Int.lt_or_gt_of_ne hne with h | h
      · have : t * sg (fun k => c (k + 1) * t ^ k) n ≤ t * -1 := Int.mul_le_mul_of_nonneg_left (by omega) (Int.le_of_lt ht)
        omega
      · have : t * 1 ≤ t * sg (fun k => c (k + 1) * t ^ k) n := Int.mul_le_mul_of_nonneg_left (by omega) (Int.le_of_lt ht)
        omega
    rw [hz, Int.mul_zero, Int.add_zero] at h0
    intro k hk
    cases k with
    | zero => exact h0
    | succ k => exact ih (fun k => c (k + 1)) (fun k hk => hc (k + 1) (by omega)) hz k (by omega)
theorem ct_bnd : ∀ (n : Nat) (β : (Nat → Bool) → Int), ∃ M : Int, 0 ≤ M ∧ ∀ T, ct_sp n T → β T ≤ M
  | 0, β => by
    refine ⟨if 0 ≤ β (fun _ => false) then β (fun _ => false) else 0, by split <;> omega, fun T hT => ?_⟩
    have : T = fun _ => false := funext fun k => hT k (Nat.zero_le k)
    rw [this]; split <;> omega
  | n + 1, β => by
    obtain ⟨M, h0, h1⟩ := ct_bnd n β
    obtain ⟨M', h0', h1'⟩ := ct_bnd n (fun T => β (ct_ins n T))
    refine ⟨M + M', by omega, fun T hT => ?_⟩
    cases hb : T n
    · have := h1 T (fun k hk => by
        by_cases e : k = n
        · rw [e]; exact hb
        · exact hT k (by omega))
      omega
    · have e0 : ct_ins n (fun k => if k = n then false else T k) = T := funext fun k => by
        unfold ct_ins
        by_cases hk : k = n
        · rw [if_pos hk, hk, hb]
        · simp only [if_neg hk]
      have := h1' (fun k => if k = n then false else T k) (fun k hk => by
        by_cases e : k = n
        · simp only [if_pos e]
        · simp only [if_neg e]; exact hT k (by omega))
      rw [e0] at this
      omega
theorem nat_bnd : ∀ (n : Nat) (β : Nat → Int), ∃ M : Int, 0 ≤ M ∧ ∀ k, k < n → β k ≤ M
  | 0, _ => ⟨0, by decide, fun k hk => absurd hk (Nat.not_lt_zero k)⟩
  | n + 1, β => by
    obtain ⟨M, h0, h1⟩ := nat_bnd n β
    refine ⟨if M ≤ β n then β n else M, by split <;> omega, fun k hk => ?_⟩
    by_cases e : k = n
    · subst e; split <;> omega
    · have := h1 k (by omega); split <;> omega
/-- eight constraints depend on each other, with the sum -/
theorem dep8 {a : Nat → Nat → Int} {N : Nat} (hN : 8 ≤ N) (S : Nat → Bool) (h8 : ct_cd S N = 8) : ∃ l : Nat → Int, (∃ j, j < N + 1 ∧ l j ≠ 0) ∧ (∀ c, c < N → S c = false → l c = 0) ∧ ∀ x, sg (fun c => l c * ev (a c) x) N = l N * su x := by
  obtain ⟨T, -, hT⟩ := enum (fun c => !S c) N
  have hco : ct_cd S N + ct_cd (fun c => !S c) N = ct_cd (fun _ => true) N := ct_cd_split fun k _ => by
    cases S k <;> simp
  have hall : ∀ n, ct_cd (fun _ => true) n = n := fun n => by
    induction n with
    | zero => rfl
    | succ n ih => rw [ct_cd, ih]; rfl
  rw [hall] at hco
  obtain ⟨l, hl, h⟩ := hom_sol N (N + 1) (fun i j => if i < 8 then (if j < N then a j i else -1) else (if j = T (i - 8) then 1 else 0)) (by omega)
  have hz : ∀ c, c < N → S c = false → l c = 0 := fun c hc hs => by
    obtain ⟨i, hi, e⟩ := hT c hc (by simp [hs])
    have h1 := h (i + 8) (by omega)
    simp only [if_neg (show ¬ i + 8 < 8 by omega), show i + 8 - 8 = i by omega] at h1
    rw [sg_one l (T i) (N + 1), e, if_pos (by omega)] at h1
    exact h1
  refine ⟨l, hl, hz, fun x => ?_⟩
  have row : ∀ w, w < 8 → sg (fun c => l c * a c w) N = l N := fun w hw => by
    have h1 := h w (by omega)
    simp only [if_pos hw] at h1
    rw [sg, sg_cong (g := fun c => l c * a c w) (fun k hk => by rw [if_pos hk, Int.mul_comm]), if_neg (Nat.lt_irrefl N)] at h1
    omega
  have swap : ∀ n, sg (fun c => l c * ev (a c) x) n = sg (fun w => sg (fun c => l c * a c w) n * x w) 8 := by
    intro n
    induction n with
    | zero => rw [sg]; exact (sg_zero fun k _ => by simp [sg]).symm
    | succ n ih =>
      rw [sg, ih]
      unfold ev
      rw [← sg_mul, ← sg_add]
      exact sg_cong fun k _ => by rw [sg]; grind
  rw [swap N]
  unfold su ev
  rw [← sg_mul]
  exact sg_cong fun k hk => by rw [row k hk]; grind
def pertb (a : Nat → Nat → Int) (t : Int) : Nat → Nat → Int := fun c w => if c < 8 then a c w else t ^ 9 * a c w + t ^ (c - 8)
theorem pertb_lo {a : Nat → Nat → Int} {t : Int} {c : Nat} (hc : c < 8) (x : Nat → Int) : ev (pertb a t c) x = ev (a c) x := by
  unfold ev pertb
  exact sg_cong fun k _ => by rw [if_pos hc]
theorem pertb_hi {a : Nat → Nat → Int} {t : Int} {c : Nat} (hc : ¬ c < 8) (x : Nat → Int) : ev (pertb a t c) x = t ^ 9 * ev (a c) x + t ^ (c - 8) * su x := by
  unfold su
  rw [← ev_add_l]
  unfold ev pertb
  exact sg_cong fun k _ => by rw [if_neg hc]; simp
theorem pertb_coords {a : Nat → Nat → Int} {N : Nat} (ha : coords a N) (t : Int) : coords (pertb a t) N := ⟨ha.1, fun c hc x => by rw [pertb_lo hc]; exact ha.2 c hc x⟩
def absb (l : Nat → Int) : Nat → Int
  | 0 => 1
  | n + 1 => absb l n + (if l n < 0 then -l n else l n)
theorem absb_lt (l : Nat → Int) : ∀ n k, k < n → -absb l n < l k ∧ l k < absb l n := by
  have pos : ∀ n, 0 < absb l n := fun n => by
    induction n with
    | zero => exact (by decide : (0 : Int) < 1)
    | succ n ih => rw [absb]; split <;> omega
  intro n
  induction n with
  | zero => intro k hk; omega
  | succ n ih =>
    intro k hk
    have := pos n
    rw [absb]
    by_cases e : k = n
    · subst e; split <;> omega
    · have := ih k (by omega); split <;> omega
/-- for all great numbers t the cone is simple -/
theorem pert_simple {a : Nat → Nat → Int} {N : Nat} (ha : coords a N) (hN2 : N ≤ 16) : ∃ t0 : Int, 0 < t0 ∧ ∀ t, t0 ≤ t → ∀ x, inC (pertb a t) N x → nz x → ct_cd (tgt (pertb a t) N x) N ≤ 7 := by
  let l : (Nat → Bool) → Nat → Int := fun S => @dite (Nat → Int) (ct_cd S N = 8) (Classical.propDecidable _) (fun h => Classical.choose (dep8 (a := a) ha.1 S h)) (fun _ => fun _ => 0)
  have hl : ∀ S, ct_cd S N = 8 → (∃ j, j < N + 1 ∧ l S j ≠ 0) ∧ (∀ c, c < N → S c = false → l S c = 0) ∧ ∀ x, sg (fun c => l S c * ev (a c) x) N = l S N * su x := fun S h => by
    have e : l S = Classical.choose (dep8 (a := a) ha.1 S h) := dif_pos h
    rw [e]
    exact Classical.choose_spec (dep8 (a := a) ha.1 S h)
  obtain ⟨M, hM0, hM⟩ := ct_bnd N (fun S => absb (l S) (N + 1))
  refine ⟨M + 1, by omega, fun t ht x hx hz => Classical.byContradiction fun hgt => ?_⟩
  -- eight of the tight ones
  have sub8 : ∀ (n k : Nat) (S : Nat → Bool), k ≤ ct_cd S n → ∃ S', ct_sp n S' ∧ ct_in S' S ∧ ct_cd S' n = k := by
    intro n
    induction n with
    | zero => intro k S hk; exact ⟨fun _ => false, fun _ _ => rfl, fun _ h => Bool.noConfusion h, by simp only [ct_cd] at hk ⊢; omega⟩
    | succ n ih =>
      intro k S hk
      by_cases h : k ≤ ct_cd S n
      · obtain ⟨S', h1, h2, h3⟩ := ih k S h
        exact ⟨S', ct_sp_succ h1, h2, by rw [ct_cd, h3, h1 n (Nat.le_refl n)]; rfl⟩
      · have hn : S n = true := Classical.byContradiction fun hn => by rw [ct_cd, if_neg hn] at hk; omega
        rw [ct_cd, if_pos hn] at hk
        obtain ⟨S', h1, h2, h3⟩ := ih (ct_cd S n) S (Nat.le_refl _)
        refine ⟨ct_ins n S', ct_sp_ins h1, fun j hj => ?_, ?_⟩
        · unfold ct_ins at hj
          by_cases e : j = n
          · rw [e]; exact hn
          · rw [if_neg e] at hj; exact h2 j hj
        · have e1 : ct_cd (ct_ins n S') n = ct_cd S' n := ct_cd_cong fun j hj => by unfold ct_ins; rw [if_neg (by omega)]
          have e2 : ct_ins n S' n = true := by unfold ct_ins; rw [if_pos rfl]
          rw [ct_cd, e1, e2, h3]; simp; omega
  obtain ⟨S, s1, s2, s3⟩ := sub8 N 8 (tgt (pertb a t) N x) (by omega)
  obtain ⟨⟨j, hj, hne⟩, hz0, hsum⟩ := hl S s3
  have hb := hM S s1
  generalize l S = L at hne hz0 hsum hb
  have hsu := su_pos (pertb_coords ha t) hx hz
  have tpos : 0 < t := by omega
  -- the sum, times t ^ 9
  have e1 : sg (fun c => L c * (t ^ 9 * ev (a c) x)) N = t ^ 9 * (L N * su x) := by
    rw [← hsum x, ← sg_mul]
    exact sg_cong fun k _ => by grind
  have e2 : sg (fun c => L c * (t ^ 9 * ev (a c) x)) N = sg (fun c => if c < 8 then 0 else -(L c * t ^ (c - 8) * su x)) N := sg_cong fun c hc => by
    cases hS : S c
    · rw [hz0 c hc hS]; split <;> simp
    · have ht0 := (tgt_iff.mp (s2 c hS)).2
      by_cases h8 : c < 8
      · rw [pertb_lo h8] at ht0
        rw [ht0, if_pos h8]; simp
      · rw [pertb_hi h8] at ht0
        rw [if_neg h8]
        grind
  let cf : Nat → Int := fun k => if k = 9 then L N else if k + 8 < N then L (k + 8) else 0
  have e3 : ∀ n, n ≤ 8 → sg (fun c => if c < 8 then 0 else -(L c * t ^ (c - 8) * su x)) (8 + n) = -(sg (fun k => L (k + 8) * t ^ k) n * su x) := by
    intro n
    induction n with
    | zero =>
      intro _
      rw [sg_zero (fun k hk => by rw [if_pos hk])]; simp [sg]
    | succ n ih =>
      intro hn
      rw [show 8 + (n + 1) = (8 + n) + 1 by omega, sg, ih (by omega), sg, if_neg (by omega), show 8 + n - 8 = n by omega, Nat.add_comm 8 n]
      grind
  obtain ⟨n, rfl⟩ : ∃ n, N = 8 + n := ⟨N - 8, by have := ha.1; omega⟩
  rw [e2, e3 n (by omega)] at e1
  have e4 : sg (fun k => cf k * t ^ k) 10 = sg (fun k => L (k + 8) * t ^ k) n + L (8 + n) * t ^ 9 := by
    have tail : ∀ m, n ≤ m → m ≤ 9 → sg (fun k => cf k * t ^ k) m = sg (fun k => L (k + 8) * t ^ k) n := by
      intro m
      induction m with
      | zero => intro h _; have : n = 0 := by omega
                subst this; rfl
      | succ m ih =>
        intro h1 h2
        by_cases e : n = m + 1
        · subst e
          refine sg_cong fun k hk => ?_
          simp only [cf]
          rw [if_neg (by omega), if_pos (by omega)]
        · rw [sg, ih (by omega) (by omega)]
          simp only [cf]
          rw [if_neg (by omega), if_neg (by omega)]
          simp
    rw [sg, tail 9 (by omega) (Nat.le_refl 9)]
    simp only [cf, if_true]
  have e5 : sg (fun k => cf k * t ^ k) 10 = 0 := by
    rw [e4]
    have : (sg (fun k => L (k + 8) * t ^ k) n + L (8 + n) * t ^ 9) * su x = 0 := by grind
    rcases Int.mul_eq_zero.mp this with h | h
    · exact h
    · omega
  have hcf : ∀ k, k < 10 → -t < cf k ∧ cf k < t := fun k hk => by
    simp only [cf]
    split
    · have := absb_lt L (8 + n + 1) (8 + n) (by omega); omega
    · split
      · have := absb_lt L (8 + n + 1) (k + 8) (by omega); omega
      · omega
  have z := poly0 tpos 10 cf hcf e5
  have zN : L (8 + n) = 0 := by have := z 9 (by omega); simpa [cf] using this
  have zh : ∀ c, 8 ≤ c → c < 8 + n → L c = 0 := fun c h1 h2 => by
    have := z (c - 8) (by omega)
    simp only [cf] at this
    rw [if_neg (by omega), if_pos (by omega), show c - 8 + 8 = c by omega] at this
    exact this
  have zl : ∀ c, c < 8 → L c = 0 := fun c hc => by
    have h1 := hsum (fun j => if j = c then 1 else 0)
    rw [zN, Int.zero_mul] at h1
    have h2 : sg (fun d => L d * ev (a d) (fun j => if j = c then 1 else 0)) (8 + n) = sg (fun d => (if d = c then 1 else 0) * L d) (8 + n) := sg_cong fun d hd => by
      by_cases h8 : d < 8
      · rw [ha.2 d h8, Int.mul_comm]
      · rw [zh d (by omega) hd]; simp
    rw [h2, sg_one L c (8 + n), if_pos (by omega)] at h1
    exact h1
  refine hne ?_
  by_cases h1 : j < 8
  · exact zl j h1
  · by_cases h2 : j = 8 + n
    · rw [h2]; exact zN
    · exact zh j (by omega) (by omega)

/-! every vertex is met by a choice of worlds, sayings and sides -/
def m8 (b0 b1 b2 b3 b4 b5 b6 b7 : Bool) : Nat := b0.toNat + 2 * b1.toNat + 4 * b2.toNat + 8 * b3.toNat + 16 * b4.toNat + 32 * b5.toNat + 64 * b6.toNat + 128 * b7.toNat
theorem m8_ok : ∀ b0 b1 b2 b3 b4 b5 b6 b7 : Bool, hb (nI (m8 b0 b1 b2 b3 b4 b5 b6 b7)) 0 = b0 ∧ hb (nI (m8 b0 b1 b2 b3 b4 b5 b6 b7)) 1 = b1 ∧ hb (nI (m8 b0 b1 b2 b3 b4 b5 b6 b7)) 2 = b2 ∧ hb (nI (m8 b0 b1 b2 b3 b4 b5 b6 b7)) 3 = b3 ∧ hb (nI (m8 b0 b1 b2 b3 b4 b5 b6 b7)) 4 = b4 ∧ hb (nI (m8 b0 b1 b2 b3 b4 b5 b6 b7)) 5 = b5 ∧ hb (nI (m8 b0 b1 b2 b3 b4 b5 b6 b7)) 6 = b6 ∧ hb (nI (m8 b0 b1 b2 b3 b4 b5 b6 b7)) 7 = b7 ∧ m8 b0 b1 b2 b3 b4 b5 b6 b7 < 256 := by decide +kernel
theorem mask8 (f : Nat → Bool) : ∃ W, W < 256 ∧ ∀ w, w < 8 → hb (nI W) w = f w := by
  obtain ⟨h0, h1, h2, h3, h4, h5, h6, h7, h8⟩ := m8_ok (f 0) (f 1) (f 2) (f 3) (f 4) (f 5) (f 6) (f 7)
  refine ⟨_, h8, fun w hw => ?_⟩
  rcases (show w = 0 ∨ w = 1 ∨ w = 2 ∨ w = 3 ∨ w = 4 ∨ w = 5 ∨ w = 6 ∨ w = 7 by omega) with rfl | rfl | rfl | rfl | rfl | rfl | rfl | rfl <;> assumption
theorem mask_lt : ∀ n, n < 5 → ∀ W, W < 256 → (∀ i, i < 8 → n ≤ i → hb (nI W) i = false) → W < 2 ^ n := by decide +kernel
theorem mask_hi : ∀ W, W < 256 → ∀ i, i < 32 → 8 ≤ i → hb (nI W) i = false := by decide +kernel
theorem mask_sub {W : Nat} {set : Int32} (hW : W < 256) (h : ∀ i, i < 8 → hb (nI W) i = true → hb set i = true) : (nI W &&& (set ^^^ (-1 : Int32))) = 0 := by
  apply Int32.toBitVec_inj.mp
  rw [Int32.toBitVec_and, Int32.toBitVec_xor]
  apply BitVec.eq_of_getLsbD_eq
  intro i hi
  rw [BitVec.getLsbD_and, BitVec.getLsbD_xor]
  have ones : ∀ i, i < 32 → (-1 : Int32).toBitVec.getLsbD i = true := by decide
  have zero : ∀ i, i < 32 → (0 : Int32).toBitVec.getLsbD i = false := by decide
  rw [ones i hi, zero i hi]
  cases hx : hb (nI W) i
  · unfold hb at hx; rw [hx]; rfl
  · have h8 : i < 8 := Classical.byContradiction fun hc => by
      rw [mask_hi W hW i hi (by omega)] at hx; exact absurd hx (by decide)
    have hs := h i h8 hx
    unfold hb at hx hs
    rw [hx, hs]; rfl
theorem enm_cong {S T : Nat → Bool} : ∀ {n : Nat}, (∀ k, k < n → S k = T k) → ∀ j, enm S n j = enm T n j
  | 0, _, _ => rfl
  | n + 1, h, j => by
    rw [enm, enm, h n (by omega), ct_cd_cong (fun k hk => h k (by omega)), enm_cong (fun k hk => h k (by omega)) j]
/-- two sides of one saying -/
theorem row_sides (sy : Nat → Int32) (wd wi : Int32) (i : Nat) (x : Nat → Int) : ev (rowOf sy wd wi i 0) x - ev (rowOf sy wd wi i 1) x = (en sy wd wi i 1 - en sy wd wi i 0) * ev (fun w => if hb (sy (5 * i + 1)) w then 1 else 0) x := by
  have e : ev (rowOf sy wd wi i 0) x = 1 * ev (rowOf sy wd wi i 1) x + (en sy wd wi i 1 - en sy wd wi i 0) * ev (fun w => if hb (sy (5 * i + 1)) w then 1 else 0) x := by
    rw [← ev_add_l]
    unfold ev
    refine sg_cong fun w _ => ?_
    unfold rowOf av
    dsimp only
    cases hb (sy (5 * i + 1)) w <;> cases hb (sy (5 * i)) w <;> simp only [Bool.true_and, Bool.false_and, if_true, if_false, Bool.false_eq_true] <;> grind
  rw [e]; omega
/-- the constraints of some sayings: lo j and hi j of each -/
def cnA (lo hi : Nat → Nat → Int) (c w : Nat) : Int := if c < 8 then (if w = c then 1 else 0) else if (c - 8) % 2 = 0 then lo ((c - 8) / 2) w else -1 * hi ((c - 8) / 2) w
theorem cnA_coord {lo hi : Nat → Nat → Int} {c : Nat} (hc : c < 8) (x : Nat → Int) : ev (cnA lo hi c) x = x c := by
  have := sg_one x c 8
  rw [if_pos hc] at this
  rw [← this]
  exact sg_cong fun w _ => by unfold cnA; rw [if_pos hc]
theorem cnA_lo {lo hi : Nat → Nat → Int} (j : Nat) (x : Nat → Int) : ev (cnA lo hi (8 + 2 * j)) x = ev (lo j) x := by
  unfold ev
  refine sg_cong fun w _ => ?_
  unfold cnA
  rw [if_neg (by omega), if_pos (by omega), show (8 + 2 * j - 8) / 2 = j by omega]
theorem cnA_hi {lo hi : Nat → Nat → Int} (j : Nat) (x : Nat → Int) : ev (cnA lo hi (9 + 2 * j)) x = -ev (hi j) x := by
  have e : ev (cnA lo hi (9 + 2 * j)) x = -1 * ev (hi j) x := by
    unfold ev
    rw [← sg_mul]
    refine sg_cong fun w _ => ?_
    unfold cnA
    rw [if_neg (by omega), if_neg (by omega), show (9 + 2 * j - 8) / 2 = j by omega]
    grind
  rw [e]; omega
theorem cnA_coords (lo hi : Nat → Nat → Int) (k : Nat) : coords (cnA lo hi) (8 + 2 * k) := ⟨by omega, fun c hc x => cnA_coord hc x⟩
theorem cnA_split {k c : Nat} (hc : c < 8 + 2 * k) : c < 8 ∨ (∃ j, j < k ∧ c = 8 + 2 * j) ∨ ∃ j, j < k ∧ c = 9 + 2 * j := by
  by_cases h : c < 8
  · exact Or.inl h
  · by_cases h2 : (c - 8) % 2 = 0
    · exact Or.inr (Or.inl ⟨(c - 8) / 2, by omega, by omega⟩)
    · exact Or.inr (Or.inr ⟨(c - 8) / 2, by omega, by omega⟩)
theorem cnA_inC {lo hi : Nat → Nat → Int} {k : Nat} {x : Nat → Int} : inC (cnA lo hi) (8 + 2 * k) x ↔ (∀ w, w < 8 → 0 ≤ x w) ∧ ∀ j, j < k → 0 ≤ ev (lo j) x ∧ ev (hi j) x ≤ 0 := by
  constructor
  · intro h
    refine ⟨fun w hw => by have := h w (by omega); rw [cnA_coord hw] at this; exact this, fun j hj => ⟨?_, ?_⟩⟩
    · have := h (8 + 2 * j) (by omega); rw [cnA_lo] at this; exact this
    · have := h (9 + 2 * j) (by omega); rw [cnA_hi] at this; omega
  · rintro ⟨h1, h2⟩ c hc
    rcases cnA_split hc with h | ⟨j, hj, rfl⟩ | ⟨j, hj, rfl⟩
    · rw [cnA_coord h]; exact h1 c h
    · rw [cnA_lo]; exact (h2 j hj).1
    · rw [cnA_hi]; have := (h2 j hj).2; omega
/-- fewest rows with one solution: one less than there are unknowns -/
theorem sel_rows {n s : Nat} {ρ : Nat → Nat → Int} {wl : Nat → Nat} {v : Nat → Int} {TS : Nat → Bool} (hwl : ∀ j, j < s → wl j < 8) (hinj : ∀ i j, i < s → j < s → wl i = wl j → i = j) (hv0 : ∀ w, w < 8 → (v w ≠ 0 ↔ ∃ j, j < s ∧ wl j = w)) (hz : nz v) (hTS : ∀ i, i < n → TS i = true → ev (ρ i) v = 0)
    (hker : ∀ y : Nat → Int, (∀ w, w < 8 → y w ≠ 0 → ∃ j, j < s ∧ wl j = w) → (∀ i, i < n → TS i = true → ev (ρ i) y = 0) → prop8 v y) :
    ∃ J : Nat → Bool, ct_in J TS ∧ ct_cd J n + 1 = s ∧ ∀ y : Nat → Int, (∀ w, w < 8 → y w ≠ 0 → ∃ j, j < s ∧ wl j = w) → (∀ i, i < n → J i = true → ev (ρ i) y = 0) → prop8 v y := by
  obtain ⟨k, hk, ⟨J, hJ, hJc, hJk⟩, hmin⟩ := least_ex (fun k => ∃ J : Nat → Bool, ct_in J TS ∧ ct_cd J n = k ∧ ∀ y : Nat → Int, (∀ w, w < 8 → y w ≠ 0 → ∃ j, j < s ∧ wl j = w) → (∀ i, i < n → J i = true → ev (ρ i) y = 0) → prop8 v y) (n + 1) ⟨ct_cd TS n, by have := ct_cd_le TS n; omega, TS, fun _ h => h, rfl, hker⟩
  refine ⟨J, hJ, ?_, hJk⟩
  rw [hJc]
  obtain ⟨w0, hw0, hvw⟩ := hz
  obtain ⟨j0, hj0, ej0⟩ := (hv0 w0 hw0).mp hvw
  rcases Nat.lt_trichotomy (k + 1) s with hlt | heq | hgt
  · -- too few equations
    exfalso
    obtain ⟨b, ⟨j, hj, hbj⟩, hb⟩ := hom_sol (k + 1) s (fun i j => if i < k then ρ (enm J n i) (wl j) else if j = j0 then 1 else 0) (by omega)
    obtain ⟨p, q, hp, hpq⟩ := hJk (spr wl b s) spr_supp (fun i hi hJi => by
      obtain ⟨i', hi', e⟩ := enm_all J n i hi hJi
      have h1 := hb i' (by omega)
      simp only [if_pos (show i' < k by omega), e] at h1
      rw [ev_spr _ hwl]; exact h1)
    have hb0 : b j0 = 0 := by
      have h1 := hb k (by omega)
      simp only [if_neg (Nat.lt_irrefl k)] at h1
      rw [sg_one b j0 s, if_pos hj0] at h1
      exact h1
    have h2 := hpq w0 hw0
    rw [← ej0, spr_at hinj hj0, hb0, Int.mul_zero] at h2
    have hq : q = 0 := by
      rcases Int.mul_eq_zero.mp h2.symm with h | h
      · exact h
      · rw [ej0] at h; exact absurd h hvw
    have h3 := hpq (wl j) (hwl j hj)
    rw [spr_at hinj hj, hq, Int.zero_mul] at h3
    rcases Int.mul_eq_zero.mp h3 with h | h
    · exact hp h
    · exact hbj h
  · exact heq
  · -- too many: one depends on the others
    exfalso
    obtain ⟨s', rfl⟩ : ∃ s', s = s' + 1 := ⟨s - 1, by omega⟩
    obtain ⟨l, ⟨i0, hi0, hl0⟩, hl⟩ := hom_sol s' k (fun j i => ρ (enm J n i) (wl (skp j0 j))) (by omega)
    -- the combination vanishes at every world of v
    have comb0 : ∀ j, j < s' + 1 → sg (fun i => l i * ρ (enm J n i) (wl j)) k = 0 := by
      have off : ∀ j, j < s' + 1 → j ≠ j0 → sg (fun i => l i * ρ (enm J n i) (wl j)) k = 0 := fun j hj hne => by
        obtain ⟨j', hj', e⟩ : ∃ j', j' < s' ∧ skp j0 j' = j := by
          by_cases h : j < j0
          · exact ⟨j, by omega, by unfold skp; rw [if_pos h]⟩
          · exact ⟨j - 1, by omega, by unfold skp; rw [if_neg (by omega)]; omega⟩
        have := hl j' hj'
        rw [e] at this
        rw [← this]
        exact sg_cong fun i _ => by rw [Int.mul_comm]
      intro j hj
      by_cases hne : j = j0
      · subst hne
        have tot : sg (fun j' => sg (fun i => l i * ρ (enm J n i) (wl j')) k * v (wl j')) (s' + 1) = 0 := by
          have e1 : sg (fun j' => sg (fun i => l i * ρ (enm J n i) (wl j')) k * v (wl j')) (s' + 1) = sg (fun i => l i * sg (fun j' => ρ (enm J n i) (wl j') * v (wl j')) (s' + 1)) k := by
            have a1 : sg (fun j' => sg (fun i => l i * ρ (enm J n i) (wl j')) k * v (wl j')) (s' + 1) = sg (fun j' => sg (fun i => l i * (ρ (enm J n i) (wl j') * v (wl j'))) k) (s' + 1) := sg_cong fun j' _ => by
              rw [Int.mul_comm, ← sg_mul]
              exact sg_cong fun i _ => by grind
            rw [a1, sg_swap]
            exact sg_cong fun i _ => by rw [sg_mul]
          rw [e1]
          refine sg_zero fun i hi => ?_
          have hin := enm_in J n i (by omega)
          have hrow := hTS _ hin.1 (hJ _ hin.2)
          have hvs : ev (ρ (enm J n i)) v = ev (ρ (enm J n i)) (spr wl (fun j => v (wl j)) (s' + 1)) := ev_cong fun w hw => by
            by_cases hvz : v w = 0
            · rw [hvz]
              by_cases hex : ∃ j, j < s' + 1 ∧ wl j = w
              · obtain ⟨j, hj, e⟩ := hex
                rw [← e, spr_at hinj hj, e, hvz]
              · rw [spr_off fun j hj e => hex ⟨j, hj, e⟩]
            · obtain ⟨j, hj, e⟩ := (hv0 w hw).mp hvz
              rw [← e, spr_at hinj hj]
          rw [hvs, ev_spr _ hwl] at hrow
          rw [hrow, Int.mul_zero]
        rw [sg_skip _ j s' (by omega)] at tot
        have z : sg (fun j_1 => sg (fun i => l i * ρ (enm J n i) (wl (skp j j_1))) k * v (wl (skp j j_1))) s' = 0 := sg_zero fun j' hj' => by
          rw [off (skp j j') (by unfold skp; split <;> omega) (by unfold skp; split <;> omega), Int.zero_mul]
        rw [z, Int.add_zero] at tot
        rcases Int.mul_eq_zero.mp tot with h | h
        · exact h
        · rw [ej0] at h; exact absurd h hvw
      · exact off j hj hne
    -- without the row i0
    have hin0 := enm_in J n i0 (by omega)
    refine hmin (k - 1) (by omega) ⟨fun i => J i && !decide (i = enm J n i0), fun i h => ?_, ?_, fun y hy hr => ?_⟩
    · simp only [Bool.and_eq_true] at h; exact hJ i h.1
    · have : ∀ m, m ≤ n → ct_cd J m = ct_cd (fun i => J i && !decide (i = enm J n i0)) m + if enm J n i0 < m then 1 else 0 := by
        intro m
        induction m with
        | zero => intro _; rfl
        | succ m ih =>
          intro hm
          have ih := ih (by omega)
          simp only [ct_cd]
          rw [ih]
          by_cases e : m = enm J n i0
          · rw [← e]
            have : J m = true := by rw [e]; exact hin0.2
            simp [this]
          · by_cases h2 : enm J n i0 < m
            · rw [if_pos h2, if_pos (show enm J n i0 < m + 1 by omega)]
              simp [e]; omega
            · rw [if_neg h2, if_neg (show ¬ enm J n i0 < m + 1 by omega)]
              simp [e]
      have := this n (Nat.le_refl n)
      rw [if_pos hin0.1] at this
      omega
    · refine hJk y hy fun i hi hJi => ?_
      by_cases e : i = enm J n i0
      · -- from the others
        have sumz : sg (fun i => l i * ev (ρ (enm J n i)) y) k = 0 := by
          have hys : ∀ r : Nat → Int, ev r y = sg (fun j => r (wl j) * y (wl j)) (s' + 1) := fun r => by
            rw [← ev_spr r (b := fun j => y (wl j)) hwl]
            exact ev_cong fun w hw => by
              by_cases hex : ∃ j, j < s' + 1 ∧ wl j = w
              · obtain ⟨j, hj, e⟩ := hex
                rw [← e, spr_at hinj hj]
              · rw [spr_off fun j hj e => hex ⟨j, hj, e⟩]
                exact Classical.byContradiction fun hne => hex (hy w hw hne)
          have e1 : sg (fun i => l i * ev (ρ (enm J n i)) y) k = sg (fun i => sg (fun j => l i * (ρ (enm J n i) (wl j) * y (wl j))) (s' + 1)) k := sg_cong fun i _ => by rw [hys, sg_mul]
          rw [e1, sg_swap]
          refine sg_zero fun j hj => ?_
          have e2 : sg (fun i => l i * (ρ (enm J n i) (wl j) * y (wl j))) k = y (wl j) * sg (fun i => l i * ρ (enm J n i) (wl j)) k := by
            rw [← sg_mul]
            exact sg_cong fun i _ => by grind
          rw [e2, comb0 j hj, Int.mul_zero]
        obtain ⟨k', rfl⟩ : ∃ k', k = k' + 1 := ⟨k - 1, by omega⟩
        rw [sg_skip _ i0 k' (by omega)] at sumz
        have z : sg (fun j => l (skp i0 j) * ev (ρ (enm J n (skp i0 j))) y) k' = 0 := sg_zero fun j hj => by
          have hlt : skp i0 j < k' + 1 := by unfold skp; split <;> omega
          have hne : skp i0 j ≠ i0 := by unfold skp; split <;> omega
          have hin := enm_in J n (skp i0 j) (by omega)
          rw [hr _ hin.1 (by
            simp only [Bool.and_eq_true, hin.2, true_and]
            have : enm J n (skp i0 j) ≠ enm J n i0 := fun h => hne (enm_inj J n _ _ (by omega) (by omega) h)
            simp [this]), Int.mul_zero]
        rw [z, Int.add_zero] at sumz
        rw [e]
        rcases Int.mul_eq_zero.mp sumz with h | h
        · exact absurd h hl0
        · exact h
      · exact hr i hi (by simp [hJi, e])

theorem tpow_pos {t : Int} (ht : 1 ≤ t) : ∀ m : Nat, 1 ≤ t ^ m
  | 0 => by rw [Int.pow_zero]; exact Int.le_refl _
  | m + 1 => by
    have ih := tpow_pos ht m
    rw [Int.pow_succ]
    have : 1 * 1 ≤ t ^ m * t := Int.mul_le_mul ih ht (by decide) (by omega)
    omega
theorem tpow_mono {t : Int} (ht : 1 ≤ t) (m : Nat) : ∀ d : Nat, t ^ m ≤ t ^ (m + d)
  | 0 => Int.le_refl _
  | d + 1 => by
    have ih := tpow_mono ht m d
    have h1 := tpow_pos ht (m + d)
    rw [← Nat.add_assoc, Int.pow_succ]
    have : t ^ (m + d) * 1 ≤ t ^ (m + d) * t := Int.mul_le_mul_of_nonneg_left ht (by omega)
    omega
theorem sg_lower {f : Nat → Int} {s : Int} : ∀ {n : Nat}, (∀ k, k < n → -s ≤ f k) → -((n : Int) * s) ≤ sg f n
  | 0, _ => by simp [sg]
  | n + 1, h => by
    have ih := sg_lower (f := f) (s := s) (n := n) (fun k hk => h k (by omega))
    have := h n (by omega)
    rw [sg, Int.natCast_add, Int.add_mul]
    simp only [Int.natCast_one, Int.one_mul]
    omega
theorem sg_one_upper {f : Nat → Int} {s : Int} {n : Nat} (hs : 0 ≤ s) (h : ∀ k, k < n → -s ≤ f k) (h0 : sg f n ≤ 0) {c : Nat} (hc : c < n) : f c ≤ (n : Int) * s := by
  obtain ⟨m, rfl⟩ : ∃ m, n = m + 1 := ⟨n - 1, by omega⟩
  rw [sg_skip f c m (by omega)] at h0
  have h1 := sg_lower (f := fun j => f (skp c j)) (s := s) (n := m) (fun k hk => h _ (by unfold skp; split <;> omega))
  rw [Int.natCast_add, Int.add_mul]
  simp only [Int.natCast_one, Int.one_mul]
  omega
def near (a : Nat → Nat → Int) (N : Nat) (t : Int) (v u : Nat → Int) : Prop := ∀ c, c < N → ev (a c) v = 0 → -(16 * su u) ≤ t ^ 2 * ev (a c) u ∧ t ^ 2 * ev (a c) u ≤ 16 * su u
def wsum (a : Nat → Nat → Int) (N : Nat) (v x : Nat → Int) : Int := sg (fun c => if ev (a c) v = 0 then ev (a c) x else 0) N
theorem wsum_lin (a : Nat → Nat → Int) (N : Nat) (v x y : Nat → Int) (p q : Int) : wsum a N v (fun w => p * x w + q * y w) = p * wsum a N v x + q * wsum a N v y := by
  unfold wsum
  rw [← sg_mul, ← sg_mul, ← sg_add]
  refine sg_cong fun c _ => ?_
  by_cases h : ev (a c) v = 0
  · rw [if_pos h, if_pos h, if_pos h, ev_lin]
  · rw [if_neg h, if_neg h, if_neg h]; simp
theorem wsum_cong {a : Nat → Nat → Int} {N : Nat} {v x y : Nat → Int} (h : ∀ w, w < 8 → x w = y w) : wsum a N v x = wsum a N v y := sg_cong fun c _ => by rw [ev_cong h]
theorem wsum_ls (a : Nat → Nat → Int) (N : Nat) (v : Nat → Int) : ∀ s : List (Int × (Nat → Int)), (∀ e ∈ s, 0 ≤ e.1 ∧ 0 < wsum a N v e.2) → 0 ≤ wsum a N v (ls s) ∧ (wsum a N v (ls s) = 0 → ∀ w, ls s w = 0)
  | [], _ => by
    refine ⟨?_, fun _ w => rfl⟩
    have : wsum a N v (ls []) = 0 := sg_zero fun c _ => by
      split
      · exact sg_zero fun k _ => by simp [ls]
      · rfl
    omega
  | e :: s, h => by
    obtain ⟨h1, h2⟩ := wsum_ls a N v s (fun e' he' => h e' (List.mem_cons_of_mem _ he'))
    obtain ⟨h3, h4⟩ := h e List.mem_cons_self
    have e1 : wsum a N v (ls (e :: s)) = e.1 * wsum a N v e.2 + 1 * wsum a N v (ls s) := by
      rw [← wsum_lin]
      exact wsum_cong fun w _ => by simp only [ls]; omega
    have h5 := Int.mul_nonneg h3 (Int.le_of_lt h4)
    rw [e1]
    refine ⟨by omega, fun h0 w => ?_⟩
    have h6 : e.1 = 0 := by
      have : e.1 * wsum a N v e.2 = 0 := by omega
      rcases Int.mul_eq_zero.mp this with h | h
      · exact h
      · omega
    rw [ls, h6, h2 (by omega) w]; simp
/-- near each vertex there is one of the changed cone -/
theorem near_ex {a : Nat → Nat → Int} {N : Nat} (ha : coords a N) (hN2 : N ≤ 16) {t : Int} (ht : 1 ≤ t) {v : Nat → Int} (hv : inC a N v) (hz : nz v) : ∃ u, vtx (pertb a t) N u ∧ near a N t v u := by
  have hsv := su_pos ha hv hz
  have hvb : inC (pertb a t) N v := fun c hc => by
    by_cases h8 : c < 8
    · rw [pertb_lo h8]; exact hv c hc
    · rw [pertb_hi h8]
      have h1 := tpow_pos ht 9
      have h2 := tpow_pos ht (c - 8)
      have m1 := Int.mul_nonneg (show 0 ≤ t ^ 9 by omega) (hv c hc)
      have m2 := Int.mul_nonneg (show 0 ≤ t ^ (c - 8) by omega) (Int.le_of_lt hsv)
      omega
  obtain ⟨k, s, hk, hs, es⟩ := km (pertb_coords ha t) _ v (Nat.le_refl _) hvb
  have hex : ∃ e ∈ s, wsum a N v e.2 ≤ 0 := Classical.byContradiction fun hn => by
    have hall : ∀ e ∈ s, 0 ≤ e.1 ∧ 0 < wsum a N v e.2 := fun e he => ⟨(hs e he).1, Classical.byContradiction fun h => hn ⟨e, he, by omega⟩⟩
    obtain ⟨-, h2⟩ := wsum_ls a N v s hall
    have h3 : wsum a N v (ls s) = k * wsum a N v v + 0 * wsum a N v v := by
      rw [← wsum_lin]
      exact wsum_cong fun w hw => by rw [← es w hw]; omega
    have h4 : wsum a N v v = 0 := sg_zero fun c _ => by
      by_cases h : ev (a c) v = 0
      · rw [if_pos h]; exact h
      · rw [if_neg h]
    have h5 := h2 (by rw [h3, h4]; simp)
    obtain ⟨w, hw, hne⟩ := hz
    have h6 := es w hw
    rw [h5 w] at h6
    rcases Int.mul_eq_zero.mp h6 with h | h
    · omega
    · exact hne h
  obtain ⟨e, he, hW⟩ := hex
  have hu := (hs e he).2.1
  generalize e.2 = u at hu hW
  have hsu := su_pos (pertb_coords ha t) hu.1 hu.2.1
  have low : ∀ c, c < N → -su u ≤ t ^ 2 * ev (a c) u := fun c hc => by
    have h1 := hu.1 c hc
    by_cases h8 : c < 8
    · rw [pertb_lo h8] at h1
      have := Int.mul_nonneg (show 0 ≤ t ^ 2 by have := tpow_pos ht 2; omega) h1
      omega
    · rw [pertb_hi h8] at h1
      have h2 := tpow_mono ht (c - 8) (7 - (c - 8))
      rw [show c - 8 + (7 - (c - 8)) = 7 by omega] at h2
      have h3 : t ^ (c - 8) * su u ≤ t ^ 7 * su u := Int.mul_le_mul_of_nonneg_right h2 (Int.le_of_lt hsu)
      have h4 : 0 ≤ t ^ 7 * (t ^ 2 * ev (a c) u + su u) := by
        have e : t ^ 7 * (t ^ 2 * ev (a c) u + su u) = t ^ 9 * ev (a c) u + t ^ 7 * su u := by grind
        rw [e]; omega
      have h5 := tpow_pos ht 7
      refine Classical.byContradiction fun h6 => ?_
      have h7 : t ^ 7 * (t ^ 2 * ev (a c) u + su u) ≤ t ^ 7 * -1 := Int.mul_le_mul_of_nonneg_left (by omega) (by omega)
      omega
  refine ⟨u, hu, fun c hc h0 => ⟨by have := low c hc; omega, ?_⟩⟩
  have hlow : ∀ k, k < N → -su u ≤ (if ev (a k) v = 0 then t ^ 2 * ev (a k) u else 0) := fun k hk => by
    split
    · exact low k hk
    · omega
  have hsum : sg (fun c => if ev (a c) v = 0 then t ^ 2 * ev (a c) u else 0) N ≤ 0 := by
    have e1 : sg (fun c => if ev (a c) v = 0 then t ^ 2 * ev (a c) u else 0) N = t ^ 2 * wsum a N v u := by
      unfold wsum
      rw [← sg_mul]
      exact sg_cong fun c _ => by split <;> simp
    have h1 := tpow_pos ht 2
    have h2 := Int.mul_nonneg (show 0 ≤ t ^ 2 by omega) (show 0 ≤ -wsum a N v u by omega)
    rw [Int.mul_neg] at h2
    omega
  have h1 := sg_one_upper (Int.le_of_lt hsu) hlow hsum hc
  rw [if_pos h0] at h1
  have h2 : (N : Int) * su u ≤ 16 * su u := Int.mul_le_mul_of_nonneg_right (by omega) (Int.le_of_lt hsu)
  omega
theorem sg_absb (κ g : Nat → Int) {s : Int} (hs : 0 ≤ s) : ∀ n, (∀ c, c < n → -s ≤ g c ∧ g c ≤ s) → -(absb κ n * s) ≤ sg (fun c => κ c * g c) n ∧ sg (fun c => κ c * g c) n ≤ absb κ n * s
  | 0, _ => by simp only [sg, absb]; omega
  | n + 1, h => by
    obtain ⟨h1, h2⟩ := sg_absb κ g hs n (fun c hc => h c (by omega))
    obtain ⟨h3, h4⟩ := h n (by omega)
    simp only [sg, absb]
    rw [Int.add_mul]
    split
    · rename_i hk
      have m1 := Int.mul_nonneg (show 0 ≤ -κ n by omega) (show 0 ≤ s - g n by omega)
      have m2 := Int.mul_nonneg (show 0 ≤ -κ n by omega) (show 0 ≤ s + g n by omega)
      have e1 : -κ n * (s - g n) = -κ n * s + κ n * g n := by grind
      have e2 : -κ n * (s + g n) = -κ n * s - κ n * g n := by grind
      omega
    · rename_i hk
      have m1 := Int.mul_nonneg (show 0 ≤ κ n by omega) (show 0 ≤ s - g n by omega)
      have m2 := Int.mul_nonneg (show 0 ≤ κ n by omega) (show 0 ≤ s + g n by omega)
      have e1 : κ n * (s - g n) = κ n * s - κ n * g n := by grind
      have e2 : κ n * (s + g n) = κ n * s + κ n * g n := by grind
      omega
theorem nat_bnd2 (m : Nat) (β : Nat → Nat → Int) : ∀ n : Nat, ∃ M : Int, 0 ≤ M ∧ ∀ i, i < n → ∀ j, j < m → β i j ≤ M
  | 0 => ⟨0, by decide, fun k hk => absurd hk (Nat.not_lt_zero k)⟩
  | n + 1 => by
    obtain ⟨M, h0, h1⟩ := nat_bnd2 m β n
    obtain ⟨M', h0', h1'⟩ := nat_bnd m (β n)
    refine ⟨M + M', by omega, fun i hi j hj => ?_⟩
    by_cases e : i = n
    · subst e; have := h1' j hj; omega
    · have := h1 i (by omega) j hj; omega
theorem ct_inj {N : Nat} {VB : (Nat → Bool) → Bool} {B : Nat → Nat → Bool} {n : Nat} (h1 : ∀ i, i < n → ct_sp N (B i) ∧ VB (B i) = true) (h2 : ∀ i j, i < n → j < n → B i = B j → i = j) : (n : Int) ≤ ct_ss N (fun S => if VB S = true then 1 else 0) := by
  have e1 : sg (fun i => ct_ss N (fun S => @ite Int (S = B i) (Classical.propDecidable _) 1 0)) n = (n : Int) := by
    have : ∀ m, m ≤ n → sg (fun i => ct_ss N (fun S => @ite Int (S = B i) (Classical.propDecidable _) 1 0)) m = (m : Int) := by
      intro m
      induction m with
      | zero => intro _; rfl
      | succ m ih =>
        intro hm
        rw [sg, ih (by omega), ct_ss_single N (B m) _ (h1 m (by omega)).1 (fun S _ hne => if_neg hne), if_pos rfl]
        omega
    exact this n (Nat.le_refl n)
  rw [← e1, ct_ss_sg]
  refine ct_ss_le fun S _ => ?_
  have each : ∀ m, m ≤ n → (sg (fun i => @ite Int (S = B i) (Classical.propDecidable _) 1 0) m = 0 ∨ (sg (fun i => @ite Int (S = B i) (Classical.propDecidable _) 1 0) m = 1 ∧ ∃ i, i < m ∧ S = B i)) := by
    intro m
    induction m with
    | zero => intro _; exact Or.inl rfl
    | succ m ih =>
      intro hm
      rw [sg]
      by_cases e : S = B m
      · rw [if_pos e]
        rcases ih (by omega) with h | ⟨h, i, hi, hS⟩
        · exact Or.inr ⟨by omega, m, by omega, e⟩
        · have := h2 i m (by omega) (by omega) (hS ▸ e); omega
      · rw [if_neg e]
        rcases ih (by omega) with h | ⟨h, i, hi, hS⟩
        · exact Or.inl (by omega)
        · exact Or.inr ⟨by omega, i, by omega, hS⟩
  rcases each n (Nat.le_refl n) with h | ⟨h, i, hi, hS⟩
  · rw [h]; split <;> decide
  · rw [h, hS, if_pos (h1 i hi).2]; exact Int.le_refl _
/-- THE ROOM: vertices, no two the same, of a cone with N constraints -/
theorem room_bound {a : Nat → Nat → Int} {N : Nat} (ha : coords a N) (hN2 : N ≤ 16) {n : Nat} {V : Nat → Nat → Int} (hV : ∀ i, i < n → vtx a N (V i)) (hd : ∀ i j, i < n → j < n → i ≠ j → ¬ prop8 (V i) (V j)) :
    3 * (n : Int) + 120 ≤ (N : Int) * (((N : Int) - 1) * ((N : Int) - 14) + 60) := by
  obtain ⟨t0, ht0, hsimple⟩ := pert_simple ha hN2
  let f : Nat → Nat → Nat → Nat → Int := fun i j c w => if ev (a c) (V i) = 0 ∨ ev (a c) (V j) = 0 then a c w else 0
  have fev : ∀ i j c y, ev (f i j c) y = if ev (a c) (V i) = 0 ∨ ev (a c) (V j) = 0 then ev (a c) y else 0 := fun i j c y => by
    by_cases h : ev (a c) (V i) = 0 ∨ ev (a c) (V j) = 0
    · rw [if_pos h]; unfold ev; exact sg_cong fun k _ => by simp only [f]; rw [if_pos h]
    · rw [if_neg h]; unfold ev; exact sg_zero fun k _ => by simp only [f]; rw [if_neg h]; simp
  have hκ : ∀ i j, ∃ (κ : Nat → Int), i < n → j < n → i ≠ j → ∃ M : Int, M ≠ 0 ∧ ∀ y, M * su y = sg (fun c => κ c * ev (f i j c) y) N := by
    intro i j
    by_cases hc : i < n ∧ j < n ∧ i ≠ j
    · obtain ⟨hi, hj, hij⟩ := hc
      rcases fred N (f i j) (fun _ => 1) with ⟨y, hy, hl⟩ | ⟨M, κ, hM, h⟩
      · exfalso
        have hyz : nz y := nz_of_ev hl
        obtain ⟨p, q, hp, h1⟩ := (hV i hi).2.2 y (fun c hc h0 => by
          have := hy c hc; rw [fev, if_pos (Or.inl h0)] at this; exact this)
        obtain ⟨p', q', hp', h1'⟩ := (hV j hj).2.2 y (fun c hc h0 => by
          have := hy c hc; rw [fev, if_pos (Or.inr h0)] at this; exact this)
        obtain ⟨w, hw, hne⟩ := hyz
        have hq' : q' ≠ 0 := fun e => by
          have := h1' w hw
          rw [e, Int.zero_mul] at this
          exact (Int.mul_ne_zero hp' hne) this
        refine hd i j hi hj hij ⟨p * q', p' * q, Int.mul_ne_zero hp hq', fun w hw => ?_⟩
        have e1 := h1 w hw
        have e2 := h1' w hw
        grind
      · exact ⟨κ, fun _ _ _ => ⟨M, hM, h⟩⟩
    · exact ⟨fun _ => 0, fun h1 h2 h3 => absurd ⟨h1, h2, h3⟩ hc⟩
  obtain ⟨κ, hκ⟩ : ∃ κ : Nat → Nat → Nat → Int, ∀ i j, i < n → j < n → i ≠ j → ∃ M : Int, M ≠ 0 ∧ ∀ y, M * su y = sg (fun c => κ i j c * ev (f i j c) y) N :=
    ⟨fun i j => Classical.choose (hκ i j), fun i j => Classical.choose_spec (hκ i j)⟩
  obtain ⟨K, hK0, hK⟩ := nat_bnd2 n (fun i j => absb (κ i j) N) n
  let t : Int := t0 + 16 * K + 1
  have ht1 : 1 ≤ t := by simp only [t]; omega
  have htK : 16 * K < t := by simp only [t]; omega
  have hs := hsimple t (by simp only [t]; omega)
  generalize t = t at ht1 htK hs
  have hu : ∀ i, ∃ u, i < n → vtx (pertb a t) N u ∧ near a N t (V i) u := fun i => by
    by_cases hi : i < n
    · obtain ⟨u, h1, h2⟩ := near_ex ha hN2 ht1 (hV i hi).1 (hV i hi).2.1
      exact ⟨u, fun _ => ⟨h1, h2⟩⟩
    · exact ⟨fun _ => 0, fun h => absurd h hi⟩
  obtain ⟨u, hu⟩ : ∃ u : Nat → Nat → Int, ∀ i, i < n → vtx (pertb a t) N (u i) ∧ near a N t (V i) (u i) := ⟨fun i => Classical.choose (hu i), fun i => Classical.choose_spec (hu i)⟩
  have hco := pertb_coords ha t
  have h7 : ∀ x, vtx (pertb a t) N x → ct_cd (tgt (pertb a t) N x) N = 7 := fun x hx => by
    have h1 := hs x hx.1 hx.2.1
    have h2 := vtx_seven hx
    omega
  have tot := simple_total hco hN2 h7
  have cnt := ct_inj (N := N) (VB := vB (pertb a t) N) (B := fun i => tgt (pertb a t) N (u i)) (n := n) (fun i hi => ⟨tgt_sp _ _ _, vB_iff.mpr ⟨u i, (hu i hi).1, rfl⟩⟩) (fun i j hi hj he => by
    refine Classical.byContradiction fun hij => ?_
    obtain ⟨vi, ni⟩ := hu i hi
    obtain ⟨vj, nj⟩ := hu j hj
    obtain ⟨M, hM, hMκ⟩ := hκ i j hi hj hij
    have hsi := su_pos hco vi.1 vi.2.1
    have hsj := su_pos hco vj.1 vj.2.1
    obtain ⟨p, q, hp, hpq⟩ := tight_prop vi (y := u j) (fun e he' h1 => by
      have : tgt (pertb a t) N (u j) e = true := by rw [← he]; exact h1
      exact (tgt_iff.mp this).2)
    have hev : ∀ c, p * ev (a c) (u j) = q * ev (a c) (u i) := fun c => by rw [← ev_smul, ← ev_smul]; exact ev_cong hpq
    have hsu : p * su (u j) = q * su (u i) := by unfold su; rw [← ev_smul, ← ev_smul]; exact ev_cong hpq
    have hcr : ∀ c, su (u i) * ev (a c) (u j) = su (u j) * ev (a c) (u i) := fun c => by
      have h1 := hev c
      have h2 : p * (su (u i) * ev (a c) (u j) - su (u j) * ev (a c) (u i)) = 0 := by grind
      rcases Int.mul_eq_zero.mp h2 with h | h
      · exact absurd h hp
      · omega
    have nji : near a N t (V j) (u i) := fun c hc h0 => by
      obtain ⟨b1, b2⟩ := nj c hc h0
      have h1 := hcr c
      have m1 := Int.mul_nonneg (Int.le_of_lt hsi) (show 0 ≤ t ^ 2 * ev (a c) (u j) + 16 * su (u j) by omega)
      have m2 := Int.mul_nonneg (Int.le_of_lt hsi) (show 0 ≤ 16 * su (u j) - t ^ 2 * ev (a c) (u j) by omega)
      have e1 : su (u i) * (t ^ 2 * ev (a c) (u j) + 16 * su (u j)) = su (u j) * (t ^ 2 * ev (a c) (u i) + 16 * su (u i)) := by grind
      have e2 : su (u i) * (16 * su (u j) - t ^ 2 * ev (a c) (u j)) = su (u j) * (16 * su (u i) - t ^ 2 * ev (a c) (u i)) := by grind
      rw [e1] at m1
      rw [e2] at m2
      constructor
      · refine Classical.byContradiction fun h => ?_
        have : su (u j) * (t ^ 2 * ev (a c) (u i) + 16 * su (u i)) ≤ su (u j) * -1 := Int.mul_le_mul_of_nonneg_left (by omega) (Int.le_of_lt hsj)
        omega
      · refine Classical.byContradiction fun h => ?_
        have : su (u j) * (16 * su (u i) - t ^ 2 * ev (a c) (u i)) ≤ su (u j) * -1 := Int.mul_le_mul_of_nonneg_left (by omega) (Int.le_of_lt hsj)
        omega
    obtain ⟨s1, s2⟩ := sg_absb (κ i j) (fun c => t ^ 2 * ev (f i j c) (u i)) (s := 16 * su (u i)) (by omega) N (fun c hc => by
      rw [fev]
      by_cases h : ev (a c) (V i) = 0 ∨ ev (a c) (V j) = 0
      · rw [if_pos h]
        rcases h with h | h
        · exact ni c hc h
        · exact nji c hc h
      · rw [if_neg h]; simp; omega)
    have e3 : sg (fun c => κ i j c * (t ^ 2 * ev (f i j c) (u i))) N = t ^ 2 * (M * su (u i)) := by
      rw [hMκ, ← sg_mul]
      exact sg_cong fun c _ => by grind
    rw [e3] at s1 s2
    have hA := hK i hi j hj
    have hA2 : absb (κ i j) N * (16 * su (u i)) ≤ K * (16 * su (u i)) := Int.mul_le_mul_of_nonneg_right hA (by omega)
    have hb : K * (16 * su (u i)) < t * su (u i) := by
      have : 16 * K * su (u i) < t * su (u i) := Int.mul_lt_mul_of_pos_right htK hsi
      have e : K * (16 * su (u i)) = 16 * K * su (u i) := by grind
      omega
    have ht2 : t ≤ t ^ 2 := by
      have := tpow_mono ht1 1 1
      rw [Int.pow_succ, Int.pow_zero, Int.one_mul] at this
      exact this
    have hc2 : t * su (u i) ≤ t ^ 2 * su (u i) := Int.mul_le_mul_of_nonneg_right ht2 (Int.le_of_lt hsi)
    have hp2 : 0 < t ^ 2 * su (u i) := by
      have := Int.mul_pos (show 0 < t ^ 2 by have := tpow_pos ht1 2; omega) hsi
      exact this
    rcases Int.lt_or_gt_of_ne hM with h | h
    · have h5 : t ^ 2 * (M * su (u i)) ≤ -(t ^ 2 * su (u i)) := by
        have h6 : (t ^ 2 * su (u i)) * M ≤ (t ^ 2 * su (u i)) * -1 := Int.mul_le_mul_of_nonneg_left (by omega) (Int.le_of_lt hp2)
        have e : t ^ 2 * (M * su (u i)) = (t ^ 2 * su (u i)) * M := by grind
        omega
      omega
    · have h5 : t ^ 2 * su (u i) ≤ t ^ 2 * (M * su (u i)) := by
        have h6 : (t ^ 2 * su (u i)) * 1 ≤ (t ^ 2 * su (u i)) * M := Int.mul_le_mul_of_nonneg_left (by omega) (Int.le_of_lt hp2)
        have e : t ^ 2 * (M * su (u i)) = (t ^ 2 * su (u i)) * M := by grind
        omega
      omega)
  omega

/-! a list that generates a cone -/
def gens (c : Nat) (E : Nat → Nat → Int) (x : Nat → Int) : Prop := ∃ (κ : Int) (μ : Nat → Int), 0 < κ ∧ (∀ e, e < c → 0 ≤ μ e) ∧ ∀ w, w < 8 → κ * x w = sg (fun e => μ e * E e w) c
theorem gens_add {c : Nat} {E : Nat → Nat → Int} {x y u : Nat → Int} {p q r : Int} (hx : gens c E x) (hy : gens c E y) (hp : 0 ≤ p) (hq : 0 ≤ q) (hr : 0 < r) (h : ∀ w, w < 8 → r * u w = p * x w + q * y w) : gens c E u := by
  obtain ⟨k, μ, hk, hμ, e1⟩ := hx
  obtain ⟨l, ν, hl, hν, e2⟩ := hy
  refine ⟨k * l * r, fun e => l * p * μ e + k * q * ν e, Int.mul_pos (Int.mul_pos hk hl) hr, fun e he => ?_, fun w hw => ?_⟩
  · have a := Int.mul_nonneg (Int.mul_nonneg (Int.le_of_lt hl) hp) (hμ e he)
    have b := Int.mul_nonneg (Int.mul_nonneg (Int.le_of_lt hk) hq) (hν e he)
    dsimp only
    omega
  · have e3 : sg (fun e => (l * p * μ e + k * q * ν e) * E e w) c = (l * p) * sg (fun e => μ e * E e w) c + (k * q) * sg (fun e => ν e * E e w) c := by
      rw [← sg_mul, ← sg_mul, ← sg_add]
      exact sg_cong fun e _ => by grind
    rw [e3, ← e1 w hw, ← e2 w hw]
    have := h w hw
    grind
theorem gens_zero (c : Nat) (E : Nat → Nat → Int) {x : Nat → Int} (h : ∀ w, w < 8 → x w = 0) : gens c E x := ⟨1, fun _ => 0, by decide, fun _ _ => Int.le_refl _, fun w hw => by rw [h w hw]; exact (sg_zero fun k _ => by simp).symm⟩
theorem gens_ls {a : Nat → Nat → Int} {N c : Nat} {E : Nat → Nat → Int} (hv : ∀ u, vtx a N u → gens c E u) : ∀ s : List (Int × (Nat → Int)), (∀ e ∈ s, 0 ≤ e.1 ∧ vtx a N e.2) → gens c E (ls s)
  | [], _ => gens_zero c E fun w _ => rfl
  | e :: s, h => by
    have ih := gens_ls hv s (fun e' he' => h e' (List.mem_cons_of_mem _ he'))
    obtain ⟨h1, h2⟩ := h e List.mem_cons_self
    exact gens_add (p := e.1) (q := 1) (r := 1) (hv e.2 h2) ih h1 (by decide) (by decide) (fun w _ => by rw [ls]; omega)
theorem gens_comb {a : Nat → Nat → Int} {N c : Nat} {E : Nat → Nat → Int} {z x : Nat → Int} (hv : ∀ u, vtx a N u → gens c E u) (h : comb a N z x) : gens c E x := by
  obtain ⟨k, s, hk, hs, es⟩ := h
  obtain ⟨κ, μ, hκ, hμ, e⟩ := gens_ls hv s (fun e he => ⟨(hs e he).1, (hs e he).2.1⟩)
  exact ⟨κ * k, μ, Int.mul_pos hκ hk, hμ, fun w hw => by rw [← e w hw, ← es w hw]; grind⟩
/-- two points of the orthant, one a multiple of the other -/
theorem prop_pos {v x : Nat → Int} (hv : 0 < su v) (hx : 0 < su x) (h : prop8 v x) : ∀ w, w < 8 → su v * x w = su x * v w := by
  obtain ⟨p, q, hp, h⟩ := h
  have e1 : p * su x = q * su v := by unfold su; rw [← ev_smul, ← ev_smul]; exact ev_cong h
  intro w hw
  have := h w hw
  have e2 : p * (su v * x w - su x * v w) = 0 := by grind
  rcases Int.mul_eq_zero.mp e2 with e | e
  · exact absurd e hp
  · omega
theorem gens_prop {c : Nat} {E : Nat → Nat → Int} {v : Nat → Int} {e : Nat} (he : e < c) (hv : 0 < su v) (hx : 0 < su (E e)) (h : prop8 v (E e)) : gens c E v := by
  refine ⟨su (E e), fun i => if i = e then su v else 0, hx, fun i _ => by dsimp only; split <;> omega, fun w hw => ?_⟩
  have e1 : sg (fun i => (if i = e then su v else 0) * E i w) c = sg (fun i => (if i = e then 1 else 0) * (su v * E i w)) c := sg_cong fun i _ => by split <;> simp
  rw [e1, sg_one _ e c, if_pos he]
  exact (prop_pos hv hx h w hw).symm
/-- E generates what P says -/
def cmpl (P : (Nat → Int) → Prop) (c : Nat) (E : Nat → Nat → Int) : Prop := (∀ e, e < c → P (E e) ∧ 0 < su (E e)) ∧ ∀ x, P x → gens c E x
theorem su_pos' {x : Nat → Int} (h : ∀ w, w < 8 → 0 ≤ x w) (hz : nz x) : 0 < su x := by
  have h6 : 0 ≤ su x := sg_nonneg fun k hk => by rw [Int.one_mul]; exact h k hk
  refine Classical.byContradiction fun hlt => ?_
  obtain ⟨w, hw, hne⟩ := hz
  exact hne (su_zero_all h (by omega) w hw)
/-- the set's constraints in their order -/
theorem inS_cn {sy : Nat → Int32} {wd wi : Int32} {n : Nat} {set : Int32} {x : Nat → Int} : inS sy wd wi n set x ↔ inC (cnA (fun j => rowOf sy wd wi (enm (hb set) n j) 0) (fun j => rowOf sy wd wi (enm (hb set) n j) 1)) (8 + 2 * ct_cd (hb set) n) x := by
  rw [cnA_inC]
  unfold inS
  refine and_congr Iff.rfl ⟨fun h j hj => ?_, fun h i hi hs => ?_⟩
  · have := enm_in (hb set) n j hj
    exact h _ this.1 this.2
  · obtain ⟨j, hj, e⟩ := enm_all (hb set) n i hi hs
    have := h j hj
    rw [e] at this
    exact this
theorem vtx_hits {sy : Nat → Int32} {wd wi : Int32} {n : Nat} {set : Int32} (hn : n ≤ 4) {v : Nat → Int} (hv : vtx (cnA (fun j => rowOf sy wd wi (enm (hb set) n j) 0) (fun j => rowOf sy wd wi (enm (hb set) n j) 1)) (8 + 2 * ct_cd (hb set) n) v) :
    ∃ W, 0 < W ∧ W < 256 ∧ ct_cd (hb (nI W)) 8 ≤ 5 ∧ ∃ σ, σ < 2 ^ n ∧ (nI σ &&& (set ^^^ (-1 : Int32))) = 0 ∧ ct_cd (hb (nI σ)) 8 = ct_cd (hb (nI W)) 8 - 1 ∧ ∃ q, q < 2 ^ (ct_cd (hb (nI W)) 8 - 1) ∧ hits sy wd wi n set (ct_cd (hb (nI W)) 8) (enm (hb (nI W)) 8) (enm (hb (nI σ)) n) (sdOf q) v := by
  have hin := inS_cn.mpr hv.1
  obtain ⟨W, hW, hWb⟩ := mask8 (fun w => decide (v w ≠ 0))
  have hW0 : 0 < W := Classical.byContradiction fun h => by
    have : W = 0 := by omega
    subst this
    obtain ⟨w, hw, hne⟩ := hv.2.1
    have h1 := hWb w hw
    have h2 : ∀ w, w < 8 → hb (nI 0) w = false := by decide
    rw [h2 w hw] at h1
    simp [hne] at h1
  have hwl : ∀ j, j < ct_cd (hb (nI W)) 8 → enm (hb (nI W)) 8 j < 8 := fun j hj => (enm_in _ _ j hj).1
  have hinj : ∀ i j, i < ct_cd (hb (nI W)) 8 → j < ct_cd (hb (nI W)) 8 → enm (hb (nI W)) 8 i = enm (hb (nI W)) 8 j → i = j := fun i j hi hj => enm_inj _ _ i j hi hj
  have hv0 : ∀ w, w < 8 → (v w ≠ 0 ↔ ∃ j, j < ct_cd (hb (nI W)) 8 ∧ enm (hb (nI W)) 8 j = w) := fun w hw => by
    constructor
    · intro h
      exact enm_all _ _ w hw (by rw [hWb w hw]; exact decide_eq_true h)
    · rintro ⟨j, hj, e⟩
      have := (enm_in _ _ j hj).2
      rw [e, hWb w hw] at this
      exact of_decide_eq_true this
  -- the tight sayings, one side of each
  let sd : Nat → Nat := fun i => if ev (rowOf sy wd wi i 0) v = 0 then 0 else 1
  let TS : Nat → Bool := fun i => hb set i && (decide (ev (rowOf sy wd wi i 0) v = 0) || decide (ev (rowOf sy wd wi i 1) v = 0))
  have hTS : ∀ i, i < n → TS i = true → ev (rowOf sy wd wi i (sd i)) v = 0 := fun i hi h => by
    simp only [TS, Bool.and_eq_true, Bool.or_eq_true, decide_eq_true_eq] at h
    simp only [sd]
    by_cases h0 : ev (rowOf sy wd wi i 0) v = 0
    · rw [if_pos h0]; exact h0
    · rw [if_neg h0]; rcases h.2 with h1 | h1
      · exact absurd h1 h0
      · exact h1
  have hker : ∀ y : Nat → Int, (∀ w, w < 8 → y w ≠ 0 → ∃ j, j < ct_cd (hb (nI W)) 8 ∧ enm (hb (nI W)) 8 j = w) → (∀ i, i < n → TS i = true → ev (rowOf sy wd wi i (sd i)) y = 0) → prop8 v y := fun y hy hr => by
    have hy0 : ∀ w, w < 8 → v w = 0 → y w = 0 := fun w hw h => Classical.byContradiction fun hne => (hv0 w hw).mpr (hy w hw hne) h
    refine hv.2.2 y fun c hc h0 => ?_
    rcases cnA_split hc with h | ⟨j, hj, rfl⟩ | ⟨j, hj, rfl⟩
    · rw [cnA_coord h] at h0 ⊢; exact hy0 c h h0
    · rw [cnA_lo] at h0 ⊢
      obtain ⟨e1, e2⟩ := enm_in (hb set) n j hj
      have := hr _ e1 (by simp only [TS, Bool.and_eq_true, Bool.or_eq_true, decide_eq_true_eq]; exact ⟨e2, Or.inl h0⟩)
      simp only [sd, if_pos h0] at this
      exact this
    · rw [cnA_hi] at h0 ⊢
      obtain ⟨e1, e2⟩ := enm_in (hb set) n j hj
      have h0' : ev (rowOf sy wd wi (enm (hb set) n j) 1) v = 0 := by omega
      have := hr _ e1 (by simp only [TS, Bool.and_eq_true, Bool.or_eq_true, decide_eq_true_eq]; exact ⟨e2, Or.inr h0'⟩)
      by_cases hl : ev (rowOf sy wd wi (enm (hb set) n j) 0) v = 0
      · simp only [sd, if_pos hl] at this
        have s1 := row_sides sy wd wi (enm (hb set) n j) v
        have s2 := row_sides sy wd wi (enm (hb set) n j) y
        rw [hl, h0'] at s1
        rw [this] at s2
        rcases Int.mul_eq_zero.mp (show (en sy wd wi (enm (hb set) n j) 1 - en sy wd wi (enm (hb set) n j) 0) * ev (fun w => if hb (sy (5 * enm (hb set) n j + 1)) w then 1 else 0) v = 0 by omega) with h | h
        · rw [h, Int.zero_mul] at s2; omega
        · have hz := sg_all_zero (f := fun w => (if hb (sy (5 * enm (hb set) n j + 1)) w then 1 else 0) * v w) (n := 8) (fun k hk => by
            have := hin.1 k hk
            split <;> simp <;> exact this) h
          have hzy : ev (fun w => if hb (sy (5 * enm (hb set) n j + 1)) w then 1 else 0) y = 0 := sg_zero fun w hw => by
            have := hz w hw
            cases hbw : hb (sy (5 * enm (hb set) n j + 1)) w
            · dsimp only; rw [hbw]; simp
            · rw [hbw] at this
              simp at this
              rw [hy0 w hw this]; simp
          rw [hzy, Int.mul_zero] at s2
          omega
      · simp only [sd, if_neg hl] at this
        omega
  obtain ⟨J, hJ, hJc, hJk⟩ := sel_rows (n := n) (s := ct_cd (hb (nI W)) 8) (ρ := fun i => rowOf sy wd wi i (sd i)) (wl := enm (hb (nI W)) 8) (v := v) (TS := TS) hwl hinj hv0 hv.2.1 hTS hker
  obtain ⟨σ, hσ, hσb⟩ := mask8 (fun i => decide (i < n) && J i)
  have hσn : σ < 2 ^ n := mask_lt n (by omega) σ hσ (fun i hi hin' => by rw [hσb i hi]; simp; omega)
  have hσJ : ∀ i, i < n → hb (nI σ) i = J i := fun i hi => by rw [hσb i (by omega)]; simp [hi]
  have hcd : ct_cd (hb (nI σ)) 8 = ct_cd J n := by rw [← low_bits n (by omega) σ hσn]; exact ct_cd_cong hσJ
  have hle := ct_cd_le J n
  obtain ⟨q, hq, hqb⟩ := mask8 (fun i => decide (i < ct_cd J n) && decide (sd (enm J n i) = 1))
  have hq2 : q < 2 ^ ct_cd J n := mask_lt _ (by omega) q hq (fun i hi hin' => by rw [hqb i hi]; simp; omega)
  have hs1 : ct_cd (hb (nI W)) 8 - 1 = ct_cd J n := by omega
  have htt : ∀ i, enm (hb (nI σ)) n i = enm J n i := fun i => enm_cong hσJ i
  have hsd : ∀ i, i + 1 < ct_cd (hb (nI W)) 8 → sdOf q i = sd (enm J n i) := fun i hi => by
    unfold sdOf
    rw [hqb i (by omega)]
    have : i < ct_cd J n := by omega
    simp only [this, decide_true, Bool.true_and]
    simp only [sd]
    split <;> simp
  refine ⟨W, hW0, hW, by omega, σ, hσn, mask_sub hσ (fun i hi h => ?_), by rw [hcd]; omega, q, by rw [hs1]; exact hq2, hin, hv.2.1, fun w hw h => (hv0 w hw).mp h, fun i hi => ?_, fun y hy hr => hJk y hy fun i hi hJi => ?_⟩
  · rw [hσb i hi] at h
    simp only [Bool.and_eq_true] at h
    have := hJ i h.2
    simp only [TS, Bool.and_eq_true] at this
    exact this.1
  · rw [htt i, hsd i hi]
    have := enm_in J n i (by omega)
    exact hTS _ this.1 (hJ _ this.2)
  · obtain ⟨i', hi', e⟩ := enm_all J n i hi hJi
    have := hr i' (by omega)
    rw [htt i', hsd i' (by omega), e] at this
    exact this
/-- WHAT THE REFERENCE LISTS generates the rows that can be -/
theorem f_list {sy : Nat → Int32} {wd wi : Int32} {n K : Nat} {set : Int32} {wo ti : Nat → Int32} {up dn sm nw : Nat → Int64} (hK : 1000 ≤ K) (hsy : syOK sy n) (hw : wiOK wi) :
    ∃ r, lp (f_X9_loads_L63 K 40 38400 4800 5 4 30 8 (nI n) wd wi sy set) K ((1 : Int32), (0 : Int32), up, dn, wo, ti, sm, nw) = some r ∧ ∃ c' up' dn' wo' ti' sm' nw', r = (nI c', up', dn', wo', ti', sm', nw') ∧ c' ≤ 4712 ∧ lst sy wd wi n set c' up' dn' ∧ cmpl (inS sy wd wi n set) c' (ent up') := by
  obtain ⟨r, h1, c', up', dn', wo', ti', sm', nw', rfl, h2, h3, h4⟩ := f_worldsets (set := set) (wo := wo) (ti := ti) (up := up) (dn := dn) (sm := sm) (nw := nw) (wd := wd) hK hsy hw
  refine ⟨_, h1, c', up', dn', wo', ti', sm', nw', rfl, h2, h3, fun e he => ⟨(h3 e he).1, by rw [(h3 e he).2.1]; exact (h3 e he).2.2.1⟩, fun x hx => ?_⟩
  refine gens_comb (fun v hv => ?_) (km (cnA_coords _ _ _) _ x (Nat.le_refl _) (inS_cn.mp hx))
  obtain ⟨W, a1, a2, a3, σ, a4, a5, a6, q, a7, a8⟩ := vtx_hits hsy.1 hv
  obtain ⟨e, he, hp⟩ := h4 W a1 a2 a3 σ a4 a5 a6 q a7 v a8
  exact gens_prop he (su_pos (cnA_coords _ _ _) hv.1 hv.2.1) (by rw [(h3 e he).2.1]; exact (h3 e he).2.2.1) hp

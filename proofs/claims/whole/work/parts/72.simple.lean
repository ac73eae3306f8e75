/-! cones of which no point but 0 lies on eight constraints: each face has one least vertex -/
def su (x : Nat → Int) : Int := ev (fun _ => 1) x
theorem su_lin (x y : Nat → Int) (p q : Int) : su (fun w => p * x w + q * y w) = p * su x + q * su y := ev_lin _ x y p q
theorem sg_nonneg {f : Nat → Int} : ∀ {n : Nat}, (∀ k, k < n → 0 ≤ f k) → 0 ≤ sg f n
  | 0, _ => Int.le_refl _
  | n + 1, h => by
    have := sg_nonneg (f := f) (n := n) (fun k hk => h k (by omega))
    have := h n (by omega)
    rw [sg]; omega
theorem sg_all_zero {f : Nat → Int} : ∀ {n : Nat}, (∀ k, k < n → 0 ≤ f k) → sg f n = 0 → ∀ k, k < n → f k = 0
  | 0, _, _, k, hk => absurd hk (Nat.not_lt_zero k)
  | n + 1, h, h0, k, hk => by
    have h1 := sg_nonneg (f := f) (n := n) (fun k hk => h k (by omega))
    have h2 := h n (by omega)
    rw [sg] at h0
    by_cases e : k = n
    · subst e; omega
    · exact sg_all_zero (f := f) (n := n) (fun k hk => h k (by omega)) (by omega) k (by omega)
theorem inC_pos {a : Nat → Nat → Int} {N : Nat} (ha : coords a N) {x : Nat → Int} (hx : inC a N x) : ∀ w, w < 8 → 0 ≤ x w := fun w hw => by
  have := hx w (by have := ha.1; omega)
  rw [ha.2 w hw] at this; exact this
theorem su_pos {a : Nat → Nat → Int} {N : Nat} (ha : coords a N) {x : Nat → Int} (hx : inC a N x) (hz : nz x) : 0 < su x := by
  have h1 : ∀ k, k < 8 → 0 ≤ 1 * x k := fun k hk => by rw [Int.one_mul]; exact inC_pos ha hx k hk
  have h2 : 0 ≤ su x := sg_nonneg h1
  refine Classical.byContradiction fun hlt => ?_
  have e : 0 = su x := by omega
  obtain ⟨w, hw, hne⟩ := hz
  have h3 := sg_all_zero h1 e.symm w hw
  rw [Int.one_mul] at h3
  exact hne h3
theorem su_zero_all {x : Nat → Int} (h : ∀ w, w < 8 → 0 ≤ x w) (h0 : su x = 0) : ∀ w, w < 8 → x w = 0 := fun w hw => by
  have := sg_all_zero (f := fun k => 1 * x k) (fun k hk => by rw [Int.one_mul]; exact h k hk) h0 w hw
  rw [Int.one_mul] at this; exact this
/-- the constraints that are tight -/
def tgt (a : Nat → Nat → Int) (N : Nat) (x : Nat → Int) : Nat → Bool := fun c => decide (c < N) && decide (ev (a c) x = 0)
theorem tgt_iff {a : Nat → Nat → Int} {N : Nat} {x : Nat → Int} {c : Nat} : tgt a N x c = true ↔ c < N ∧ ev (a c) x = 0 := by simp [tgt]
theorem tgt_sp (a : Nat → Nat → Int) (N : Nat) (x : Nat → Int) : ct_sp N (tgt a N x) := fun k hk => by
  have : ¬ k < N := by omega
  simp [tgt, this]
/-- the members of a set, one by one -/
theorem enum (S : Nat → Bool) : ∀ n : Nat, ∃ T : Nat → Nat, (∀ i, i < ct_cd S n → T i < n ∧ S (T i) = true) ∧ ∀ c, c < n → S c = true → ∃ i, i < ct_cd S n ∧ T i = c
  | 0 => ⟨fun _ => 0, fun i hi => absurd hi (by simp [ct_cd]), fun c hc => absurd hc (Nat.not_lt_zero c)⟩
  | n + 1 => by
    obtain ⟨T, h1, h2⟩ := enum S n
    by_cases hn : S n = true
    · refine ⟨fun i => if i = ct_cd S n then n else T i, fun i hi => ?_, fun c hc hs => ?_⟩
      · rw [ct_cd, if_pos hn] at hi
        by_cases e : i = ct_cd S n
        · simp only [if_pos e]; exact ⟨by omega, hn⟩
        · simp only [if_neg e]; have := h1 i (by omega); exact ⟨by omega, this.2⟩
      · rw [ct_cd, if_pos hn]
        by_cases e : c = n
        · exact ⟨ct_cd S n, by omega, by simp [e]⟩
        · obtain ⟨i, hi, he⟩ := h2 c (by omega) hs
          exact ⟨i, by omega, by simp only [if_neg (show ¬ i = ct_cd S n by omega)]; exact he⟩
    · refine ⟨T, fun i hi => ?_, fun c hc hs => ?_⟩
      · rw [ct_cd, if_neg hn] at hi
        have := h1 i (by omega); exact ⟨by omega, this.2⟩
      · rw [ct_cd, if_neg hn]
        have : c ≠ n := fun e => hn (e ▸ hs)
        obtain ⟨i, hi, he⟩ := h2 c (by omega) hs
        exact ⟨i, by omega, he⟩
/-- a vertex lies on seven constraints at least -/
theorem vtx_seven {a : Nat → Nat → Int} {N : Nat} {x : Nat → Int} (hx : vtx a N x) : 7 ≤ ct_cd (tgt a N x) N := by
  refine Classical.byContradiction fun hlt => ?_
  obtain ⟨T, -, hT⟩ := enum (tgt a N x) N
  generalize ct_cd (tgt a N x) N = t at hlt hT
  obtain ⟨w0, hw0, h0⟩ := hx.2.1
  obtain ⟨v, ⟨j, hj, hvj⟩, hv⟩ := hom_sol (t + 1) 8 (fun i j => if i < t then a (T i) j else (if j = w0 then 1 else 0)) (by omega)
  have v0 : v w0 = 0 := by
    have h2 := hv t (by omega)
    simp only [if_neg (Nat.lt_irrefl t)] at h2
    rw [sg_one v w0 8, if_pos hw0] at h2
    exact h2
  obtain ⟨p, q, hp, h⟩ := hx.2.2 v (fun c hc hc0 => by
    obtain ⟨i, hi, e⟩ := hT c hc (tgt_iff.mpr ⟨hc, hc0⟩)
    have h2 := hv i (by omega)
    simp only [if_pos hi] at h2
    rw [← e]; exact h2)
  have e0 := h w0 hw0
  rw [v0, Int.mul_zero] at e0
  rcases Int.mul_eq_zero.mp e0.symm with e | e
  · have ej := h j hj
    rw [e, Int.zero_mul] at ej
    rcases Int.mul_eq_zero.mp ej with e1 | e1
    · exact hp e1
    · exact hvj e1
  · exact h0 e
/-- an order of directions -/
def ordr (pos : (Nat → Int) → Prop) : Prop := (∀ d (k : Int), 0 < k → pos d → pos (fun w => k * d w)) ∧ (∀ d e : Nat → Int, pos d → pos e → pos (fun w => d w + e w)) ∧ (∀ d, nz d → pos d ∨ pos (fun w => -1 * d w)) ∧ (∀ d, pos d → ¬ pos (fun w => -1 * d w)) ∧ ∀ d e : Nat → Int, (∀ w, w < 8 → d w = e w) → pos d → pos e
theorem ordr_nz {pos : (Nat → Int) → Prop} (ho : ordr pos) {d : Nat → Int} (h : pos d) : nz d := Classical.byContradiction fun hn => by
  have z : ∀ w, w < 8 → d w = 0 := fun w hw => Classical.byContradiction fun h1 => hn ⟨w, hw, h1⟩
  exact ho.2.2.2.1 d h (ho.2.2.2.2 d _ (fun w hw => by rw [z w hw]; rfl) h)
theorem ordr_div {pos : (Nat → Int) → Prop} (ho : ordr pos) {d : Nat → Int} {k : Int} (hk : 0 < k) (h : pos (fun w => k * d w)) : pos d := by
  obtain ⟨w, hw, hne⟩ := ordr_nz ho h
  have : nz d := ⟨w, hw, fun e => hne (by simp only [e, Int.mul_zero])⟩
  rcases ho.2.2.1 d this with h1 | h1
  · exact h1
  · have h2 := ho.1 _ k hk h1
    exact absurd (ho.2.2.2.2 _ (fun w => -1 * (k * d w)) (fun w _ => by grind) h2) (ho.2.2.2.1 _ h)
/-- the direction of the edge that leaves the constraint c of the vertex B -/
def edg (a : Nat → Nat → Int) (N : Nat) (B : Nat → Bool) (c : Nat) (d : Nat → Int) : Prop := (∀ e, e < N → B e = true → e ≠ c → ev (a e) d = 0) ∧ 0 < ev (a c) d ∧ su d = 0
theorem tight_prop {a : Nat → Nat → Int} {N : Nat} {u y : Nat → Int} (hu : vtx a N u) (hy : ∀ e, e < N → tgt a N u e = true → ev (a e) y = 0) : prop8 u y :=
  hu.2.2 y fun c hc h0 => hy c hc (tgt_iff.mpr ⟨hc, h0⟩)
theorem tight_zero {a : Nat → Nat → Int} {N : Nat} (ha : coords a N) {u y : Nat → Int} (hu : vtx a N u) (hy : ∀ e, e < N → tgt a N u e = true → ev (a e) y = 0) (h0 : su y = 0) : ∀ w, w < 8 → y w = 0 := by
  obtain ⟨p, q, hp, h⟩ := tight_prop hu hy
  have e1 : p * su y = q * su u := by
    unfold su; rw [← ev_smul, ← ev_smul]; exact ev_cong h
  have := su_pos ha hu.1 hu.2.1
  rw [h0, Int.mul_zero] at e1
  have hq : q = 0 := by
    rcases Int.mul_eq_zero.mp e1.symm with e | e
    · exact e
    · omega
  intro w hw
  have := h w hw
  rw [hq, Int.zero_mul] at this
  rcases Int.mul_eq_zero.mp this with e | e
  · exact absurd e hp
  · exact e
theorem edg_ex {a : Nat → Nat → Int} {N : Nat} (ha : coords a N) {u : Nat → Int} (hu : vtx a N u) (h7 : ct_cd (tgt a N u) N = 7) {c : Nat} (hc : tgt a N u c = true) : ∃ d, edg a N (tgt a N u) c d := by
  obtain ⟨T, hT1, hT⟩ := enum (fun e => tgt a N u e && !decide (e = c)) N
  have hcN := (tgt_iff.mp hc).1
  have h6 : ct_cd (fun e => tgt a N u e && !decide (e = c)) N = 6 := by
    have : ∀ n, n ≤ N → ct_cd (tgt a N u) n = ct_cd (fun e => tgt a N u e && !decide (e = c)) n + if c < n then 1 else 0 := by
      intro n
      induction n with
      | zero => intro _; rfl
      | succ n ih =>
        intro hn
        have ih := ih (by omega)
        simp only [ct_cd]
        rw [ih]
        by_cases e : n = c
        · subst e
          simp [hc]
        · by_cases h2 : c < n
          · rw [if_pos h2, if_pos (show c < n + 1 by omega)]
            simp [e]; omega
          · rw [if_neg h2, if_neg (show ¬ c < n + 1 by omega)]
            simp [e]
    have := this N (Nat.le_refl N)
    rw [if_pos hcN] at this
    omega
  rw [h6] at hT
  obtain ⟨v, ⟨j, hj, hvj⟩, hv⟩ := hom_sol 7 8 (fun i j => if i < 6 then a (T i) j else 1) (by omega)
  have hs : su v = 0 := by
    have h2 := hv 6 (by omega)
    simp only [if_neg (Nat.lt_irrefl 6)] at h2
    exact h2
  have ht : ∀ e, e < N → tgt a N u e = true → e ≠ c → ev (a e) v = 0 := fun e he h1 h2 => by
    obtain ⟨i, hi, hie⟩ := hT e he (by simp [h1, h2])
    have h3 := hv i (by omega)
    simp only [if_pos hi] at h3
    rw [← hie]; exact h3
  have hne : ev (a c) v ≠ 0 := fun h0 => hvj (tight_zero ha hu (fun e he h1 => by
    by_cases ec : e = c
    · rw [ec]; exact h0
    · exact ht e he h1 ec) hs j hj)
  rcases Int.lt_or_gt_of_ne hne with h | h
  · refine ⟨fun w => -1 * v w, fun e he h1 h2 => by rw [ev_smul, ht e he h1 h2]; rfl, by rw [ev_smul]; omega, ?_⟩
    unfold su at hs ⊢
    rw [ev_smul, hs]; rfl
  · exact ⟨v, ht, h, hs⟩
/-- one direction, but for its length -/
theorem edg_one {a : Nat → Nat → Int} {N : Nat} (ha : coords a N) {u : Nat → Int} (hu : vtx a N u) {c : Nat} {d d' : Nat → Int} (h1 : edg a N (tgt a N u) c d) (h2 : edg a N (tgt a N u) c d') : ∀ w, w < 8 → ev (a c) d' * d w = ev (a c) d * d' w := by
  have z := tight_zero (y := fun w => ev (a c) d' * d w + -ev (a c) d * d' w) ha hu (fun e he hB => by
    rw [ev_lin]
    by_cases ec : e = c
    · subst ec; grind
    · rw [h1.1 e he hB ec, h2.1 e he hB ec]; simp) (by rw [su_lin, h1.2.2, h2.2.2]; simp)
  intro w hw
  have := z w hw
  grind
theorem edg_pos {a : Nat → Nat → Int} {N : Nat} (ha : coords a N) {pos : (Nat → Int) → Prop} (ho : ordr pos) {u : Nat → Int} (hu : vtx a N u) {c : Nat} {d d' : Nat → Int} (h1 : edg a N (tgt a N u) c d) (h2 : edg a N (tgt a N u) c d') (hp : pos d) : pos d' := by
  have e := edg_one ha hu h1 h2
  exact ordr_div ho h1.2.1 (ho.2.2.2.2 _ _ e (ho.1 d _ h2.2.1 hp))
/-- all of a face lies ahead of a vertex whose edges within it go ahead -/
theorem face_pos {a : Nat → Nat → Int} {N : Nat} (ha : coords a N) {pos : (Nat → Int) → Prop} (ho : ordr pos) {u : Nat → Int} (hu : vtx a N u) {T : Nat → Bool} (hd : ∀ c, tgt a N u c = true → T c = false → ∃ d, edg a N (tgt a N u) c d ∧ pos d) :
    ∀ (n : Nat) (D : Nat → Int), n ≤ N → su D = 0 → (∀ e, e < N → tgt a N u e = true → 0 ≤ ev (a e) D) → (∀ e, e < N → tgt a N u e = true → T e = true → ev (a e) D = 0) → (∀ e, n ≤ e → e < N → tgt a N u e = true → ev (a e) D = 0) → (∀ w, w < 8 → D w = 0) ∨ pos D := by
  intro n
  induction n with
  | zero =>
    intro D _ hs _ _ h0
    exact Or.inl (tight_zero ha hu (fun e he hB => h0 e (Nat.zero_le e) he hB) hs)
  | succ n ih =>
    intro D hn hs hnn hT h0
    by_cases hz : tgt a N u n = true ∧ ev (a n) D ≠ 0
    · obtain ⟨hB, hne⟩ := hz
      have hTn : T n = false := by
        cases h : T n
        · rfl
        · exact absurd (hT n (by omega) hB h) hne
      have hpos : 0 < ev (a n) D := by have := hnn n (by omega) hB; omega
      obtain ⟨d, hed, hpd⟩ := hd n hB hTn
      have := ih (fun w => ev (a n) d * D w + -ev (a n) D * d w) (by omega) (by rw [su_lin, hs, hed.2.2]; simp) (fun e he h1 => by
          rw [ev_lin]
          by_cases ec : e = n
          · subst ec
            have : ev (a e) d * ev (a e) D + -ev (a e) D * ev (a e) d = 0 := by grind
            omega
          · rw [hed.1 e he h1 ec, Int.mul_zero, Int.add_zero]
            exact Int.mul_nonneg (Int.le_of_lt hed.2.1) (hnn e he h1)) (fun e he h1 h2 => by
          have ec : e ≠ n := fun ec => by rw [ec, hTn] at h2; exact absurd h2 (by decide)
          rw [ev_lin, hed.1 e he h1 ec, hT e he h1 h2]; simp) (fun e h1 h2 h3 => by
          rw [ev_lin]
          by_cases ec : e = n
          · subst ec; grind
          · rw [hed.1 e h2 h3 ec, h0 e (by omega) h2 h3]; simp)
      right
      have hb := ho.1 d _ hpos hpd
      rcases this with h | h
      · refine ordr_div ho hed.2.1 (ho.2.2.2.2 _ _ (fun w hw => ?_) hb)
        have := h w hw
        grind
      · refine ordr_div ho hed.2.1 (ho.2.2.2.2 _ _ (fun w hw => ?_) (ho.2.1 _ _ h hb))
        grind
    · exact ih D (by omega) hs hnn hT (fun e h1 h2 h3 => by
        by_cases e0 : e = n
        · subst e0
          exact Classical.byContradiction fun h => hz ⟨h3, h⟩
        · exact h0 e (by omega) h2 h3)

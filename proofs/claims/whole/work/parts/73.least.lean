/-- along an edge until another constraint becomes tight: a vertex -/
theorem edge_walk {a : Nat → Nat → Int} {N : Nat} (ha : coords a N) {u d : Nat → Int} {c : Nat} (hu : vtx a N u) (hc : tgt a N u c = true) (hd : edg a N (tgt a N u) c d) :
    ∃ D m : Int, 0 < D ∧ 0 < m ∧ vtx a N (fun w => D * u w + m * d w) ∧ ∀ e, e < N → tgt a N u e = true → e ≠ c → ev (a e) (fun w => D * u w + m * d w) = 0 := by
  have hcN := (tgt_iff.mp hc).1
  have hex : ∃ e, e < N ∧ ev (a e) d < 0 := Classical.byContradiction fun hn => by
    have hC : inC a N d := fun e he => by
      refine Classical.byContradiction fun h => hn ⟨e, he, by omega⟩
    have z := su_zero_all (inC_pos ha hC) hd.2.2
    have : ev (a c) d = 0 := sg_zero fun k hk => by rw [z k hk, Int.mul_zero]
    have := hd.2.1
    omega
  obtain ⟨e0, he0, hP, hm⟩ := minratio (fun e => ev (a e) d < 0) (fun e => ev (a e) u) (fun e => -ev (a e) d) N (fun e _ h => by omega) hex
  have hu0 : 0 < ev (a e0) u := by
    have h1 := hu.1 e0 he0
    refine Classical.byContradiction fun hlt => ?_
    have h2 : 0 = ev (a e0) u := by omega
    have ht : tgt a N u e0 = true := tgt_iff.mpr ⟨he0, h2.symm⟩
    by_cases ec : e0 = c
    · subst ec; have := hd.2.1; omega
    · have := hd.1 e0 he0 ht ec; omega
  have ht : ∀ e, e < N → tgt a N u e = true → e ≠ c → ev (a e) (fun w => -ev (a e0) d * u w + ev (a e0) u * d w) = 0 := fun e he h1 h2 => by
    rw [ev_lin, hd.1 e he h1 h2, (tgt_iff.mp h1).2]; simp
  have hz0 : ev (a e0) (fun w => -ev (a e0) d * u w + ev (a e0) u * d w) = 0 := by rw [ev_lin]; grind
  have hsu := su_pos ha hu.1 hu.2.1
  refine ⟨-ev (a e0) d, ev (a e0) u, by omega, hu0, ⟨fun e he => ?_, ?_, fun y hy => ?_⟩, ht⟩
  · rw [ev_lin]
    by_cases hdn : ev (a e) d < 0
    · have h1 := hm e he hdn
      have e1 : ev (a e0) u * -ev (a e) d = -(ev (a e0) u * ev (a e) d) := by grind
      have e2 : ev (a e) u * -ev (a e0) d = -ev (a e0) d * ev (a e) u := by grind
      omega
    · have h1 : 0 ≤ -ev (a e0) d * ev (a e) u := Int.mul_nonneg (by omega) (hu.1 e he)
      have h2 : 0 ≤ ev (a e0) u * ev (a e) d := Int.mul_nonneg (by omega) (by omega)
      omega
  · refine nz_of_ev (a := fun _ => 1) ?_
    have e1 := su_lin u d (-ev (a e0) d) (ev (a e0) u)
    unfold su at e1 hsu
    have h2 := hd.2.2
    unfold su at h2
    rw [e1, h2]
    have := Int.mul_pos (show 0 < -ev (a e0) d by omega) hsu
    omega
  · obtain ⟨p, q, hp, h⟩ := tight_prop (y := fun w => ev (a c) d * y w + -ev (a c) y * d w) hu (fun e he h1 => by
      rw [ev_lin]
      by_cases ec : e = c
      · subst ec; grind
      · rw [hd.1 e he h1 ec, hy e he (ht e he h1 ec)]; simp)
    have h0 := hy e0 he0 hz0
    have hev : p * (ev (a c) d * ev (a e0) y + -ev (a c) y * ev (a e0) d) = q * ev (a e0) u := by
      rw [← ev_lin, ← ev_smul, ← ev_smul]
      exact ev_cong h
    rw [h0] at hev
    refine ⟨ev (a e0) u * (p * ev (a c) d), p * ev (a c) y, Int.mul_ne_zero (by omega) (Int.mul_ne_zero hp (by have := hd.2.1; omega)), fun w hw => ?_⟩
    have h3 := h w hw
    grind
def isV (a : Nat → Nat → Int) (N : Nat) (B : Nat → Bool) : Prop := ∃ u, vtx a N u ∧ B = tgt a N u
noncomputable def vB (a : Nat → Nat → Int) (N : Nat) : (Nat → Bool) → Bool := fun B => @decide (isV a N B) (Classical.propDecidable _)
noncomputable def dB (a : Nat → Nat → Int) (N : Nat) (pos : (Nat → Int) → Prop) : (Nat → Bool) → Nat → Bool := fun B c => @decide (B c = true ∧ ∃ d, edg a N B c d ∧ pos (fun w => -1 * d w)) (Classical.propDecidable _)
theorem vB_iff {a : Nat → Nat → Int} {N : Nat} {B : Nat → Bool} : vB a N B = true ↔ isV a N B := by simp only [vB, decide_eq_true_eq]
theorem dB_iff {a : Nat → Nat → Int} {N : Nat} {pos : (Nat → Int) → Prop} {B : Nat → Bool} {c : Nat} : dB a N pos B c = true ↔ B c = true ∧ ∃ d, edg a N B c d ∧ pos (fun w => -1 * d w) := by simp only [dB, decide_eq_true_eq]
/-- x stands before y -/
def bef (pos : (Nat → Int) → Prop) (x y : Nat → Int) : Prop := pos (fun w => su x * y w + -su y * x w)
theorem bef_trans {pos : (Nat → Int) → Prop} (ho : ordr pos) {x y z : Nat → Int} (hx : 0 < su x) (hy : 0 < su y) (hz : 0 < su z) (h1 : bef pos x y) (h2 : bef pos y z) : bef pos x z :=
  ordr_div ho hy (ho.2.2.2.2 _ _ (fun w _ => by grind) (ho.2.1 _ _ (ho.1 _ _ hz h1) (ho.1 _ _ hx h2)))
theorem bef_prop {pos : (Nat → Int) → Prop} (ho : ordr pos) {x y : Nat → Int} (h : prop8 x y) : ¬ bef pos y x := by
  obtain ⟨p, q, hp, h⟩ := h
  intro hb
  obtain ⟨w, hw, hne⟩ := ordr_nz ho hb
  have e1 : p * su y = q * su x := by
    unfold su; rw [← ev_smul, ← ev_smul]; exact ev_cong h
  have := h w hw
  have e2 : p * (su y * x w + -su x * y w) = 0 := by grind
  rcases Int.mul_eq_zero.mp e2 with e | e
  · exact hp e
  · exact hne e
noncomputable def rnk (a : Nat → Nat → Int) (N : Nat) (pos : (Nat → Int) → Prop) (u : Nat → Int) : Int := ct_ss N (fun B => @ite Int (∃ v, vtx a N v ∧ B = tgt a N v ∧ bef pos v u) (Classical.propDecidable _) 1 0)
theorem ct_ss_lt {n : Nat} {f g : (Nat → Bool) → Int} (B0 : Nat → Bool) (h0 : ct_sp n B0) (h : ∀ B, ct_sp n B → f B ≤ g B) (hlt : f B0 < g B0) : ct_ss n f < ct_ss n g := by
  have e1 := ct_ss_single n B0 (fun B => @ite Int (B = B0) (Classical.propDecidable _) 1 0) h0 (fun B _ hne => if_neg hne)
  rw [if_pos rfl] at e1
  have e2 : ct_ss n (fun B => f B + @ite Int (B = B0) (Classical.propDecidable _) 1 0) ≤ ct_ss n g := ct_ss_le fun B hB => by
    by_cases e : B = B0
    · subst e; rw [if_pos rfl]; omega
    · rw [if_neg e]; have := h B hB; omega
  rw [ct_ss_add, e1] at e2
  omega
theorem rnk_nonneg {a : Nat → Nat → Int} {N : Nat} {pos : (Nat → Int) → Prop} {u : Nat → Int} : 0 ≤ rnk a N pos u := by
  have := ct_ss_le (n := N) (f := fun _ => 0) (g := fun B => @ite Int (∃ v, vtx a N v ∧ B = tgt a N v ∧ bef pos v u) (Classical.propDecidable _) 1 0) (fun B _ => by split <;> decide)
  rw [ct_ss_zero] at this
  exact this
theorem rnk_lt {a : Nat → Nat → Int} {N : Nat} (ha : coords a N) {pos : (Nat → Int) → Prop} (ho : ordr pos) {z u : Nat → Int} (hz : vtx a N z) (hu : vtx a N u) (h : bef pos z u) : rnk a N pos z < rnk a N pos u := by
  refine ct_ss_lt (tgt a N z) (tgt_sp a N z) (fun B _ => ?_) ?_
  · by_cases h1 : ∃ v, vtx a N v ∧ B = tgt a N v ∧ bef pos v z
    · obtain ⟨v, v1, v2, v3⟩ := h1
      rw [if_pos ⟨v, v1, v2, v3⟩, if_pos ⟨v, v1, v2, bef_trans ho (su_pos ha v1.1 v1.2.1) (su_pos ha hz.1 hz.2.1) (su_pos ha hu.1 hu.2.1) v3 h⟩]
      exact Int.le_refl _
    · rw [if_neg h1]; split <;> decide
  · rw [if_neg, if_pos ⟨z, hz, rfl, h⟩]
    · decide
    · rintro ⟨v, v1, v2, v3⟩
      refine bef_prop ho (tight_prop hz fun e he h1 => ?_) v3
      rw [v2] at h1
      exact (tgt_iff.mp h1).2
theorem tgt_eq_of_prop {a : Nat → Nat → Int} {N : Nat} {u v : Nat → Int} (hv : nz v) (h : prop8 u v) : ct_in (tgt a N u) (tgt a N v) := by
  intro c hc
  obtain ⟨p, q, hp, h⟩ := h
  obtain ⟨h1, h2⟩ := tgt_iff.mp hc
  refine tgt_iff.mpr ⟨h1, ?_⟩
  have e : p * ev (a c) v = q * ev (a c) u := by rw [← ev_smul, ← ev_smul]; exact ev_cong h
  rw [h2, Int.mul_zero] at e
  rcases Int.mul_eq_zero.mp e with e | e
  · exact absurd e hp
  · exact e
theorem ct_in_eq {S T : Nat → Bool} (h1 : ct_in S T) (h2 : ct_in T S) : S = T := funext fun k => by
  cases hS : S k
  · cases hT : T k
    · rfl
    · rw [h2 k hT] at hS; exact absurd hS (by decide)
  · rw [h1 k hS]
/-- each face has exactly one vertex of which all that goes back leaves the face -/
theorem one_least {a : Nat → Nat → Int} {N : Nat} (ha : coords a N) {pos : (Nat → Int) → Prop} (ho : ordr pos) (h7 : ∀ u, vtx a N u → ct_cd (tgt a N u) N = 7) (T : Nat → Bool) (hex : ∃ B, vB a N B = true ∧ ct_in T B) :
    ∃ B, vB a N B = true ∧ ct_in (dB a N pos B) T ∧ ct_in T B ∧ ∀ B', vB a N B' = true → ct_in (dB a N pos B') T → ct_in T B' → B' = B := by
  have ex : ∀ (n : Nat) (u : Nat → Int), vtx a N u → ct_in T (tgt a N u) → (rnk a N pos u).toNat ≤ n → ∃ u', vtx a N u' ∧ ct_in T (tgt a N u') ∧ ct_in (dB a N pos (tgt a N u')) T := by
    intro n
    induction n with
    | zero =>
      intro u hu hT hr
      refine ⟨u, hu, hT, fun c hc => Classical.byContradiction fun hn => ?_⟩
      obtain ⟨h1, d, hd, hp⟩ := dB_iff.mp hc
      obtain ⟨D, m, hD, hm, hz, ht⟩ := edge_walk ha hu h1 hd
      have hsu := su_pos ha hu.1 hu.2.1
      have hb : bef pos (fun w => D * u w + m * d w) u := by
        refine ho.2.2.2.2 _ _ (fun w _ => ?_) (ho.1 _ _ (Int.mul_pos hm hsu) hp)
        rw [su_lin, hd.2.2]; grind
      have := rnk_lt ha ho hz hu hb
      have := rnk_nonneg (a := a) (N := N) (pos := pos) (u := fun w => D * u w + m * d w)
      omega
    | succ n ih =>
      intro u hu hT hr
      by_cases hdn : ct_in (dB a N pos (tgt a N u)) T
      · exact ⟨u, hu, hT, hdn⟩
      · obtain ⟨c, hc, hcT⟩ : ∃ c, dB a N pos (tgt a N u) c = true ∧ T c ≠ true := Classical.byContradiction fun hn => hdn fun c hc => Classical.byContradiction fun h => hn ⟨c, hc, h⟩
        obtain ⟨h1, d, hd, hp⟩ := dB_iff.mp hc
        obtain ⟨D, m, hD, hm, hz, ht⟩ := edge_walk ha hu h1 hd
        have hsu := su_pos ha hu.1 hu.2.1
        have hb : bef pos (fun w => D * u w + m * d w) u := by
          refine ho.2.2.2.2 _ _ (fun w _ => ?_) (ho.1 _ _ (Int.mul_pos hm hsu) hp)
          rw [su_lin, hd.2.2]; grind
        have h2 := rnk_lt ha ho hz hu hb
        have h3 := rnk_nonneg (a := a) (N := N) (pos := pos) (u := fun w => D * u w + m * d w)
        refine ih _ hz (fun e he => ?_) (by omega)
        have heB := hT e he
        have heN := (tgt_iff.mp heB).1
        exact tgt_iff.mpr ⟨heN, ht e heN heB fun ec => hcT (ec ▸ he)⟩
  obtain ⟨B0, hB0, hT0⟩ := hex
  obtain ⟨u0, hu0, rfl⟩ := vB_iff.mp hB0
  obtain ⟨u, hu, hT, hdn⟩ := ex _ u0 hu0 hT0 (Nat.le_refl _)
  have ahead : ∀ u v, vtx a N u → vtx a N v → ct_in T (tgt a N u) → ct_in T (tgt a N v) → ct_in (dB a N pos (tgt a N u)) T → (∀ w, w < 8 → su u * v w + -su v * u w = 0) ∨ bef pos u v := by
    intro u v hu hv hTu hTv hdn
    refine face_pos (T := T) ha ho hu (fun c hc hcT => ?_) N (fun w => su u * v w + -su v * u w) (Nat.le_refl N) (by rw [su_lin]; grind) (fun e he h1 => ?_) (fun e he h1 h2 => ?_) (fun e h1 h2 _ => absurd h1 (by omega))
    · obtain ⟨d, hd⟩ := edg_ex ha hu (h7 u hu) hc
      refine ⟨d, hd, ?_⟩
      have hdz : nz d := nz_of_ev (a := a c) (by have := hd.2.1; omega)
      rcases ho.2.2.1 d hdz with h | h
      · exact h
      · have := hdn c (dB_iff.mpr ⟨hc, d, hd, h⟩)
        rw [hcT] at this; exact absurd this (by decide)
    · rw [ev_lin, (tgt_iff.mp h1).2, Int.mul_zero, Int.add_zero]
      exact Int.mul_nonneg (Int.le_of_lt (su_pos ha hu.1 hu.2.1)) (hv.1 e he)
    · rw [ev_lin, (tgt_iff.mp h1).2, (tgt_iff.mp (hTv e h2)).2]; simp
  refine ⟨tgt a N u, vB_iff.mpr ⟨u, hu, rfl⟩, hdn, hT, fun B' hB' hdn' hT' => ?_⟩
  obtain ⟨v, hv, rfl⟩ := vB_iff.mp hB'
  have hsu := su_pos ha hu.1 hu.2.1
  have hsv := su_pos ha hv.1 hv.2.1
  have same : (∀ w, w < 8 → su u * v w + -su v * u w = 0) → tgt a N v = tgt a N u := fun h => by
    refine ct_in_eq (tgt_eq_of_prop hu.2.1 ⟨su v, su u, by omega, fun w hw => by have := h w hw; grind⟩) (tgt_eq_of_prop hv.2.1 ⟨su u, su v, by omega, fun w hw => by have := h w hw; grind⟩)
  rcases ahead u v hu hv hT hT' hdn with h | h
  · exact same h
  · rcases ahead v u hv hu hT' hT hdn' with h' | h'
    · exact same fun w hw => by have := h' w hw; grind
    · refine absurd (ho.2.2.2.2 _ _ (fun w _ => ?_) h') (ho.2.2.2.1 _ h)
      grind

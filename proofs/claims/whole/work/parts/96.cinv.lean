/-! the class's cut: what its loops keep -/
theorem hb_or (a b : Int32) (k : Nat) : hb (a ||| b) k = (hb a k || hb b k) := by
  unfold hb; rw [Int32.toBitVec_or, BitVec.getLsbD_or]
theorem hb_zero (k : Nat) : hb 0 k = false := by
  unfold hb
  exact BitVec.getLsbD_zero
theorem bitOf_inj {c d : Nat} (h : bitOf c = bitOf d) : c = d := by unfold bitOf at h; split at h <;> split at h <;> omega
def bitsAt (t : Nat) (fb tb : Int32) : Prop := ∀ k, k < 32 → hb fb k = decide (k = 10 + 2 * t) ∧ hb tb k = decide (k = 11 + 2 * t)
theorem lims_ok {lo hi : Nat → Nat → Int} {t : Nat} {l : Int32} {x : Nat → Int} (ht : t ≤ 4) (h : lims lo hi t l x) : okBits l := fun k hk hbk => by
  obtain ⟨c, hc, rfl, -⟩ := (h k hk).mp hbk
  unfold bitOf; split <;> omega
theorem lims_iff {lo hi : Nat → Nat → Int} {t c : Nat} {l : Int32} {x : Nat → Int} (ht : t ≤ 4) (h : lims lo hi t l x) (hc : c < 8 + 2 * t) : hb l (bitOf c) = true ↔ ev (cnA lo hi c) x = 0 := by
  rw [h (bitOf c) (by unfold bitOf; split <;> omega)]
  constructor
  · rintro ⟨d, _, e, h0⟩; rw [bitOf_inj e]; exact h0
  · intro h0; exact ⟨c, hc, rfl, h0⟩
theorem lims_ext {lo hi : Nat → Nat → Int} {t : Nat} {l met fb tb : Int32} {x : Nat → Int} (h : lims lo hi t l x) (hbt : bitsAt t fb tb) (hm : ∀ k, k < 32 → hb met k = (hb l k || ((hb fb k && decide (ev (cnA lo hi (8 + 2 * t)) x = 0)) || (hb tb k && decide (ev (cnA lo hi (8 + 2 * t + 1)) x = 0))))) : lims lo hi (t + 1) met x := by
  intro k hk
  rw [hm k hk, (hbt k hk).1, (hbt k hk).2]
  simp only [Bool.or_eq_true, Bool.and_eq_true, decide_eq_true_eq]
  constructor
  · rintro (h1 | ⟨h1, h2⟩ | ⟨h1, h2⟩)
    · obtain ⟨c, hc, e, h0⟩ := (h k hk).mp h1
      exact ⟨c, by omega, e, h0⟩
    · exact ⟨8 + 2 * t, by omega, by unfold bitOf; rw [if_neg (by omega)]; omega, h2⟩
    · exact ⟨8 + 2 * t + 1, by omega, by unfold bitOf; rw [if_neg (by omega)]; omega, h2⟩
  · rintro ⟨c, hc, e, h0⟩
    by_cases h1 : c < 8 + 2 * t
    · exact Or.inl ((h k hk).mpr ⟨c, h1, e, h0⟩)
    · rcases (show c = 8 + 2 * t ∨ c = 8 + 2 * t + 1 by omega) with rfl | rfl
      · exact Or.inr (Or.inl ⟨by rw [e]; unfold bitOf; rw [if_neg (by omega)]; omega, h0⟩)
      · exact Or.inr (Or.inr ⟨by rw [e]; unfold bitOf; rw [if_neg (by omega)]; omega, h0⟩)
theorem lims_cross {lo hi : Nat → Nat → Int} {t nb M p q : Nat} {V : Nat → Nat → Int} {lp lq : Int32} (hV : ∀ i, i < nb → vtx (cnA lo hi) (8 + 2 * t) (V i)) (hX : isX (cnA lo hi) (8 + 2 * t) nb V M p q) (hp : lims lo hi t lp (V p)) (hq : lims lo hi t lq (V q)) : lims lo hi t (lp &&& lq) (cv (cnA lo hi) M V p q) := by
  intro k hk
  rw [hb_and, Bool.and_eq_true, hp k hk, hq k hk]
  constructor
  · rintro ⟨⟨c, hc, e, h0⟩, ⟨d, hd, e', h0'⟩⟩
    have := bitOf_inj (e ▸ e' : bitOf c = bitOf d)
    subst this
    exact ⟨c, hc, e, (cv_nonneg (cnA_coords lo hi t) hV hX c hc).2.mpr ⟨h0, h0'⟩⟩
  · rintro ⟨c, hc, e, h0⟩
    obtain ⟨h1, h2⟩ := (cv_nonneg (cnA_coords lo hi t) hV hX c hc).2.mp h0
    exact ⟨⟨c, hc, e, h1⟩, ⟨c, hc, e, h2⟩⟩
theorem ct_cd_add (S : Nat → Bool) (a : Nat) : ∀ m, ct_cd S (a + m) = ct_cd S a + ct_cd (fun k => S (a + k)) m
  | 0 => rfl
  | m + 1 => by rw [← Nat.add_assoc, ct_cd, ct_cd_add S a m, ct_cd]; omega
/-- what isEdge says -/
theorem edge_iff {lo hi : Nat → Nat → Int} {t nb p q K : Nat} {P : Nat → Int64} {L : Nat → Int32} (ht : t ≤ 4) (hx : xct lo hi t nb P L) (hKc : nb < K) (hnb : nb ≤ roomOf t) (hp : p < nb) (hq : q < nb) (hpq : p ≠ q) :
    (f_X0_isEdge K (roomOf t) (nI nb) L (nI p) (nI q) = some 1 ∧ edgeP (cnA lo hi) (8 + 2 * t) (ent P p) (ent P q)) ∨ (f_X0_isEdge K (roomOf t) (nI nb) L (nI p) (nI q) = some 0 ∧ ¬ edgeP (cnA lo hi) (8 + 2 * t) (ent P p) (ent P q)) := by
  obtain ⟨⟨hv, hd⟩, hall⟩ := hx
  have ha := cnA_coords lo hi t
  have hroom : roomOf t ≤ 440 := by unfold roomOf; split <;> omega
  have both : ∀ c, c < 8 + 2 * t → ev (cnA lo hi c) (fun w => 1 * ent P p w + 1 * ent P q w) = 0 → ev (cnA lo hi c) (ent P p) = 0 ∧ ev (cnA lo hi c) (ent P q) = 0 := fun c hc h0 => by
    rw [ev_lin] at h0
    have g1 := (hv p hp).1.1 c hc
    have g2 := (hv q hq).1.1 c hc
    exact ⟨by omega, by omega⟩
  -- a corner that is tight on all shared limits
  have third : ∀ r, r < nb → ((∀ k, k < 32 → hb (L p) k = true → hb (L q) k = true → hb (L r) k = true) ↔ sub (cnA lo hi) (8 + 2 * t) (fun w => 1 * ent P p w + 1 * ent P q w) (ent P r)) := fun r hr => by
    constructor
    · intro h c hc h0
      obtain ⟨h1, h2⟩ := both c hc h0
      exact (lims_iff ht (hv r hr).2.2 hc).mp (h _ (by unfold bitOf; split <;> omega) ((lims_iff ht (hv p hp).2.2 hc).mpr h1) ((lims_iff ht (hv q hq).2.2 hc).mpr h2))
    · intro h k hk h1 h2
      obtain ⟨c, hc, e, g1⟩ := ((hv p hp).2.2 k hk).mp h1
      obtain ⟨d, hd', e', g2⟩ := ((hv q hq).2.2 k hk).mp h2
      have := bitOf_inj (e ▸ e' : bitOf c = bitOf d)
      subst this
      exact ((hv r hr).2.2 k hk).mpr ⟨c, hc, e, h c hc (by rw [ev_lin, g1, g2]; rfl)⟩
  rcases f_isEdge (K := K) (L := L) (nl := roomOf t) hKc hnb (by omega) hp hq (fun r hr => lims_ok ht (hv r hr).2.2) with ⟨h1, h2⟩ | ⟨h1, h2⟩
  · refine Or.inl ⟨h1, fun y hy => edge_span ha (hv p hp).1.1 (hv q hq).1.1 (fun r hr hs => ?_) hy⟩
    obtain ⟨m, hm, hmr⟩ := hall r hr
    have hsm : sub (cnA lo hi) (8 + 2 * t) (fun w => 1 * ent P p w + 1 * ent P q w) (ent P m) := fun c hc h0 => prop8_ev (prop8_symm hr.2.1 hmr) (hs c hc h0)
    by_cases e1 : m = p
    · rw [← e1]; exact Or.inl hmr
    · by_cases e2 : m = q
      · rw [← e2]; exact Or.inr hmr
      · exact absurd ((third m hm).mpr hsm) (h2 m hm e1 e2)
  · refine Or.inr ⟨h1, fun hedge => ?_⟩
    rcases h2 with h2 | ⟨r, hr, e1, e2, h3⟩
    · refine edge_six (a := cnA lo hi) (N := 8 + 2 * t) (p := ent P p) (q := ent P q) hedge (hv p hp).1.2.1 (hd p q hp hq hpq) (t := ct_cd (tgt (cnA lo hi) (8 + 2 * t) (fun w => 1 * ent P p w + 1 * ent P q w)) (8 + 2 * t)) (T := enm (tgt (cnA lo hi) (8 + 2 * t) (fun w => 1 * ent P p w + 1 * ent P q w)) (8 + 2 * t)) ?_ (fun c hc h0 => enm_all _ _ c hc (tgt_iff.mpr ⟨hc, h0⟩))
      have into : ∀ c, c < 8 + 2 * t → tgt (cnA lo hi) (8 + 2 * t) (fun w => 1 * ent P p w + 1 * ent P q w) c = true → hb (L p &&& L q) (bitOf c) = true := fun c hc h0 => by
        obtain ⟨g1, g2⟩ := both c hc (tgt_iff.mp h0).2
        rw [hb_and, (lims_iff ht (hv p hp).2.2 hc).mpr g1, (lims_iff ht (hv q hq).2.2 hc).mpr g2]; rfl
      rw [ct_cd_add]
      have m1 : ct_cd (tgt (cnA lo hi) (8 + 2 * t) (fun w => 1 * ent P p w + 1 * ent P q w)) 8 ≤ ct_cd (fun k => hb (L p &&& L q) k) 8 := by
        have e : ct_cd (tgt (cnA lo hi) (8 + 2 * t) (fun w => 1 * ent P p w + 1 * ent P q w)) 8 = ct_cd (fun k => decide (k < 8) && tgt (cnA lo hi) (8 + 2 * t) (fun w => 1 * ent P p w + 1 * ent P q w) k) 8 := ct_cd_cong fun k hk => by simp [hk]
        rw [e]
        refine ct_cd_mono (fun k hk => ?_) 8
        simp only [Bool.and_eq_true, decide_eq_true_eq] at hk
        have := into k (by omega) hk.2
        unfold bitOf at this
        rw [if_pos hk.1] at this
        exact this
      have m2 : ct_cd (fun k => tgt (cnA lo hi) (8 + 2 * t) (fun w => 1 * ent P p w + 1 * ent P q w) (8 + k)) (2 * t) ≤ ct_cd (fun k => hb (L p &&& L q) (k + 10)) 8 := by
        refine Nat.le_trans (ct_cd_mono (fun k hk => ?_) (2 * t)) (ct_cd_step _ (show 2 * t ≤ 8 by omega))
        have hlt := (tgt_iff.mp hk).1
        have := into (8 + k) hlt hk
        unfold bitOf at this
        rw [if_neg (by omega)] at this
        rw [show k + 10 = 8 + k + 2 by omega]
        exact this
      omega
    · have hsp := hedge _ ((third r hr).mp h3)
      rcases edge_conv ha (hv p hp).1 (hv q hq).1 (hv r hr).1 hsp with h | h
      · exact hd p r hp hr (fun e => e1 e.symm) h
      · exact hd q r hq hr (fun e => e2 e.symm) h
theorem room_le {lo hi : Nat → Nat → Int} {t n : Nat} {P : Nat → Int64} {L : Nat → Int32} (ht : t ≤ 4) (h : bld lo hi t n P L) : n ≤ roomOf t := by
  have := room_bound (a := cnA lo hi) (N := 8 + 2 * t) (n := n) (V := fun i => ent P i) (cnA_coords lo hi t) (by omega) (fun i hi => (h.1 i hi).1) (fun i j hi hj hij => h.2 i j hi hj hij)
  rcases (show t = 0 ∨ t = 1 ∨ t = 2 ∨ t = 3 ∨ t = 4 by omega) with rfl | rfl | rfl | rfl | rfl <;> simp only [roomOf] <;> omega
/-- what has been kept (kd) and crossed (D) is listed, and nothing else is -/
def cInv (lo hi : Nat → Nat → Int) (t nb : Nat) (V : Nat → Nat → Int) (kd : Nat → Prop) (D : Nat → Nat → Nat → Prop) (n : Nat) (P : Nat → Int64) (L : Nat → Int32) : Prop :=
  bld lo hi (t + 1) n P L ∧ (∀ e, e < n → (∃ j, j < nb ∧ kd j ∧ prop8 (V j) (ent P e)) ∨ ∃ M p q, D M p q ∧ isX (cnA lo hi) (8 + 2 * t) nb V M p q ∧ prop8 (cv (cnA lo hi) M V p q) (ent P e)) ∧
  (∀ j, j < nb → kd j → 0 ≤ ev (cnA lo hi (8 + 2 * t)) (V j) → 0 ≤ ev (cnA lo hi (8 + 2 * t + 1)) (V j) → ∃ e, e < n ∧ prop8 (V j) (ent P e)) ∧ ∀ M p q, D M p q → isX (cnA lo hi) (8 + 2 * t) nb V M p q → ∃ e, e < n ∧ prop8 (cv (cnA lo hi) M V p q) (ent P e)
theorem cInv_mono {lo hi : Nat → Nat → Int} {t nb n : Nat} {V : Nat → Nat → Int} {kd kd' : Nat → Prop} {D D' : Nat → Nat → Nat → Prop} {P : Nat → Int64} {L : Nat → Int32} (h : cInv lo hi t nb V kd D n P L) (h1 : ∀ j, j < nb → (kd j → kd' j) ∧ (kd' j → kd j ∨ ¬ (0 ≤ ev (cnA lo hi (8 + 2 * t)) (V j) ∧ 0 ≤ ev (cnA lo hi (8 + 2 * t + 1)) (V j)))) (h2 : ∀ M p q, isX (cnA lo hi) (8 + 2 * t) nb V M p q → (D M p q ↔ D' M p q)) : cInv lo hi t nb V kd' D' n P L := by
  obtain ⟨a, b, c, d⟩ := h
  refine ⟨a, fun e he => ?_, fun j hj hk g1 g2 => ?_, fun M p q hD hX => d M p q ((h2 M p q hX).mpr hD) hX⟩
  · rcases b e he with ⟨j, hj, hk, hp⟩ | ⟨M, p, q, hD, hX, hp⟩
    · exact Or.inl ⟨j, hj, (h1 j hj).1 hk, hp⟩
    · exact Or.inr ⟨M, p, q, (h2 M p q hX).mp hD, hX, hp⟩
  · rcases (h1 j hj).2 hk with h | h
    · exact c j hj h g1 g2
    · exact absurd ⟨g1, g2⟩ h
theorem ent_prop {x : Nat → Int} {P P' : Nat → Int64} {e : Nat} (h : ∀ w, w < 8 → ent P' e w = ent P e w) (hp : prop8 x (ent P e)) : prop8 x (ent P' e) := by
  obtain ⟨p, q, hp', hpq⟩ := hp
  exact ⟨p, q, hp', fun w hw => by rw [h w hw]; exact hpq w hw⟩
/-- one more entry, of origin kd or D -/
theorem cInv_add {lo hi : Nat → Nat → Int} {t nb n : Nat} {V : Nat → Nat → Int} {kd kd' : Nat → Prop} {D D' : Nat → Nat → Nat → Prop} {P P' : Nat → Int64} {L L' : Nat → Int32} {x : Nat → Int} (h : cInv lo hi t nb V kd D n P L) (hb' : bld lo hi (t + 1) (n + 1) P' L') (hold : ∀ i, i < n → ∀ w, w < 8 → ent P' i w = ent P i w) (hx : prop8 x (ent P' n))
    (hk1 : ∀ j, kd j → kd' j) (hD1 : ∀ M p q, D M p q → D' M p q) (hor : (∃ j, j < nb ∧ kd' j ∧ prop8 (V j) x) ∨ ∃ M p q, D' M p q ∧ isX (cnA lo hi) (8 + 2 * t) nb V M p q ∧ prop8 (cv (cnA lo hi) M V p q) x)
    (hk2 : ∀ j, j < nb → kd' j → kd j ∨ prop8 (V j) x) (hD2 : ∀ M p q, D' M p q → isX (cnA lo hi) (8 + 2 * t) nb V M p q → D M p q ∨ prop8 (cv (cnA lo hi) M V p q) x) : cInv lo hi t nb V kd' D' (n + 1) P' L' := by
  obtain ⟨a, b, c, d⟩ := h
  refine ⟨hb', fun e he => ?_, fun j hj hk g1 g2 => ?_, fun M p q hD hX => ?_⟩
  · by_cases hen : e = n
    · subst hen
      rcases hor with ⟨j, hj, hk, hp⟩ | ⟨M, p, q, hD, hX, hp⟩
      · exact Or.inl ⟨j, hj, hk, prop8_trans hp hx⟩
      · exact Or.inr ⟨M, p, q, hD, hX, prop8_trans hp hx⟩
    · rcases b e (by omega) with ⟨j, hj, hk, hp⟩ | ⟨M, p, q, hD, hX, hp⟩
      · exact Or.inl ⟨j, hj, hk1 j hk, ent_prop (hold e (by omega)) hp⟩
      · exact Or.inr ⟨M, p, q, hD1 M p q hD, hX, ent_prop (hold e (by omega)) hp⟩
  · rcases hk2 j hj hk with h | h
    · obtain ⟨e, he, hp⟩ := c j hj h g1 g2
      exact ⟨e, by omega, ent_prop (hold e he) hp⟩
    · exact ⟨n, by omega, prop8_trans h hx⟩
  · rcases hD2 M p q hD hX with h | h
    · obtain ⟨e, he, hp⟩ := d M p q h hX
      exact ⟨e, by omega, ent_prop (hold e he) hp⟩
    · exact ⟨n, by omega, prop8_trans h hx⟩

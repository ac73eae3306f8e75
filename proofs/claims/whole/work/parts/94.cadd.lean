theorem f_mix {P m0 : Nat → Int64} {np p q K : Nat} {tp tq : Int64} (hK : 100 ≤ K) (hp : 8 * p + 8 ≤ np) (hq : 8 * q + 8 ≤ np) (hnp : np < 2 ^ 31) (htp : 0 ≤ tp.toInt ∧ tp.toInt ≤ 1000000000000) (htq : 0 ≤ tq.toInt ∧ tq.toInt ≤ 1000000000000)
    (hx : ∀ w, w < 8 → 0 ≤ ent P p w ∧ ent P p w ≤ 4000000) (hy : ∀ w, w < 8 → 0 ≤ ent P q w ∧ ent P q w ≤ 4000000) :
    ∃ m, f_X0_mix K 8 np m0 P (nI p) tp (nI q) tq = some m ∧ ∀ w, w < 8 → (m w).toInt = tp.toInt * ent P p w + tq.toInt * ent P q w := by
  obtain ⟨m, h1, h2⟩ := lp_loop (f := f_X0_mix_L3 8 np P (nI p) tp (nI q) tq) (fun k st => k ≤ 8 ∧ ∃ m : Nat → Int64, st = (nI k, m) ∧ ∀ w, w < k → (m w).toInt = tp.toInt * ent P p w + tq.toInt * ent P q w) 8 (fun m => ∀ w, w < 8 → (m w).toInt = tp.toInt * ent P p w + tq.toInt * ent P q w) (fun k st hI => by
    obtain ⟨hk, m, rfl, h⟩ := hI
    unfold f_X0_mix_L3
    simp only
    by_cases e : k = 8
    · subst e
      rw [if_pos (show (8 : Int32) ≤ nI 8 from nI_le (Nat.le_refl 8) (by decide))]
      exact Or.inl ⟨m, rfl, h⟩
    · have hk8 : k < 8 := by omega
      rw [if_neg (show ¬ (8 : Int32) ≤ nI k from nI_ge hk8 (by decide)), ix8, ix8, if_neg (nI_in (show 8 * p + k < np by omega) hnp), if_neg (nI_in (show 8 * q + k < np by omega) hnp), if_neg (nI_in hk8 (by decide)), nI_clamp (show 8 * p + k < 2 ^ 31 by omega), nI_clamp (show 8 * q + k < 2 ^ 31 by omega), nI_clamp (show k < 2 ^ 31 by omega), nI_1]
      refine Or.inr ⟨hk8, _, rfl, by omega, _, rfl, fun w hw => ?_⟩
      by_cases ew : w = k
      · subst ew
        rw [pk_uLs]
        have b1 := wthn_mul (a := tp.toInt) (b := ent P p w) (A := 1000000000000) (B := 4000000) (by unfold wthn; omega) (by have := hx w hk8; unfold wthn; omega)
        have b2 := wthn_mul (a := tq.toInt) (b := ent P q w) (A := 1000000000000) (B := 4000000) (by unfold wthn; omega) (by have := hy w hk8; unfold wthn; omega)
        have m1 : (tp * P (8 * p + w)).toInt = tp.toInt * ent P p w := q64_mul (wthn_mono b1 (by decide))
        have m2 : (tq * P (8 * q + w)).toInt = tq.toInt * ent P q w := q64_mul (wthn_mono b2 (by decide))
        unfold wthn at b1 b2
        rw [q64_add (by rw [m1, m2]; unfold wthn; omega), m1, m2]
      · rw [pk_uLn ew]; exact h w (by omega)) K 0 _ ⟨Nat.zero_le _, m0, rfl, fun w h => absurd h (Nat.not_lt_zero w)⟩ (by omega)
  have h1' : lp (f_X0_mix_L3 8 np P (nI p) tp (nI q) tq) K ((0 : Int32), m0) = some m := h1
  exact ⟨m, by unfold f_X0_mix; rw [h1']; rfl, h2⟩
theorem f_keepcopy {P m0 : Nat → Int64} {np p K : Nat} (hK : 100 ≤ K) (hp : 8 * p + 8 ≤ np) (hnp : np < 2 ^ 31) :
    ∃ m, lp (f_X0_keep_L2 8 np P (nI p)) K ((0 : Int32), m0) = some m ∧ ∀ w, w < 8 → (m w).toInt = ent P p w := by
  refine lp_loop (f := f_X0_keep_L2 8 np P (nI p)) (fun k st => k ≤ 8 ∧ ∃ m : Nat → Int64, st = (nI k, m) ∧ ∀ w, w < k → (m w).toInt = ent P p w) 8 (fun m => ∀ w, w < 8 → (m w).toInt = ent P p w) (fun k st hI => ?_) K 0 _ ⟨Nat.zero_le _, m0, rfl, fun w h => absurd h (Nat.not_lt_zero w)⟩ (by omega)
  obtain ⟨hk, m, rfl, h⟩ := hI
  unfold f_X0_keep_L2
  simp only
  by_cases e : k = 8
  · subst e
    rw [if_pos (show (8 : Int32) ≤ nI 8 from nI_le (Nat.le_refl 8) (by decide))]
    exact Or.inl ⟨m, rfl, h⟩
  · have hk8 : k < 8 := by omega
    rw [if_neg (show ¬ (8 : Int32) ≤ nI k from nI_ge hk8 (by decide)), ix8, if_neg (nI_in (show 8 * p + k < np by omega) hnp), if_neg (nI_in hk8 (by decide)), nI_clamp (show 8 * p + k < 2 ^ 31 by omega), nI_clamp (show k < 2 ^ 31 by omega), nI_1]
    refine Or.inr ⟨hk8, _, rfl, by omega, _, rfl, fun w hw => ?_⟩
    by_cases ew : w = k
    · subst ew; rw [pk_uLs]; rfl
    · rw [pk_uLn ew]; exact h w (by omega)
def gch (M : Nat → Nat) : Nat → Nat
  | 0 => 0
  | k + 1 => Nat.gcd (M k) (gch M k)
theorem gch_dvd (M : Nat → Nat) : ∀ k w, w < k → gch M k ∣ M w
  | 0, w, h => absurd h (Nat.not_lt_zero w)
  | k + 1, w, h => by
    rw [gch]
    by_cases e : w = k
    · rw [e]; exact Nat.gcd_dvd_left _ _
    · exact Nat.dvd_trans (Nat.gcd_dvd_right _ _) (gch_dvd M k w (by omega))
theorem dvd_gch (M : Nat → Nat) {d : Nat} : ∀ k, (∀ w, w < k → d ∣ M w) → d ∣ gch M k
  | 0, _ => Nat.dvd_zero d
  | k + 1, h => by
    rw [gch]
    exact Nat.dvd_gcd (h k (by omega)) (dvd_gch M k (fun w hw => h w (by omega)))
theorem gch_pos {M : Nat → Nat} (h : ∃ w, w < 8 ∧ M w ≠ 0) : 0 < gch M 8 := by
  obtain ⟨w, hw, hne⟩ := h
  refine Nat.pos_of_ne_zero fun e => hne ?_
  have := gch_dvd M 8 w hw
  rw [e] at this
  exact Nat.eq_zero_of_zero_dvd this
theorem gch_prim {M : Nat → Nat} (h : ∃ w, w < 8 ∧ M w ≠ 0) {v : Nat → Int} (hv : ∀ w, w < 8 → v w = ((M w / gch M 8 : Nat) : Int)) : prim v := by
  have hg := gch_pos h
  intro d hd
  have h1 : ∀ w, w < 8 → d.natAbs * gch M 8 ∣ M w := fun w hw => by
    have h2 := hd w hw
    rw [hv w hw] at h2
    have h3 : d.natAbs ∣ M w / gch M 8 := by
      have := Int.natAbs_dvd_natAbs.mpr h2
      rwa [Int.natAbs_natCast] at this
    obtain ⟨t, ht⟩ := h3
    have h4 := Nat.div_mul_cancel (gch_dvd M 8 w hw)
    refine ⟨t, ?_⟩
    rw [← h4, ht]
    rw [Nat.mul_assoc, Nat.mul_assoc, Nat.mul_comm t]
  have h5 := dvd_gch M 8 h1
  obtain ⟨t, ht⟩ := h5
  have h6 : gch M 8 * 1 = gch M 8 * (d.natAbs * t) := by
    rw [Nat.mul_one, ← Nat.mul_assoc, Nat.mul_comm (gch M 8) d.natAbs]; exact ht
  have h7 := Nat.eq_of_mul_eq_mul_left hg h6
  have h8 : d.natAbs ∣ 1 := ⟨t, h7⟩
  exact Int.natAbs_dvd_natAbs.mp (by simpa using h8)
theorem f_add {P m : Nat → Int64} {L : Nat → Int32} {M : Nat → Nat} {np nl c room K : Nat} {met : Int32} (hK : 1000 ≤ K) (hp : 8 * c + 8 ≤ np) (hl : c < nl) (hnp : np < 2 ^ 31) (hnl : nl < 2 ^ 31) (hr : c < room) (hroom : room < 2 ^ 31) (hm : ∀ w, w < 8 → isN (m w) (M w)) (hne : ∃ w, w < 8 ∧ M w ≠ 0) :
    ∃ P', f_X0_add K np nl 8 (nI room) (nI c) P L m met = some (nI (c + 1), P', upd L c met) ∧ (∀ w, w < 8 → ent P' c w = ((M w / gch M 8 : Nat) : Int)) ∧ ∀ x, x < 8 * c → P' x = P x := by
  obtain ⟨g, g1, g2⟩ := lp_loop (f := f_X0_add_L5 K 8 m) (fun k st => k ≤ 8 ∧ ∃ g : Int64, st = (g, nI k) ∧ isN g (gch M k)) 8 (fun g => isN g (gch M 8)) (fun k st hI => by
    obtain ⟨hk, g, rfl, h⟩ := hI
    unfold f_X0_add_L5
    simp only
    by_cases e : k = 8
    · subst e
      rw [if_pos (show (8 : Int32) ≤ nI 8 from nI_le (Nat.le_refl 8) (by decide))]
      exact Or.inl ⟨g, rfl, h⟩
    · have hk8 : k < 8 := by omega
      obtain ⟨g', p, q⟩ := f_gcd (K := K) (by omega) (hm k hk8) h
      rw [if_neg (show ¬ (8 : Int32) ≤ nI k from nI_ge hk8 (by decide)), if_neg (nI_in hk8 (by decide)), nI_clamp (by omega), p, Option.bind_some, nI_1]
      exact Or.inr ⟨hk8, _, rfl, by omega, g', rfl, q⟩) K 0 _ ⟨Nat.zero_le _, 0, rfl, rfl⟩ (by omega)
  have g1' : lp (f_X0_add_L5 K 8 m) K ((0 : Int64), (0 : Int32)) = some g := g1
  have hg := gch_pos hne
  have hg0 : ¬ g = 0 := fun e => by
    have := i64_ne0.mp e
    unfold isN at g2
    omega
  obtain ⟨P', p1, p2, p3⟩ := lp_loop (f := f_X0_add_L51 np 8 (nI c) m g) (fun k st => k ≤ 8 ∧ ∃ P' : Nat → Int64, st = (nI k, P') ∧ (∀ w, w < k → ent P' c w = ((M w / gch M 8 : Nat) : Int)) ∧ ∀ x, x < 8 * c → P' x = P x) 8 (fun P' => (∀ w, w < 8 → ent P' c w = ((M w / gch M 8 : Nat) : Int)) ∧ ∀ x, x < 8 * c → P' x = P x) (fun k st hI => by
    obtain ⟨hk, P', rfl, h1, h2⟩ := hI
    unfold f_X0_add_L51
    simp only
    by_cases e : k = 8
    · subst e
      rw [if_pos (show (8 : Int32) ≤ nI 8 from nI_le (Nat.le_refl 8) (by decide))]
      exact Or.inl ⟨P', rfl, h1, h2⟩
    · have hk8 : k < 8 := by omega
      rw [if_neg (show ¬ (8 : Int32) ≤ nI k from nI_ge hk8 (by decide)), if_neg (nI_in hk8 (by decide)), if_neg hg0, ix8, if_neg (nI_in (show 8 * c + k < np by omega) hnp), nI_clamp (show 8 * c + k < 2 ^ 31 by omega), nI_clamp (show k < 2 ^ 31 by omega), nI_1]
      refine Or.inr ⟨hk8, _, rfl, by omega, _, rfl, fun w hw => ?_, fun x hx => ?_⟩
      · unfold ent
        by_cases ew : w = k
        · subst ew
          rw [pk_uLs]
          exact isN_div (hm w hk8) g2 (by omega)
        · rw [pk_uLn (by omega)]; exact h1 w (by omega)
      · rw [pk_uLn (by omega)]; exact h2 x hx) K 0 _ ⟨Nat.zero_le _, P, rfl, fun w h => absurd h (Nat.not_lt_zero w), fun _ _ => rfl⟩ (by omega)
  have p1' : lp (f_X0_add_L51 np 8 (nI c) m g) K ((0 : Int32), P) = some P' := p1
  refine ⟨P', ?_, p2, p3⟩
  unfold f_X0_add
  rw [g1', Option.bind_some, if_neg (fun h => hg0 ((lg_cmp_eq _ _).mp h)), if_pos (nI_lt hr hroom), p1', Option.bind_some, if_neg (nI_in hl hnl), nI_1, nI_clamp (by omega)]
/-- the bit of a constraint -/
def bitOf (c : Nat) : Nat := if c < 8 then c else c + 2
def lims (lo hi : Nat → Nat → Int) (t : Nat) (l : Int32) (x : Nat → Int) : Prop := ∀ k, k < 32 → (hb l k = true ↔ ∃ c, c < 8 + 2 * t ∧ k = bitOf c ∧ ev (cnA lo hi c) x = 0)
/-- vertices, each once, with their limits -/
def bld (lo hi : Nat → Nat → Int) (t n : Nat) (P : Nat → Int64) (L : Nat → Int32) : Prop := (∀ i, i < n → vtx (cnA lo hi) (8 + 2 * t) (ent P i) ∧ prim (ent P i) ∧ lims lo hi t (L i) (ent P i)) ∧ ∀ i j, i < n → j < n → i ≠ j → ¬ prop8 (ent P i) (ent P j)
def xct (lo hi : Nat → Nat → Int) (t n : Nat) (P : Nat → Int64) (L : Nat → Int32) : Prop := bld lo hi t n P L ∧ ∀ x, vtx (cnA lo hi) (8 + 2 * t) x → ∃ i, i < n ∧ prop8 (ent P i) x
def roomOf (t : Nat) : Nat :=
  match t with
  | 0 => 8
  | 1 => 40
  | 2 => 112
  | 3 => 240
  | _ => 440
theorem vtx_scale {a : Nat → Nat → Int} {N : Nat} {x y : Nat → Int} {k : Int} (hk : 0 < k) (h : ∀ w, w < 8 → k * y w = x w) (hx : vtx a N x) : vtx a N y := by
  have hev : ∀ r : Nat → Int, k * ev r y = ev r x := fun r => by rw [← ev_smul]; exact ev_cong h
  have hz : ∀ r : Nat → Int, ev r y = 0 ↔ ev r x = 0 := fun r => by
    rw [← hev r]
    constructor
    · intro e; rw [e, Int.mul_zero]
    · intro e
      rcases Int.mul_eq_zero.mp e with e | e
      · omega
      · exact e
  refine ⟨fun c hc => ?_, ?_, fun z hz' => ?_⟩
  · refine Classical.byContradiction fun hlt => ?_
    have h1 := hx.1 c hc
    rw [← hev] at h1
    have h2 : k * ev (a c) y ≤ k * -1 := Int.mul_le_mul_of_nonneg_left (by omega) (Int.le_of_lt hk)
    omega
  · obtain ⟨w, hw, hne⟩ := hx.2.1
    exact ⟨w, hw, fun e => hne (by rw [← h w hw, e, Int.mul_zero])⟩
  · obtain ⟨p, q, hp, hpq⟩ := hx.2.2 z (fun c hc h0 => hz' c hc ((hz _).mpr h0))
    exact ⟨p, q * k, hp, fun w hw => by rw [hpq w hw, ← h w hw, Int.mul_assoc]⟩
theorem prop8_scale {x y z : Nat → Int} {k : Int} (hk : k ≠ 0) (h : ∀ w, w < 8 → k * y w = x w) : prop8 z y ↔ prop8 z x := by
  constructor
  · rintro ⟨p, q, hp, hpq⟩
    exact ⟨p, q * k, hp, fun w hw => by rw [← h w hw]; have := hpq w hw; grind⟩
  · rintro ⟨p, q, hp, hpq⟩
    exact ⟨p * k, q, Int.mul_ne_zero hp hk, fun w hw => by have := hpq w hw; rw [← h w hw] at this; grind⟩
theorem room_lt {lo hi : Nat → Nat → Int} {t n : Nat} {P : Nat → Int64} {L : Nat → Int32} {x : Nat → Int} (ht : t ≤ 4) (h : bld lo hi t n P L) (hx : vtx (cnA lo hi) (8 + 2 * t) x) (hn : ∀ i, i < n → ¬ prop8 (ent P i) x) : n < roomOf t := by
  have := room_bound (a := cnA lo hi) (N := 8 + 2 * t) (n := n + 1) (V := fun i => if i < n then ent P i else x) (cnA_coords lo hi t) (by omega) (fun i hi => by
    by_cases e : i < n
    · simp only [if_pos e]; exact (h.1 i e).1
    · simp only [if_neg e]; exact hx) (fun i j hi hj hij => by
    by_cases e : i < n
    · by_cases e' : j < n
      · simp only [if_pos e, if_pos e']; exact h.2 i j e e' hij
      · simp only [if_pos e, if_neg e']; exact hn i e
    · have ei : i = n := by omega
      by_cases e' : j < n
      · simp only [if_neg e, if_pos e']
        exact fun hp => hn j e' (prop8_symm (h.1 j e').1.2.1 hp)
      · omega)
  rcases (show t = 0 ∨ t = 1 ∨ t = 2 ∨ t = 3 ∨ t = 4 by omega) with rfl | rfl | rfl | rfl | rfl <;> simp only [roomOf] <;> omega
/-- one vertex more -/
theorem f_addv {lo hi : Nat → Nat → Int} {t n K : Nat} {P m : Nat → Int64} {L : Nat → Int32} {x : Nat → Int} {met : Int32} (hK : 1000 ≤ K) (ht : t ≤ 4) (hb' : bld lo hi t n P L) (hm : ∀ w, w < 8 → (m w).toInt = x w) (hx : vtx (cnA lo hi) (8 + 2 * t) x) (hn : ∀ i, i < n → ¬ prop8 (ent P i) x) (hl : lims lo hi t met x) :
    ∃ P', f_X0_add K (8 * roomOf t) (roomOf t) 8 (nI (roomOf t)) (nI n) P L m met = some (nI (n + 1), P', upd L n met) ∧ bld lo hi t (n + 1) P' (upd L n met) ∧ (∀ i, i < n → ∀ w, w < 8 → ent P' i w = ent P i w) ∧ prop8 x (ent P' n) := by
  have hr := room_lt ht hb' hx hn
  have hbig : roomOf t ≤ 440 := by unfold roomOf; split <;> omega
  have hx0 := inC_pos (cnA_coords lo hi t) hx.1
  have hM : ∀ w, w < 8 → isN (m w) (x w).toNat := fun w hw => by
    unfold isN; rw [hm w hw]; have := hx0 w hw; omega
  have hne : ∃ w, w < 8 ∧ (x w).toNat ≠ 0 := by
    obtain ⟨w, hw, h⟩ := hx.2.1
    exact ⟨w, hw, by have := hx0 w hw; omega⟩
  obtain ⟨P', p1, p2, p3⟩ := f_add (P := P) (L := L) (M := fun w => (x w).toNat) (np := 8 * roomOf t) (nl := roomOf t) (c := n) (room := roomOf t) (met := met) hK (by omega) hr (by omega) (by omega) hr (by omega) hM hne
  have hg := gch_pos hne
  have hsc : ∀ w, w < 8 → ((gch (fun w => (x w).toNat) 8 : Nat) : Int) * ent P' n w = x w := fun w hw => by
    rw [p2 w hw, ← Int.natCast_mul, Nat.mul_div_cancel' (gch_dvd _ 8 w hw)]
    have := hx0 w hw; omega
  have hold : ∀ i, i < n → ∀ w, w < 8 → ent P' i w = ent P i w := fun i hi w hw => by unfold ent; rw [p3 _ (by omega)]
  have hg' : (0 : Int) < ((gch (fun w => (x w).toNat) 8 : Nat) : Int) := by omega
  have hprim : prim (ent P' n) := gch_prim hne p2
  have hvn : vtx (cnA lo hi) (8 + 2 * t) (ent P' n) := vtx_scale hg' hsc hx
  have hpn : prop8 x (ent P' n) := ⟨((gch (fun w => (x w).toNat) 8 : Nat) : Int), 1, by omega, fun w hw => by rw [hsc w hw]; omega⟩
  have veq : ∀ i, i < n → vtx (cnA lo hi) (8 + 2 * t) (ent P' i) ∧ prim (ent P' i) ∧ lims lo hi t (L i) (ent P' i) := fun i hi => by
    obtain ⟨h1, h2, h3⟩ := hb'.1 i hi
    refine ⟨vtx_scale (k := 1) (by decide) (fun w hw => by rw [hold i hi w hw]; omega) h1, fun d hd => h2 d fun w hw => by rw [← hold i hi w hw]; exact hd w hw, fun k hk => ?_⟩
    rw [h3 k hk]
    constructor
    · rintro ⟨c, a, b, e⟩; exact ⟨c, a, b, by rw [ev_cong (hold i hi)]; exact e⟩
    · rintro ⟨c, a, b, e⟩; exact ⟨c, a, b, by rw [← ev_cong (hold i hi)]; exact e⟩
  have hnp : ∀ i, i < n → ¬ prop8 (ent P' i) (ent P' n) := fun i hi hp => by
    have h1 := (prop8_scale (z := ent P' i) (by omega) hsc).mp hp
    obtain ⟨p, q, hp', hpq⟩ := h1
    exact hn i hi ⟨p, q, hp', fun w hw => by rw [hpq w hw, hold i hi w hw]⟩
  refine ⟨P', p1, ⟨fun i hi => ?_, fun i j hi hj hij hp => ?_⟩, hold, hpn⟩
  · by_cases e : i = n
    · subst e
      rw [pk_us]
      refine ⟨hvn, hprim, fun k hk => ?_⟩
      rw [hl k hk]
      have hz : ∀ r : Nat → Int, ev r (ent P' i) = 0 ↔ ev r x = 0 := fun r => by
        have e1 : ((gch (fun w => (x w).toNat) 8 : Nat) : Int) * ev r (ent P' i) = ev r x := by rw [← ev_smul]; exact ev_cong hsc
        rw [← e1]
        constructor
        · intro e; rw [e, Int.mul_zero]
        · intro e
          rcases Int.mul_eq_zero.mp e with e | e
          · omega
          · exact e
      constructor
      · rintro ⟨c, a, b, e⟩; exact ⟨c, a, b, (hz _).mpr e⟩
      · rintro ⟨c, a, b, e⟩; exact ⟨c, a, b, (hz _).mp e⟩
    · rw [pk_un e]; exact veq i (by omega)
  · by_cases e : i = n
    · subst e
      have ej : j < i := by omega
      exact hnp j ej (prop8_symm (veq j ej).1.2.1 hp)
    · by_cases e' : j = n
      · subst e'; exact hnp i (by omega) hp
      · obtain ⟨p, q, hp', hpq⟩ := hp
        exact hb'.2 i j (by omega) (by omega) hij ⟨p, q, hp', fun w hw => by rw [← hold i (by omega) w hw, ← hold j (by omega) w hw]; exact hpq w hw⟩

/-! the reference's corner: what it adds, and what it can't miss -/
def inS (sy : Nat → Int32) (wd wi : Int32) (n : Nat) (set : Int32) (x : Nat → Int) : Prop := (∀ w, w < 8 → 0 ≤ x w) ∧ ∀ i, i < n → hb set i = true → 0 ≤ ev (rowOf sy wd wi i 0) x ∧ ev (rowOf sy wd wi i 1) x ≤ 0
def ent (up : Nat → Int64) (e w : Nat) : Int := (up (8 * e + w)).toInt
def gdE (sy : Nat → Int32) (wd wi : Int32) (n : Nat) (set : Int32) (up dn : Nat → Int64) (e : Nat) : Prop := inS sy wd wi n set (ent up e) ∧ su (ent up e) = (dn e).toInt ∧ 0 < (dn e).toInt ∧ (dn e).toInt ≤ 2000000000
/-- b at the places wl 0 .. wl (s - 1) -/
def spr (wl : Nat → Nat) (b : Nat → Int) (s : Nat) (w : Nat) : Int := sg (fun j => if wl j = w then b j else 0) s
theorem sg_swap (f : Nat → Nat → Int) (m : Nat) : ∀ n, sg (fun i => sg (fun j => f i j) m) n = sg (fun j => sg (fun i => f i j) n) m
  | 0 => by rw [sg]; exact (sg_zero fun k _ => rfl).symm
  | n + 1 => by rw [sg, sg_swap f m n, ← sg_add]; rfl
theorem ev_spr (r : Nat → Int) {wl : Nat → Nat} {b : Nat → Int} {s : Nat} (h : ∀ j, j < s → wl j < 8) : ev r (spr wl b s) = sg (fun j => r (wl j) * b j) s := by
  unfold ev spr
  have e1 : sg (fun w => r w * sg (fun j => if wl j = w then b j else 0) s) 8 = sg (fun w => sg (fun j => r w * (if wl j = w then b j else 0)) s) 8 := sg_cong fun w _ => (sg_mul _ _ _).symm
  rw [e1, sg_swap]
  refine sg_cong fun j hj => ?_
  have e2 : sg (fun w => r w * (if wl j = w then b j else 0)) 8 = sg (fun w => (if w = wl j then 1 else 0) * (r w * b j)) 8 := sg_cong fun w _ => by
    by_cases e : wl j = w
    · rw [if_pos e, if_pos e.symm]; omega
    · rw [if_neg e, if_neg (fun h => e h.symm)]; simp
  rw [e2, sg_one _ (wl j) 8, if_pos (h j hj)]
theorem spr_at {wl : Nat → Nat} {b : Nat → Int} {s j : Nat} (hinj : ∀ i j, i < s → j < s → wl i = wl j → i = j) (hj : j < s) : spr wl b s (wl j) = b j := by
  unfold spr
  have e : sg (fun i => if wl i = wl j then b i else 0) s = sg (fun i => (if i = j then 1 else 0) * b i) s := sg_cong fun i hi => by
    by_cases e : i = j
    · rw [if_pos (by rw [e]), if_pos e]; omega
    · rw [if_neg (fun h => e (hinj i j hi hj h)), if_neg e]; simp
  rw [e, sg_one _ j s, if_pos hj]
theorem spr_off {wl : Nat → Nat} {b : Nat → Int} {s w : Nat} (h : ∀ j, j < s → wl j ≠ w) : spr wl b s w = 0 := sg_zero fun j hj => if_neg (h j hj)
/-- a choice of worlds, sayings and sides that has just one solution, v -/
def hits (sy : Nat → Int32) (wd wi : Int32) (n : Nat) (set : Int32) (s : Nat) (wl tt sd : Nat → Nat) (v : Nat → Int) : Prop :=
  inS sy wd wi n set v ∧ nz v ∧ (∀ w, w < 8 → v w ≠ 0 → ∃ j, j < s ∧ wl j = w) ∧ (∀ i, i + 1 < s → ev (rowOf sy wd wi (tt i) (sd i)) v = 0) ∧
  ∀ y : Nat → Int, (∀ w, w < 8 → y w ≠ 0 → ∃ j, j < s ∧ wl j = w) → (∀ i, i + 1 < s → ev (rowOf sy wd wi (tt i) (sd i)) y = 0) → prop8 v y
theorem mat0_rows (sy : Nat → Int32) (wd wi : Int32) {s : Nat} (hs0 : 0 < s) (wl tt sd : Nat → Nat) : rows5 (mat0 sy wd wi s wl tt sd) s := by
  refine ⟨s - 1, by omega, fun r hr => ?_⟩
  by_cases e : r = s - 1
  · rw [if_pos e]
    refine ⟨1, 0, fun _ => 1, fun _ => 0, by decide, by decide, by decide, fun _ => Or.inr rfl, fun _ => Or.inl rfl, fun c => ?_⟩
    unfold mat0; rw [if_pos (by omega)]; rfl
  · rw [if_neg e]
    obtain ⟨e0, e1⟩ := en_in sy wd wi (tt r) (sd r)
    refine ⟨100 - en sy wd wi (tt r) (sd r), en sy wd wi (tt r) (sd r), fun j => if j < s ∧ hb (sy (5 * tt r + 1)) (wl j) = true ∧ hb (sy (5 * tt r)) (wl j) = true then 1 else 0, fun j => if j < s ∧ hb (sy (5 * tt r + 1)) (wl j) = true ∧ hb (sy (5 * tt r)) (wl j) = false then 1 else 0, by omega, e0, by omega, fun c => ?_, fun c => ?_, fun c => ?_⟩
    · dsimp only; split
      · exact Or.inr rfl
      · exact Or.inl rfl
    · dsimp only; split
      · exact Or.inr rfl
      · exact Or.inl rfl
    · unfold mat0
      rw [if_neg (by omega)]
      by_cases hc : c < s
      · rw [if_pos hc]
        unfold rowOf av
        dsimp only
        cases q1 : hb (sy (5 * tt r + 1)) (wl c) <;> cases q2 : hb (sy (5 * tt r)) (wl c) <;> simp [hc]
      · rw [if_neg hc]; simp [hc]
theorem mat0_row {sy : Nat → Int32} {wd wi : Int32} {s : Nat} {wl tt sd : Nat → Nat} (hwl : ∀ j, j < s → wl j < 8) (b : Nat → Int) {i : Nat} (hi : i + 1 < s) : sg (fun j => mat0 sy wd wi s wl tt sd i j * b j) s = ev (rowOf sy wd wi (tt i) (sd i)) (spr wl b s) := by
  rw [ev_spr _ hwl]
  exact sg_cong fun j hj => by unfold mat0; rw [if_neg (by omega), if_pos hj]
theorem mat0_last {sy : Nat → Int32} {wd wi : Int32} {s : Nat} {wl tt sd : Nat → Nat} (hwl : ∀ j, j < s → wl j < 8) (b : Nat → Int) {i : Nat} (hi : i + 1 = s) : sg (fun j => mat0 sy wd wi s wl tt sd i j * b j) s = su (spr wl b s) := by
  unfold su
  rw [ev_spr _ hwl]
  exact sg_cong fun j hj => by unfold mat0; rw [if_pos hi]
theorem spr_supp {wl : Nat → Nat} {b : Nat → Int} {s : Nat} : ∀ w, w < 8 → spr wl b s w ≠ 0 → ∃ j, j < s ∧ wl j = w := fun w _ h => Classical.byContradiction fun hn => h (spr_off fun j hj e => hn ⟨j, hj, e⟩)
/-- where there is one solution, the elimination finds a pivot in each column -/
theorem hits_regular {sy : Nat → Int32} {wd wi : Int32} {n s : Nat} {set : Int32} {wl tt sd : Nat → Nat} {v : Nat → Int} (hs0 : 0 < s) (hwl : ∀ j, j < s → wl j < 8) (hinj : ∀ i j, i < s → j < s → wl i = wl j → i = j) (h : hits sy wd wi n set s wl tt sd v)
    {z : Nat → Int} (hz : z s = 0) (hk : ∀ i, i < s → sg (fun j => mat0 sy wd wi s wl tt sd i j * z j) (s + 1) = 0) : ∀ j, j < s → z j = 0 := by
  obtain ⟨h1, h2, h3, h4, h5⟩ := h
  have hk' : ∀ i, i < s → sg (fun j => mat0 sy wd wi s wl tt sd i j * z j) s = 0 := fun i hi => by
    have := hk i hi
    rw [sg, hz] at this
    omega
  obtain ⟨p, q, hp, hpq⟩ := h5 (spr wl z s) spr_supp (fun i hi => by rw [← mat0_row hwl z hi]; exact hk' i (by omega))
  have hsu : su (spr wl z s) = 0 := by rw [← mat0_last (sy := sy) (wd := wd) (wi := wi) (tt := tt) (sd := sd) hwl z (show (s - 1) + 1 = s by omega)]; exact hk' _ (by omega)
  have hsv : 0 < su v := by
    have : ∀ k, k < 8 → 0 ≤ 1 * v k := fun k hk => by rw [Int.one_mul]; exact h1.1 k hk
    have h6 : 0 ≤ su v := sg_nonneg this
    refine Classical.byContradiction fun hlt => ?_
    obtain ⟨w, hw, hne⟩ := h2
    exact hne (su_zero_all h1.1 (by omega) w hw)
  have e1 : p * su (spr wl z s) = q * su v := by unfold su; rw [← ev_smul, ← ev_smul]; exact ev_cong hpq
  rw [hsu, Int.mul_zero] at e1
  have hq : q = 0 := by
    rcases Int.mul_eq_zero.mp e1.symm with h | h
    · exact h
    · omega
  intro j hj
  have := hpq (wl j) (hwl j hj)
  rw [spr_at hinj hj, hq, Int.zero_mul] at this
  rcases Int.mul_eq_zero.mp this with h | h
  · exact absurd h hp
  · exact h
/-- the solution is v, but for its length -/
theorem hits_sol {sy : Nat → Int32} {wd wi : Int32} {n s : Nat} {set : Int32} {wl tt sd : Nat → Nat} {v b : Nat → Int} {d : Int} (hs0 : 0 < s) (hwl : ∀ j, j < s → wl j < 8) (hinj : ∀ i j, i < s → j < s → wl i = wl j → i = j) (h : hits sy wd wi n set s wl tt sd v)
    (hb : ∀ i, i < s → sg (fun j => mat0 sy wd wi s wl tt sd i j * b j) s = mat0 sy wd wi s wl tt sd i s * d) : 0 < su v ∧ ∀ w, w < 8 → su v * spr wl b s w = d * v w := by
  have hsv : 0 < su v := by
    refine Classical.byContradiction fun hlt => ?_
    have h6 : 0 ≤ su v := sg_nonneg fun k hk => by rw [Int.one_mul]; exact h.1.1 k hk
    obtain ⟨w, hw, hne⟩ := h.2.1
    exact hne (su_zero_all h.1.1 (by omega) w hw)
  refine ⟨hsv, fun w hw => ?_⟩
  have hv : ∀ w, w < 8 → v w = spr wl (fun j => v (wl j)) s w := fun w hw => by
    by_cases hz : v w = 0
    · rw [hz]
      by_cases hex : ∃ j, j < s ∧ wl j = w
      · obtain ⟨j, hj, e⟩ := hex
        rw [← e, spr_at hinj hj, e, hz]
      · rw [spr_off fun j hj e => hex ⟨j, hj, e⟩]
    · obtain ⟨j, hj, e⟩ := h.2.2.1 w hw hz
      rw [← e, spr_at hinj hj]
  have reg := hits_regular (z := fun j => if j < s then su v * b j - d * v (wl j) else 0) hs0 hwl hinj h (by simp) (fun i hi => by
    rw [sg, if_neg (Nat.lt_irrefl s), Int.mul_zero, Int.add_zero]
    have e1 : sg (fun j => mat0 sy wd wi s wl tt sd i j * (if j < s then su v * b j - d * v (wl j) else 0)) s = su v * sg (fun j => mat0 sy wd wi s wl tt sd i j * b j) s + -d * sg (fun j => mat0 sy wd wi s wl tt sd i j * v (wl j)) s := by
      rw [← sg_mul, ← sg_mul, ← sg_add]
      exact sg_cong fun j hj => by rw [if_pos hj]; grind
    rw [e1, hb i hi]
    by_cases hl : i + 1 = s
    · rw [mat0_last hwl _ hl]
      have e2 : su (spr wl (fun j => v (wl j)) s) = su v := ev_cong fun w hw => (hv w hw).symm
      rw [e2]
      unfold mat0
      rw [if_pos hl]; grind
    · rw [mat0_row hwl _ (by omega)]
      have e2 : ev (rowOf sy wd wi (tt i) (sd i)) (spr wl (fun j => v (wl j)) s) = 0 := by
        rw [← h.2.2.2.1 i (by omega)]
        exact ev_cong fun w hw => (hv w hw).symm
      rw [e2]
      unfold mat0
      rw [if_neg hl, if_neg (Nat.lt_irrefl s)]; simp)
  by_cases hex : ∃ j, j < s ∧ wl j = w
  · obtain ⟨j, hj, e⟩ := hex
    have := reg j hj
    simp only [if_pos hj] at this
    rw [← e, spr_at hinj hj]; omega
  · have hz : v w = 0 := Classical.byContradiction fun hne => hex (h.2.2.1 w hw hne)
    rw [spr_off fun j hj e => hex ⟨j, hj, e⟩, hz]; simp
theorem f_zeros {m : Nat → Int64} {K : Nat} (hK : 100 ≤ K) : ∃ m', lp (f_X9_corner_L379 8) K ((0 : Int32), m) = some m' ∧ ∀ w, w < 8 → (m' w).toInt = 0 := by
  refine lp_loop (f := f_X9_corner_L379 8) (fun k st => k ≤ 8 ∧ ∃ m' : Nat → Int64, st = (nI k, m') ∧ ∀ w, w < k → (m' w).toInt = 0) 8 _ ?_ K 0 _ ⟨Nat.zero_le _, m, rfl, fun w h => absurd h (Nat.not_lt_zero w)⟩ (by omega)
  intro k st hI
  obtain ⟨hk, m', rfl, h1⟩ := hI
  unfold f_X9_corner_L379
  simp only
  by_cases e : k = 8
  · subst e
    rw [if_pos (show (8 : Int32) ≤ nI 8 from nI_le (Nat.le_refl 8) (by decide))]
    exact Or.inl ⟨m', rfl, h1⟩
  · have hk8 : k < 8 := by omega
    rw [if_neg (show ¬ (8 : Int32) ≤ nI k from nI_ge hk8 (by decide)), if_neg (nI_in hk8 (by decide)), nI_clamp (by omega), nI_1]
    refine Or.inr ⟨hk8, _, rfl, by omega, _, rfl, fun w hw => ?_⟩
    by_cases e' : w = k
    · subst e'; rw [pk_uLs]; rfl
    · rw [pk_uLn e']; exact h1 w (by omega)

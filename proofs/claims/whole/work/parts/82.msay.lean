/-! the reference's sayings: ends, parts, whether one is held -/
theorem i64_z : (0 : Int64).toInt = 0 := rfl
def clamp (v : Int) : Int := if v < 0 then 0 else if 100 < v then 100 else v
theorem clamp_in (v : Int) : 0 ≤ clamp v ∧ clamp v ≤ 100 := by unfold clamp; split <;> (try split) <;> omega
def en (sy : Nat → Int32) (wd wi : Int32) (i side : Nat) : Int := clamp ((sy (5 * i + 2 + side)).toInt + (if side = 0 then -1 else 1) * (if hb wd i then wi.toInt else 0))
def av (X Y : Int32) (e : Int) (w : Nat) : Int := (if hb Y w && hb X w then 100 else 0) - (if hb Y w then e else 0)
theorem f_clamp {z : Int32} (v : Int) (h : z.toInt = v) : ∃ r : Int32, (if (0 : Int32) ≤ z then (if z ≤ (100 : Int32) then some z else some (100 : Int32)) else some (0 : Int32)) = some r ∧ r.toInt = clamp v := by
  unfold clamp
  have e0 : ((0 : Int32) ≤ z) ↔ 0 ≤ v := by rw [Int32.le_iff_toInt_le, h]; rfl
  have e1 : (z ≤ (100 : Int32)) ↔ v ≤ 100 := by rw [Int32.le_iff_toInt_le, h]; rfl
  by_cases h0 : (0 : Int32) ≤ z
  · rw [if_pos h0, if_neg (show ¬ v < 0 by have := e0.mp h0; omega)]
    by_cases h1 : z ≤ (100 : Int32)
    · rw [if_pos h1, if_neg (show ¬ 100 < v by have := e1.mp h1; omega)]; exact ⟨z, rfl, h⟩
    · rw [if_neg h1, if_pos (show 100 < v by have := mt e1.mpr h1; omega)]; exact ⟨100, rfl, rfl⟩
  · rw [if_neg h0, if_pos (show v < 0 by have := mt e0.mpr h0; omega)]; exact ⟨0, rfl, rfl⟩
theorem f_end {sy : Nat → Int32} {wd wi : Int32} {i side : Nat} (hi : i < 4) (hs : side < 2) (h0 : 0 ≤ (sy (5 * i + 2 + side)).toInt) (h1 : (sy (5 * i + 2 + side)).toInt ≤ 100) (hw0 : 0 ≤ wi.toInt) (hw1 : wi.toInt ≤ 100) :
    ∃ r, f_X9_end 40 wd wi sy (nI i) (nI side) = some r ∧ r.toInt = en sy wd wi i side := by
  have ix : (((5 : Int32) * nI i) + (2 : Int32)) + nI side = nI (5 * i + 2 + side) := by
    rw [show (5 : Int32) = nI 5 from rfl, show (2 : Int32) = nI 2 from rfl, nI_mul, nI_add, nI_add]
  unfold f_X9_end
  rw [ix, if_neg (nI_in (show 5 * i + 2 + side < 40 by omega) (by decide)), nI_clamp (show 5 * i + 2 + side < 2 ^ 31 by omega), hb_shr wd (show i < 8 by omega)]
  unfold en
  generalize sy (5 * i + 2 + side) = v at h0 h1
  have hneg : (-wi).toInt = -wi.toInt := q32_neg (by unfold wthn; omega)
  have hadd : (v + wi).toInt = v.toInt + wi.toInt := q32_add (by unfold wthn; omega)
  have hsub : (v + -wi).toInt = v.toInt + -wi.toInt := by rw [q32_add (by unfold wthn; rw [hneg]; omega), hneg]
  rcases (show side = 0 ∨ side = 1 by omega) with rfl | rfl
  · cases hb wd i
    · rw [if_neg (by decide), if_pos (by decide)]
      exact f_clamp _ (by simp)
    · rw [if_pos (by decide), if_pos (by decide)]
      exact f_clamp _ (by simp [hsub])
  · cases hb wd i
    · rw [if_neg (by decide), if_neg (by decide)]
      exact f_clamp _ (by simp)
    · rw [if_pos (by decide), if_neg (by decide)]
      exact f_clamp _ (by simp [hadd])
theorem en_in (sy : Nat → Int32) (wd wi : Int32) (i side : Nat) : 0 ≤ en sy wd wi i side ∧ en sy wd wi i side ≤ 100 := clamp_in _
theorem f_part {sy : Nat → Int32} {wd wi : Int32} {i side w : Nat} (hi : i < 4) (hs : side < 2) (hw : w < 8) (h0 : 0 ≤ (sy (5 * i + 2 + side)).toInt) (h1 : (sy (5 * i + 2 + side)).toInt ≤ 100) (hw0 : 0 ≤ wi.toInt) (hw1 : wi.toInt ≤ 100) :
    ∃ r, f_X9_part 40 wd wi sy (nI i) (nI side) (nI w) = some r ∧ r.toInt = av (sy (5 * i)) (sy (5 * i + 1)) (en sy wd wi i side) w := by
  have ix : ((5 : Int32) * nI i) + (1 : Int32) = nI (5 * i + 1) := by
    rw [show (5 : Int32) = nI 5 from rfl, show (1 : Int32) = nI 1 from rfl, nI_mul, nI_add]
  have ix0 : (5 : Int32) * nI i = nI (5 * i) := by
    rw [show (5 : Int32) = nI 5 from rfl, nI_mul]
  obtain ⟨r, hr, hre⟩ := f_end (sy := sy) (wd := wd) hi hs h0 h1 hw0 hw1
  have hin := en_in sy wd wi i side
  unfold f_X9_part
  rw [ix, ix0, if_neg (nI_in (show 5 * i + 1 < 40 by omega) (by decide)), nI_clamp (show 5 * i + 1 < 2 ^ 31 by omega), hb_shr _ hw, Option.bind_some, if_neg (nI_in (show 5 * i < 40 by omega) (by decide)), hr, Option.bind_some, nI_clamp (show 5 * i < 2 ^ 31 by omega)]
  refine ⟨_, rfl, ?_⟩
  unfold av
  have hx := hb_shr (sy (5 * i)) hw
  rw [← hre] at hin ⊢
  cases hy : hb (sy (5 * i + 1)) w
  · have e : ((0 : Int32) &&& (sy (5 * i) >>> (nI w &&& 31))) = 0 := by simp
    simp only [Bool.false_and, if_false, Bool.false_eq_true]
    rw [e]
    have e2 : ((100 : Int32) * 0 - r * 0) = 0 := by simp
    rw [e2]; rfl
  · have e : ((1 : Int32) &&& (sy (5 * i) >>> (nI w &&& 31))) = if hb (sy (5 * i)) w then 1 else 0 := by rw [Int32.and_comm]; exact hx
    simp only [Bool.true_and, if_true]
    rw [e]
    cases hb (sy (5 * i)) w
    · simp only [if_false, Bool.false_eq_true]
      have e2 : ((100 : Int32) * 0 - r * 1) = -r := by simp
      rw [e2, q32_neg (by unfold wthn; omega)]; omega
    · simp only [if_true]
      have e2 : ((100 : Int32) * 1 - r * 1) = 100 - r := by simp
      rw [e2, q32_sub (by have : (100 : Int32).toInt = 100 := rfl; unfold wthn; omega)]; rfl
theorem av_in (X Y : Int32) {e : Int} (he : 0 ≤ e ∧ e ≤ 100) (w : Nat) : wthn 100 (av X Y e w) := by
  unfold av wthn
  cases hb Y w <;> cases hb X w <;> simp <;> omega
/-- the sayings are in range -/
def syOK (sy : Nat → Int32) (n : Nat) : Prop := n ≤ 4 ∧ ∀ i, i < n → (0 ≤ (sy (5 * i + 2)).toInt ∧ (sy (5 * i + 2)).toInt ≤ 100) ∧ (0 ≤ (sy (5 * i + 3)).toInt ∧ (sy (5 * i + 3)).toInt ≤ 100)
theorem syOK.side {sy : Nat → Int32} {n i side : Nat} (h : syOK sy n) (hi : i < n) (hs : side < 2) : 0 ≤ (sy (5 * i + 2 + side)).toInt ∧ (sy (5 * i + 2 + side)).toInt ≤ 100 := by
  rcases (show side = 0 ∨ side = 1 by omega) with rfl | rfl
  · exact (h.2 i hi).1
  · exact (h.2 i hi).2
def wiOK (wi : Int32) : Prop := 0 ≤ wi.toInt ∧ wi.toInt ≤ 100
def rowOf (sy : Nat → Int32) (wd wi : Int32) (i side : Nat) : Nat → Int := av (sy (5 * i)) (sy (5 * i + 1)) (en sy wd wi i side)
theorem sg_within {f : Nat → Int} {B : Int} : ∀ {n : Nat}, (∀ k, k < n → wthn B (f k)) → wthn ((n : Int) * B) (sg f n)
  | 0, _ => by unfold wthn; simp [sg]
  | n + 1, h => by
    have ih := sg_within (f := f) (B := B) (n := n) (fun k hk => h k (by omega))
    have := h n (by omega)
    unfold wthn at *
    rw [sg, Int.natCast_add, Int.add_mul]
    simp only [Int.natCast_one, Int.one_mul]
    omega
theorem f_isHeld {sy : Nat → Int32} {wd wi : Int32} {n i fr na : Nat} {of : Nat → Int64} {K : Nat} (hK : 100 ≤ K) (hs : syOK sy n) (hw : wiOK wi) (hi : i < n) (hfr : fr + 8 ≤ na) (hna : na < 2 ^ 31) (ho : ∀ w, w < 8 → wthn 2000000000 (of (fr + w)).toInt) :
    f_X9_isHeld K 40 na wd wi sy of (nI i) (nI fr) = some (if 0 ≤ ev (rowOf sy wd wi i 0) (fun w => (of (fr + w)).toInt) ∧ ev (rowOf sy wd wi i 1) (fun w => (of (fr + w)).toInt) ≤ 0 then 1 else 0) := by
  have hi4 : i < 4 := by have := hs.1; omega
  have bnd : ∀ side k : Nat, k ≤ 8 → wthn ((k : Int) * 200000000000) (sg (fun w => rowOf sy wd wi i side w * (of (fr + w)).toInt) k) := fun side k hk => by
    refine sg_within fun w hw' => ?_
    have := wthn_mul (av_in (sy (5 * i)) (sy (5 * i + 1)) (en_in sy wd wi i side) w) (ho w (by omega))
    exact this
  obtain ⟨r, h1, h2⟩ := lp_loop (f := f_X9_isHeld_L9 40 na wd wi sy of (nI i) (nI fr))
    (fun k s => k ≤ 8 ∧ ∃ a b : Int64, s = (a, b, nI k) ∧ a.toInt = sg (fun w => rowOf sy wd wi i 0 w * (of (fr + w)).toInt) k ∧ b.toInt = sg (fun w => rowOf sy wd wi i 1 w * (of (fr + w)).toInt) k) 8
    (fun r => r.1.toInt = ev (rowOf sy wd wi i 0) (fun w => (of (fr + w)).toInt) ∧ r.2.toInt = ev (rowOf sy wd wi i 1) (fun w => (of (fr + w)).toInt))
    (fun k s hI => by
      obtain ⟨hk, a, b, rfl, ha, hb'⟩ := hI
      by_cases e : k = 8
      · subst e
        exact Or.inl ⟨(a, b), by unfold f_X9_isHeld_L9; exact if_pos (nI_le (Nat.le_refl 8) (by decide)), ha, hb'⟩
      · right
        have hk8 : k < 8 := by omega
        obtain ⟨r0, p0, q0⟩ := f_part (sy := sy) (wd := wd) (side := 0) hi4 (by decide) hk8 (hs.side hi (by decide)).1 (hs.side hi (by decide)).2 hw.1 hw.2
        obtain ⟨r1, p1, q1⟩ := f_part (sy := sy) (wd := wd) (side := 1) hi4 (by decide) hk8 (hs.side hi (by decide)).1 (hs.side hi (by decide)).2 hw.1 hw.2
        have o := ho k hk8
        have m0 := wthn_mul (av_in (sy (5 * i)) (sy (5 * i + 1)) (en_in sy wd wi i 0) k) o
        have m1 := wthn_mul (av_in (sy (5 * i)) (sy (5 * i + 1)) (en_in sy wd wi i 1) k) o
        have b0 := bnd 0 k hk
        have b1 := bnd 1 k hk
        unfold wthn at m0 m1 b0 b1
        have t0 : (r0.toInt64 * of (fr + k)).toInt = rowOf sy wd wi i 0 k * (of (fr + k)).toInt := by
          rw [q64_mul (by rw [Int32.toInt_toInt64, q0]; unfold wthn; omega), Int32.toInt_toInt64, q0]; rfl
        have t1 : (r1.toInt64 * of (fr + k)).toInt = rowOf sy wd wi i 1 k * (of (fr + k)).toInt := by
          rw [q64_mul (by rw [Int32.toInt_toInt64, q1]; unfold wthn; omega), Int32.toInt_toInt64, q1]; rfl
        have z0 : rowOf sy wd wi i 0 k = av (sy (5 * i)) (sy (5 * i + 1)) (en sy wd wi i 0) k := rfl
        have z1 : rowOf sy wd wi i 1 k = av (sy (5 * i)) (sy (5 * i + 1)) (en sy wd wi i 1) k := rfl
        refine ⟨hk8, (a + r0.toInt64 * of (fr + k), b + r1.toInt64 * of (fr + k), nI (k + 1)), ?_, by omega, _, _, rfl, ?_, ?_⟩
        · unfold f_X9_isHeld_L9
          simp only
          have p0' : f_X9_part 40 wd wi sy (nI i) (0 : Int32) (nI k) = some r0 := p0
          have p1' : f_X9_part 40 wd wi sy (nI i) (1 : Int32) (nI k) = some r1 := p1
          rw [if_neg (show ¬ (8 : Int32) ≤ nI k from nI_ge hk8 (by decide)), p0', Option.bind_some, nI_add, if_neg (nI_in (show fr + k < na by omega) hna), p1', Option.bind_some, if_neg (nI_in (show fr + k < na by omega) hna), nI_clamp (show fr + k < 2 ^ 31 by omega), nI_1]
        · rw [q64_add (by rw [t0, ha, z0]; unfold wthn; omega), t0, ha]; rfl
        · rw [q64_add (by rw [t1, hb', z1]; unfold wthn; omega), t1, hb']; rfl) K 0 (0, 0, 0) ⟨by omega, 0, 0, rfl, rfl, rfl⟩ (by omega)
  unfold f_X9_isHeld
  rw [h1, Option.bind_some]
  obtain ⟨a, b⟩ := r
  simp only at h2 ⊢
  obtain ⟨h2, h3⟩ := h2
  have c0 : (lg_cmp a (0 : Int64) < (0 : Int32)) ↔ ¬ 0 ≤ ev (rowOf sy wd wi i 0) (fun w => (of (fr + w)).toInt) := by
    rw [lg_cmp_lt, Int64.lt_iff_toInt_lt, h2, i64_z]; omega
  have c1 : ((0 : Int32) < lg_cmp b (0 : Int64)) ↔ ¬ ev (rowOf sy wd wi i 1) (fun w => (of (fr + w)).toInt) ≤ 0 := by
    rw [lg_cmp_gt, Int64.lt_iff_toInt_lt, h3, i64_z]; omega
  by_cases g0 : 0 ≤ ev (rowOf sy wd wi i 0) (fun w => (of (fr + w)).toInt)
  · rw [if_neg (fun h => c0.mp h g0)]
    by_cases g1 : ev (rowOf sy wd wi i 1) (fun w => (of (fr + w)).toInt) ≤ 0
    · rw [if_neg (fun h => c1.mp h g1), if_pos ⟨g0, g1⟩]
    · rw [if_pos (c1.mpr g1), if_neg (fun h => g1 h.2)]
  · rw [if_pos (c0.mpr g0), if_neg (fun h => g0 h.1)]

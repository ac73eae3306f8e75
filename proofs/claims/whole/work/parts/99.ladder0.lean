/-! the ladder: what does not change with the sayings above a step -/
theorem vtx_cong {a a' : Nat → Nat → Int} {N : Nat} {x : Nat → Int} (h : ∀ c, c < N → a c = a' c) (hv : vtx a N x) : vtx a' N x :=
  ⟨fun c hc => by rw [← h c hc]; exact hv.1 c hc, hv.2.1, fun y hy => hv.2.2 y fun c hc h0 => by rw [h c hc] at h0 ⊢; exact hy c hc h0⟩
theorem cnA_cong {lo hi lo' hi' : Nat → Nat → Int} {t : Nat} (h : ∀ j, j < t → lo j = lo' j ∧ hi j = hi' j) : ∀ c, c < 8 + 2 * t → cnA lo hi c = cnA lo' hi' c := fun c hc => by
  funext w
  unfold cnA
  by_cases h8 : c < 8
  · rw [if_pos h8, if_pos h8]
  · rw [if_neg h8, if_neg h8, (h ((c - 8) / 2) (by omega)).1, (h ((c - 8) / 2) (by omega)).2]
theorem xct_cong {lo hi lo' hi' : Nat → Nat → Int} {t n : Nat} {P : Nat → Int64} {L : Nat → Int32} (h : ∀ j, j < t → lo j = lo' j ∧ hi j = hi' j) (hx : xct lo hi t n P L) : xct lo' hi' t n P L := by
  have e := cnA_cong h
  refine ⟨⟨fun i hi' => ?_, hx.1.2⟩, fun x hv => hx.2 x (vtx_cong (fun c hc => (e c hc).symm) hv)⟩
  obtain ⟨h1, h2, h3⟩ := hx.1.1 i hi'
  refine ⟨vtx_cong e h1, h2, fun k hk => ?_⟩
  rw [h3 k hk]
  constructor
  · rintro ⟨c, a, b, g⟩; exact ⟨c, a, b, by rw [← e c a]; exact g⟩
  · rintro ⟨c, a, b, g⟩; exact ⟨c, a, b, by rw [e c a]; exact g⟩
def laLo (cx cy cf : Nat → Int32) (j : Nat) : Nat → Int := av (cx (j + 1)) (cy (j + 1)) (cf (j + 1)).toInt
def okFT (f t : Int32) : Prop := 0 ≤ f.toInt ∧ f.toInt ≤ t.toInt ∧ t.toInt ≤ 100
theorem all_bits : ∀ t, t < 5 → ct_cd (hb (nI (2 ^ t - 1))) t = t ∧ ∀ j, j < t → enm (hb (nI (2 ^ t - 1))) t j = j := by decide +kernel
/-- the numbers of the vertices by t sayings -/
theorem la_size {cx cy cf ct : Nat → Int32} {t n : Nat} {P : Nat → Int64} {L : Nat → Int32} (ht : t ≤ 4) (hr : ∀ j, 1 ≤ j → j ≤ t → okFT (cf j) (ct j)) (hx : xct (laLo cx cy cf) (laLo cx cy ct) t n P L) : ∀ i, i < n → su (ent P i) ≤ 2000000000 ∧ (t ≤ 3 → su (ent P i) ≤ 4000000) := fun i hi' => by
  let sy : Nat → Int32 := fun k => if k % 5 = 0 then cx (k / 5 + 1) else if k % 5 = 1 then cy (k / 5 + 1) else if k % 5 = 2 then cf (k / 5 + 1) else ct (k / 5 + 1)
  have s0 : ∀ j, sy (5 * j) = cx (j + 1) := fun j => by simp only [sy]; rw [if_pos (by omega), show 5 * j / 5 = j by omega]
  have s1 : ∀ j, sy (5 * j + 1) = cy (j + 1) := fun j => by simp only [sy]; rw [if_neg (by omega), if_pos (by omega), show (5 * j + 1) / 5 = j by omega]
  have s2 : ∀ j, sy (5 * j + 2) = cf (j + 1) := fun j => by simp only [sy]; rw [if_neg (by omega), if_neg (by omega), if_pos (by omega), show (5 * j + 2) / 5 = j by omega]
  have s3 : ∀ j, sy (5 * j + 3) = ct (j + 1) := fun j => by simp only [sy]; rw [if_neg (by omega), if_neg (by omega), if_neg (by omega), show (5 * j + 3) / 5 = j by omega]
  have hsy : syOK sy t := ⟨ht, fun j hj => by
    have := hr (j + 1) (by omega) (by omega)
    unfold okFT at this
    rw [s2, s3]; omega⟩
  obtain ⟨a1, a2⟩ := all_bits t (by omega)
  have hrow : ∀ j, j < t → rowOf sy 0 0 j 0 = laLo cx cy cf j ∧ rowOf sy 0 0 j 1 = laLo cx cy ct j := fun j hj => by
    have hh := hr (j + 1) (by omega) (by omega)
    unfold okFT at hh
    have e0 : en sy 0 0 j 0 = (cf (j + 1)).toInt := by
      unfold en clamp
      rw [Nat.add_zero, s2, hb_zero, if_neg (show ¬ (false = true) by decide), Int.mul_zero, Int.add_zero, if_neg (by omega), if_neg (by omega)]
    have e1 : en sy 0 0 j 1 = (ct (j + 1)).toInt := by
      unfold en clamp
      rw [show 5 * j + 2 + 1 = 5 * j + 3 by omega, s3, hb_zero, if_neg (show ¬ (false = true) by decide), Int.mul_zero, Int.add_zero, if_neg (by omega), if_neg (by omega)]
    unfold rowOf laLo
    rw [e0, e1, s0, s1]
    exact ⟨rfl, rfl⟩
  obtain ⟨v1, v2, -⟩ := hx.1.1 i hi'
  obtain ⟨s, h1, h2, h3⟩ := vtx_size (sy := sy) (wd := 0) (wi := 0) (n := t) (set := nI (2 ^ t - 1)) hsy ⟨by decide, by decide⟩ v2 (by
    rw [a1]
    exact vtx_cong (cnA_cong fun j hj => by rw [a2 j hj]; exact ⟨(hrow j hj).1.symm, (hrow j hj).2.symm⟩) v1)
  constructor
  · refine Int.le_trans h3 ?_
    unfold lim5; split <;> decide
  · intro h
    refine Int.le_trans h3 ?_
    rcases (show s = 1 ∨ s = 2 ∨ s = 3 ∨ s = 4 by omega) with rfl | rfl | rfl | rfl <;> decide
def LI (b : Nat) (co : Nat → Int32) (pa : Nat → Nat → Int64) (li : Nat → Nat → Int32) (cx cy cf ct : Nat → Int32) : Prop := b ≤ 4 ∧ (∀ t, 1 ≤ t → t ≤ b → okFT (cf t) (ct t)) ∧ ∀ t, t ≤ b → ∃ n, co t = nI n ∧ xct (laLo cx cy cf) (laLo cx cy ct) t n (pa t) (li t)
def laC (np nl no nu nm : Nat → Nat) (fb tb ro : Nat → Int32) : Prop := (∀ t, t < 5 → np t = 8 * roomOf t ∧ nl t = roomOf t ∧ no t = roomOf t ∧ nu t = roomOf t ∧ nm t = 8 ∧ ro t = nI (roomOf t)) ∧ ∀ t, t < 4 → bitsAt t (fb (t + 1)) (tb (t + 1))

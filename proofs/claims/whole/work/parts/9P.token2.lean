/-! one step of the two token readers -/
def ctk : Nat → Nat → Int32 → Int32 → Prop
  | 0, _, k, _ => k = 0
  | 1, j, k, v => j < 3 ∧ k = 1 ∧ v = tk_wol j
  | 2, _, k, _ => k = 2
  | 3, v, k, x => v ≤ 999 ∧ k = 3 ∧ x = nI v
  | 4, c, k, _ => c < 256 ∧ sgn c = true ∧ k = nI c
  | _, _, k, _ => k = 4
def rtk : Nat → Nat → Int32 → Int32 → Prop
  | 0, _, k, _ => k = 0
  | 1, j, k, v => j < 3 ∧ k = 1 ∧ v = nI j
  | 2, _, k, _ => k = 2
  | 3, v, k, x => v ≤ 999 ∧ k = 3 ∧ x = nI v
  | 4, c, k, x => c < 256 ∧ sgn c = true ∧ k = 4 ∧ x = nI c
  | _, _, k, _ => k = 5
def cAft (K : Nat) (L : Int32) (cb : Nat → Int32) (s v : Int32) : Option (Int32 × Int32 × Int32 × Int32) :=
  (f_X5_at 200 L cb s).bind fun z5_0 =>
    if (0 : Int32) ≤ z5_0 then
      (f_X6_isLetter z5_0).bind fun z7_0 =>
      if z7_0 = (0 : Int32) then
        (f_X6_isDigit z5_0).bind fun z9_0 =>
        if z9_0 = (0 : Int32) then
          (f_J0_indexOf_0f7a4 K ((z5_0.toUInt32 % 65536).toInt32)).bind fun z11_0 =>
          if z11_0 < (0 : Int32) then
            some (s + (1 : Int32), s, (4 : Int32), v)
          else
            some (s + (1 : Int32), s, z5_0, v)
        else
          (f_X6_stepOverNumber K 200 s s L cb).bind fun z13 => match z13 with
          | (z13_0, z13_1, z13_2) =>
            some (z13_0, s, z13_1, z13_2)
      else
        (f_X6_stepOverWord K 200 s s v L cb).bind fun z14 => match z14 with
        | (z14_0, z14_1, z14_2) =>
          some (z14_0, s, z14_1, z14_2)
    else
      some (s, s, (0 : Int32), v)
theorem cStep_eq (K : Nat) (L : Int32) (cb : Nat → Int32) (p v : Int32) : f_X6_step K 200 p v L cb = if L ≤ p then cAft K L cb p v else (f_X5_at 200 L cb p).bind fun z => if z = 32 then (lp (f_X6_step_L0 200 L cb) K (p + 1)).bind fun q => cAft K L cb q v else cAft K L cb p v := rfl
def rAft (K : Nat) (L : Int32) (rt : Nat → Int32) (s v : Int32) : Option (Int32 × Int32 × Int32 × Int32) :=
    (f_X9_byteAt 200 L rt s).bind fun z14_0 =>
    if (0 : Int32) ≤ z14_0 then
      (f_X9_in z14_0 (97 : Int32) (122 : Int32)).bind fun z16_0 =>
      if z16_0 = (0 : Int32) then
        (f_X9_in z14_0 (48 : Int32) (57 : Int32)).bind fun z18_0 =>
        if z18_0 = (0 : Int32) then
          if z14_0 = (33 : Int32) then
            f_X9_advances_J354 (s + (1 : Int32)) s z14_0
          else
            if z14_0 = (38 : Int32) then
              f_X9_advances_J354 (s + (1 : Int32)) s z14_0
            else
              if z14_0 = (124 : Int32) then
                f_X9_advances_J354 (s + (1 : Int32)) s z14_0
              else
                if z14_0 = (40 : Int32) then
                  f_X9_advances_J354 (s + (1 : Int32)) s z14_0
                else
                  if z14_0 = (41 : Int32) then
                    f_X9_advances_J354 (s + (1 : Int32)) s z14_0
                  else
                    if z14_0 = (45 : Int32) then
                      f_X9_advances_J354 (s + (1 : Int32)) s z14_0
                    else
                      if z14_0 = (59 : Int32) then
                        f_X9_advances_J354 (s + (1 : Int32)) s z14_0
                      else
                        if (0 : Int32) = (0 : Int32) then
                          some (s + (1 : Int32), (5 : Int32), s, z14_0)
                        else
                          some (s + (1 : Int32), (4 : Int32), s, z14_0)
        else
          (lp (f_X9_advances_L185 200 L rt) K (s, (0 : Int32))).bind fun z28 => match z28 with
          | (z28_0, z28_1) =>
            if (999 : Int32) < z28_1 then
              some (z28_0, (5 : Int32), s, z28_1)
            else
              if z14_0 = (48 : Int32) then
                if (z28_0 - s) ≤ (1 : Int32) then
                  some (z28_0, (3 : Int32), s, z28_1)
                else
                  some (z28_0, (5 : Int32), s, z28_1)
              else
                some (z28_0, (3 : Int32), s, z28_1)
      else
        (lp (f_X9_advances_L66 200 L rt) K s).bind fun z32_0 =>
        if (z32_0 - s) = (1 : Int32) then
          if (100 : Int32) ≤ z14_0 then
            if (z32_0 - s) = (2 : Int32) then
              if z14_0 = (105 : Int32) then
                if (s + (1 : Int32)) < 0 ∨ 200 ≤ (s + (1 : Int32)).toNatClampNeg then none else
                if (rt (s + (1 : Int32)).toNatClampNeg) = (102 : Int32) then
                  some (z32_0, (2 : Int32), s, z14_0 - (97 : Int32))
                else
                  some (z32_0, (5 : Int32), s, z14_0 - (97 : Int32))
              else
                some (z32_0, (5 : Int32), s, z14_0 - (97 : Int32))
            else
              some (z32_0, (5 : Int32), s, z14_0 - (97 : Int32))
          else
            some (z32_0, (1 : Int32), s, z14_0 - (97 : Int32))
        else
          if (z32_0 - s) = (2 : Int32) then
            if z14_0 = (105 : Int32) then
              if (s + (1 : Int32)) < 0 ∨ 200 ≤ (s + (1 : Int32)).toNatClampNeg then none else
              if (rt (s + (1 : Int32)).toNatClampNeg) = (102 : Int32) then
                some (z32_0, (2 : Int32), s, z14_0 - (97 : Int32))
              else
                some (z32_0, (5 : Int32), s, z14_0 - (97 : Int32))
            else
              some (z32_0, (5 : Int32), s, z14_0 - (97 : Int32))
          else
            some (z32_0, (5 : Int32), s, z14_0 - (97 : Int32))
    else
      some (s, (0 : Int32), s, v)
theorem rStep_eq (K : Nat) (L : Int32) (rt : Nat → Int32) (p v : Int32) : f_X9_advances K 200 L p v rt = (f_X9_byteAt 200 L rt p).bind fun z => if z = 32 then (lp (f_X9_advances_L0 200 L rt) K (p + 1)).bind fun q => rAft K L rt q v else rAft K L rt p v := rfl
/-- what both say of the token that begins at s -/
def aft (L : Nat) (s : Nat) (c r : Option (Int32 × Int32 × Int32 × Int32)) : Prop := ∃ (T j q : Nat) (k x t y : Int32), c = some (nI q, nI s, k, x) ∧ r = some (nI q, t, nI s, y) ∧ ctk T j k x ∧ rtk T j t y ∧ T ≤ 5 ∧ s ≤ q ∧ q ≤ L ∧ (T ≠ 0 → s < q)
theorem sgn_iff {v : Nat} : sgn v = true ↔ (v = 33 ∨ v = 38 ∨ v = 124 ∨ v = 40 ∨ v = 41 ∨ v = 45 ∨ v = 59) := by
  unfold sgn; simp
theorem aft_ok {K L : Nat} {cb rt : Nat → Int32} {s : Nat} {v v' : Int32} (hK : 1000 ≤ K) (h : TX L cb rt) (hs : s ≤ L) : aft L s (cAft K (nI L) cb (nI s) v) (rAft K (nI L) rt (nI s) v') := by
  have hL := h.1
  unfold cAft rAft
  rw [f_at hL (by omega), f_byteAt h (by omega), Option.bind_some, Option.bind_some]
  by_cases hsL : s < L
  · obtain ⟨-, b, hb, eb⟩ := h.2 s hsL
    have eB : btA L cb s = nI b := by unfold btA; rw [if_pos hsL, eb]
    have hpos : (0 : Int32) ≤ btA L cb s := by rw [eB]; exact nI_pos' (by omega)
    rw [if_pos hpos, if_pos hpos]
    rcases f_isLetter (btA L cb s) with ⟨a, p1, p2⟩ | ⟨a, p1, p2⟩
    · -- a word
      obtain ⟨q, w1, w2, w3⟩ := c_word (cb := cb) (p := s + 1) hK hL (by omega)
      obtain ⟨q', u1, u2, u3⟩ := r_word (p := s) hK h hs
      have w3' : sc (isL L cb) s q := ⟨by have := w3.1; omega, fun k k1 k2 => by
        by_cases e : k = s
        · rw [e]; exact a
        · exact w3.2.1 k (by omega) k2, w3.2.2⟩
      have eq : q' = q := sc_unique u3 w3'
      subst eq
      have hq := w3.1
      obtain ⟨b', hb1, hb2, eb'⟩ := isL_nat (L := L) (cb := cb) (k := s) a
      have ebb : b' = b := (nI_eq (by omega) (by omega)).mp (eb'.symm.trans eB)
      subst ebb
      have hW : f_X6_stepOverWord K 200 (nI s) (nI s) v (nI L) cb = if nI (q' - s) = 1 then (if nI (b' - 97) < 0 then f_X6_stepOverWord_J101 200 (nI q') (nI s) v (nI L) cb else if (3 : Int32) ≤ nI (b' - 97) then f_X6_stepOverWord_J101 200 (nI q') (nI s) v (nI L) cb else if nI (b' - 97) < 0 ∨ 3 ≤ (nI (b' - 97)).toNatClampNeg then none else some (nI q', 1, tk_wol (nI (b' - 97)).toNatClampNeg)) else f_X6_stepOverWord_J101 200 (nI q') (nI s) v (nI L) cb := by
        unfold f_X6_stepOverWord
        rw [if_neg (nI_ge hsL (by omega)), f_at hL (by omega), Option.bind_some, p1, Option.bind_some, if_neg one_ne, nI_1, w1, Option.bind_some, Option.bind_some, eB, nI_sub (by omega), show (97 : Int32) = nI 97 from rfl, nI_sub hb1]
      rw [p1, p2, Option.bind_some, Option.bind_some, if_neg one_ne, if_neg one_ne, hW, u1, Option.bind_some, eB, nI_sub (show s ≤ q' by omega), show (97 : Int32) = nI 97 from rfl, nI_sub hb1]
      have hJ : ¬ q' - s = 2 → f_X6_stepOverWord_J101 200 (nI q') (nI s) v (nI L) cb = some (nI q', 4, v) := fun g => by
        unfold f_X6_stepOverWord_J101
        rw [nI_sub (show s ≤ q' by omega), if_neg (show ¬ nI (q' - s) = (2 : Int32) from fun e => g ((nI_eq (by omega) (by decide)).mp e))]
      by_cases g1 : q' - s = 1
      · rw [g1, if_pos (show nI 1 = (1 : Int32) from rfl), if_pos (show nI 1 = (1 : Int32) from rfl), if_neg (nI_pos (by omega)), hJ (by omega)]
        by_cases g2 : b' < 100
        · rw [if_neg (show ¬ (3 : Int32) ≤ nI (b' - 97) from nI_ge (show b' - 97 < 3 by omega) (by decide)), if_neg (nI_in (show b' - 97 < 3 by omega) (by decide)), nI_clamp (by omega), Option.bind_some, if_neg (show ¬ (100 : Int32) ≤ nI b' from nI_ge g2 (by decide))]
          exact ⟨1, b' - 97, q', _, _, _, _, rfl, rfl, ⟨by omega, rfl, rfl⟩, ⟨by omega, rfl, rfl⟩, by decide, by omega, u2, fun _ => by omega⟩
        · rw [if_pos (show (3 : Int32) ≤ nI (b' - 97) from nI_le (show 3 ≤ b' - 97 by omega) (by omega)), Option.bind_some, if_pos (show (100 : Int32) ≤ nI b' from nI_le (show 100 ≤ b' by omega) (by omega)), if_neg (show ¬ nI 1 = (2 : Int32) by decide)]
          exact ⟨5, 0, q', _, _, _, _, rfl, rfl, rfl, rfl, by decide, by omega, u2, fun _ => by omega⟩
      · rw [if_neg (show ¬ nI (q' - s) = (1 : Int32) from fun e => g1 ((nI_eq (by omega) (by decide)).mp e)), if_neg (show ¬ nI (q' - s) = (1 : Int32) from fun e => g1 ((nI_eq (by omega) (by decide)).mp e))]
        by_cases g2 : q' - s = 2
        · have hs1 : s + 1 < L := by omega
          have e1 : btA L cb (s + 1) = rt (s + 1) := by unfold btA; rw [if_pos hs1, (h.2 _ hs1).1]
          unfold f_X6_stepOverWord_J101
          rw [nI_sub (show s ≤ q' by omega), g2, if_pos (show nI 2 = (2 : Int32) from rfl), if_pos (show nI 2 = (2 : Int32) from rfl), f_at hL (by omega), Option.bind_some, nI_1, f_at hL (by omega), eB, Option.bind_some, if_neg (nI_in (show s + 1 < 200 by omega) (by decide)), nI_clamp (show s + 1 < 2 ^ 31 by omega), e1]
          by_cases g3 : nI b' = (105 : Int32)
          · rw [if_pos g3, if_pos g3]
            by_cases g4 : rt (s + 1) = (102 : Int32)
            · rw [if_pos g4, if_pos g4, Option.bind_some]
              exact ⟨2, 0, q', _, _, _, _, rfl, rfl, rfl, rfl, by decide, by omega, u2, fun _ => by omega⟩
            · rw [if_neg g4, if_neg g4, Option.bind_some]
              exact ⟨5, 0, q', _, _, _, _, rfl, rfl, rfl, rfl, by decide, by omega, u2, fun _ => by omega⟩
          · rw [if_neg g3, if_neg g3, Option.bind_some]
            exact ⟨5, 0, q', _, _, _, _, rfl, rfl, rfl, rfl, by decide, by omega, u2, fun _ => by omega⟩
        · rw [hJ g2, Option.bind_some, if_neg (show ¬ nI (q' - s) = (2 : Int32) from fun e => g2 ((nI_eq (by omega) (by decide)).mp e))]
          exact ⟨5, 0, q', _, _, _, _, rfl, rfl, rfl, rfl, by decide, by omega, u2, fun _ => by omega⟩
    · rw [p1, p2, Option.bind_some, Option.bind_some, if_pos rfl, if_pos rfl]
      rcases f_isDigit (btA L cb s) with ⟨d, p1, p2⟩ | ⟨d, p1, p2⟩
      · -- a number
        obtain ⟨q, w1, w2, w3⟩ := c_num (cb := cb) (p := s) hK hL hs
        obtain ⟨q', u1, u2, u3, u4⟩ := r_num (p := s) hK h hs
        have eq : q' = q := sc_unique u3 w3
        subst eq
        have hq := w3.1
        have hsq : s < q' := Classical.byContradiction fun g => by
          have e : q' = s := by omega
          exact w3.2.2 (e ▸ d)
        rw [p1, p2, Option.bind_some, Option.bind_some, if_neg one_ne, if_neg one_ne, u1, Option.bind_some]
        unfold f_X6_stepOverNumber f_X6_stepOverNumber_J114
        rw [w1, Option.bind_some]
        dsimp only
        rw [f_at hL (by omega), Option.bind_some, nI_sub (show s ≤ q' by omega), eB, if_pos rfl, if_neg one_ne]
        by_cases g1 : rv L cb s (q' - s) ≤ 999
        · rw [if_neg (show ¬ (999 : Int32) < nI (rv L cb s (q' - s)) from nI_nlt g1 (by decide)), Nat.min_eq_left (by omega), if_neg (show ¬ nI (rv L cb s (q' - s)) = (1000 : Int32) from fun e => by have := (nI_eq (b := 1000) (by omega) (by decide)).mp e; omega)]
          by_cases g2 : nI b = (48 : Int32)
          · rw [if_pos g2, if_pos g2]
            by_cases g3 : q' - s ≤ 1
            · rw [if_pos (show nI (q' - s) ≤ (1 : Int32) from nI_le g3 (by decide)), if_pos (show nI (q' - s) ≤ (1 : Int32) from nI_le g3 (by decide)), Option.bind_some]
              exact ⟨3, rv L cb s (q' - s), q', _, _, _, _, rfl, rfl, ⟨g1, rfl, rfl⟩, ⟨g1, rfl, rfl⟩, by decide, hq, u2, fun _ => hsq⟩
            · rw [if_neg (show ¬ nI (q' - s) ≤ (1 : Int32) from nI_ge (show 1 < q' - s by omega) (by omega)), if_neg (show ¬ nI (q' - s) ≤ (1 : Int32) from nI_ge (show 1 < q' - s by omega) (by omega)), Option.bind_some]
              exact ⟨5, 0, q', _, _, _, _, rfl, rfl, rfl, rfl, by decide, hq, u2, fun _ => hsq⟩
          · rw [if_neg g2, if_neg g2, Option.bind_some]
            exact ⟨3, rv L cb s (q' - s), q', _, _, _, _, rfl, rfl, ⟨g1, rfl, rfl⟩, ⟨g1, rfl, rfl⟩, by decide, hq, u2, fun _ => hsq⟩
        · rw [if_pos (show (999 : Int32) < nI (rv L cb s (q' - s)) from nI_lt (show 999 < _ by omega) (by omega)), Nat.min_eq_right (by omega), if_pos (show nI 1000 = (1000 : Int32) from rfl)]
          refine ⟨5, 0, q', 4, nI 1000, _, _, ?_, rfl, rfl, rfl, by decide, hq, u2, fun _ => hsq⟩
          by_cases g2 : nI b = (48 : Int32)
          · rw [if_pos g2]
            split <;> rfl
          · rw [if_neg g2]; rfl
      · -- a sign
        rw [p1, p2, Option.bind_some, Option.bind_some, if_pos rfl, if_pos rfl, eB, nI_1, if_pos rfl]
        have ne : ∀ c, c < 256 → b ≠ c → ¬ nI b = nI c := fun c hc g e => g ((nI_eq (by omega) (by omega)).mp e)
        have hj : ∀ b', f_X9_advances_J354 (nI (s + 1)) (nI s) (nI b') = some (nI (s + 1), 4, nI s, nI b') := fun b' => by
          unfold f_X9_advances_J354; rw [if_neg one_ne]
        have hx : ((nI b).toUInt32 % 65536).toInt32 = chr b := rfl
        rw [hx]
        rcases f_idx hK hb with ⟨t1, r, t2, t3⟩ | ⟨t1, r, t2, t3⟩
        · rw [t2, Option.bind_some, if_neg t3, hj b]
          refine ⟨4, b, s + 1, _, _, 4, nI b, rfl, ?_, ⟨hb, t1, rfl⟩, ⟨hb, t1, rfl, rfl⟩, by decide, by omega, by omega, fun _ => by omega⟩
          rcases sgn_iff.mp t1 with rfl | rfl | rfl | rfl | rfl | rfl | rfl <;> rfl
        · have nn : ¬ (b = 33 ∨ b = 38 ∨ b = 124 ∨ b = 40 ∨ b = 41 ∨ b = 45 ∨ b = 59) := fun g => absurd (t1.symm.trans (sgn_iff.mpr g)) (by decide)
          rw [t2, Option.bind_some, if_pos t3, if_neg (show ¬ nI b = (33 : Int32) from ne 33 (by decide) (fun g => nn (by omega))), if_neg (show ¬ nI b = (38 : Int32) from ne 38 (by decide) (fun g => nn (by omega))), if_neg (show ¬ nI b = (124 : Int32) from ne 124 (by decide) (fun g => nn (by omega))), if_neg (show ¬ nI b = (40 : Int32) from ne 40 (by decide) (fun g => nn (by omega))), if_neg (show ¬ nI b = (41 : Int32) from ne 41 (by decide) (fun g => nn (by omega))), if_neg (show ¬ nI b = (45 : Int32) from ne 45 (by decide) (fun g => nn (by omega))), if_neg (show ¬ nI b = (59 : Int32) from ne 59 (by decide) (fun g => nn (by omega)))]
          exact ⟨5, 0, s + 1, _, _, _, _, rfl, rfl, rfl, rfl, by decide, by omega, by omega, fun _ => by omega⟩
  · rw [bt_out (by omega), if_neg (by decide), if_neg (by decide)]
    exact ⟨0, 0, s, _, _, _, _, rfl, rfl, rfl, rfl, by decide, by omega, hs, fun g => absurd rfl g⟩
theorem tok {K L : Nat} {cb rt : Nat → Int32} {p : Nat} {v v' : Int32} (hK : 1000 ≤ K) (h : TX L cb rt) (hp : p ≤ L) : ∃ s, p ≤ s ∧ s ≤ L ∧ aft L s (f_X6_step K 200 (nI p) v (nI L) cb) (f_X9_advances K 200 (nI L) (nI p) v' rt) := by
  have hL := h.1
  rw [cStep_eq, rStep_eq, f_byteAt h (by omega), Option.bind_some]
  by_cases hpL : p < L
  · rw [if_neg (nI_ge hpL (by omega)), f_at hL (by omega), Option.bind_some]
    by_cases e : btA L cb p = 32
    · rw [if_pos e, if_pos e, nI_1]
      obtain ⟨q, w1, w2, w3⟩ := c_blank (cb := cb) (p := p + 1) hK hL (by omega)
      obtain ⟨q', u1, u2, u3⟩ := r_blank (p := p + 1) hK h (by omega)
      have eq : q' = q := sc_unique u3 w3
      subst eq
      rw [w1, u1, Option.bind_some, Option.bind_some]
      exact ⟨q', by have := w3.1; omega, w2, aft_ok hK h w2⟩
    · rw [if_neg e, if_neg e]
      exact ⟨p, Nat.le_refl p, hp, aft_ok hK h hp⟩
  · rw [if_pos (nI_le (by omega) (by omega)), if_neg (show ¬ btA L cb p = 32 by rw [bt_out (by omega)]; decide)]
    exact ⟨p, Nat.le_refl p, hp, aft_ok hK h hp⟩

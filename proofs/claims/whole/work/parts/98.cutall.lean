/-! THE CUT: the vertices by one saying more -/
theorem isX_swap {lo hi : Nat → Nat → Int} {t nb p q : Nat} {X Y F T : Int32} {V : Nat → Nat → Int} (h : oneMore lo hi t X Y F T) (hFT : F.toInt = T.toInt) (hX : isX (cnA lo hi) (8 + 2 * t) nb V (8 + 2 * t + 1) p q) : isX (cnA lo hi) (8 + 2 * t) nb V (8 + 2 * t) q p ∧ ∀ w, cv (cnA lo hi) (8 + 2 * t + 1) V p q w = cv (cnA lo hi) (8 + 2 * t) V q p w := by
  have neg : ∀ x : Nat → Int, ev (cnA lo hi (8 + 2 * t + 1)) x = -ev (cnA lo hi (8 + 2 * t)) x := fun x => by
    have := om_diff h x
    rw [hFT, Int.sub_self, Int.zero_mul] at this
    omega
  obtain ⟨-, hp, hq, h1, h2, h3⟩ := hX
  rw [neg] at h1 h2
  refine ⟨⟨Or.inl rfl, hq, hp, by omega, by omega, fun y hy => ?_⟩, fun w => by unfold cv; rw [neg, neg]; grind⟩
  obtain ⟨k, r, s, hk, hh⟩ := h3 y (fun c hc h0 => hy c hc (by rw [ev_lin] at h0 ⊢; omega))
  exact ⟨k, s, r, hk, fun w hw => by rw [hh w hw]; omega⟩
theorem f_cut {lo hi : Nat → Nat → Int} {t nb K : Nat} {X Y F T on fb tb : Int32} {Pb P0 m0 ov0 un0 : Nat → Int64} {Lb L0 : Nat → Int32} (hK : 1000 ≤ K) (hc : cctx lo hi t X Y F T nb Pb Lb) (hbt : bitsAt t fb tb) :
    ∃ n' P' L' m' ov un, f_X0_cut K (8 * roomOf (t + 1)) (roomOf (t + 1)) 8 (8 * roomOf t) (roomOf t) (roomOf t) (roomOf t) fb tb (nI (roomOf (t + 1))) P0 L0 m0 (nI nb) Pb Lb ov0 un0 X Y F T on = some (nI n', P', L', m', X, Y, F, T, on, ov, un) ∧ xct lo hi (t + 1) n' P' L' := by
  have hnb := room_le (by have := hc.1; omega) hc.2.2.1.1
  have hr := roomOf_le t
  obtain ⟨om1, om2, om3, om4, om5⟩ := hc.2.1
  have hV : ∀ i, i < nb → vtx (cnA lo hi) (8 + 2 * t) (ent Pb i) := fun i hi' => (hc.2.2.1.1.1 i hi').1
  obtain ⟨ov, un, p1, q1⟩ := f_measure (P := Pb) (ov0 := ov0) (un0 := un0) (np := 8 * roomOf t) (no := roomOf t) (nu := roomOf t) (c := nb) (K := K) (X := X) (Y := Y) (F := F) (T := T) (by omega) (by omega) (by omega) hnb hnb (by omega) (by omega) (by omega) ⟨om3, by omega⟩ ⟨by omega, om5⟩ (fun i hi' w hw => by have := cctx_ent hc hi' w hw; omega)
  have hov : slOK lo hi nb Pb ov (8 + 2 * t) := fun i hi' => by rw [(q1 i hi').1, om_lo, om1]
  have hun : slOK lo hi nb Pb un (8 + 2 * t + 1) := fun i hi' => by rw [(q1 i hi').2, om_hi, om2]
  obtain ⟨r, p2, n1, P1, L1, m1, rfl, q2⟩ := f_keepall (P0 := P0) (m0 := m0) (L0 := L0) hK hc hbt hov hun
  have zN : ∀ p q, ev (cnA lo hi (8 + 2 * t)) (cv (cnA lo hi) (8 + 2 * t) (ent Pb) p q) = 0 := fun p q => cv_zero p q
  have zN1 : ∀ p q, ev (cnA lo hi (8 + 2 * t + 1)) (cv (cnA lo hi) (8 + 2 * t + 1) (ent Pb) p q) = 0 := fun p q => cv_zero p q
  unfold f_X0_cut f_X4_take
  rw [Option.bind_some]
  simp only
  rw [p1, Option.bind_some]
  simp only
  rw [p2, Option.bind_some]
  simp only
  by_cases hFT : F = T
  · have hFTi : F.toInt = T.toInt := by rw [hFT]
    obtain ⟨n', P', L', m', p3, q3⟩ := f_crossall_o (K := K) (n := n1) (P := P1) (L := L1) (m := m1) (met := fb ||| tb) (D0 := fun _ _ _ => False) hK hc hov (Or.inl rfl) (fun p q hX => by
      refine lims_ext (lims_cross hV hX (hc.2.2.1.1.1 p hX.2.1).2.2 (hc.2.2.1.1.1 q hX.2.2.1).2.2) hbt (fun k _ => ?_)
      have o := (cv_other hc.2.1 hV hX).1
      rw [zN, hFTi, Int.sub_self, Int.zero_mul] at o
      have o2 : ev (cnA lo hi (8 + 2 * t + 1)) (cv (cnA lo hi) (8 + 2 * t) (ent Pb) p q) = 0 := by omega
      rw [hb_or, hb_or, zN, o2]; simp) (fun _ _ _ h => absurd h id) (fun _ _ _ h => absurd h id) q2
    rw [if_pos hFT, p3, Option.bind_some]
    refine ⟨n', P', L', m', ov, un, rfl, q3.1, fun x hx => ?_⟩
    rcases cv_complete hc.2.1 hV hc.2.2.1.2 hx with ⟨j, hj, g1, g2, hp⟩ | ⟨M, p, q, hX, hp⟩
    · obtain ⟨e, he, hpe⟩ := q3.2.2.1 j hj hj g1 g2
      exact ⟨e, he, prop8_trans (prop8_symm (q3.1.1 e he).1.2.1 hpe) hp⟩
    · have fin : ∀ p q, isX (cnA lo hi) (8 + 2 * t) nb (ent Pb) (8 + 2 * t) p q → prop8 (cv (cnA lo hi) (8 + 2 * t) (ent Pb) p q) x → ∃ i, i < n' ∧ prop8 (ent P' i) x := fun p q hX hp => by
        obtain ⟨e, he, hpe⟩ := q3.2.2.2 _ p q (Or.inr rfl) hX
        exact ⟨e, he, prop8_trans (prop8_symm (q3.1.1 e he).1.2.1 hpe) hp⟩
      rcases hX.1 with e | e
      · subst e; exact fin p q hX hp
      · subst e
        obtain ⟨s1, s2⟩ := isX_swap hc.2.1 hFTi hX
        refine fin q p s1 ?_
        have : cv (cnA lo hi) (8 + 2 * t + 1) (ent Pb) p q = cv (cnA lo hi) (8 + 2 * t) (ent Pb) q p := funext s2
        rw [← this]; exact hp
  · have hFTi : F.toInt < T.toInt := by
      have : F.toInt ≠ T.toInt := fun e => hFT (Int32.toInt_inj.mp e)
      omega
    obtain ⟨n2, P2, L2, m2, p3, q3⟩ := f_crossall_o (K := K) (n := n1) (P := P1) (L := L1) (m := m1) (met := fb) (D0 := fun _ _ _ => False) hK hc hov (Or.inl rfl) (fun p q hX => by
      refine lims_ext (lims_cross hV hX (hc.2.2.1.1.1 p hX.2.1).2.2 (hc.2.2.1.1.1 q hX.2.2.1).2.2) hbt (fun k _ => ?_)
      obtain ⟨o, op⟩ := cv_other hc.2.1 hV hX
      rw [zN] at o
      have := Int.mul_pos (show 0 < T.toInt - F.toInt by omega) op
      have o2 : ¬ ev (cnA lo hi (8 + 2 * t + 1)) (cv (cnA lo hi) (8 + 2 * t) (ent Pb) p q) = 0 := by omega
      rw [hb_or, zN]; simp [o2]) (fun _ _ _ h => absurd h id) (fun _ _ _ h => absurd h id) q2
    obtain ⟨n', P', L', m', p4, q4⟩ := f_crossall_u (K := K) (n := n2) (P := P2) (L := L2) (m := m2) (met := tb) (D0 := fun M' p' q' => False ∨ M' = 8 + 2 * t) hK hc hun (Or.inr rfl) (fun p q hX => by
      refine lims_ext (lims_cross hV hX (hc.2.2.1.1.1 p hX.2.1).2.2 (hc.2.2.1.1.1 q hX.2.2.1).2.2) hbt (fun k _ => ?_)
      obtain ⟨o, op⟩ := cv_other hc.2.1 hV hX
      rw [zN1] at o
      have := Int.mul_pos (show 0 < T.toInt - F.toInt by omega) op
      have o2 : ¬ ev (cnA lo hi (8 + 2 * t)) (cv (cnA lo hi) (8 + 2 * t + 1) (ent Pb) p q) = 0 := by omega
      rw [hb_or, zN1]; simp [o2]) (fun M' p' q' hD hX' p q hX => by
      rcases hD with h | h
      · exact absurd h id
      · subst h; exact cv_differ hc.2.1 hFTi hV hX' hX) (fun M' p' q' hD => by
      rcases hD with h | h
      · exact absurd h id
      · omega) q3
    rw [if_neg hFT, p3, Option.bind_some]
    simp only
    rw [p4, Option.bind_some]
    refine ⟨n', P', L', m', ov, un, rfl, q4.1, fun x hx => ?_⟩
    rcases cv_complete hc.2.1 hV hc.2.2.1.2 hx with ⟨j, hj, g1, g2, hp⟩ | ⟨M, p, q, hX, hp⟩
    · obtain ⟨e, he, hpe⟩ := q4.2.2.1 j hj hj g1 g2
      exact ⟨e, he, prop8_trans (prop8_symm (q4.1.1 e he).1.2.1 hpe) hp⟩
    · obtain ⟨e, he, hpe⟩ := q4.2.2.2 M p q (by
        rcases hX.1 with e | e
        · exact Or.inl (Or.inr e)
        · exact Or.inr e) hX
      exact ⟨e, he, prop8_trans (prop8_symm (q4.1.1 e he).1.2.1 hpe) hp⟩
/-- the vertices where there is no saying -/
def unitv (j w : Nat) : Int := if w = j then 1 else 0
theorem unit_vtx {lo hi : Nat → Nat → Int} {j : Nat} (hj : j < 8) : vtx (cnA lo hi) (8 + 2 * 0) (unitv j) := by
  refine ⟨fun c hc => ?_, ⟨j, hj, by unfold unitv; rw [if_pos rfl]; decide⟩, fun y hy => ?_⟩
  · rw [cnA_coord (by omega)]; unfold unitv; split <;> decide
  · refine ⟨1, y j, by decide, fun w hw => ?_⟩
    by_cases e : w = j
    · unfold unitv; rw [if_pos e, e]; omega
    · have := hy w (by omega) (by rw [cnA_coord hw]; unfold unitv; rw [if_neg e])
      rw [cnA_coord hw] at this
      unfold unitv; rw [if_neg e, this]; omega
theorem unit_all {lo hi : Nat → Nat → Int} {x : Nat → Int} (hx : vtx (cnA lo hi) (8 + 2 * 0) x) : ∃ j, j < 8 ∧ prop8 (unitv j) x := by
  obtain ⟨j, hj, hne⟩ := hx.2.1
  refine ⟨j, hj, prop8_symm ⟨j, hj, by unfold unitv; rw [if_pos rfl]; decide⟩ (hx.2.2 (unitv j) fun c hc h0 => ?_)⟩
  rw [cnA_coord (by omega)] at h0 ⊢
  unfold unitv
  rw [if_neg (fun e => hne (by rw [← e]; exact h0))]
theorem world_bits : ∀ j, j < 8 → ∀ k, k < 32 → hb ((255 : Int32) &&& (((1 : Int32) <<< (nI j &&& 31)) ^^^ (-1 : Int32))) k = (decide (k < 8) && !decide (k = j)) := by decide +kernel
theorem f_unitrow {K j : Nat} {m0 : Nat → Int64} (hK : 100 ≤ K) (hj : j < 8) : ∃ m, lp (f_X0_startWithWorlds_L15 8 (nI j)) K ((0 : Int32), m0) = some m ∧ ∀ w, w < 8 → (m w).toInt = unitv j w := by
  refine lp_loop (f := f_X0_startWithWorlds_L15 8 (nI j)) (fun k st => k ≤ 8 ∧ ∃ m : Nat → Int64, st = (nI k, m) ∧ ∀ w, w < k → (m w).toInt = unitv j w) 8 _ (fun k st hI => ?_) K 0 _ ⟨Nat.zero_le _, m0, rfl, fun w h => absurd h (Nat.not_lt_zero w)⟩ (by omega)
  obtain ⟨hk, m, rfl, h⟩ := hI
  unfold f_X0_startWithWorlds_L15
  simp only
  by_cases e : k = 8
  · subst e
    rw [if_pos (show (8 : Int32) ≤ nI 8 from nI_le (Nat.le_refl 8) (by decide))]
    exact Or.inl ⟨m, rfl, h⟩
  · have hk8 : k < 8 := by omega
    rw [if_neg (show ¬ (8 : Int32) ≤ nI k from nI_ge hk8 (by decide))]
    by_cases ej : k = j
    · rw [if_pos (by rw [ej]), if_neg (nI_in hk8 (by decide)), nI_clamp (by omega), nI_1]
      refine Or.inr ⟨hk8, _, rfl, by omega, _, rfl, fun w hw => ?_⟩
      by_cases ew : w = k
      · subst ew; rw [pk_uLs]; unfold unitv; rw [if_pos ej]; rfl
      · rw [pk_uLn ew]; exact h w (by omega)
    · rw [if_neg (fun hh => ej ((nI_eq (by omega) (by omega)).mp hh)), if_neg (nI_in hk8 (by decide)), nI_clamp (by omega), nI_1]
      refine Or.inr ⟨hk8, _, rfl, by omega, _, rfl, fun w hw => ?_⟩
      by_cases ew : w = k
      · subst ew; rw [pk_uLs]; unfold unitv; rw [if_neg ej]; rfl
      · rw [pk_uLn ew]; exact h w (by omega)
theorem f_start {lo hi : Nat → Nat → Int} {K : Nat} {P0 m0 : Nat → Int64} {L0 : Nat → Int32} (hK : 1000 ≤ K) : ∃ P L m, f_X0_startWithWorlds K (8 * roomOf 0) (roomOf 0) 8 (nI (roomOf 0)) P0 L0 m0 = some (nI 8, P, L, m) ∧ xct lo hi 0 8 P L := by
  obtain ⟨r, h1, P, L, m, rfl, h2, h3⟩ := lp_loop (f := f_X0_startWithWorlds_L7 K (8 * roomOf 0) (roomOf 0) 8 (nI (roomOf 0)))
    (fun j st => j ≤ 8 ∧ ∃ P L m, st = (nI j, nI j, P, L, m) ∧ bld lo hi 0 j P L ∧ ∀ i, i < j → prop8 (unitv i) (ent P i)) 8 (fun r => ∃ P L m, r = (nI 8, P, L, m) ∧ bld lo hi 0 8 P L ∧ ∀ i, i < 8 → prop8 (unitv i) (ent P i)) (fun j st hI => by
      obtain ⟨hj, P, L, m, rfl, hb', hu⟩ := hI
      unfold f_X0_startWithWorlds_L7
      simp only
      by_cases e : j = 8
      · subst e
        rw [if_pos (show (8 : Int32) ≤ nI 8 from nI_le (Nat.le_refl 8) (by decide))]
        exact Or.inl ⟨_, rfl, P, L, m, rfl, hb', hu⟩
      · have hj8 : j < 8 := by omega
        obtain ⟨m1, p1, q1⟩ := f_unitrow (m0 := m) (K := K) (by omega) hj8
        obtain ⟨P', b1, b2, b3, b4⟩ := f_addv (K := K) (t := 0) (P := P) (L := L) (m := m1) (x := unitv j) (met := (255 : Int32) &&& (((1 : Int32) <<< (nI j &&& 31)) ^^^ (-1 : Int32))) hK (by decide) hb' q1 (unit_vtx hj8) (fun i hi' hp => by
          have h5 := prop8_trans (hu i hi') hp
          obtain ⟨p, q, hp', hpq⟩ := h5
          have := hpq j hj8
          unfold unitv at this
          rw [if_pos rfl, if_neg (by omega)] at this
          omega) (fun k hk => by
          rw [world_bits j hj8 k hk]
          simp only [Bool.and_eq_true, decide_eq_true_eq, Bool.not_eq_true', decide_eq_false_iff_not]
          constructor
          · rintro ⟨h1, h2⟩
            exact ⟨k, by omega, by unfold bitOf; rw [if_pos h1], by rw [cnA_coord h1]; unfold unitv; rw [if_neg h2]⟩
          · rintro ⟨c, hc, e, h0⟩
            have hc8 : c < 8 := by omega
            unfold bitOf at e
            rw [if_pos hc8] at e
            subst e
            refine ⟨hc8, fun h => ?_⟩
            rw [cnA_coord hc8] at h0
            unfold unitv at h0
            rw [if_pos h] at h0
            exact absurd h0 (by decide))
        rw [if_neg (show ¬ (8 : Int32) ≤ nI j from nI_ge hj8 (by decide)), p1, Option.bind_some, b1, Option.bind_some, nI_1]
        refine Or.inr ⟨hj8, _, rfl, by omega, P', _, m1, rfl, b2, fun i hi' => ?_⟩
        by_cases ei : i = j
        · rw [ei]; exact b4
        · exact ent_prop (b3 i (by omega)) (hu i (by omega))) K 0 _ ⟨Nat.zero_le _, P0, L0, m0, rfl, ⟨fun i h => absurd h (Nat.not_lt_zero i), fun i j h => absurd h (Nat.not_lt_zero i)⟩, fun i h => absurd h (Nat.not_lt_zero i)⟩ (by omega)
  have h1' : lp (f_X0_startWithWorlds_L7 K (8 * roomOf 0) (roomOf 0) 8 (nI (roomOf 0))) K ((0 : Int32), (0 : Int32), P0, L0, m0) = some (nI 8, P, L, m) := h1
  refine ⟨P, L, m, by unfold f_X0_startWithWorlds; rw [h1']; rfl, h2, fun x hx => ?_⟩
  obtain ⟨j, hj, hp⟩ := unit_all hx
  exact ⟨j, hj, prop8_trans (prop8_symm (h2.1 j hj).1.2.1 (h3 j hj)) hp⟩

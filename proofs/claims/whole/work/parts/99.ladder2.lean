theorem enm_keep (S : Nat → Bool) (c j : Nat) (h : j < ct_cd S c) : enm S (c + 1) j = enm S c j := by
  rw [enm]
  by_cases hs : S c = true
  · rw [if_pos hs, if_neg (by omega)]
  · rw [if_neg hs]
theorem f_rowsBy {K b : Nat} {np nl no nu nm : Nat → Nat} {fb tb ro co cx cy cf ct con : Nat → Int32} {pa ov un mi : Nat → Nat → Int64} {li : Nat → Nat → Int32} {sx sy sf st so : Nat → Int32} {ax ay af at' ao set giving by' : Int32} (hK : 1000 ≤ K) (hC : laC np nl no nu nm fb tb ro) (hL : LI b co pa li cx cy cf ct)
    (hS : ∀ i, i < 4 → hb set i = true → okFT (sf i) (st i)) (hby : 0 ≤ by'.toInt ∧ by'.toInt ≤ 100) :
    ∃ k b' co' pa' li' ov' un' mi' cx' cy' cf' ct' con' a1 a2 a3 a4 a5, f_X2_rowsBy K np nl no nu nm sx sy sf st so (nI b) fb tb ro co pa li ov un mi cx cy cf ct con ax ay af at' ao set giving by' = some (k, nI b', co', pa', li', ov', un', mi', cx', cy', cf', ct', con', a1, a2, a3, a4, a5) ∧ LI b' co' pa' li' cx' cy' cf' ct' ∧ k ≤ b' ∧
      ∀ x, inC (cnA (laLo cx' cy' cf') (laLo cx' cy' ct')) (8 + 2 * k) x ↔ coneS sx sy sf st set giving by' x := by
  obtain ⟨r, h1, s, b', co', pa', li', ov', un', mi', cx', cy', cf', ct', con', a1, a2, a3, a4, a5, rfl, h2, h3, h4, h5⟩ := lp_loop (f := f_X2_rowsBy_L9 K np nl no nu nm sx sy sf st so fb tb ro set giving by')
    (fun c w => c ≤ 4 ∧ ∃ b co pa li ov un mi cx cy cf ct con ax ay af at' ao, w = (nI (ct_cd (fun q => hb set (3 - q)) c), xiD c, nI b, co, pa, li, ov, un, mi, cx, cy, cf, ct, con, ax, ay, af, at', ao) ∧ LI b co pa li cx cy cf ct ∧ ct_cd (fun q => hb set (3 - q)) c ≤ b ∧
      ∀ j, j < ct_cd (fun q => hb set (3 - q)) c → cx (j + 1) = sx (3 - enm (fun q => hb set (3 - q)) c j) ∧ cy (j + 1) = sy (3 - enm (fun q => hb set (3 - q)) c j) ∧ (cf (j + 1)).toInt = clamp ((sf (3 - enm (fun q => hb set (3 - q)) c j)).toInt + -1 * byOf giving by' (3 - enm (fun q => hb set (3 - q)) c j)) ∧ (ct (j + 1)).toInt = clamp ((st (3 - enm (fun q => hb set (3 - q)) c j)).toInt + 1 * byOf giving by' (3 - enm (fun q => hb set (3 - q)) c j))) 4
    (fun r => ∃ s b co pa li ov un mi cx cy cf ct con ax ay af at' ao, r = (nI s, nI b, co, pa, li, ov, un, mi, cx, cy, cf, ct, con, ax, ay, af, at', ao) ∧ LI b co pa li cx cy cf ct ∧ s ≤ b ∧ s = ct_cd (fun q => hb set (3 - q)) 4 ∧
      ∀ j, j < s → cx (j + 1) = sx (3 - enm (fun q => hb set (3 - q)) 4 j) ∧ cy (j + 1) = sy (3 - enm (fun q => hb set (3 - q)) 4 j) ∧ (cf (j + 1)).toInt = clamp ((sf (3 - enm (fun q => hb set (3 - q)) 4 j)).toInt + -1 * byOf giving by' (3 - enm (fun q => hb set (3 - q)) 4 j)) ∧ (ct (j + 1)).toInt = clamp ((st (3 - enm (fun q => hb set (3 - q)) 4 j)).toInt + 1 * byOf giving by' (3 - enm (fun q => hb set (3 - q)) 4 j)))
    (fun c w hI => by
      obtain ⟨hc, b, co, pa, li, ov, un, mi, cx, cy, cf, ct, con, ax, ay, af, at', ao, rfl, hL, hsb, hm⟩ := hI
      unfold f_X2_rowsBy_L9
      simp only
      by_cases e : c = 4
      · subst e
        rw [if_pos xiD_end.1]
        exact Or.inl ⟨_, rfl, _, b, co, pa, li, ov, un, mi, cx, cy, cf, ct, con, ax, ay, af, at', ao, rfl, hL, hsb, rfl, hm⟩
      · have hc4 : c < 4 := by omega
        obtain ⟨x1, x2, x3⟩ := xiD_step c hc4
        have hcd := ct_cd_le (fun q => hb set (3 - q)) c
        rw [if_neg x2, x3, f_has set (show 3 - c < 8 by omega), Option.bind_some]
        cases hbit : hb set (3 - c)
        · rw [if_pos (by decide), ← x3, x1]
          have e1 : ct_cd (fun q => hb set (3 - q)) (c + 1) = ct_cd (fun q => hb set (3 - q)) c := by rw [ct_cd, hbit]; simp
          refine Or.inr ⟨hc4, _, rfl, by omega, b, co, pa, li, ov, un, mi, cx, cy, cf, ct, con, ax, ay, af, at', ao, by rw [e1], hL, by rw [e1]; exact hsb, fun j hj => ?_⟩
          rw [e1] at hj
          rw [enm_keep _ c j hj]
          exact hm j hj
        · have hok := hS (3 - c) (by omega) hbit
          have e1 : ct_cd (fun q => hb set (3 - q)) (c + 1) = ct_cd (fun q => hb set (3 - q)) c + 1 := by rw [ct_cd, hbit]; simp
          rw [if_neg (by decide), if_neg (show ¬ (Int32.ofNat 5) ≤ (nI (ct_cd (fun q => hb set (3 - q)) c) + (1 : Int32)) by rw [nI_1]; exact nI_ge (show _ < 5 by omega) (by decide)), if_neg (nI_in (show 3 - c < 4 by omega) (by decide)), nI_clamp (show 3 - c < 2 ^ 31 by omega)]
          unfold f_X4_take
          rw [Option.bind_some]
          simp only
          rw [f_has giving (show 3 - c < 8 by omega), Option.bind_some]
          have fin : ∀ (F T : Int32), F.toInt = clamp ((sf (3 - c)).toInt + -1 * byOf giving by' (3 - c)) → T.toInt = clamp ((st (3 - c)).toInt + 1 * byOf giving by' (3 - c)) → okFT F T →
              ∃ s', (if nI b < (nI (ct_cd (fun q => hb set (3 - q)) c) + 1) then
                  f_X2_rowsBy_J100 K np nl no nu nm fb tb ro co pa li ov un mi cx cy cf ct con (sx (3 - c)) (sy (3 - c)) F T (so (3 - c)) (nI (ct_cd (fun q => hb set (3 - q)) c) + 1) (nI (3 - c))
                else
                  if (nI (ct_cd (fun q => hb set (3 - q)) c) + 1) < 0 ∨ 5 ≤ (nI (ct_cd (fun q => hb set (3 - q)) c) + 1).toNatClampNeg then none else
                  (f_X4_saysSameAs (cx ((nI (ct_cd (fun q => hb set (3 - q)) c) + 1).toNatClampNeg)) (cy ((nI (ct_cd (fun q => hb set (3 - q)) c) + 1).toNatClampNeg)) (cf ((nI (ct_cd (fun q => hb set (3 - q)) c) + 1).toNatClampNeg)) (ct ((nI (ct_cd (fun q => hb set (3 - q)) c) + 1).toNatClampNeg)) (sx (3 - c)) (sy (3 - c)) F T).bind fun z15_0 =>
                  if z15_0 = (0 : Int32) then
                    f_X2_rowsBy_J100 K np nl no nu nm fb tb ro co pa li ov un mi cx cy cf ct con (sx (3 - c)) (sy (3 - c)) F T (so (3 - c)) (nI (ct_cd (fun q => hb set (3 - q)) c) + 1) (nI (3 - c))
                  else
                    some (.inr (nI (ct_cd (fun q => hb set (3 - q)) c) + 1, nI (3 - c) + (-1), nI b, co, pa, li, ov, un, mi, cx, cy, cf, ct, con, sx (3 - c), sy (3 - c), F, T, so (3 - c)))) = some (.inr s') ∧ (c + 1 ≤ 4 ∧ ∃ b co pa li ov un mi cx cy cf ct con ax ay af at' ao, s' = (nI (ct_cd (fun q => hb set (3 - q)) (c + 1)), xiD (c + 1), nI b, co, pa, li, ov, un, mi, cx, cy, cf, ct, con, ax, ay, af, at', ao) ∧ LI b co pa li cx cy cf ct ∧ ct_cd (fun q => hb set (3 - q)) (c + 1) ≤ b ∧
      ∀ j, j < ct_cd (fun q => hb set (3 - q)) (c + 1) → cx (j + 1) = sx (3 - enm (fun q => hb set (3 - q)) (c + 1) j) ∧ cy (j + 1) = sy (3 - enm (fun q => hb set (3 - q)) (c + 1) j) ∧ (cf (j + 1)).toInt = clamp ((sf (3 - enm (fun q => hb set (3 - q)) (c + 1) j)).toInt + -1 * byOf giving by' (3 - enm (fun q => hb set (3 - q)) (c + 1) j)) ∧ (ct (j + 1)).toInt = clamp ((st (3 - enm (fun q => hb set (3 - q)) (c + 1) j)).toInt + 1 * byOf giving by' (3 - enm (fun q => hb set (3 - q)) (c + 1) j))) := by
            intro F T hF hT hFT
            obtain ⟨b', co', pa', li', ov', un', mi', cx', cy', cf', ct', con', p, q1, q2, q3, q4⟩ := f_inner (K := K) (s := ct_cd (fun q => hb set (3 - q)) c) (ov := ov) (un := un) (mi := mi) (con := con) (X := sx (3 - c)) (Y := sy (3 - c)) (F := F) (T := T) (O := so (3 - c)) (x6 := nI (3 - c)) hK hC hL (by omega) hsb hFT
            refine ⟨_, p, by omega, b', co', pa', li', ov', un', mi', cx', cy', cf', ct', con', sx (3 - c), sy (3 - c), F, T, so (3 - c), by rw [e1, ← x3, x1], q1, by rw [e1]; exact q2, fun j hj => ?_⟩
            rw [e1] at hj
            by_cases ej : j = ct_cd (fun q => hb set (3 - q)) c
            · have en1 : enm (fun q => hb set (3 - q)) (c + 1) j = c := by rw [enm, if_pos hbit, if_pos ej]
              rw [en1, ej, q3.1, q3.2.1, q3.2.2.1, q3.2.2.2]
              exact ⟨rfl, rfl, hF, hT⟩
            · rw [enm_keep _ c j (by omega)]
              have g := q4 (j + 1) (by omega)
              rw [g.1, g.2.1, g.2.2.1, g.2.2.2]
              exact hm j (by omega)
          cases hg : hb giving (3 - c)
          · obtain ⟨F, T, l1, l2, l3, l4⟩ := f_loosen (v := 0) (d := 0) hok rfl (by omega)
            have hz : byOf giving by' (3 - c) = 0 := by unfold byOf; rw [hg]; rfl
            rw [if_pos (by decide), l1, Option.bind_some]
            obtain ⟨s', w1, w2⟩ := fin F T (by rw [l2, hz]) (by rw [l3, hz]) l4
            exact Or.inr ⟨hc4, s', w1, w2⟩
          · obtain ⟨F, T, l1, l2, l3, l4⟩ := f_loosen (v := by') (d := by'.toInt) hok rfl hby
            have hz : byOf giving by' (3 - c) = by'.toInt := by unfold byOf; rw [hg]; rfl
            rw [if_neg (by decide), l1, Option.bind_some]
            obtain ⟨s', w1, w2⟩ := fin F T (by rw [l2, hz]) (by rw [l3, hz]) l4
            exact Or.inr ⟨hc4, s', w1, w2⟩) K 0 ((0 : Int32), (Int32.ofNat 4) - (1 : Int32), nI b, co, pa, li, ov, un, mi, cx, cy, cf, ct, con, ax, ay, af, at', ao) ⟨Nat.zero_le _, b, co, pa, li, ov, un, mi, cx, cy, cf, ct, con, ax, ay, af, at', ao, by rw [← xiD_end.2]; rfl, hL, Nat.zero_le _, fun j h => absurd h (Nat.not_lt_zero j)⟩ (by omega)
  have hs4 : s ≤ 4 := by have := h2.1; omega
  refine ⟨s, b', co', pa', li', ov', un', mi', cx', cy', cf', ct', con', a1, a2, a3, a4, a5, ?_, h2, h3, fun x => ?_⟩
  · unfold f_X2_rowsBy
    rw [h1, Option.bind_some]
    simp only
    rw [if_neg (nI_in (show s < 5 by omega) (by decide)), nI_clamp (by omega)]
  · rw [cnA_inC]
    unfold coneS
    refine and_congr Iff.rfl ⟨fun h i hi' hbi => ?_, fun h j hj => ?_⟩
    · obtain ⟨j, hj, ej⟩ := enm_all (fun q => hb set (3 - q)) 4 (3 - i) (by omega) (by show hb set (3 - (3 - i)) = true; rw [show 3 - (3 - i) = i by omega]; exact hbi)
      have g := h5 j (by rw [h4]; exact hj)
      rw [ej, show 3 - (3 - i) = i by omega] at g
      have := h j (by rw [h4]; exact hj)
      unfold laLo at this
      rw [g.1, g.2.1, g.2.2.1, g.2.2.2] at this
      exact this
    · have hin := enm_in (fun q => hb set (3 - q)) 4 j (by rw [← h4]; exact hj)
      have g := h5 j hj
      unfold laLo
      rw [g.1, g.2.1, g.2.2.1, g.2.2.2]
      exact h _ (by omega) hin.2
/-- the class's list generates its rows -/
theorem xct_cmpl {lo hi : Nat → Nat → Int} {t n : Nat} {P : Nat → Int64} {L : Nat → Int32} {Q : (Nat → Int) → Prop} (hx : xct lo hi t n P L) (hQ : ∀ x, inC (cnA lo hi) (8 + 2 * t) x ↔ Q x) : cmpl Q n (ent P) := by
  refine ⟨fun e he => ⟨(hQ _).mp (hx.1.1 e he).1.1, su_pos (cnA_coords lo hi t) (hx.1.1 e he).1.1 (hx.1.1 e he).1.2.1⟩, fun x hq => gens_comb (fun v hv => ?_) (km (cnA_coords lo hi t) _ x (Nat.le_refl _) ((hQ x).mpr hq))⟩
  obtain ⟨i, hi', hp⟩ := hx.2 v hv
  exact gens_prop hi' (su_pos (cnA_coords lo hi t) hv.1 hv.2.1) (su_pos (cnA_coords lo hi t) (hx.1.1 i hi').1.1 (hx.1.1 i hi').1.2.1) (prop8_symm hv.2.1 hp)

/-! the ladder: a step made anew, and the rows by a set of sayings -/
theorem f_J100 {K b s : Nat} {np nl no nu nm : Nat → Nat} {fb tb ro co cx cy cf ct con : Nat → Int32} {pa ov un mi : Nat → Nat → Int64} {li : Nat → Nat → Int32} {X Y F T O x6 : Int32} (hK : 1000 ≤ K) (hC : laC np nl no nu nm fb tb ro) (hL : LI b co pa li cx cy cf ct) (hs1 : 1 ≤ s) (hs4 : s ≤ 4) (hsb : s ≤ b + 1) (hFT : okFT F T) :
    ∃ n P' L' m' ov' un', f_X2_rowsBy_J100 K np nl no nu nm fb tb ro co pa li ov un mi cx cy cf ct con X Y F T O (nI s) x6 = some (.inr (nI s, x6 + (-1), nI s, va_up co s (nI n), va_up pa s P', va_up li s L', ov', un', va_up mi s m', va_up cx s X, va_up cy s Y, va_up cf s F, va_up ct s T, va_up con s O, X, Y, F, T, O)) ∧ LI s (va_up co s (nI n)) (va_up pa s P') (va_up li s L') (va_up cx s X) (va_up cy s Y) (va_up cf s F) (va_up ct s T) := by
  obtain ⟨t, rfl⟩ : ∃ t, s = t + 1 := ⟨s - 1, by omega⟩
  obtain ⟨hb4, hr, hx⟩ := hL
  obtain ⟨nt, e1, e2⟩ := hx t (by omega)
  obtain ⟨c1, c2, c3, c4, c5, c6⟩ := hC.1 (t + 1) (by omega)
  obtain ⟨d1, d2, d3, d4, d5, d6⟩ := hC.1 t (by omega)
  have cong : ∀ j, j < t → laLo cx cy cf j = laLo (va_up cx (t + 1) X) (va_up cy (t + 1) Y) (va_up cf (t + 1) F) j ∧ laLo cx cy ct j = laLo (va_up cx (t + 1) X) (va_up cy (t + 1) Y) (va_up ct (t + 1) T) j := fun j hj => by
    unfold laLo
    rw [va_up_ne cx X (show j + 1 ≠ t + 1 by omega), va_up_ne cy Y (show j + 1 ≠ t + 1 by omega), va_up_ne cf F (show j + 1 ≠ t + 1 by omega), va_up_ne ct T (show j + 1 ≠ t + 1 by omega)]
    exact ⟨rfl, rfl⟩
  have hcc : cctx (laLo (va_up cx (t + 1) X) (va_up cy (t + 1) Y) (va_up cf (t + 1) F)) (laLo (va_up cx (t + 1) X) (va_up cy (t + 1) Y) (va_up ct (t + 1) T)) t X Y F T nt (pa t) (li t) := by
    refine ⟨by omega, ⟨?_, ?_, hFT.1, hFT.2.1, hFT.2.2⟩, xct_cong cong e2, fun i hi' => (la_size (by omega) (fun j h1 h2 => hr j h1 (by omega)) e2 i hi').2 (by omega)⟩
    · unfold laLo; rw [va_up_self, va_up_self, va_up_self]
    · unfold laLo; rw [va_up_self, va_up_self, va_up_self]
  obtain ⟨n', P', L', m', ov', un', p, q⟩ := f_cut (K := K) (on := O) (P0 := pa (t + 1)) (L0 := li (t + 1)) (m0 := mi (t + 1)) (ov0 := ov t) (un0 := un t) hK hcc (hC.2 t (by omega))
  refine ⟨n', P', L', m', va_up ov t ov', va_up un t un', ?_, by omega, fun t' h1 h2 => ?_, fun t' h2 => ?_⟩
  · unfold f_X2_rowsBy_J100
    rw [if_neg (nI_in (show t + 1 < 5 by omega) (by decide)), nI_pred, if_neg (nI_in (show t < 5 by omega) (by decide)), nI_clamp (show t + 1 < 2 ^ 31 by omega), nI_clamp (show t < 2 ^ 31 by omega), c1, c2, c5, c6, d1, d2, d3, d4, e1, p, Option.bind_some]
  · by_cases e : t' = t + 1
    · rw [e, va_up_self, va_up_self]; exact hFT
    · rw [va_up_ne _ _ e, va_up_ne _ _ e]; exact hr t' h1 (by omega)
  · by_cases e : t' = t + 1
    · subst e
      exact ⟨n', by rw [va_up_self], by rw [va_up_self, va_up_self]; exact q⟩
    · obtain ⟨n2, g1, g2⟩ := hx t' (by omega)
      refine ⟨n2, by rw [va_up_ne _ _ e]; exact g1, ?_⟩
      rw [va_up_ne _ _ e, va_up_ne _ _ e]
      exact xct_cong (fun j hj => cong j (by omega)) g2
theorem f_same (a b c d a' b' c' d' : Int32) : f_X4_saysSameAs a b c d a' b' c' d' = some (if a = a' ∧ b = b' ∧ c = c' ∧ d = d' then 1 else 0) := by
  unfold f_X4_saysSameAs
  by_cases h1 : a = a'
  · rw [if_pos h1]
    by_cases h2 : b = b'
    · rw [if_pos h2]
      by_cases h3 : c = c'
      · rw [if_pos h3]
        by_cases h4 : d = d'
        · rw [if_pos h4, if_pos ⟨h1, h2, h3, h4⟩]
        · rw [if_neg h4, if_neg (fun h => h4 h.2.2.2)]
      · rw [if_neg h3, if_neg (fun h => h3 h.2.2.1)]
    · rw [if_neg h2, if_neg (fun h => h2 h.2.1)]
  · rw [if_neg h1, if_neg (fun h => h1 h.1)]
theorem f_inner {K b s : Nat} {np nl no nu nm : Nat → Nat} {fb tb ro co cx cy cf ct con : Nat → Int32} {pa ov un mi : Nat → Nat → Int64} {li : Nat → Nat → Int32} {X Y F T O x6 : Int32} (hK : 1000 ≤ K) (hC : laC np nl no nu nm fb tb ro) (hL : LI b co pa li cx cy cf ct) (hs4 : s < 4) (hsb : s ≤ b) (hFT : okFT F T) :
    ∃ b' co' pa' li' ov' un' mi' cx' cy' cf' ct' con', (if nI b < (nI s + 1) then
                  f_X2_rowsBy_J100 K np nl no nu nm fb tb ro co pa li ov un mi cx cy cf ct con X Y F T O (nI s + 1) x6
                else
                  if (nI s + 1) < 0 ∨ 5 ≤ (nI s + 1).toNatClampNeg then none else
                  (f_X4_saysSameAs (cx ((nI s + 1).toNatClampNeg)) (cy ((nI s + 1).toNatClampNeg)) (cf ((nI s + 1).toNatClampNeg)) (ct ((nI s + 1).toNatClampNeg)) X Y F T).bind fun z15_0 =>
                  if z15_0 = (0 : Int32) then
                    f_X2_rowsBy_J100 K np nl no nu nm fb tb ro co pa li ov un mi cx cy cf ct con X Y F T O (nI s + 1) x6
                  else
                    some (.inr (nI s + 1, x6 + (-1), nI b, co, pa, li, ov, un, mi, cx, cy, cf, ct, con, X, Y, F, T, O))) = some (.inr (nI (s + 1), x6 + (-1), nI b', co', pa', li', ov', un', mi', cx', cy', cf', ct', con', X, Y, F, T, O)) ∧ LI b' co' pa' li' cx' cy' cf' ct' ∧ s + 1 ≤ b' ∧ (cx' (s + 1) = X ∧ cy' (s + 1) = Y ∧ cf' (s + 1) = F ∧ ct' (s + 1) = T) ∧ ∀ t, t ≤ s → cx' t = cx t ∧ cy' t = cy t ∧ cf' t = cf t ∧ ct' t = ct t := by
  have hb4 := hL.1
  obtain ⟨n, P', L', m', ov', un', p, q⟩ := f_J100 (K := K) (s := s + 1) (ov := ov) (un := un) (mi := mi) (con := con) (X := X) (Y := Y) (F := F) (T := T) (O := O) (x6 := x6) hK hC hL (by omega) (by omega) (by omega) hFT
  have made : ∀ t, t ≤ s → va_up cx (s + 1) X t = cx t ∧ va_up cy (s + 1) Y t = cy t ∧ va_up cf (s + 1) F t = cf t ∧ va_up ct (s + 1) T t = ct t := fun t ht => by
    rw [va_up_ne cx X (show t ≠ s + 1 by omega), va_up_ne cy Y (show t ≠ s + 1 by omega), va_up_ne cf F (show t ≠ s + 1 by omega), va_up_ne ct T (show t ≠ s + 1 by omega)]
    exact ⟨rfl, rfl, rfl, rfl⟩
  rw [nI_1]
  by_cases h1 : b < s + 1
  · rw [if_pos (nI_lt h1 (by omega)), p]
    exact ⟨s + 1, _, _, _, _, _, _, _, _, _, _, _, rfl, q, Nat.le_refl _, ⟨va_up_self _ _ _, va_up_self _ _ _, va_up_self _ _ _, va_up_self _ _ _⟩, made⟩
  · rw [if_neg (nI_nlt (show s + 1 ≤ b by omega) (by omega)), if_neg (nI_in (show s + 1 < 5 by omega) (by decide)), nI_clamp (show s + 1 < 2 ^ 31 by omega), f_same, Option.bind_some]
    by_cases h2 : cx (s + 1) = X ∧ cy (s + 1) = Y ∧ cf (s + 1) = F ∧ ct (s + 1) = T
    · rw [if_pos h2, if_neg (by decide)]
      exact ⟨b, co, pa, li, ov, un, mi, cx, cy, cf, ct, con, rfl, hL, by omega, h2, fun t _ => ⟨rfl, rfl, rfl, rfl⟩⟩
    · rw [if_neg h2, if_pos rfl, p]
      exact ⟨s + 1, _, _, _, _, _, _, _, _, _, _, _, rfl, q, Nat.le_refl _, ⟨va_up_self _ _ _, va_up_self _ _ _, va_up_self _ _ _, va_up_self _ _ _⟩, made⟩
def byOf (giving by' : Int32) (i : Nat) : Int := if hb giving i then by'.toInt else 0
theorem f_loosen {f t v : Int32} {d : Int} (h : okFT f t) (hv : v.toInt = d) (hd : 0 ≤ d ∧ d ≤ 100) : ∃ f' t' : Int32, f_X4_loosen f t v = some (f', t') ∧ f'.toInt = clamp (f.toInt + -1 * d) ∧ t'.toInt = clamp (t.toInt + 1 * d) ∧ okFT f' t' := by
  unfold okFT at h
  have e1 : (f - v).toInt = f.toInt - d := by rw [q32_sub (by rw [hv]; unfold wthn; omega), hv]
  have e2 : (t + v).toInt = t.toInt + d := by rw [q32_add (by rw [hv]; unfold wthn; omega), hv]
  have c1 : ((f - v) < (0 : Int32)) ↔ f.toInt - d < 0 := by rw [Int32.lt_iff_toInt_lt, e1]; rfl
  have c2 : ((100 : Int32) < (t + v)) ↔ 100 < t.toInt + d := by rw [Int32.lt_iff_toInt_lt, e2]; rfl
  have f1 : (if (f - v) < (0 : Int32) then (0 : Int32) else (f - v)).toInt = clamp (f.toInt + -1 * d) := by
    unfold clamp
    by_cases h1 : f.toInt - d < 0
    · rw [if_pos (c1.mpr h1), if_pos (by omega)]; rfl
    · rw [if_neg (fun hh => h1 (c1.mp hh)), if_neg (by omega), if_neg (by omega), e1]; omega
  have f2 : (if (100 : Int32) < (t + v) then (100 : Int32) else (t + v)).toInt = clamp (t.toInt + 1 * d) := by
    unfold clamp
    by_cases h1 : 100 < t.toInt + d
    · rw [if_pos (c2.mpr h1), if_neg (by omega), if_pos (by omega)]; rfl
    · rw [if_neg (fun hh => h1 (c2.mp hh)), if_neg (by omega), if_neg (by omega), e2]; omega
  refine ⟨_, _, rfl, f1, f2, ?_⟩
  unfold okFT
  rw [f1, f2]
  unfold clamp
  split <;> split <;> (try split) <;> (try split) <;> omega
/-- the rows that keep the sayings of a set, of which some give way -/
def coneS (sx sy sf st : Nat → Int32) (set giving by' : Int32) (x : Nat → Int) : Prop := (∀ w, w < 8 → 0 ≤ x w) ∧ ∀ i, i < 4 → hb set i = true → 0 ≤ ev (av (sx i) (sy i) (clamp ((sf i).toInt + -1 * byOf giving by' i))) x ∧ ev (av (sx i) (sy i) (clamp ((st i).toInt + 1 * byOf giving by' i))) x ≤ 0
def xiD (c : Nat) : Int32 := if c ≤ 3 then nI (3 - c) else -1
theorem xiD_step : ∀ c, c < 4 → xiD c + (-1) = xiD (c + 1) ∧ ¬ xiD c < 0 ∧ xiD c = nI (3 - c) := by decide +kernel
theorem xiD_end : xiD 4 < (0 : Int32) ∧ xiD 0 = (Int32.ofNat 4) - (1 : Int32) := by decide +kernel

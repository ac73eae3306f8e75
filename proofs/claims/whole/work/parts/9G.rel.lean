/-! class and reference side by side -/
def SR (n : Nat) (sx sy sf st so : Nat → Int32) (s9 : Nat → Int32) : Prop := n ≤ 4 ∧ ∀ i, i < n → sx i = s9 (5 * i) ∧ sy i = s9 (5 * i + 1) ∧ sf i = s9 (5 * i + 2) ∧ st i = s9 (5 * i + 3) ∧ so i = s9 (5 * i + 4) ∧ okFT (sf i) (st i) ∧ (so i = 0 ∨ so i = 1)
theorem SR.ok {n : Nat} {sx sy sf st so s9 : Nat → Int32} (h : SR n sx sy sf st so s9) : syOK s9 n := ⟨h.1, fun i hi => by
  obtain ⟨-, -, h3, h4, -, h6, -⟩ := h.2 i hi
  unfold okFT at h6
  rw [h3, h4] at h6
  omega⟩
def setIn (set : Int32) (n : Nat) : Prop := ∀ k, k < 32 → hb set k = true → k < n
/-- the cones are the same -/
theorem cone_inS {n : Nat} {sx sy sf st so s9 : Nat → Int32} {set giving by' wd wi : Int32} (h : SR n sx sy sf st so s9) (hs : setIn set n) (hg : ∀ i, i < 4 → hb set i = true → hb giving i = hb wd i) (hb' : by'.toInt = wi.toInt) (x : Nat → Int) : coneS sx sy sf st set giving by' x ↔ inS s9 wd wi n set x := by
  have hn := h.1
  have rows : ∀ i, i < n → hb set i = true → av (sx i) (sy i) (clamp ((sf i).toInt + -1 * byOf giving by' i)) = rowOf s9 wd wi i 0 ∧ av (sx i) (sy i) (clamp ((st i).toInt + 1 * byOf giving by' i)) = rowOf s9 wd wi i 1 := fun i hi hbi => by
    obtain ⟨h1, h2, h3, h4, -⟩ := h.2 i hi
    have e : byOf giving by' i = if hb wd i then wi.toInt else 0 := by unfold byOf; rw [hg i (by omega) hbi, hb']
    unfold rowOf en
    rw [h1, h2, h3, h4, e]
    exact ⟨rfl, rfl⟩
  unfold coneS inS
  refine and_congr Iff.rfl ⟨fun g i hi hbi => ?_, fun g i hi hbi => ?_⟩
  · obtain ⟨r1, r2⟩ := rows i hi hbi
    rw [← r1, ← r2]; exact g i (by omega) hbi
  · have hin := hs i (by omega) hbi
    obtain ⟨r1, r2⟩ := rows i hin hbi
    rw [r1, r2]; exact g i hin hbi
/-- the class's rows by a set -/
theorem c_rows {K b n : Nat} {np nl no nu nm : Nat → Nat} {fb tb ro co cx cy cf ct con : Nat → Int32} {pa ov un mi : Nat → Nat → Int64} {li : Nat → Nat → Int32} {sx sy sf st so s9 : Nat → Int32} {ax ay af at' ao set giving by' wd wi : Int32} (hK : 1000 ≤ K) (hC : laC np nl no nu nm fb tb ro) (hL : LI b co pa li cx cy cf ct)
    (hS : SR n sx sy sf st so s9) (hs : setIn set n) (hg : ∀ i, i < 4 → hb set i = true → hb giving i = hb wd i) (hb' : by'.toInt = wi.toInt) (hw : wiOK wi) :
    ∃ k b' co' pa' li' ov' un' mi' cx' cy' cf' ct' con' a1 a2 a3 a4 a5, f_X2_rowsBy K np nl no nu nm sx sy sf st so (nI b) fb tb ro co pa li ov un mi cx cy cf ct con ax ay af at' ao set giving by' = some (k, nI b', co', pa', li', ov', un', mi', cx', cy', cf', ct', con', a1, a2, a3, a4, a5) ∧ LI b' co' pa' li' cx' cy' cf' ct' ∧ k ≤ 4 ∧
      ∃ m, co' k = nI m ∧ xct (laLo cx' cy' cf') (laLo cx' cy' ct') k m (pa' k) (li' k) ∧ okL k m (pa' k) ∧ cmpl (inS s9 wd wi n set) m (ent (pa' k)) := by
  obtain ⟨k, b', co', pa', li', ov', un', mi', cx', cy', cf', ct', con', a1, a2, a3, a4, a5, h1, h2, h3, h4⟩ := f_rowsBy (K := K) (ov := ov) (un := un) (mi := mi) (con := con) (sx := sx) (sy := sy) (sf := sf) (st := st) (so := so) (ax := ax) (ay := ay) (af := af) (at' := at') (ao := ao) (set := set) (giving := giving) (by' := by') hK hC hL (fun i hi hbi => (hS.2 i (hs i (by omega) hbi)).2.2.2.2.2.1) (by rw [hb']; exact hw)
  have hb4 := h2.1
  obtain ⟨m, g1, g2⟩ := h2.2.2 k h3
  have hsz := la_size (by omega) (fun j j1 j2 => h2.2.1 j j1 (by omega)) g2
  refine ⟨k, b', co', pa', li', ov', un', mi', cx', cy', cf', ct', con', a1, a2, a3, a4, a5, h1, h2, by omega, m, g1, g2, ⟨room_le (by omega) g2.1, fun i hi => ⟨inC_pos (cnA_coords _ _ _) (g2.1.1 i hi).1.1, (hsz i hi).1⟩⟩, xct_cmpl g2 fun x => ?_⟩
  rw [h4 x]
  exact cone_inS hS hs hg hb' x
theorem inS_wi {s9 : Nat → Int32} {wi wi' : Int32} {n : Nat} {set : Int32} {x : Nat → Int} : inS s9 0 wi n set x ↔ inS s9 0 wi' n set x := by
  have e : ∀ i side, rowOf s9 0 wi i side = rowOf s9 0 wi' i side := fun i side => by
    unfold rowOf en
    rw [hb_zero, if_neg (show ¬ (false = true) by decide), if_neg (show ¬ (false = true) by decide)]
  unfold inS
  simp only [e]
theorem cmpl_iff {Q Q' : (Nat → Int) → Prop} {c : Nat} {E : Nat → Nat → Int} (h : ∀ x, Q x ↔ Q' x) (hc : cmpl Q c E) : cmpl Q' c E := ⟨fun e he => ⟨(h _).mp (hc.1 e he).1, (hc.1 e he).2⟩, fun x hx => hc.2 x ((h x).mpr hx)⟩
/-- the reference's list, where it says that it is loaded -/
def RI (n : Nat) (s9 : Nat → Int32) (cs il ld : Int32) (up dn : Nat → Int64) : Prop := il = 0 ∨ ∃ c, cs = nI c ∧ okR c up dn ∧ cmpl (inS s9 0 0 n ld) c (ent up)
theorem lst_okR {sy : Nat → Int32} {wd wi : Int32} {n : Nat} {set : Int32} {c : Nat} {up dn : Nat → Int64} (hc : c ≤ 4712) (h : lst sy wd wi n set c up dn) : okR c up dn := ⟨hc, fun e he => ⟨(h e he).1.1, (h e he).2.1, (h e he).2.2.1, (h e he).2.2.2⟩⟩
theorem f_loads {K n : Nat} {s9 : Nat → Int32} {cs il ld wd wi set : Int32} {up dn sm nw : Nat → Int64} {wo ti : Nat → Int32} (hK : 10000 ≤ K) (hs : syOK s9 n) (hw : wiOK wi) (hR : RI n s9 cs il ld up dn) :
    ∃ (s il' : Int32) (c : Nat) (up' dn' : Nat → Int64) (wo' ti' : Nat → Int32) (sm' nw' : Nat → Int64), f_X9_loads K 40 38400 4800 5 4 30 8 (nI n) cs il ld wd wi s9 up dn wo ti sm nw set = some (s, nI c, il', set, up', dn', wo', ti', sm', nw') ∧ okR c up' dn' ∧ cmpl (inS s9 wd wi n set) c (ent up') ∧ ((s = 0 ∧ c = 0) ∨ (s = 1 ∧ 0 < c)) ∧ (wd = 0 → RI n s9 (nI c) il' set up' dn') ∧ (wd ≠ 0 → il' = 0) := by
  have hJ : ∃ (s il' : Int32) (c : Nat) (up' dn' : Nat → Int64) (wo' ti' : Nat → Int32) (sm' nw' : Nat → Int64), f_X9_loads_J35 K 40 38400 4800 5 4 30 8 (nI n) wd wi s9 up dn wo ti sm nw set = some (s, nI c, il', set, up', dn', wo', ti', sm', nw') ∧ okR c up' dn' ∧ cmpl (inS s9 wd wi n set) c (ent up') ∧ ((s = 0 ∧ c = 0) ∨ (s = 1 ∧ 0 < c)) ∧ (wd = 0 → RI n s9 (nI c) il' set up' dn') ∧ (wd ≠ 0 → il' = 0) := by
    obtain ⟨r, h1, c, up', dn', wo', ti', sm', nw', rfl, h2, h3, h4⟩ := f_list (K := K) (set := set) (wo := wo) (ti := ti) (up := up) (dn := dn) (sm := sm) (nw := nw) (wd := wd) (by omega) hs hw
    have hok := lst_okR h2 h3
    unfold f_X9_loads_J35
    rw [h1]
    simp only [Option.bind_some]
    by_cases hwd : wd = 0
    · rw [if_pos hwd]
      have hRI : RI n s9 (nI c) 1 set up' dn' := Or.inr ⟨c, rfl, hok, by subst hwd; exact cmpl_iff (fun x => inS_wi) h4⟩
      by_cases h0 : c = 0
      · subst h0
        rw [if_pos (show nI 0 ≤ (0 : Int32) from by decide)]
        exact ⟨0, 1, 0, up', dn', wo', ti', sm', nw', rfl, hok, h4, Or.inl ⟨rfl, rfl⟩, fun _ => hRI, fun g => absurd hwd g⟩
      · rw [if_neg (nI_nle (by omega) (by omega))]
        exact ⟨1, 1, c, up', dn', wo', ti', sm', nw', rfl, hok, h4, Or.inr ⟨rfl, by omega⟩, fun _ => hRI, fun g => absurd hwd g⟩
    · rw [if_neg hwd]
      by_cases h0 : c = 0
      · subst h0
        rw [if_pos (show nI 0 ≤ (0 : Int32) from by decide)]
        exact ⟨0, 0, 0, up', dn', wo', ti', sm', nw', rfl, hok, h4, Or.inl ⟨rfl, rfl⟩, fun g => absurd g hwd, fun _ => rfl⟩
      · rw [if_neg (nI_nle (by omega) (by omega))]
        exact ⟨1, 0, c, up', dn', wo', ti', sm', nw', rfl, hok, h4, Or.inr ⟨rfl, by omega⟩, fun g => absurd g hwd, fun _ => rfl⟩
  unfold f_X9_loads
  by_cases h1 : il = 0
  · rw [if_pos h1]; exact hJ
  · rw [if_neg h1]
    by_cases h2 : ld = set
    · rw [if_pos h2]
      by_cases h3 : wd = 0
      · rw [if_pos h3]
        obtain ⟨c, rfl, hok, hcm⟩ := hR.resolve_left h1
        have hcm' : cmpl (inS s9 wd wi n set) c (ent up) := by subst h2 h3; exact cmpl_iff (fun x => inS_wi) hcm
        have hRI : RI n s9 (nI c) il set up dn := Or.inr ⟨c, rfl, hok, by rw [← h2]; exact hcm⟩
        have hc := hok.1
        by_cases h0 : c = 0
        · subst h0
          rw [if_pos (show nI 0 ≤ (0 : Int32) from by decide), h2]
          exact ⟨0, il, 0, up, dn, wo, ti, sm, nw, rfl, hok, hcm', Or.inl ⟨rfl, rfl⟩, fun _ => hRI, fun g => absurd h3 g⟩
        · rw [if_neg (nI_nle (by omega) (by omega)), h2]
          exact ⟨1, il, c, up, dn, wo, ti, sm, nw, rfl, hok, hcm', Or.inr ⟨rfl, by omega⟩, fun _ => hRI, fun g => absurd h3 g⟩
      · rw [if_neg h3]; exact hJ
    · rw [if_neg h2]; exact hJ
theorem on_bit : ∀ i, i < 4 → ∀ k, k < 32 → hb ((1 : Int32) <<< (nI i &&& 31)) k = decide (k = i) := by decide +kernel
theorem zero_bit : ∀ i, i < 4 → ((0 : Int32) <<< (nI i &&& 31)) = 0 := by decide +kernel
/-- the set of sayings that are ON, of both -/
theorem f_onSets {K n : Nat} {sx sy sf st so s9 : Nat → Int32} (hK : 1000 ≤ K) (h : SR n sx sy sf st so s9) : ∃ set, f_X8_onSet K (nI n) so = some set ∧ f_X9_ons K 40 (nI n) s9 = some set ∧ setIn set n ∧ ∀ i, i < n → (hb set i = true ↔ so i = 1) := by
  have hn := h.1
  let V : Nat → Int32 := fun k => Nat.rec 0 (fun i v => if so i = 1 then v ||| ((1 : Int32) <<< (nI i &&& 31)) else v) k
  have V0 : V 0 = 0 := rfl
  have VS : ∀ i, V (i + 1) = if so i = 1 then V i ||| ((1 : Int32) <<< (nI i &&& 31)) else V i := fun i => rfl
  have c1 : f_X8_onSet K (nI n) so = some (V n) := by
    have g : lp (f_X8_onSet_L4 (nI n) so) K ((0 : Int32), (0 : Int32)) = some (V n) := lp_run (f := f_X8_onSet_L4 (nI n) so) (fun k => ((V k, nI k) : Int32 × Int32)) (n := n) (r := V n) (fun i hi => by
      unfold f_X8_onSet_L4
      simp only
      rw [if_neg (nI_ge hi (by omega)), if_neg (nI_in (show i < 4 by omega) (by decide)), nI_clamp (by omega), nI_1, VS]
      by_cases e : so i = 1
      · rw [if_pos e, if_pos e]
      · rw [if_neg e, if_neg e]) (by
      unfold f_X8_onSet_L4
      exact if_pos (nI_le (Nat.le_refl n) (by omega))) (by omega)
    unfold f_X8_onSet
    rw [g]; rfl
  have c2 : f_X9_ons K 40 (nI n) s9 = some (V n) := by
    have g : lp (f_X9_ons_L4 40 (nI n) s9) K ((0 : Int32), (0 : Int32)) = some (V n) := lp_run (f := f_X9_ons_L4 40 (nI n) s9) (fun k => ((V k, nI k) : Int32 × Int32)) (n := n) (r := V n) (fun i hi => by
      obtain ⟨-, -, -, -, h5, -, h7⟩ := h.2 i hi
      unfold f_X9_ons_L4
      simp only
      rw [if_neg (nI_ge hi (by omega)), show ((5 : Int32) * nI i) + (4 : Int32) = nI (5 * i + 4) by rw [show (5 : Int32) = nI 5 from rfl, show (4 : Int32) = nI 4 from rfl, nI_mul, nI_add], if_neg (nI_in (show 5 * i + 4 < 40 by omega) (by decide)), nI_clamp (by omega), Option.bind_some, nI_1, VS, ← h5]
      rcases h7 with e | e
      · rw [e, if_neg (by decide), zero_bit i (by omega)]; simp
      · rw [e, if_pos rfl]) (by
      unfold f_X9_ons_L4
      exact if_pos (nI_le (Nat.le_refl n) (by omega))) (by omega)
    unfold f_X9_ons
    rw [g]; rfl
  have bits : ∀ m, m ≤ n → ∀ k, k < 32 → (hb (V m) k = true ↔ k < m ∧ so k = 1) := by
    intro m
    induction m with
    | zero => intro _ k _; rw [V0, hb_zero]; exact ⟨fun g => absurd g (by decide), fun g => absurd g.1 (Nat.not_lt_zero k)⟩
    | succ m ih =>
      intro hm k hk
      rw [VS]
      by_cases e : so m = 1
      · rw [if_pos e, hb_or, Bool.or_eq_true, ih (by omega) k hk, on_bit m (by omega) k hk, decide_eq_true_eq]
        constructor
        · rintro (g | g)
          · exact ⟨by omega, g.2⟩
          · rw [g]; exact ⟨by omega, e⟩
        · rintro ⟨g1, g2⟩
          by_cases ek : k = m
          · exact Or.inr ek
          · exact Or.inl ⟨by omega, g2⟩
      · rw [if_neg e, ih (by omega) k hk]
        constructor
        · rintro ⟨g1, g2⟩; exact ⟨by omega, g2⟩
        · rintro ⟨g1, g2⟩
          refine ⟨?_, g2⟩
          have : k ≠ m := fun ek => e (by rw [← ek]; exact g2)
          omega
  refine ⟨V n, c1, c2, fun k hk g => ((bits n (Nat.le_refl n) k hk).mp g).1, fun i hi => ?_⟩
  rw [bits n (Nat.le_refl n) i (by omega)]
  exact ⟨fun g => g.2, fun g => ⟨hi, g⟩⟩

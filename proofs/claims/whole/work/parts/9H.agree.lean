/-! calls that are answered alike: could, bound, differ, first, never, follows -/
theorem g_thing (x : Int32) : (f_X8_isThing x = some 0 ∧ f_X9_isThing x = some 0) ∨ (f_X8_isThing x = some 1 ∧ f_X9_isThing x = some 1) := by
  unfold f_X8_isThing f_X9_isThing f_X9_in
  by_cases h1 : x < 0
  · rw [if_pos h1]; exact Or.inl ⟨rfl, rfl⟩
  · rw [if_neg h1]
    by_cases h2 : 255 < x
    · rw [if_pos h2]; exact Or.inl ⟨rfl, rfl⟩
    · rw [if_neg h2]; exact Or.inr ⟨rfl, rfl⟩
theorem g_bit (x : Int32) : (f_X8_isZeroOrOne x = some 0 ∧ f_X9_isBit x = some 0) ∨ (f_X8_isZeroOrOne x = some 1 ∧ f_X9_isBit x = some 1 ∧ (x = 0 ∨ x = 1)) := by
  unfold f_X8_isZeroOrOne f_X9_isBit
  by_cases h1 : x = 0
  · rw [if_pos h1]; exact Or.inr ⟨rfl, rfl, Or.inl h1⟩
  · rw [if_neg h1]
    by_cases h2 : x = 1
    · rw [if_pos h2]; exact Or.inr ⟨rfl, rfl, Or.inr h2⟩
    · rw [if_neg h2]; exact Or.inl ⟨rfl, rfl⟩
theorem g_world (x : Int32) : (f_X8_isWorld x = some 0 ∧ f_X9_in x (0 : Int32) (7 : Int32) = some 0) ∨ (f_X8_isWorld x = some 1 ∧ f_X9_in x (0 : Int32) (7 : Int32) = some 1 ∧ ∃ w, w < 8 ∧ x = nI w) := by
  unfold f_X8_isWorld f_X9_in
  by_cases h1 : x < 0
  · rw [if_pos h1, if_pos h1]; exact Or.inl ⟨rfl, rfl⟩
  · rw [if_neg h1, if_neg h1]
    have e : (8 : Int32) ≤ x ↔ (7 : Int32) < x := by
      rw [Int32.le_iff_toInt_le, Int32.lt_iff_toInt_lt]
      have a : (8 : Int32).toInt = 8 := rfl
      have b : (7 : Int32).toInt = 7 := rfl
      omega
    by_cases h2 : (8 : Int32) ≤ x
    · rw [if_pos h2, if_pos (e.mp h2)]; exact Or.inl ⟨rfl, rfl⟩
    · rw [if_neg h2, if_neg (fun g => h2 (e.mpr g))]
      obtain ⟨j, hj, rfl⟩ := nI_of h1
      refine Or.inr ⟨rfl, rfl, j, ?_, rfl⟩
      exact Classical.byContradiction fun g => h2 (show (8 : Int32) ≤ nI j from nI_le (show 8 ≤ j by omega) hj)
theorem g_saying (x : Int32) {n : Nat} (hn : n ≤ 4) : (f_X8_isSaying (nI n) x = some 0 ∧ f_X9_isSaying (nI n) x = some 0 ∧ ¬ ∃ i, i < n ∧ x = nI i) ∨ (f_X8_isSaying (nI n) x = some 1 ∧ f_X9_isSaying (nI n) x = some 1 ∧ ∃ i, i < n ∧ x = nI i) := by
  unfold f_X8_isSaying f_X9_isSaying f_X9_in
  by_cases h1 : x < 0
  · rw [if_pos h1, if_pos h1]
    refine Or.inl ⟨rfl, rfl, ?_⟩
    rintro ⟨i, hi, rfl⟩
    exact nI_pos (by omega) h1
  · rw [if_neg h1, if_neg h1]
    have e : nI n ≤ x ↔ (nI n - (1 : Int32)) < x := by
      obtain ⟨j, hj, rfl⟩ := nI_of h1
      have a := nI_toInt (n := n) (by omega)
      have b := nI_toInt hj
      have d : (nI n - (1 : Int32)).toInt = (n : Int) - 1 := by
        rw [q32_sub (by rw [a]; have : (1 : Int32).toInt = 1 := rfl; unfold wthn; omega), a]; rfl
      rw [Int32.le_iff_toInt_le, Int32.lt_iff_toInt_lt, a, b, d]; omega
    by_cases h2 : nI n ≤ x
    · rw [if_pos h2, if_pos (e.mp h2)]
      refine Or.inl ⟨rfl, rfl, ?_⟩
      rintro ⟨i, hi, rfl⟩
      exact nI_ge hi (by omega) h2
    · rw [if_neg h2, if_neg (fun g => h2 (e.mpr g))]
      obtain ⟨j, hj, rfl⟩ := nI_of h1
      refine Or.inr ⟨rfl, rfl, j, ?_, rfl⟩
      exact Classical.byContradiction fun g => h2 (nI_le (show n ≤ j by omega) hj)
section AGR
variable {K b n : Nat} {np nl no nu nm : Nat → Nat} {fb tb ro co cx cy cf ct con : Nat → Int32} {pa ov un mi : Nat → Nat → Int64} {li : Nat → Nat → Int32} {sx sy sf st so s9 : Nat → Int32} {ax ay af at' ao : Int32} {cs il ld wi : Int32} {up dn sm nw : Nat → Int64} {wo ti : Nat → Int32}
/-- the class's rows by all that are ON, the reference's list by them -/
theorem c_on (hK : 10000 ≤ K) (hC : laC np nl no nu nm fb tb ro) (hL : LI b co pa li cx cy cf ct) (hS : SR n sx sy sf st so s9) (hw : wiOK wi) (hR : RI n s9 cs il ld up dn) :
    ∃ (set : Int32) (k b' : Nat) (co' : Nat → Int32) (pa' : Nat → Nat → Int64) (li' : Nat → Nat → Int32) (ov' un' mi' : Nat → Nat → Int64) (cx' cy' cf' ct' con' : Nat → Int32) (a1 a2 a3 a4 a5 : Int32), f_X8_rowsByOn K np nl no nu nm (nI n) sx sy sf st so (nI b) fb tb ro co pa li ov un mi cx cy cf ct con ax ay af at' ao = some (k, nI b', co', pa', li', ov', un', mi', cx', cy', cf', ct', con', a1, a2, a3, a4, a5) ∧ LI b' co' pa' li' cx' cy' cf' ct' ∧ k ≤ 4 ∧
      (∃ m, co' k = nI m ∧ xct (laLo cx' cy' cf') (laLo cx' cy' ct') k m (pa' k) (li' k) ∧ okL k m (pa' k) ∧ cmpl (inS s9 0 0 n set) m (ent (pa' k))) ∧
      ∃ (s il' : Int32) (c : Nat) (up' dn' : Nat → Int64) (wo' ti' : Nat → Int32) (sm' nw' : Nat → Int64), f_X9_loadsOn K 40 38400 4800 5 4 30 8 (nI n) cs il ld wi s9 up dn wo ti sm nw = some (s, nI c, il', set, 0, up', dn', wo', ti', sm', nw') ∧ okR c up' dn' ∧ cmpl (inS s9 0 0 n set) c (ent up') ∧ ((s = 0 ∧ c = 0) ∨ (s = 1 ∧ 0 < c)) ∧ RI n s9 (nI c) il' set up' dn' := by
  obtain ⟨set, o1, o2, o3, o4⟩ := f_onSets (K := K) (by omega) hS
  obtain ⟨k, b', co', pa', li', ov', un', mi', cx', cy', cf', ct', con', a1, a2, a3, a4, a5, h1, h2, h3, h4⟩ := c_rows (K := K) (ov := ov) (un := un) (mi := mi) (con := con) (ax := ax) (ay := ay) (af := af) (at' := at') (ao := ao) (set := set) (giving := 0) (by' := 0) (wd := 0) (wi := 0) (by omega) hC hL hS o3 (fun _ _ _ => rfl) rfl ⟨by decide, by decide⟩
  obtain ⟨s, il', c, up', dn', wo', ti', sm', nw', g1, g2, g3, g4, g5, g6⟩ := f_loads (K := K) (wd := 0) (set := set) (wo := wo) (ti := ti) (sm := sm) (nw := nw) hK hS.ok hw hR
  refine ⟨set, k, b', co', pa', li', ov', un', mi', cx', cy', cf', ct', con', a1, a2, a3, a4, a5, ?_, h2, h3, h4, s, il', c, up', dn', wo', ti', sm', nw', ?_, g2, cmpl_iff (fun x => inS_wi) g3, g4, g5 rfl⟩
  · unfold f_X8_rowsByOn
    rw [o1, Option.bind_some, h1, Option.bind_some]
    simp only
    rw [if_neg (by omega)]
  · unfold f_X9_loadsOn
    rw [o2, Option.bind_some, g1, Option.bind_some]
    simp only
    rw [if_neg (fun g => g (by rcases g4 with e | e; exact Or.inl e.1; exact Or.inr e.1))]
theorem ag_could (hK : 10000 ≤ K) (hC : laC np nl no nu nm fb tb ro) (hL : LI b co pa li cx cy cf ct) (hS : SR n sx sy sf st so s9) (hw : wiOK wi) (hR : RI n s9 cs il ld up dn) :
    ∃ (ans : Int32) (b' : Nat) (co' : Nat → Int32) (pa' : Nat → Nat → Int64) (li' : Nat → Nat → Int32) (ov' un' mi' : Nat → Nat → Int64) (cx' cy' cf' ct' con' : Nat → Int32) (a1 a2 a3 a4 a5 : Int32) (il' ld' cs' : Int32) (up' dn' : Nat → Int64) (wo' ti' : Nat → Int32) (sm' nw' : Nat → Int64), f_X8_could K np nl no nu nm (nI n) sx sy sf st so (nI b) fb tb ro co pa li ov un mi cx cy cf ct con ax ay af at' ao = some (ans, nI b', co', pa', li', ov', un', mi', cx', cy', cf', ct', con', a1, a2, a3, a4, a5) ∧ LI b' co' pa' li' cx' cy' cf' ct' ∧ f_X9_could K 40 38400 4800 5 4 30 8 (nI n) cs il ld wi s9 up dn wo ti sm nw = some (ans, 0, cs', il', ld', 0, up', dn', wo', ti', sm', nw') ∧ RI n s9 cs' il' ld' up' dn' := by
  obtain ⟨set, k, b', co', pa', li', ov', un', mi', cx', cy', cf', ct', con', a1, a2, a3, a4, a5, h1, h2, h3, ⟨m, m1, m2, m3, m4⟩, s, il', c, up', dn', wo', ti', sm', nw', g1, g2, g3, g4, g5⟩ := c_on (K := K) (ov := ov) (un := un) (mi := mi) (con := con) (ax := ax) (ay := ay) (af := af) (at' := at') (ao := ao) (wo := wo) (ti := ti) (sm := sm) (nw := nw) hK hC hL hS hw hR
  have hkp := hC.1 k (by omega)
  have e0 : m = 0 ↔ c = 0 := (noRow_list m4).trans (noRow_list g3).symm
  unfold f_X8_could f_X9_could f_X0_isEmpty
  rw [h1, Option.bind_some, g1, Option.bind_some]
  simp only
  rw [if_neg (show ¬ 5 ≤ k by omega), m1]
  have hm := m3.1
  have hr := roomOf_le k
  by_cases h0 : m = 0
  · subst h0
    have hs : s = 0 := by
      rcases g4 with e | e
      · exact e.1
      · have := e0.mp rfl; omega
    rw [if_pos (show nI 0 = (0 : Int32) from rfl), Option.bind_some, if_neg (by decide), if_pos hs]
    exact ⟨0, b', co', pa', li', ov', un', mi', cx', cy', cf', ct', con', a1, a2, a3, a4, a5, il', set, nI c, up', dn', wo', ti', sm', nw', rfl, h2, rfl, g5⟩
  · have hs : s = 1 := by
      rcases g4 with e | e
      · exact absurd (e0.mpr e.2) h0
      · exact e.1
    rw [if_neg (nI_ne0 (by omega) (by omega)), Option.bind_some, if_pos rfl, if_neg (by rw [hs]; decide)]
    exact ⟨1, b', co', pa', li', ov', un', mi', cx', cy', cf', ct', con', a1, a2, a3, a4, a5, il', set, nI c, up', dn', wo', ti', sm', nw', rfl, h2, rfl, g5⟩
theorem ag_bound {u0 l0 bU bD : Int64} {x1 x2 x3 x4 : Int32} (hK : 10000 ≤ K) (hC : laC np nl no nu nm fb tb ro) (hL : LI b co pa li cx cy cf ct) (hS : SR n sx sy sf st so s9) (hw : wiOK wi) (hR : RI n s9 cs il ld up dn) :
    ∃ (ans : Int64) (b' : Nat) (co' : Nat → Int32) (pa' : Nat → Nat → Int64) (li' : Nat → Nat → Int32) (ov' un' mi' : Nat → Nat → Int64) (cx' cy' cf' ct' con' : Nat → Int32) (a1 a2 a3 a4 a5 : Int32) (u' l' : Int64) (il' ld' cs' : Int32) (up' dn' : Nat → Int64) (wo' ti' : Nat → Int32) (sm' nw' : Nat → Int64) (bU' bD' : Int64), f_X8_bound K np nl no nu nm (nI n) sx sy sf st so (nI b) fb tb ro co pa li ov un mi cx cy cf ct con ax ay af at' ao u0 l0 x1 x2 x3 x4 = some (ans, nI b', co', pa', li', ov', un', mi', cx', cy', cf', ct', con', a1, a2, a3, a4, a5, u', l') ∧ LI b' co' pa' li' cx' cy' cf' ct' ∧ f_X9_bound K 40 38400 4800 5 4 30 8 (nI n) cs il ld 0 wi bU bD s9 up dn wo ti sm nw x1 x2 x3 x4 = some (ans, 0, cs', il', ld', 0, bU', bD', up', dn', wo', ti', sm', nw') ∧ RI n s9 cs' il' ld' up' dn' := by
  obtain ⟨set, k, b', co', pa', li', ov', un', mi', cx', cy', cf', ct', con', a1, a2, a3, a4, a5, h1, h2, h3, ⟨m, m1, m2, m3, m4⟩, s, il', c, up', dn', wo', ti', sm', nw', g1, g2, g3, g4, g5⟩ := c_on (K := K) (ov := ov) (un := un) (mi := mi) (con := con) (ax := ax) (ay := ay) (af := af) (at' := at') (ao := ao) (wo := wo) (ti := ti) (sm := sm) (nw := nw) hK hC hL hS hw hR
  have hkp := hC.1 k (by omega)
  have same : ∃ ans b', True := ⟨0, 0, trivial⟩
  unfold f_X8_bound f_X9_bound f_X9_asked
  rcases g_thing x1 with ⟨t1, t2⟩ | ⟨t1, t2⟩
  · rw [t1, t2]
    exact ⟨_, b, co, pa, li, ov, un, mi, cx, cy, cf, ct, con, ax, ay, af, at', ao, u0, l0, il, ld, cs, up, dn, wo, ti, sm, nw, bU, bD, rfl, hL, rfl, hR⟩
  rw [t1, t2]
  simp only [Option.bind_some]
  rw [if_neg (by decide), if_neg (by decide)]
  rcases g_thing x2 with ⟨t1, t2⟩ | ⟨t1, t2⟩
  · rw [t1, t2]
    exact ⟨_, b, co, pa, li, ov, un, mi, cx, cy, cf, ct, con, ax, ay, af, at', ao, u0, l0, il, ld, cs, up, dn, wo, ti, sm, nw, bU, bD, rfl, hL, rfl, hR⟩
  rw [t1, t2]
  simp only [Option.bind_some]
  rw [if_neg (by decide), if_neg (by decide)]
  rcases g_bit x3 with ⟨t1, t2⟩ | ⟨t1, t2, -⟩
  · rw [t1, t2]
    exact ⟨_, b, co, pa, li, ov, un, mi, cx, cy, cf, ct, con, ax, ay, af, at', ao, u0, l0, il, ld, cs, up, dn, wo, ti, sm, nw, bU, bD, rfl, hL, rfl, hR⟩
  rw [t1, t2]
  simp only [Option.bind_some]
  rw [if_neg (by decide), if_neg (by decide)]
  rcases g_bit x4 with ⟨t1, t2⟩ | ⟨t1, t2, -⟩
  · rw [t1, t2]
    exact ⟨_, b, co, pa, li, ov, un, mi, cx, cy, cf, ct, con, ax, ay, af, at', ao, u0, l0, il, ld, cs, up, dn, wo, ti, sm, nw, bU, bD, rfl, hL, rfl, hR⟩
  rw [t1, t2]
  simp only [Option.bind_some]
  rw [if_neg (by decide), if_neg (by decide), h1, g1]
  simp only [Option.bind_some]
  rw [if_neg (show ¬ 5 ≤ k by omega), hkp.1, m1]
  obtain ⟨U, B, p1, p2, p3⟩ := f_findShare (K := K) (t := k) (n := m) (P := pa' k) (thing := x1) (cond := x2) (which := x3) (by omega) m3
  obtain ⟨s2, U2, B2, q1, q2, q3, q4⟩ := f_bounds (K := K) (thing := x1) (other := x2) (which := x3) (isD := 0) (U0 := bU) hK g2 (by decide)
  have hz : ∀ x, inS s9 0 0 n set x → 0 ≤ ev (ind x2) x ∧ (ev (ind x2) x = 0 → ev (ind (x1 &&& x2)) x = 0) := fun x hx => by
      have a := wt_le (t := x1 &&& x2) hx.1
      have d := wt_le (t := x2) hx.1
      rw [wt_ind] at a d
      refine ⟨d.1, fun e => ?_⟩
      have h9 : ev (ind (x1 &&& x2)) x ≤ ev (ind x2) x := by
        have q : 0 ≤ ev (fun w => ind x2 w - ind (x1 &&& x2) w) x := sg_nonneg fun w hw' => by
          have := hx.1 w hw'
          dsimp only [ind]
          rw [hb_and]
          cases hb x1 w <;> cases hb x2 w <;> simp <;> omega
        rw [ev_diff] at q; omega
      omega
  have best1 := best_of_list (num := ind (x1 &&& x2)) (den := ind x2) m4 hz p2
  have best2 := best_of_list (num := ind (x1 &&& x2)) (den := ind x2) g3 hz q2
  have hB0 : 0 ≤ B.toInt := by rcases p2 with ⟨e, _⟩ | ⟨e, _⟩ <;> omega
  have hU0 : wthn 2000000000 U.toInt := by
    rcases p2 with ⟨e, _⟩ | ⟨_, ⟨e, he, _, e2, _⟩, _⟩
    · rw [p3 e]; unfold wthn; decide
    · rw [e2]
      dsimp only
      have hh := m3.2 e he
      have a1 := wt_le (t := x1) hh.1
      have a2 := wt_le (t := x2) hh.1
      have a3 := wt_le (t := x1 &&& x2) hh.1
      rw [wt_ind] at a1 a2 a3
      try rw [ev_diff]
      unfold wthn; omega
  obtain ⟨a, l1, l2⟩ := f_least (K := K) (U := U) (B := B) (what := x4) (by omega) hU0 hB0
  have A1 : bAns (inS s9 0 0 n set) (ind (x1 &&& x2)) (ind x2) x3 x4 a := by
    rcases l2 with ⟨e1, e2⟩ | ⟨e1, e2⟩
    · rcases best1 with ⟨_, b2⟩ | b2
      · exact Or.inl ⟨b2, e2⟩
      · have := b2.1; omega
    · rcases best1 with ⟨b1, _⟩ | b2
      · omega
      · exact Or.inr ⟨_, _, b2, e2⟩
  rw [p1, q1]
  simp only [Option.bind_some]
  rw [l1]
  simp only [Option.bind_some]
  rcases q4 with ⟨s1, s3⟩ | ⟨s1, s3⟩
  · obtain ⟨aa, r1, r2⟩ := f_tells (K := K) (U := U2) (B := B2) (what := x4) (by omega) (q3.resolve_left (by omega)) s3
    have A2 : bAns (inS s9 0 0 n set) (ind (x1 &&& x2)) (ind x2) x3 x4 aa := by
      rcases best2 with ⟨b1, _⟩ | b2
      · omega
      · exact Or.inr ⟨_, _, b2, r2⟩
    rw [s1, if_neg (by decide), r1, bAns_unique A1 A2]
    exact ⟨aa, b', co', pa', li', ov', un', mi', cx', cy', cf', ct', con', a1, a2, a3, a4, a5, U, B, il', set, nI c, up', dn', wo', ti', sm', nw', U2, B2, rfl, h2, rfl, g5⟩
  · have A2 : bAns (inS s9 0 0 n set) (ind (x1 &&& x2)) (ind x2) x3 x4 (-1000000000000000000) := by
      rcases best2 with ⟨_, b2⟩ | b2
      · exact Or.inl ⟨b2, rfl⟩
      · have := b2.1; omega
    rw [s1, if_pos rfl, bAns_unique A1 A2]
    exact ⟨_, b', co', pa', li', ov', un', mi', cx', cy', cf', ct', con', a1, a2, a3, a4, a5, U, B, il', set, nI c, up', dn', wo', ti', sm', nw', U2, B2, rfl, h2, rfl, g5⟩
theorem ag_differ {u0 l0 bU bD : Int64} {x1 x2 x3 x4 : Int32} (hK : 10000 ≤ K) (hC : laC np nl no nu nm fb tb ro) (hL : LI b co pa li cx cy cf ct) (hS : SR n sx sy sf st so s9) (hw : wiOK wi) (hR : RI n s9 cs il ld up dn) :
    ∃ (ans : Int64) (b' : Nat) (co' : Nat → Int32) (pa' : Nat → Nat → Int64) (li' : Nat → Nat → Int32) (ov' un' mi' : Nat → Nat → Int64) (cx' cy' cf' ct' con' : Nat → Int32) (a1 a2 a3 a4 a5 : Int32) (u' l' : Int64) (il' ld' cs' : Int32) (up' dn' : Nat → Int64) (wo' ti' : Nat → Int32) (sm' nw' : Nat → Int64) (bU' bD' : Int64), f_X8_differ K np nl no nu nm (nI n) sx sy sf st so (nI b) fb tb ro co pa li ov un mi cx cy cf ct con ax ay af at' ao u0 l0 x1 x2 x3 x4 = some (ans, nI b', co', pa', li', ov', un', mi', cx', cy', cf', ct', con', a1, a2, a3, a4, a5, u', l') ∧ LI b' co' pa' li' cx' cy' cf' ct' ∧ f_X9_differ K 40 38400 4800 5 4 30 8 (nI n) cs il ld 0 wi bU bD s9 up dn wo ti sm nw x1 x2 x3 x4 = some (ans, 0, cs', il', ld', 0, bU', bD', up', dn', wo', ti', sm', nw') ∧ RI n s9 cs' il' ld' up' dn' := by
  obtain ⟨set, k, b', co', pa', li', ov', un', mi', cx', cy', cf', ct', con', a1, a2, a3, a4, a5, h1, h2, h3, ⟨m, m1, m2, m3, m4⟩, s, il', c, up', dn', wo', ti', sm', nw', g1, g2, g3, g4, g5⟩ := c_on (K := K) (ov := ov) (un := un) (mi := mi) (con := con) (ax := ax) (ay := ay) (af := af) (at' := at') (ao := ao) (wo := wo) (ti := ti) (sm := sm) (nw := nw) hK hC hL hS hw hR
  have hkp := hC.1 k (by omega)
  have same : ∃ ans b', True := ⟨0, 0, trivial⟩
  unfold f_X8_differ f_X9_differ f_X9_asked
  rcases g_thing x1 with ⟨t1, t2⟩ | ⟨t1, t2⟩
  · rw [t1, t2]
    exact ⟨_, b, co, pa, li, ov, un, mi, cx, cy, cf, ct, con, ax, ay, af, at', ao, u0, l0, il, ld, cs, up, dn, wo, ti, sm, nw, bU, bD, rfl, hL, rfl, hR⟩
  rw [t1, t2]
  simp only [Option.bind_some]
  rw [if_neg (by decide), if_neg (by decide)]
  rcases g_thing x2 with ⟨t1, t2⟩ | ⟨t1, t2⟩
  · rw [t1, t2]
    exact ⟨_, b, co, pa, li, ov, un, mi, cx, cy, cf, ct, con, ax, ay, af, at', ao, u0, l0, il, ld, cs, up, dn, wo, ti, sm, nw, bU, bD, rfl, hL, rfl, hR⟩
  rw [t1, t2]
  simp only [Option.bind_some]
  rw [if_neg (by decide), if_neg (by decide)]
  rcases g_bit x3 with ⟨t1, t2⟩ | ⟨t1, t2, -⟩
  · rw [t1, t2]
    exact ⟨_, b, co, pa, li, ov, un, mi, cx, cy, cf, ct, con, ax, ay, af, at', ao, u0, l0, il, ld, cs, up, dn, wo, ti, sm, nw, bU, bD, rfl, hL, rfl, hR⟩
  rw [t1, t2]
  simp only [Option.bind_some]
  rw [if_neg (by decide), if_neg (by decide)]
  rcases g_bit x4 with ⟨t1, t2⟩ | ⟨t1, t2, -⟩
  · rw [t1, t2]
    exact ⟨_, b, co, pa, li, ov, un, mi, cx, cy, cf, ct, con, ax, ay, af, at', ao, u0, l0, il, ld, cs, up, dn, wo, ti, sm, nw, bU, bD, rfl, hL, rfl, hR⟩
  rw [t1, t2]
  simp only [Option.bind_some]
  rw [if_neg (by decide), if_neg (by decide), h1, g1]
  simp only [Option.bind_some]
  rw [if_neg (show ¬ 5 ≤ k by omega), hkp.1, m1]
  obtain ⟨U, B, p1, p2, p3⟩ := f_findDifference (K := K) (t := k) (n := m) (P := pa' k) (thing := x1) (other := x2) (which := x3) (by omega) m3 (fun i hi => (m4.1 i hi).2)
  obtain ⟨s2, U2, B2, q1, q2, q3, q4⟩ := f_bounds (K := K) (thing := x1) (other := x2) (which := x3) (isD := 1) (U0 := bU) hK g2 (by decide)
  have hz : ∀ x, inS s9 0 0 n set x → 0 ≤ ev (fun _ => 1) x ∧ (ev (fun _ => 1) x = 0 → ev (fun w => ind x1 w - ind x2 w) x = 0) := fun x hx => by
      refine ⟨sg_nonneg fun w hw' => by have := hx.1 w hw'; dsimp only; omega, fun e => ?_⟩
      have z := su_zero_all hx.1 e
      exact sg_zero fun w hw' => by rw [z w hw', Int.mul_zero]
  have best1 := best_of_list (num := fun w => ind x1 w - ind x2 w) (den := fun _ => 1) m4 hz p2
  have best2 := best_of_list (num := fun w => ind x1 w - ind x2 w) (den := fun _ => 1) g3 hz q2
  have hB0 : 0 ≤ B.toInt := by rcases p2 with ⟨e, _⟩ | ⟨e, _⟩ <;> omega
  have hU0 : wthn 2000000000 U.toInt := by
    rcases p2 with ⟨e, _⟩ | ⟨_, ⟨e, he, _, e2, _⟩, _⟩
    · rw [p3 e]; unfold wthn; decide
    · rw [e2]
      dsimp only
      have hh := m3.2 e he
      have a1 := wt_le (t := x1) hh.1
      have a2 := wt_le (t := x2) hh.1
      have a3 := wt_le (t := x1 &&& x2) hh.1
      rw [wt_ind] at a1 a2 a3
      try rw [ev_diff]
      unfold wthn; omega
  obtain ⟨a, l1, l2⟩ := f_least (K := K) (U := U) (B := B) (what := x4) (by omega) hU0 hB0
  have A1 : bAns (inS s9 0 0 n set) (fun w => ind x1 w - ind x2 w) (fun _ => 1) x3 x4 a := by
    rcases l2 with ⟨e1, e2⟩ | ⟨e1, e2⟩
    · rcases best1 with ⟨_, b2⟩ | b2
      · exact Or.inl ⟨b2, e2⟩
      · have := b2.1; omega
    · rcases best1 with ⟨b1, _⟩ | b2
      · omega
      · exact Or.inr ⟨_, _, b2, e2⟩
  rw [p1, q1]
  simp only [Option.bind_some]
  rw [l1]
  simp only [Option.bind_some]
  rcases q4 with ⟨s1, s3⟩ | ⟨s1, s3⟩
  · obtain ⟨aa, r1, r2⟩ := f_tells (K := K) (U := U2) (B := B2) (what := x4) (by omega) (q3.resolve_left (by omega)) s3
    have A2 : bAns (inS s9 0 0 n set) (fun w => ind x1 w - ind x2 w) (fun _ => 1) x3 x4 aa := by
      rcases best2 with ⟨b1, _⟩ | b2
      · omega
      · exact Or.inr ⟨_, _, b2, r2⟩
    rw [s1, if_neg (by decide), r1, bAns_unique A1 A2]
    exact ⟨aa, b', co', pa', li', ov', un', mi', cx', cy', cf', ct', con', a1, a2, a3, a4, a5, U, B, il', set, nI c, up', dn', wo', ti', sm', nw', U2, B2, rfl, h2, rfl, g5⟩
  · have A2 : bAns (inS s9 0 0 n set) (fun w => ind x1 w - ind x2 w) (fun _ => 1) x3 x4 (-1000000000000000000) := by
      rcases best2 with ⟨_, b2⟩ | b2
      · exact Or.inl ⟨b2, rfl⟩
      · have := b2.1; omega
    rw [s1, if_pos rfl, bAns_unique A1 A2]
    exact ⟨_, b', co', pa', li', ov', un', mi', cx', cy', cf', ct', con', a1, a2, a3, a4, a5, U, B, il', set, nI c, up', dn', wo', ti', sm', nw', U2, B2, rfl, h2, rfl, g5⟩
theorem ag_first {u0 l0 : Int64} {x1 x2 : Int32} (hK : 10000 ≤ K) (hC : laC np nl no nu nm fb tb ro) (hL : LI b co pa li cx cy cf ct) (hS : SR n sx sy sf st so s9) (hw : wiOK wi) (hR : RI n s9 cs il ld up dn) :
    ∃ (ans : Int64) (b' : Nat) (co' : Nat → Int32) (pa' : Nat → Nat → Int64) (li' : Nat → Nat → Int32) (ov' un' mi' : Nat → Nat → Int64) (cx' cy' cf' ct' con' : Nat → Int32) (a1 a2 a3 a4 a5 : Int32) (u' l' : Int64) (il' ld' cs' : Int32) (up' dn' : Nat → Int64) (wo' ti' : Nat → Int32) (sm' nw' : Nat → Int64), f_X8_first K np nl no nu nm (nI n) sx sy sf st so (nI b) fb tb ro co pa li ov un mi cx cy cf ct con ax ay af at' ao u0 l0 x1 x2 = some (ans, nI b', co', pa', li', ov', un', mi', cx', cy', cf', ct', con', a1, a2, a3, a4, a5, u', l') ∧ LI b' co' pa' li' cx' cy' cf' ct' ∧ f_X9_first K 40 38400 4800 5 4 30 8 (nI n) cs il ld 0 wi s9 up dn wo ti sm nw x1 x2 = some (ans, 0, cs', il', ld', 0, up', dn', wo', ti', sm', nw') ∧ RI n s9 cs' il' ld' up' dn' := by
  obtain ⟨set, k, b', co', pa', li', ov', un', mi', cx', cy', cf', ct', con', a1, a2, a3, a4, a5, h1, h2, h3, ⟨m, m1, m2, m3, m4⟩, s, il', c, up', dn', wo', ti', sm', nw', g1, g2, g3, g4, g5⟩ := c_on (K := K) (ov := ov) (un := un) (mi := mi) (con := con) (ax := ax) (ay := ay) (af := af) (at' := at') (ao := ao) (wo := wo) (ti := ti) (sm := sm) (nw := nw) hK hC hL hS hw hR
  have hkp := hC.1 k (by omega)
  unfold f_X8_first f_X9_first
  rcases g_world x1 with ⟨t1, t2⟩ | ⟨t1, t2, w, hw8, rfl⟩
  · rw [t1, t2]
    exact ⟨_, b, co, pa, li, ov, un, mi, cx, cy, cf, ct, con, ax, ay, af, at', ao, u0, l0, il, ld, cs, up, dn, wo, ti, sm, nw, rfl, hL, rfl, hR⟩
  rw [t1, t2]
  simp only [Option.bind_some]
  rw [if_neg (by decide), if_neg (by decide)]
  rcases g_bit x2 with ⟨t1, t2⟩ | ⟨t1, t2, -⟩
  · rw [t1, t2]
    exact ⟨_, b, co, pa, li, ov, un, mi, cx, cy, cf, ct, con, ax, ay, af, at', ao, u0, l0, il, ld, cs, up, dn, wo, ti, sm, nw, rfl, hL, rfl, hR⟩
  rw [t1, t2]
  simp only [Option.bind_some]
  rw [if_neg (by decide), if_neg (by decide), h1, g1]
  simp only [Option.bind_some]
  rw [if_neg (show ¬ 5 ≤ k by omega), hkp.1, m1]
  obtain ⟨U, B, p1, p2, p3⟩ := f_first (K := K) (world := w) (by omega) m3 m4 hw8
  have hB0 : 0 ≤ B.toInt := by rcases p3 with ⟨e, _⟩ | ⟨e, _⟩ <;> omega
  obtain ⟨a, l1, l2⟩ := f_least (K := K) (U := U) (B := B) (what := x2) (by omega) p2 hB0
  have A1 : firstAns (inS s9 0 0 n set) w x2 a := by
    rcases p3 with ⟨e1, e2⟩ | ⟨e1, x, y1, y2, y3, y4, y5⟩
    · rcases l2 with ⟨_, e3⟩ | ⟨e3, _⟩
      · exact Or.inl ⟨e2, e3⟩
      · omega
    · rcases l2 with ⟨e3, _⟩ | ⟨_, e3⟩
      · omega
      · exact Or.inr ⟨x, y1, y2, y3, by rw [← y4, ← y5]; exact e3⟩
  rw [p1]
  simp only [Option.bind_some]
  rw [l1]
  simp only [Option.bind_some]
  rcases g4 with ⟨s1, s2⟩ | ⟨s1, s2⟩
  · have A2 : firstAns (inS s9 0 0 n set) w x2 (-1000000000000000000) := Or.inl ⟨(noRow_list g3).mp s2, rfl⟩
    rw [s1, if_pos rfl, firstAns_unique hw8 A1 A2]
    exact ⟨_, b', co', pa', li', ov', un', mi', cx', cy', cf', ct', con', a1, a2, a3, a4, a5, U, B, il', set, nI c, up', dn', wo', ti', sm', nw', rfl, h2, rfl, g5⟩
  · obtain ⟨m', r1, r2, r3⟩ := f_first38 (K := K) hK g2 s2
    have hc4 := g2.1
    have hme := g2.2 m' r2
    obtain ⟨aa, z1, z2⟩ := f_tells (K := K) (U := up' (8 * m' + w)) (B := dn' m') (what := x2) (by omega) (by have := okR_ent g2 r2 w hw8; unfold ent at this; unfold wthn; omega) hme.2.2.1
    have hsm : 0 < su (ent up' m') := by rw [hme.2.1]; exact hme.2.2.1
    have A2 : firstAns (inS s9 0 0 n set) w x2 aa := Or.inr ⟨ent up' m', (g3.1 m' r2).1, hsm, fun y hy _ => least_cone g3 hsm r3 y hy, by rw [hme.2.1]; exact z2⟩
    rw [s1, if_neg (by decide), r1]
    simp only [Option.bind_some]
    rw [ix8, if_neg (nI_in (show 8 * m' + w < 38400 by omega) (by decide)), if_neg (nI_in (show m' < 4800 by omega) (by decide)), nI_clamp (show 8 * m' + w < 2 ^ 31 by omega), nI_clamp (show m' < 2 ^ 31 by omega), z1, firstAns_unique hw8 A1 A2]
    exact ⟨_, b', co', pa', li', ov', un', mi', cx', cy', cf', ct', con', a1, a2, a3, a4, a5, U, B, il', set, nI c, up', dn', wo', ti', sm', nw', rfl, h2, rfl, g5⟩
theorem ag_never (hK : 10000 ≤ K) (hC : laC np nl no nu nm fb tb ro) (hL : LI b co pa li cx cy cf ct) (hS : SR n sx sy sf st so s9) (hw : wiOK wi) (hR : RI n s9 cs il ld up dn) :
    ∃ (ans : Int32) (b' : Nat) (co' : Nat → Int32) (pa' : Nat → Nat → Int64) (li' : Nat → Nat → Int32) (ov' un' mi' : Nat → Nat → Int64) (cx' cy' cf' ct' con' : Nat → Int32) (a1 a2 a3 a4 a5 : Int32) (il' ld' cs' : Int32) (up' dn' : Nat → Int64) (wo' ti' : Nat → Int32) (sm' nw' : Nat → Int64), f_X8_never K np nl no nu nm (nI n) sx sy sf st so (nI b) fb tb ro co pa li ov un mi cx cy cf ct con ax ay af at' ao = some (ans, nI b', co', pa', li', ov', un', mi', cx', cy', cf', ct', con', a1, a2, a3, a4, a5) ∧ LI b' co' pa' li' cx' cy' cf' ct' ∧ f_X9_never K 40 38400 4800 5 4 30 8 (nI n) cs il ld wi s9 up dn wo ti sm nw = some (ans, 0, cs', il', ld', 0, up', dn', wo', ti', sm', nw') ∧ RI n s9 cs' il' ld' up' dn' := by
  obtain ⟨set, k, b', co', pa', li', ov', un', mi', cx', cy', cf', ct', con', a1, a2, a3, a4, a5, h1, h2, h3, ⟨m, m1, m2, m3, m4⟩, s, il', c, up', dn', wo', ti', sm', nw', g1, g2, g3, g4, g5⟩ := c_on (K := K) (ov := ov) (un := un) (mi := mi) (con := con) (ax := ax) (ay := ay) (af := af) (at' := at') (ao := ao) (wo := wo) (ti := ti) (sm := sm) (nw := nw) hK hC hL hS hw hR
  have hkp := hC.1 k (by omega)
  obtain ⟨a, p1, p2⟩ := f_never (K := K) (by omega) h3 m2 m4
  obtain ⟨aa, q1, q2⟩ := f_never16 (K := K) hK g2 g3
  unfold f_X8_never f_X9_never
  rw [h1, Option.bind_some, g1, Option.bind_some]
  simp only
  rw [if_neg (show ¬ 5 ≤ k by omega), hkp.2.1, m1, p1, q1, neverAns_unique p2 q2]
  exact ⟨_, b', co', pa', li', ov', un', mi', cx', cy', cf', ct', con', a1, a2, a3, a4, a5, il', set, nI c, up', dn', wo', ti', sm', nw', rfl, h2, rfl, g5⟩
end AGR

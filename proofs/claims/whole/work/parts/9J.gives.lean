/-! gives is answered alike -/
def givesAns (N : Nat → Prop) (a : Int32) : Prop := (a = -9 ∧ ∀ v, v ≤ 100 → N v) ∨ ∃ v, v ≤ 100 ∧ a = nI v ∧ ¬ N v ∧ ∀ u, u < v → N u
theorem givesAns_unique {N : Nat → Prop} {a a' : Int32} (h1 : givesAns N a) (h2 : givesAns N a') : a = a' := by
  rcases h1 with ⟨e1, g1⟩ | ⟨v, l1, e1, n1, u1⟩ <;> rcases h2 with ⟨e2, g2⟩ | ⟨v', l2, e2, n2, u2⟩
  · rw [e1, e2]
  · exact absurd (g1 v' l2) n2
  · exact absurd (g2 v l1) n1
  · have : v = v' := by
      rcases Nat.lt_trichotomy v v' with h | h | h
      · exact absurd (u2 v h) n1
      · exact h
      · exact absurd (u1 v' h) n2
    rw [e1, e2, this]
theorem nI_i {v : Nat} (h : v ≤ 100) : (nI v).toInt = (v : Int) := nI_toInt (by omega)
theorem wi_nI {v : Nat} (h : v ≤ 100) : wiOK (nI v) := by unfold wiOK; rw [nI_i h]; omega
/-- what can be by so many hundredths can be by more -/
theorem give_mono {s9 : Nat → Int32} {wd set : Int32} {n v v' : Nat} (h : v ≤ v') (h' : v' ≤ 100) (hN : noRow (inS s9 wd (nI v') n set)) : noRow (inS s9 wd (nI v) n set) := fun x hx => hN x ⟨hx.1, fun i hi hbi => by
  obtain ⟨g0, g1⟩ := hx.2 i hi hbi
  have hy := wt_nonneg (Y := s9 (5 * i + 1)) hx.1
  unfold rowOf at g0 g1 ⊢
  rw [av_wt] at g0 g1 ⊢
  rw [av_wt]
  have e0 : en s9 wd (nI v') i 0 ≤ en s9 wd (nI v) i 0 := by
    unfold en clamp
    rw [nI_i h', nI_i (show v ≤ 100 by omega)]
    cases hb wd i <;> simp <;> (repeat' split) <;> omega
  have e1 : en s9 wd (nI v) i 1 ≤ en s9 wd (nI v') i 1 := by
    unfold en clamp
    rw [nI_i h', nI_i (show v ≤ 100 by omega)]
    cases hb wd i <;> simp <;> (repeat' split) <;> omega
  have m0 := Int.mul_le_mul_of_nonneg_right e0 hy
  have m1 := Int.mul_le_mul_of_nonneg_right e1 hy
  have n0 : ∀ e : Int, -e * wt (s9 (5 * i + 1)) x = -(e * wt (s9 (5 * i + 1)) x) := fun e => by grind
  rw [n0] at g0 g1 ⊢
  rw [n0]
  exact ⟨by omega, by omega⟩⟩
section AGR4
variable {K b n : Nat} {np nl no nu nm : Nat → Nat} {fb tb ro co cx cy cf ct con : Nat → Int32} {pa ov un mi : Nat → Nat → Int64} {li : Nat → Nat → Int32} {sx sy sf st so s9 : Nat → Int32} {ax ay af at' ao : Int32} {cs il ld wi : Int32} {up dn sm nw : Nat → Int64} {wo ti : Nat → Int32}
theorem c_empty {set giving wd : Int32} {v : Nat} (hK : 10000 ≤ K) (hC : laC np nl no nu nm fb tb ro) (hL : LI b co pa li cx cy cf ct) (hS : SR n sx sy sf st so s9) (hs : setIn set n) (hg : ∀ i, i < 4 → hb set i = true → hb giving i = hb wd i) (hv : v ≤ 100) :
    ∃ (k : Nat) (b' : Nat) (co' : Nat → Int32) (pa' : Nat → Nat → Int64) (li' : Nat → Nat → Int32) (ov' un' mi' : Nat → Nat → Int64) (cx' cy' cf' ct' con' : Nat → Int32) (a1 a2 a3 a4 a5 : Int32) (e : Int32), f_X2_rowsBy K np nl no nu nm sx sy sf st so (nI b) fb tb ro co pa li ov un mi cx cy cf ct con ax ay af at' ao set giving (nI v) = some (k, nI b', co', pa', li', ov', un', mi', cx', cy', cf', ct', con', a1, a2, a3, a4, a5) ∧ ¬ 5 ≤ k ∧ LI b' co' pa' li' cx' cy' cf' ct' ∧ f_X0_isEmpty (co' k) = some e ∧ ((e = 1 ∧ noRow (inS s9 wd (nI v) n set)) ∨ (e = 0 ∧ ¬ noRow (inS s9 wd (nI v) n set))) := by
  obtain ⟨k, b', co', pa', li', ov', un', mi', cx', cy', cf', ct', con', a1, a2, a3, a4, a5, h1, h2, h3, m, m1, m2, m3, m4⟩ := c_rows (K := K) (ov := ov) (un := un) (mi := mi) (con := con) (ax := ax) (ay := ay) (af := af) (at' := at') (ao := ao) (set := set) (giving := giving) (by' := nI v) (wd := wd) (wi := nI v) (by omega) hC hL hS hs hg rfl (wi_nI hv)
  have hm := m3.1
  have hr := roomOf_le k
  unfold f_X0_isEmpty
  by_cases h0 : m = 0
  · subst h0
    exact ⟨k, b', co', pa', li', ov', un', mi', cx', cy', cf', ct', con', a1, a2, a3, a4, a5, 1, h1, by omega, h2, by rw [m1]; exact if_pos rfl, Or.inl ⟨rfl, (noRow_list m4).mp rfl⟩⟩
  · exact ⟨k, b', co', pa', li', ov', un', mi', cx', cy', cf', ct', con', a1, a2, a3, a4, a5, 0, h1, by omega, h2, by rw [m1]; exact if_neg (nI_ne0 (by omega) (by omega)), Or.inr ⟨rfl, fun g => h0 ((noRow_list m4).mpr g)⟩⟩
theorem c_giving {set giving wd : Int32} (hK : 10000 ≤ K) (hC : laC np nl no nu nm fb tb ro) (hL : LI b co pa li cx cy cf ct) (hS : SR n sx sy sf st so s9) (hs : setIn set n) (hg : ∀ i, i < 4 → hb set i = true → hb giving i = hb wd i) :
    ∃ (ans : Int32) (b' : Nat) (co' : Nat → Int32) (pa' : Nat → Nat → Int64) (li' : Nat → Nat → Int32) (ov' un' mi' : Nat → Nat → Int64) (cx' cy' cf' ct' con' : Nat → Int32) (a1 a2 a3 a4 a5 : Int32), f_X8_leastGiving K np nl no nu nm sx sy sf st so (nI b) fb tb ro co pa li ov un mi cx cy cf ct con ax ay af at' ao set giving = some (ans, nI b', co', pa', li', ov', un', mi', cx', cy', cf', ct', con', a1, a2, a3, a4, a5) ∧ LI b' co' pa' li' cx' cy' cf' ct' ∧ givesAns (fun v => noRow (inS s9 wd (nI v) n set)) ans := by
  obtain ⟨k, b1, co1, pa1, li1, ov1, un1, mi1, cx1, cy1, cf1, ct1, con1, z1, z2, z3, z4, z5, e, p1, p2, p3, p4, p5⟩ := c_empty (K := K) (v := 100) (ov := ov) (un := un) (mi := mi) (con := con) (ax := ax) (ay := ay) (af := af) (at' := at') (ao := ao) (giving := giving) hK hC hL hS hs hg (by decide)
  have p1' : f_X2_rowsBy K np nl no nu nm sx sy sf st so (nI b) fb tb ro co pa li ov un mi cx cy cf ct con ax ay af at' ao set giving (100 : Int32) = _ := p1
  unfold f_X8_leastGiving
  rw [p1', Option.bind_some]
  simp only
  rw [if_neg p2, p4, Option.bind_some]
  rcases p5 with ⟨rfl, pN⟩ | ⟨rfl, pN⟩
  · rw [if_neg (by decide)]
    exact ⟨_, b1, co1, pa1, li1, ov1, un1, mi1, cx1, cy1, cf1, ct1, con1, z1, z2, z3, z4, z5, rfl, p3, Or.inl ⟨rfl, fun v hv => give_mono hv (by decide) pN⟩⟩
  · rw [if_pos rfl]
    obtain ⟨r, l1, low, b', co', pa', li', ov', un', mi', cx', cy', cf', ct', con', a1, a2, a3, a4, a5, rfl, l2, l3, l4, l5⟩ := lp_loop (f := f_X8_leastGiving_L33 K np nl no nu nm sx sy sf st so fb tb ro set giving)
      (fun c w => c ≤ 100 ∧ ∃ (low high : Nat) (b : Nat) (co : Nat → Int32) (pa : Nat → Nat → Int64) (li : Nat → Nat → Int32) (ov un mi : Nat → Nat → Int64) (cx cy cf ct con : Nat → Int32) (ax ay af at' ao : Int32), w = (nI low, nI high, nI c, nI b, co, pa, li, ov, un, mi, cx, cy, cf, ct, con, ax, ay, af, at', ao) ∧ LI b co pa li cx cy cf ct ∧ low ≤ high ∧ high ≤ 100 ∧ high - low + c ≤ 100 ∧ ¬ noRow (inS s9 wd (nI high) n set) ∧ ∀ u, u < low → noRow (inS s9 wd (nI u) n set)) 100
      (fun r => ∃ (low : Nat) (b : Nat) (co : Nat → Int32) (pa : Nat → Nat → Int64) (li : Nat → Nat → Int32) (ov un mi : Nat → Nat → Int64) (cx cy cf ct con : Nat → Int32) (ax ay af at' ao : Int32), r = (nI low, nI b, co, pa, li, ov, un, mi, cx, cy, cf, ct, con, ax, ay, af, at', ao) ∧ LI b co pa li cx cy cf ct ∧ low ≤ 100 ∧ ¬ noRow (inS s9 wd (nI low) n set) ∧ ∀ u, u < low → noRow (inS s9 wd (nI u) n set)) (fun c w hI => by
      obtain ⟨hc, low, high, b, co, pa, li, ov, un, mi, cx, cy, cf, ct, con, ax, ay, af, at', ao, rfl, hL, q1, q2, q3, q4, q5⟩ := hI
      unfold f_X8_leastGiving_L33
      simp only
      by_cases e1 : c = 100
      · subst e1
        rw [if_pos (show (100 : Int32) ≤ nI 100 from nI_le (Nat.le_refl 100) (by decide))]
        have : low = high := by omega
        subst this
        exact Or.inl ⟨_, rfl, low, b, co, pa, li, ov, un, mi, cx, cy, cf, ct, con, ax, ay, af, at', ao, rfl, hL, q2, q4, q5⟩
      · rw [if_neg (show ¬ (100 : Int32) ≤ nI c from nI_ge (show c < 100 by omega) (by decide))]
        by_cases e2 : high ≤ low
        · rw [if_pos (nI_le e2 (by omega))]
          have : low = high := by omega
          subst this
          exact Or.inl ⟨_, rfl, low, b, co, pa, li, ov, un, mi, cx, cy, cf, ct, con, ax, ay, af, at', ao, rfl, hL, q2, q4, q5⟩
        · have hmid : (nI low + nI high) / (2 : Int32) = nI ((low + high) / 2) := by
            rw [nI_add, show (2 : Int32) = nI 2 from rfl, pk_div (by omega) (by decide) (by decide)]
          rw [if_neg (nI_ge (show low < high by omega) (by omega)), if_neg (by decide), hmid]
          obtain ⟨k, b', co', pa', li', ov', un', mi', cx', cy', cf', ct', con', a1, a2, a3, a4, a5, e, w1, w2, w3, w4, w5⟩ := c_empty (K := K) (v := (low + high) / 2) (ov := ov) (un := un) (mi := mi) (con := con) (ax := ax) (ay := ay) (af := af) (at' := at') (ao := ao) (giving := giving) (set := set) (wd := wd) hK hC hL hS hs hg (by omega)
          rw [w1, Option.bind_some]
          simp only
          rw [if_neg w2, w4, Option.bind_some]
          rcases w5 with ⟨rfl, wN⟩ | ⟨rfl, wN⟩
          · rw [if_neg (by decide), nI_1, nI_1]
            refine Or.inr ⟨by omega, _, rfl, by omega, (low + high) / 2 + 1, high, b', co', pa', li', ov', un', mi', cx', cy', cf', ct', con', a1, a2, a3, a4, a5, rfl, w3, by omega, q2, by omega, q4, fun u hu => give_mono (show u ≤ (low + high) / 2 by omega) (by omega) wN⟩
          · rw [if_pos rfl, nI_1]
            exact Or.inr ⟨by omega, _, rfl, by omega, low, (low + high) / 2, b', co', pa', li', ov', un', mi', cx', cy', cf', ct', con', a1, a2, a3, a4, a5, rfl, w3, by omega, by omega, by omega, wN, q5⟩) K 0 ((0 : Int32), (100 : Int32), (0 : Int32), nI b1, co1, pa1, li1, ov1, un1, mi1, cx1, cy1, cf1, ct1, con1, z1, z2, z3, z4, z5) ⟨Nat.zero_le _, 0, 100, b1, co1, pa1, li1, ov1, un1, mi1, cx1, cy1, cf1, ct1, con1, z1, z2, z3, z4, z5, rfl, p3, by omega, by omega, by omega, pN, fun u hu => absurd hu (Nat.not_lt_zero u)⟩ (by omega)
    rw [l1, Option.bind_some]
    exact ⟨_, b', co', pa', li', ov', un', mi', cx', cy', cf', ct', con', a1, a2, a3, a4, a5, rfl, l2, Or.inr ⟨low, l3, rfl, l4, l5⟩⟩
theorem r_giving {set wd : Int32} (hK : 10000 ≤ K) (hS : SR n sx sy sf st so s9) (hw : wiOK wi) (hR : RI n s9 cs il ld up dn) :
    ∃ (ans wi' : Int32) (il' ld' cs' : Int32) (up' dn' : Nat → Int64) (wo' ti' : Nat → Int32) (sm' nw' : Nat → Int64), lp (f_X9_gives_L63 K 40 38400 4800 5 4 30 8 (nI n) wd s9 set) K ((-9 : Int32), (0 : Int32), cs, il, ld, wi, up, dn, wo, ti, sm, nw) = some (ans, cs', il', ld', wi', up', dn', wo', ti', sm', nw') ∧ RI n s9 cs' il' ld' up' dn' ∧ wiOK wi' ∧ givesAns (fun v => noRow (inS s9 wd (nI v) n set)) ans := by
  have ne9 : ∀ m, m < 101 → ¬ nI m = (-9 : Int32) := by decide
  obtain ⟨r, l1, ans, wi', cs', il', ld', up', dn', wo', ti', sm', nw', rfl, l2, l3, l4⟩ := lp_loop (f := f_X9_gives_L63 K 40 38400 4800 5 4 30 8 (nI n) wd s9 set)
    (fun v w => v ≤ 101 ∧ ∃ (a wi : Int32) (cs il ld : Int32) (up dn : Nat → Int64) (wo ti : Nat → Int32) (sm nw : Nat → Int64), w = (a, nI v, cs, il, ld, wi, up, dn, wo, ti, sm, nw) ∧ RI n s9 cs il ld up dn ∧ wiOK wi ∧ ((a = -9 ∧ ∀ u, u < v → noRow (inS s9 wd (nI u) n set)) ∨ (0 < v ∧ a = nI (v - 1) ∧ ¬ noRow (inS s9 wd (nI (v - 1)) n set) ∧ ∀ u, u < v - 1 → noRow (inS s9 wd (nI u) n set)))) 101
    (fun r => ∃ (a wi : Int32) (cs il ld : Int32) (up dn : Nat → Int64) (wo ti : Nat → Int32) (sm nw : Nat → Int64), r = (a, cs, il, ld, wi, up, dn, wo, ti, sm, nw) ∧ RI n s9 cs il ld up dn ∧ wiOK wi ∧ givesAns (fun v => noRow (inS s9 wd (nI v) n set)) a) (fun v w hI => by
    obtain ⟨hv, a, wi, cs, il, ld, up, dn, wo, ti, sm, nw, rfl, hR, hw, ha⟩ := hI
    unfold f_X9_gives_L63
    simp only
    have stop : ¬ a = -9 → givesAns (fun v => noRow (inS s9 wd (nI v) n set)) a := fun g => by
      rcases ha with ⟨e, _⟩ | ⟨e0, e1, e2, e3⟩
      · exact absurd e g
      · exact Or.inr ⟨v - 1, by omega, e1, e2, e3⟩
    by_cases e : v = 101
    · subst e
      rw [if_pos (show (100 : Int32) < nI 101 from nI_lt (by decide) (by decide))]
      refine Or.inl ⟨_, rfl, a, wi, cs, il, ld, up, dn, wo, ti, sm, nw, rfl, hR, hw, ?_⟩
      by_cases h9 : a = -9
      · rcases ha with ⟨_, g⟩ | ⟨e0, e1, e2, e3⟩
        · exact Or.inl ⟨h9, fun u hu => g u (by omega)⟩
        · exact absurd (e1 ▸ h9) (ne9 _ (by omega))
      · exact stop h9
    · rw [if_neg (show ¬ (100 : Int32) < nI v from nI_nlt (show v ≤ 100 by omega) (by decide))]
      by_cases h9 : a = -9
      · obtain ⟨s, il', c, up', dn', wo', ti', sm', nw', g1, g2, g3, g4, g5, g6⟩ := f_loads (K := K) (wd := wd) (wi := nI v) (set := set) (wo := wo) (ti := ti) (sm := sm) (nw := nw) hK hS.ok (wi_nI (show v ≤ 100 by omega)) hR
        have hRI : RI n s9 (nI c) il' set up' dn' := by
          by_cases hwd : wd = 0
          · exact g5 hwd
          · exact Or.inl (g6 hwd)
        have all : ∀ u, u < v → noRow (inS s9 wd (nI u) n set) := by
          rcases ha with ⟨_, g⟩ | ⟨e0, e1, e2, e3⟩
          · exact g
          · exact absurd (e1 ▸ h9) (ne9 _ (by omega))
        rw [if_pos h9, g1, Option.bind_some]
        simp only
        rcases g4 with ⟨s1, s2⟩ | ⟨s1, s2⟩
        · rw [s1, if_pos rfl, nI_1]
          refine Or.inr ⟨by omega, _, rfl, by omega, -9, nI v, nI c, il', set, up', dn', wo', ti', sm', nw', rfl, hRI, wi_nI (by omega), Or.inl ⟨rfl, fun u hu => ?_⟩⟩
          by_cases eu : u = v
          · rw [eu]; exact (noRow_list g3).mp s2
          · exact all u (by omega)
        · rw [s1, if_neg (by decide), nI_1]
          exact Or.inr ⟨by omega, _, rfl, by omega, nI v, nI v, nI c, il', set, up', dn', wo', ti', sm', nw', rfl, hRI, wi_nI (by omega), Or.inr ⟨by omega, by rw [show v + 1 - 1 = v by omega], fun g => by rw [show v + 1 - 1 = v by omega] at g; have := (noRow_list g3).mpr g; omega, fun u hu => all u (by omega)⟩⟩
      · rw [if_neg h9]
        exact Or.inl ⟨_, rfl, a, wi, cs, il, ld, up, dn, wo, ti, sm, nw, rfl, hR, hw, stop h9⟩) K 0 ((-9 : Int32), (0 : Int32), cs, il, ld, wi, up, dn, wo, ti, sm, nw) ⟨Nat.zero_le _, -9, wi, cs, il, ld, up, dn, wo, ti, sm, nw, rfl, hR, hw, Or.inl ⟨rfl, fun u hu => absurd hu (Nat.not_lt_zero u)⟩⟩ (by omega)
  exact ⟨ans, wi', il', ld', cs', up', dn', wo', ti', sm', nw', l1, l2, l3, l4⟩
theorem ag_gives {x1 : Int32} (hK : 10000 ≤ K) (hC : laC np nl no nu nm fb tb ro) (hL : LI b co pa li cx cy cf ct) (hS : SR n sx sy sf st so s9) (hw : wiOK wi) (hR : RI n s9 cs il ld up dn) :
    ∃ (ans wi' : Int32) (b' : Nat) (co' : Nat → Int32) (pa' : Nat → Nat → Int64) (li' : Nat → Nat → Int32) (ov' un' mi' : Nat → Nat → Int64) (cx' cy' cf' ct' con' : Nat → Int32) (a1 a2 a3 a4 a5 : Int32) (il' ld' cs' : Int32) (up' dn' : Nat → Int64) (wo' ti' : Nat → Int32) (sm' nw' : Nat → Int64), f_X8_gives K np nl no nu nm (nI n) sx sy sf st so (nI b) fb tb ro co pa li ov un mi cx cy cf ct con ax ay af at' ao x1 = some (ans, nI b', co', pa', li', ov', un', mi', cx', cy', cf', ct', con', a1, a2, a3, a4, a5) ∧ LI b' co' pa' li' cx' cy' cf' ct' ∧ f_X9_gives K 40 38400 4800 5 4 30 8 (nI n) cs il ld 0 wi s9 up dn wo ti sm nw x1 = some (ans, 0, cs', il', ld', 0, wi', up', dn', wo', ti', sm', nw') ∧ RI n s9 cs' il' ld' up' dn' ∧ wiOK wi' := by
  have hn := hS.1
  obtain ⟨set, o1, o2, o3, o4⟩ := f_onSets (K := K) (by omega) hS
  unfold f_X8_gives f_X9_gives
  by_cases hm1 : x1 = -1
  · obtain ⟨ans, b', co', pa', li', ov', un', mi', cx', cy', cf', ct', con', a1, a2, a3, a4, a5, p1, p2, p3⟩ := c_giving (K := K) (set := set) (giving := set) (wd := set) (ov := ov) (un := un) (mi := mi) (con := con) (ax := ax) (ay := ay) (af := af) (at' := at') (ao := ao) hK hC hL hS o3 (fun _ _ _ => rfl)
    obtain ⟨ans2, wi', il', ld', cs', up', dn', wo', ti', sm', nw', q1, q2, q3, q4⟩ := r_giving (K := K) (set := set) (wd := set) (wo := wo) (ti := ti) (sm := sm) (nw := nw) hK hS hw hR
    unfold f_X8_gives_J15 f_X9_gives_J20 f_X8_gives_J47 f_X9_gives_J41
    rw [o1, o2]
    simp only [if_pos hm1, Option.bind_some]
    rw [p1, q1, givesAns_unique p3 q4]
    exact ⟨ans2, wi', b', co', pa', li', ov', un', mi', cx', cy', cf', ct', con', a1, a2, a3, a4, a5, il', ld', cs', up', dn', wo', ti', sm', nw', rfl, p2, rfl, q2, q3⟩
  · rw [if_neg hm1, if_neg hm1]
    rcases g_saying x1 hn with ⟨t1, t2, -⟩ | ⟨t1, t2, i, hi, rfl⟩
    · rw [t1, t2]
      exact ⟨_, wi, b, co, pa, li, ov, un, mi, cx, cy, cf, ct, con, ax, ay, af, at', ao, il, ld, cs, up, dn, wo, ti, sm, nw, rfl, hL, rfl, hR, hw⟩
    rw [t1, t2]
    simp only [Option.bind_some]
    rw [if_neg (by decide), if_neg (by decide)]
    unfold f_X8_gives_J15 f_X9_gives_J20
    rw [o1, o2]
    simp only [if_neg hm1, Option.bind_some]
    rw [hb_shr set (show i < 8 by omega)]
    cases hbi : hb set i
    · have hz : (set &&& ((1 : Int32) <<< (nI i &&& 31))) = 0 := hb_ext fun k hk => by
        rw [hb_and, on_bit i (by omega) k hk, hb_zero]
        by_cases ek : k = i
        · rw [ek, hbi]; rfl
        · simp [ek]
      rw [if_pos hz, if_pos (by decide)]
      exact ⟨_, wi, b, co, pa, li, ov, un, mi, cx, cy, cf, ct, con, ax, ay, af, at', ao, il, ld, cs, up, dn, wo, ti, sm, nw, rfl, hL, rfl, hR, hw⟩
    · have hz : ¬ (set &&& ((1 : Int32) <<< (nI i &&& 31))) = 0 := fun g => by
        have e : hb (set &&& ((1 : Int32) <<< (nI i &&& 31))) i = true := by rw [hb_and, on_bit i (by omega) i (by omega), hbi]; simp
        rw [g, hb_zero] at e
        exact absurd e (by decide)
      rw [if_neg hz, if_neg (by decide)]
      obtain ⟨ans, b', co', pa', li', ov', un', mi', cx', cy', cf', ct', con', a1, a2, a3, a4, a5, p1, p2, p3⟩ := c_giving (K := K) (set := set) (giving := set &&& ((1 : Int32) <<< (nI i &&& 31))) (wd := (1 : Int32) <<< (nI i &&& 31)) (ov := ov) (un := un) (mi := mi) (con := con) (ax := ax) (ay := ay) (af := af) (at' := at') (ao := ao) hK hC hL hS o3 (fun j _ hj => by rw [hb_and, hj]; rfl)
      obtain ⟨ans2, wi', il', ld', cs', up', dn', wo', ti', sm', nw', q1, q2, q3, q4⟩ := r_giving (K := K) (set := set) (wd := (1 : Int32) <<< (nI i &&& 31)) (wo := wo) (ti := ti) (sm := sm) (nw := nw) hK hS hw hR
      unfold f_X8_gives_J47 f_X9_gives_J41
      rw [if_neg hm1, p1, q1, givesAns_unique p3 q4]
      exact ⟨ans2, wi', b', co', pa', li', ov', un', mi', cx', cy', cf', ct', con', a1, a2, a3, a4, a5, il', ld', cs', up', dn', wo', ti', sm', nw', rfl, p2, rfl, q2, q3⟩
end AGR4

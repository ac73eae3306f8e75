section AGR6
variable {K b n : Nat} {np nl no nu nm : Nat → Nat} {fb tb ro co cx cy cf ct con : Nat → Int32} {pa ov un mi : Nat → Nat → Int64} {li : Nat → Nat → Int32} {sx sy sf st so s9 : Nat → Int32} {ax ay af at' ao : Int32} {cs il ld wi : Int32} {up dn sm nw : Nat → Int64} {wo ti : Nat → Int32}
theorem r_needed {x1 x2 sA : Int32} {UA BA VA CA bU bD : Int64} {o : Nat} (hK : 10000 ≤ K) (hS : SR n sx sy sf st so s9) (hw : wiOK wi) (hR : RI n s9 cs il ld up dn) (ho : o < 16)
    (hA : fracs (inS s9 0 0 n (nI o)) (ind (x1 &&& x2)) (ind x2) UA.toInt BA.toInt VA.toInt CA.toInt) (hsA : (sA = 1 ∧ 0 < BA.toInt) ∨ (sA = 0 ∧ BA.toInt = 0)) (hsm : BA.toInt ≠ 0 → smF UA BA ∧ smF VA CA) :
    ∃ (il' ld' cs' : Int32) (up' dn' : Nat → Int64) (wo' ti' : Nat → Int32) (sm' nw' : Nat → Int64) (bU' bD' : Int64), lp (f_X9_needed_L89 K 40 38400 4800 5 4 30 8 (nI n) (0 : Int32) wi s9 x1 x2 (nI o) sA UA BA VA CA) K (nI o, (0 : Int32), cs, il, ld, bU, bD, up, dn, wo, ti, sm, nw) = some (enc (nI o) (bst (subS (nI o)) (fun q => sameB (ind (x1 &&& x2)) (ind x2) (inS s9 0 0 n (nI q)) (inS s9 0 0 n (nI o))) o), cs', il', ld', bU', bD', up', dn', wo', ti', sm', nw') ∧ RI n s9 cs' il' ld' up' dn' := by
  obtain ⟨r, l1, cs', il', ld', up', dn', wo', ti', sm', nw', bU', bD', rfl, l2⟩ := lp_loop (f := f_X9_needed_L89 K 40 38400 4800 5 4 30 8 (nI n) (0 : Int32) wi s9 x1 x2 (nI o) sA UA BA VA CA)
    (fun q w => q ≤ o ∧ ∃ (cs il ld : Int32) (up dn : Nat → Int64) (wo ti : Nat → Int32) (sm nw : Nat → Int64) (bU bD : Int64), w = (enc (nI o) (bst (subS (nI o)) (fun q => sameB (ind (x1 &&& x2)) (ind x2) (inS s9 0 0 n (nI q)) (inS s9 0 0 n (nI o))) q), nI q, cs, il, ld, bU, bD, up, dn, wo, ti, sm, nw) ∧ RI n s9 cs il ld up dn) o
    (fun r => ∃ (cs il ld : Int32) (up dn : Nat → Int64) (wo ti : Nat → Int32) (sm nw : Nat → Int64) (bU bD : Int64), r = (enc (nI o) (bst (subS (nI o)) (fun q => sameB (ind (x1 &&& x2)) (ind x2) (inS s9 0 0 n (nI q)) (inS s9 0 0 n (nI o))) o), cs, il, ld, bU, bD, up, dn, wo, ti, sm, nw) ∧ RI n s9 cs il ld up dn) (fun q w hI => by
    obtain ⟨hq, cs, il, ld, up, dn, wo, ti, sm, nw, bU, bD, rfl, hR⟩ := hI
    unfold f_X9_needed_L89
    simp only
    by_cases e : q = o
    · subst e
      rw [if_pos (nI_le (Nat.le_refl q) (by omega))]
      exact Or.inl ⟨_, rfl, cs, il, ld, up, dn, wo, ti, sm, nw, bU, bD, rfl, hR⟩
    · have hqo : q < o := by omega
      rw [if_neg (nI_ge hqo (by omega))]
      have skip : ¬ (subS (nI o) q ∧ few (bst (subS (nI o)) (fun q => sameB (ind (x1 &&& x2)) (ind x2) (inS s9 0 0 n (nI q)) (inS s9 0 0 n (nI o))) q) q) → bst (subS (nI o)) (fun q => sameB (ind (x1 &&& x2)) (ind x2) (inS s9 0 0 n (nI q)) (inS s9 0 0 n (nI o))) (q + 1) = bst (subS (nI o)) (fun q => sameB (ind (x1 &&& x2)) (ind x2) (inS s9 0 0 n (nI q)) (inS s9 0 0 n (nI o))) q := fun g => by rw [bst]; exact if_neg (fun g2 => g ⟨g2.1, g2.2.1⟩)
      by_cases hs : subS (nI o) q
      · have hs' := hs
        unfold subS at hs'
        -- the best so far, as a set
        obtain ⟨mb, hmb, emb, hfew⟩ : ∃ mb, mb < 16 ∧ enc (nI o) (bst (subS (nI o)) (fun q => sameB (ind (x1 &&& x2)) (ind x2) (inS s9 0 0 n (nI q)) (inS s9 0 0 n (nI o))) q) = nI mb ∧ (few (bst (subS (nI o)) (fun q => sameB (ind (x1 &&& x2)) (ind x2) (inS s9 0 0 n (nI q)) (inS s9 0 0 n (nI o))) q) q ↔ ct_cd (hb (nI q)) 8 < ct_cd (hb (nI mb)) 8) := by
          cases hb0 : bst (subS (nI o)) (fun q => sameB (ind (x1 &&& x2)) (ind x2) (inS s9 0 0 n (nI q)) (inS s9 0 0 n (nI o))) q with
          | none => exact ⟨o, ho, rfl, ⟨fun _ => pop_proper o ho q (by omega) hs hqo, fun _ => trivial⟩⟩
          | some m =>
            have hm := bst_lt q m hb0
            exact ⟨m, by omega, rfl, Iff.rfl⟩
        have b1 := ct_cd_le (hb (nI q)) 8
        have b2 := ct_cd_le (hb (nI mb)) 8
        rw [if_pos hs', f_ones (nI q) (K := K) (by omega), Option.bind_some, emb, f_ones (nI mb) (K := K) (by omega), Option.bind_some]
        by_cases hf : ct_cd (hb (nI q)) 8 < ct_cd (hb (nI mb)) 8
        · rw [if_neg (nI_ge hf (by omega))]
          obtain ⟨s0, il', c, up', dn', wo', ti', sm', nw', g1, g2, g3', g4, g5, g6⟩ := f_loads (K := K) (wd := 0) (set := nI q) (wo := wo) (ti := ti) (sm := sm) (nw := nw) hK hS.ok hw hR
          have g3 := cmpl_iff (fun x => inS_wi (wi' := 0)) g3'
          obtain ⟨s, s', U, B, V, C, r1, r2, r3, r4, r5⟩ := r_fr (K := K) (x1 := x1) (x2 := x2) (U0 := bU) hK g2 g3
          have iff := sameB_iff r3 hA
          have take : sameB (ind (x1 &&& x2)) (ind x2) (inS s9 0 0 n (nI q)) (inS s9 0 0 n (nI o)) → bst (subS (nI o)) (fun q => sameB (ind (x1 &&& x2)) (ind x2) (inS s9 0 0 n (nI q)) (inS s9 0 0 n (nI o))) (q + 1) = some q := fun g => by rw [bst]; exact if_pos ⟨hs, hfew.mpr hf, g⟩
          have stay : ¬ sameB (ind (x1 &&& x2)) (ind x2) (inS s9 0 0 n (nI q)) (inS s9 0 0 n (nI o)) → bst (subS (nI o)) (fun q => sameB (ind (x1 &&& x2)) (ind x2) (inS s9 0 0 n (nI q)) (inS s9 0 0 n (nI o))) (q + 1) = bst (subS (nI o)) (fun q => sameB (ind (x1 &&& x2)) (ind x2) (inS s9 0 0 n (nI q)) (inS s9 0 0 n (nI o))) q := fun g => by rw [bst]; exact if_neg (fun g2 => g g2.2.2)
          have fin1 : sameB (ind (x1 &&& x2)) (ind x2) (inS s9 0 0 n (nI q)) (inS s9 0 0 n (nI o)) → ∃ w', f_X9_needed_J218 (nI c) il' (nI q) V C up' dn' wo' ti' sm' nw' (nI mb) (nI q) = some (.inr w') ∧ (q + 1 ≤ o ∧ ∃ (cs il ld : Int32) (up dn : Nat → Int64) (wo ti : Nat → Int32) (sm nw : Nat → Int64) (bU bD : Int64), w' = (enc (nI o) (bst (subS (nI o)) (fun q => sameB (ind (x1 &&& x2)) (ind x2) (inS s9 0 0 n (nI q)) (inS s9 0 0 n (nI o))) (q + 1)), nI (q + 1), cs, il, ld, bU, bD, up, dn, wo, ti, sm, nw) ∧ RI n s9 cs il ld up dn) := fun g => by
            unfold f_X9_needed_J218
            rw [if_neg (by decide), nI_1]
            exact ⟨_, rfl, by omega, nI c, il', nI q, up', dn', wo', ti', sm', nw', V, C, by rw [take g]; rfl, g5 rfl⟩
          have fin0 : ¬ sameB (ind (x1 &&& x2)) (ind x2) (inS s9 0 0 n (nI q)) (inS s9 0 0 n (nI o)) → ∃ w', f_X9_needed_J222 (nI c) il' (nI q) V C up' dn' wo' ti' sm' nw' (nI mb) (nI q) = some (.inr w') ∧ (q + 1 ≤ o ∧ ∃ (cs il ld : Int32) (up dn : Nat → Int64) (wo ti : Nat → Int32) (sm nw : Nat → Int64) (bU bD : Int64), w' = (enc (nI o) (bst (subS (nI o)) (fun q => sameB (ind (x1 &&& x2)) (ind x2) (inS s9 0 0 n (nI q)) (inS s9 0 0 n (nI o))) (q + 1)), nI (q + 1), cs, il, ld, bU, bD, up, dn, wo, ti, sm, nw) ∧ RI n s9 cs il ld up dn) := fun g => by
            unfold f_X9_needed_J222
            rw [if_pos rfl, nI_1]
            exact ⟨_, rfl, by omega, nI c, il', nI q, up', dn', wo', ti', sm', nw', V, C, by rw [stay g, emb], g5 rfl⟩
          have j178 : ¬ sameB (ind (x1 &&& x2)) (ind x2) (inS s9 0 0 n (nI q)) (inS s9 0 0 n (nI o)) → ∃ w', f_X9_needed_J178 K 38400 4800 (nI c) il' (nI q) U up' dn' wo' ti' sm' nw' x1 x2 sA VA CA (nI mb) (nI q) = some (.inr w') ∧ (q + 1 ≤ o ∧ ∃ (cs il ld : Int32) (up dn : Nat → Int64) (wo ti : Nat → Int32) (sm nw : Nat → Int64) (bU bD : Int64), w' = (enc (nI o) (bst (subS (nI o)) (fun q => sameB (ind (x1 &&& x2)) (ind x2) (inS s9 0 0 n (nI q)) (inS s9 0 0 n (nI o))) (q + 1)), nI (q + 1), cs, il, ld, bU, bD, up, dn, wo, ti, sm, nw) ∧ RI n s9 cs il ld up dn) := fun g => by
            unfold f_X9_needed_J178
            rw [r2, Option.bind_some]
            simp only
            rw [if_pos trivial]
            exact fin0 g
          rw [g1, Option.bind_some]
          simp only
          rw [r1, Option.bind_some]
          simp only
          by_cases hss : s = sA
          · rw [if_pos hss, if_neg (by decide)]
            rcases hsA with ⟨a1, a2⟩ | ⟨a1, a2⟩
            · have sB : 0 < B.toInt := by rcases r4 with ⟨_, g⟩ | ⟨g, _⟩; exact g; rw [hss, a1] at g; exact absurd g (by decide)
              obtain ⟨y1, y2⟩ := r5 (by omega)
              obtain ⟨y3, y4⟩ := hsm (by omega)
              have CB : 0 < C.toInt ∧ 0 < CA.toInt := by
                constructor
                · rcases r3 with ⟨e1, _⟩ | ⟨_, b⟩
                  · omega
                  · exact b.1
                · rcases hA with ⟨e1, _⟩ | ⟨_, b⟩
                  · omega
                  · exact b.1
              have c1 : (lg_cmp (U * BA) (UA * B) = (0 : Int32)) ↔ U.toInt * BA.toInt = UA.toInt * B.toInt := by
                rw [lg_cmp_eq, ← Int64.toInt_inj, q64_mul (wthn_mono (wthn_mul y1.1 y3.2.2) (by decide)), q64_mul (wthn_mono (wthn_mul y3.1 y1.2.2) (by decide))]
              have c2 : (lg_cmp (V * CA) (VA * C) = (0 : Int32)) ↔ V.toInt * CA.toInt = VA.toInt * C.toInt := by
                rw [lg_cmp_eq, ← Int64.toInt_inj, q64_mul (wthn_mono (wthn_mul y2.1 y4.2.2) (by decide)), q64_mul (wthn_mono (wthn_mul y4.1 y2.2.2) (by decide))]
              have sA0 : ¬ sA = 0 := by rw [a1]; decide
              rw [if_neg sA0]
              by_cases h1 : U.toInt * BA.toInt = UA.toInt * B.toInt
              · rw [if_pos (c1.mpr h1)]
                unfold f_X9_needed_J174
                rw [r2, Option.bind_some]
                simp only
                rw [if_neg (by decide), if_neg sA0]
                by_cases h2 : V.toInt * CA.toInt = VA.toInt * C.toInt
                · rw [if_pos (c2.mpr h2)]
                  obtain ⟨w', x1', x2'⟩ := fin1 (iff.mpr ⟨⟨⟨fun g => by omega, fun g => by omega⟩, fun _ => h1⟩, ⟨⟨fun g => by omega, fun g => by omega⟩, fun _ => h2⟩⟩)
                  exact Or.inr ⟨hqo, w', x1', x2'⟩
                · rw [if_neg (fun g => h2 (c2.mp g))]
                  obtain ⟨w', x1', x2'⟩ := fin0 (fun g => h2 ((iff.mp g).2.2 (by omega)))
                  exact Or.inr ⟨hqo, w', x1', x2'⟩
              · rw [if_neg (fun g => h1 (c1.mp g))]
                obtain ⟨w', x1', x2'⟩ := j178 (fun g => h1 ((iff.mp g).1.2 (by omega)))
                exact Or.inr ⟨hqo, w', x1', x2'⟩
            · have sB : B.toInt = 0 := by rcases r4 with ⟨g, _⟩ | ⟨_, g⟩; rw [hss, a1] at g; exact absurd g (by decide); exact g
              have hC0 : C.toInt = 0 ∧ CA.toInt = 0 := by
                constructor
                · rcases r3 with ⟨_, e1, _⟩ | ⟨b, _⟩
                  · exact e1
                  · have := b.1; omega
                · rcases hA with ⟨_, e1, _⟩ | ⟨b, _⟩
                  · exact e1
                  · have := b.1; omega
              rw [if_pos a1]
              unfold f_X9_needed_J174
              rw [r2, Option.bind_some]
              simp only
              rw [if_neg (by decide), if_pos a1]
              obtain ⟨w', x1', x2'⟩ := fin1 (iff.mpr ⟨⟨⟨fun _ => a2, fun _ => sB⟩, fun g => absurd sB g⟩, ⟨⟨fun _ => hC0.2, fun _ => hC0.1⟩, fun g => absurd hC0.1 g⟩⟩)
              exact Or.inr ⟨hqo, w', x1', x2'⟩
          · rw [if_neg hss, if_pos trivial]
            obtain ⟨w', x1', x2'⟩ := j178 (fun g => hss (by
              have e := (iff.mp g).1.1
              rcases r4 with ⟨p1, p2⟩ | ⟨p1, p2⟩ <;> rcases hsA with ⟨p3, p4⟩ | ⟨p3, p4⟩
              · rw [p1, p3]
              · have := e.mpr p4; omega
              · have := e.mp p2; omega
              · rw [p1, p3]))
            exact Or.inr ⟨hqo, w', x1', x2'⟩
        · rw [if_pos (nI_le (by omega) (by omega)), nI_1]
          exact Or.inr ⟨hqo, _, rfl, by omega, cs, il, ld, up, dn, wo, ti, sm, nw, bU, bD, by rw [skip (fun g => hf (hfew.mp g.2)), emb], hR⟩
      · have hs' := hs
        unfold subS at hs'
        rw [if_neg hs', nI_1]
        exact Or.inr ⟨hqo, _, rfl, by omega, cs, il, ld, up, dn, wo, ti, sm, nw, bU, bD, by rw [skip (fun g => hs g.1)], hR⟩) K 0 (nI o, (0 : Int32), cs, il, ld, bU, bD, up, dn, wo, ti, sm, nw) ⟨Nat.zero_le _, cs, il, ld, up, dn, wo, ti, sm, nw, bU, bD, rfl, hR⟩ (by omega)
  exact ⟨il', ld', cs', up', dn', wo', ti', sm', nw', bU', bD', l1, l2⟩
theorem ag_needed {lu ll gu gl l1 l2 g1 g2 bU bD : Int64} {x1 x2 x3 : Int32} (hK : 10000 ≤ K) (hC : laC np nl no nu nm fb tb ro) (hL : LI b co pa li cx cy cf ct) (hS : SR n sx sy sf st so s9) (hw : wiOK wi) (hR : RI n s9 cs il ld up dn) :
    ∃ (ans : Int32) (b' : Nat) (co' : Nat → Int32) (pa' : Nat → Nat → Int64) (li' : Nat → Nat → Int32) (ov' un' mi' : Nat → Nat → Int64) (cx' cy' cf' ct' con' : Nat → Int32) (a1 a2 a3 a4 a5 : Int32) (lu' ll' gu' gl' lb1 lb2 gb1 gb2 : Int64) (il' ld' cs' : Int32) (up' dn' : Nat → Int64) (wo' ti' : Nat → Int32) (sm' nw' : Nat → Int64) (bU' bD' : Int64), f_X8_needed K np nl no nu nm (nI n) sx sy sf st so (nI b) fb tb ro co pa li ov un mi cx cy cf ct con ax ay af at' ao lu ll gu gl l1 l2 g1 g2 x1 x2 x3 = some (ans, nI b', co', pa', li', ov', un', mi', cx', cy', cf', ct', con', a1, a2, a3, a4, a5, lu', ll', gu', gl', lb1, lb2, gb1, gb2) ∧ LI b' co' pa' li' cx' cy' cf' ct' ∧ f_X9_needed K 40 38400 4800 5 4 30 8 (nI n) cs il ld 0 wi bU bD s9 up dn wo ti sm nw x1 x2 x3 = some (ans, 0, cs', il', ld', 0, bU', bD', up', dn', wo', ti', sm', nw') ∧ RI n s9 cs' il' ld' up' dn' := by
  have hn := hS.1
  unfold f_X8_needed f_X9_needed
  rcases g_thing x1 with ⟨t1, t2⟩ | ⟨t1, t2⟩
  · rw [t1, t2]
    exact ⟨_, b, co, pa, li, ov, un, mi, cx, cy, cf, ct, con, ax, ay, af, at', ao, lu, ll, gu, gl, l1, l2, g1, g2, il, ld, cs, up, dn, wo, ti, sm, nw, bU, bD, rfl, hL, rfl, hR⟩
  rw [t1, t2]
  simp only [Option.bind_some]
  rw [if_neg (by decide), if_neg (by decide)]
  rcases g_thing x2 with ⟨t1, t2⟩ | ⟨t1, t2⟩
  · rw [t1, t2]
    exact ⟨_, b, co, pa, li, ov, un, mi, cx, cy, cf, ct, con, ax, ay, af, at', ao, lu, ll, gu, gl, l1, l2, g1, g2, il, ld, cs, up, dn, wo, ti, sm, nw, bU, bD, rfl, hL, rfl, hR⟩
  rw [t1, t2]
  simp only [Option.bind_some]
  rw [if_neg (by decide), if_neg (by decide)]
  rcases g_bit x3 with ⟨t1, t2⟩ | ⟨t1, t2, t3⟩
  · rw [t1, t2]
    exact ⟨_, b, co, pa, li, ov, un, mi, cx, cy, cf, ct, con, ax, ay, af, at', ao, lu, ll, gu, gl, l1, l2, g1, g2, il, ld, cs, up, dn, wo, ti, sm, nw, bU, bD, rfl, hL, rfl, hR⟩
  rw [t1, t2]
  simp only [Option.bind_some]
  rw [if_neg (by decide), if_neg (by decide)]
  obtain ⟨set, o1, o2, o3, o4⟩ := f_onSets (K := K) (by omega) hS
  obtain ⟨o, ho, rfl⟩ := set_small hn o3
  obtain ⟨ans, b', co', pa', li', ov', un', mi', cx', cy', cf', ct', con', a1, a2, a3, a4, a5, lu', ll', gu', gl', lb1, lb2, gb1, gb2, p1, p2, p3⟩ := c_needed (K := K) (x1 := x1) (x2 := x2) (lu := lu) (ll := ll) (gu := gu) (gl := gl) (ov := ov) (un := un) (mi := mi) (con := con) (ax := ax) (ay := ay) (af := af) (at' := at') (ao := ao) hK hC hL hS ho o1 o3
  obtain ⟨s0, il1, c1, up1, dn1, wo1, ti1, sm1, nw1, y1, y2, y3', y4, y5, y6⟩ := f_loads (K := K) (wd := 0) (set := nI o) (wo := wo) (ti := ti) (sm := sm) (nw := nw) hK hS.ok hw hR
  have y3 := cmpl_iff (fun x => inS_wi (wi' := 0)) y3'
  obtain ⟨sA, sA', UA, BA, VA, CA, r1, r2, r3, r4, r5⟩ := r_fr (K := K) (x1 := x1) (x2 := x2) (U0 := bU) hK y2 y3
  obtain ⟨il', ld', cs', up', dn', wo', ti', sm', nw', bU', bD', q1, q2⟩ := r_needed (K := K) (x1 := x1) (x2 := x2) (sA := sA) (UA := UA) (BA := BA) (VA := VA) (CA := CA) (bU := VA) (bD := CA) (wo := wo1) (ti := ti1) (sm := sm1) (nw := nw1) hK hS hw (y5 rfl) ho r3 r4 r5
  have lo : f_X9_loadsOn K 40 38400 4800 5 4 30 8 (nI n) cs il ld wi s9 up dn wo ti sm nw = some (s0, nI c1, il1, nI o, 0, up1, dn1, wo1, ti1, sm1, nw1) := by
    unfold f_X9_loadsOn
    rw [o2, Option.bind_some, y1, Option.bind_some]
    simp only
    rw [if_neg (fun g => g (by rcases y4 with e | e; exact Or.inl e.1; exact Or.inr e.1))]
  rw [p1, lo]
  simp only [Option.bind_some]
  rw [o2]
  simp only [Option.bind_some]
  rw [r1]
  simp only [Option.bind_some]
  rw [r2]
  simp only [Option.bind_some]
  rw [q1, p3]
  simp only [Option.bind_some]
  obtain ⟨mb, hmb, emb⟩ : ∃ mb, mb < 16 ∧ enc (nI o) (bst (subS (nI o)) (fun q => sameB (ind (x1 &&& x2)) (ind x2) (inS s9 0 0 n (nI q)) (inS s9 0 0 n (nI o))) o) = nI mb := by
    cases hb0 : bst (subS (nI o)) (fun q => sameB (ind (x1 &&& x2)) (ind x2) (inS s9 0 0 n (nI q)) (inS s9 0 0 n (nI o))) o with
    | none => exact ⟨o, ho, rfl⟩
    | some m => have hm := bst_lt o m hb0; exact ⟨m, by omega, rfl⟩
  rw [emb]
  rcases t3 with rfl | rfl
  · rw [if_pos rfl, if_pos rfl, f_bc (by omega), gbc_small mb (by omega), f_ones (nI mb) (K := K) (by omega)]
    exact ⟨_, b', co', pa', li', ov', un', mi', cx', cy', cf', ct', con', a1, a2, a3, a4, a5, lu', ll', gu', gl', lb1, lb2, gb1, gb2, il', ld', cs', up', dn', wo', ti', sm', nw', bU', bD', rfl, p2, rfl, q2⟩
  · rw [if_neg (by decide), if_neg (by decide)]
    exact ⟨_, b', co', pa', li', ov', un', mi', cx', cy', cf', ct', con', a1, a2, a3, a4, a5, lu', ll', gu', gl', lb1, lb2, gb1, gb2, il', ld', cs', up', dn', wo', ti', sm', nw', bU', bD', rfl, p2, rfl, q2⟩
end AGR6

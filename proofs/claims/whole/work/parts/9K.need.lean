/-! needed is answered alike -/
def fracs (Q : (Nat → Int) → Prop) (num den : Nat → Int) (U B V C : Int) : Prop := (B = 0 ∧ C = 0 ∧ noBest Q den) ∨ (isBest Q num den 0 U B ∧ isBest Q num den 1 V C)
def eqFr (U B U' B' : Int) : Prop := (B = 0 ↔ B' = 0) ∧ (B ≠ 0 → U * B' = U' * B)
def sameB (num den : Nat → Int) (Q Q' : (Nat → Int) → Prop) : Prop := ∀ U B V C U' B' V' C', fracs Q num den U B V C → fracs Q' num den U' B' V' C' → eqFr U B U' B' ∧ eqFr V C V' C'
theorem ratio3 {U B U' B' U1 B1 U2 B2 : Int} (hB : B ≠ 0) (hB' : B' ≠ 0) (h : U * B' = U' * B) (h1 : U1 * B = U * B1) (h2 : U2 * B' = U' * B2) : U1 * B2 = U2 * B1 := by
  have e : (B * B') * (U1 * B2) = (B * B') * (U2 * B1) := by
    have a1 : (B * B') * (U1 * B2) = (U1 * B) * (B' * B2) := by grind
    have a2 : (B * B') * (U2 * B1) = (U2 * B') * (B * B1) := by grind
    rw [a1, a2, h1, h2]
    have a3 : U * B1 * (B' * B2) = (U * B') * (B1 * B2) := by grind
    rw [a3, h]; grind
  exact Int.eq_of_mul_eq_mul_left (Int.mul_ne_zero hB hB') e
theorem sameB_iff {num den : Nat → Int} {Q Q' : (Nat → Int) → Prop} {U B V C U' B' V' C' : Int} (h : fracs Q num den U B V C) (h' : fracs Q' num den U' B' V' C') : sameB num den Q Q' ↔ eqFr U B U' B' ∧ eqFr V C V' C' := by
  constructor
  · intro g; exact g _ _ _ _ _ _ _ _ h h'
  · intro g U1 B1 V1 C1 U2 B2 V2 C2 k k'
    have nob : ∀ {Q : (Nat → Int) → Prop} {U B : Int} {w : Int32}, noBest Q den → isBest Q num den w U B → False := fun n b => by obtain ⟨x, hx, hd, -⟩ := b.2.1; exact n x hx hd
    rcases h with ⟨e1, e2, n1⟩ | ⟨b1, b2⟩ <;> rcases h' with ⟨e1', e2', n1'⟩ | ⟨b1', b2'⟩
    · rcases k with ⟨f1, f2, _⟩ | ⟨c1, _⟩
      · rcases k' with ⟨f1', f2', _⟩ | ⟨c1', _⟩
        · exact ⟨⟨⟨fun _ => f1', fun _ => f1⟩, fun g => absurd f1 g⟩, ⟨⟨fun _ => f2', fun _ => f2⟩, fun g => absurd f2 g⟩⟩
        · exact absurd (nob n1' c1') id
      · exact absurd (nob n1 c1) id
    · have := g.1.1.mp e1; have := b1'.1; omega
    · have := g.1.1.mpr e1'; have := b1.1; omega
    · rcases k with ⟨_, _, m1⟩ | ⟨c1, c2⟩
      · exact absurd (nob m1 b1) id
      · rcases k' with ⟨_, _, m1'⟩ | ⟨c1', c2'⟩
        · exact absurd (nob m1' b1') id
        · have z := b1.1
          have z' := b1'.1
          have y := b2.1
          have y' := b2'.1
          have w1 := c1.1
          have w1' := c1'.1
          have w2 := c2.1
          have w2' := c2'.1
          refine ⟨⟨⟨fun e => by omega, fun e => by omega⟩, fun _ => ?_⟩, ⟨⟨fun e => by omega, fun e => by omega⟩, fun _ => ?_⟩⟩
          · exact ratio3 (by omega) (by omega) (g.1.2 (by omega)) (best_same c1 b1) (best_same c1' b1')
          · exact ratio3 (by omega) (by omega) (g.2.2 (by omega)) (best_same c2 b2) (best_same c2' b2')
theorem share_hz {s9 : Nat → Int32} {wd wi set : Int32} {n : Nat} {x1 x2 : Int32} : ∀ x, inS s9 wd wi n set x → 0 ≤ ev (ind x2) x ∧ (ev (ind x2) x = 0 → ev (ind (x1 &&& x2)) x = 0) := fun x hx => by
  have a := wt_le (t := x1 &&& x2) hx.1
  have d := wt_le (t := x2) hx.1
  rw [wt_ind] at a d
  refine ⟨d.1, fun e => ?_⟩
  have h9 : ev (ind (x1 &&& x2)) x ≤ ev (ind x2) x := by
    have q : 0 ≤ ev (fun w => ind x2 w - ind (x1 &&& x2) w) x := sg_nonneg fun w hw' => by
      have := hx.1 w hw'
      dsimp only [ind]
      rw [hb_and]
      cases hb x1 w <;> cases hb x2 w <;> simp <;> omega
    rw [ev_diff] at q; omega
  omega
theorem fracs_of {Q : (Nat → Int) → Prop} {num den : Nat → Int} {U B V C : Int} (h0 : (B = 0 ∧ noBest Q den) ∨ isBest Q num den 0 U B) (h1 : (C = 0 ∧ noBest Q den) ∨ isBest Q num den 1 V C) : fracs Q num den U B V C := by
  rcases h0 with ⟨e, n⟩ | b <;> rcases h1 with ⟨e', n'⟩ | b'
  · exact Or.inl ⟨e, e', n⟩
  · obtain ⟨x, hx, hd, -⟩ := b'.2.1; exact absurd hd (n x hx)
  · obtain ⟨x, hx, hd, -⟩ := b.2.1; exact absurd hd (n' x hx)
  · exact Or.inr ⟨b, b'⟩
def smF (U B : Int64) : Prop := wthn 2000000000 U.toInt ∧ 0 ≤ B.toInt ∧ wthn 2000000000 B.toInt
theorem c_fr {s9 : Nat → Int32} {set : Int32} {n t m K : Nat} {P : Nat → Int64} {x1 x2 : Int32} (hK : 1000 ≤ K) (h : okL t m P) (hc : cmpl (inS s9 0 0 n set) m (ent P)) :
    ∃ U B V C : Int64, f_X0_findShare K (8 * roomOf t) (nI m) P x1 x2 0 = some (U, B) ∧ f_X0_findShare K (8 * roomOf t) (nI m) P x1 x2 1 = some (V, C) ∧ smF U B ∧ smF V C ∧ fracs (inS s9 0 0 n set) (ind (x1 &&& x2)) (ind x2) U.toInt B.toInt V.toInt C.toInt := by
  obtain ⟨U, B, p1, p2, p3⟩ := f_findShare (K := K) (thing := x1) (cond := x2) (which := 0) hK h
  obtain ⟨V, C, q1, q2, q3⟩ := f_findShare (K := K) (thing := x1) (cond := x2) (which := 1) hK h
  have bnd : ∀ e, e < m → wthn 2000000000 (ev (ind (x1 &&& x2)) (ent P e)) ∧ wthn 2000000000 (ev (ind x2) (ent P e)) := fun e he => by
    have a1 := wt_le (t := x1 &&& x2) (h.2 e he).1
    have a2 := wt_le (t := x2) (h.2 e he).1
    have a3 := (h.2 e he).2
    rw [wt_ind] at a1 a2
    unfold wthn; omega
  obtain ⟨s1, s2, s3⟩ := fb_bound p2 p3 bnd
  obtain ⟨t1, t2, t3⟩ := fb_bound q2 q3 bnd
  exact ⟨U, B, V, C, p1, q1, ⟨s2, s1, s3⟩, ⟨t2, t1, t3⟩, fracs_of (best_of_list hc share_hz p2) (best_of_list hc share_hz q2)⟩
theorem r_fr {s9 : Nat → Int32} {set : Int32} {n c K : Nat} {up dn : Nat → Int64} {x1 x2 : Int32} {U0 : Int64} (hK : 10000 ≤ K) (h : okR c up dn) (hc : cmpl (inS s9 0 0 n set) c (ent up)) :
    ∃ (s s' : Int32) (U B V C : Int64), f_X9_bounds K 38400 4800 (nI c) U0 up dn x1 x2 0 0 = some (s, U, B) ∧ f_X9_bounds K 38400 4800 (nI c) U up dn x1 x2 1 0 = some (s', V, C) ∧ fracs (inS s9 0 0 n set) (ind (x1 &&& x2)) (ind x2) U.toInt B.toInt V.toInt C.toInt ∧ ((s = 1 ∧ 0 < B.toInt) ∨ (s = 0 ∧ B.toInt = 0)) ∧ (B.toInt ≠ 0 → smF U B ∧ smF V C) := by
  obtain ⟨s, U, B, p1, p2, p3, p4⟩ := f_bounds (K := K) (thing := x1) (other := x2) (which := 0) (isD := 0) (U0 := U0) hK h (by decide)
  obtain ⟨s', V, C, q1, q2, q3, q4⟩ := f_bounds (K := K) (thing := x1) (other := x2) (which := 1) (isD := 0) (U0 := U) hK h (by decide)
  have fr := fracs_of (best_of_list (num := ind (x1 &&& x2)) (den := ind x2) hc share_hz p2) (best_of_list (num := ind (x1 &&& x2)) (den := ind x2) hc share_hz q2)
  have bd : ∀ e, e < c → wthn 2000000000 (ev (bDen x2 0) (ent up e)) := fun e he => by
    have a2 := wt_le (t := x2) (h.2 e he).1
    have a3 := h.2 e he
    rw [wt_ind] at a2
    have : ev (bDen x2 0) (ent up e) = ev (ind x2) (ent up e) := rfl
    rw [this]
    unfold wthn; omega
  have sm : ∀ (w : Int32) (U B : Int64), fbest c (fun e => ev (bNum x1 x2 0) (ent up e)) (fun e => ev (bDen x2 0) (ent up e)) w U.toInt B.toInt → (B.toInt = 0 ∨ wthn 2000000000 U.toInt) → B.toInt ≠ 0 → smF U B := fun w U B g1 g2 g3 => by
    refine ⟨g2.resolve_left g3, ?_⟩
    rcases g1 with ⟨e, _⟩ | ⟨e, ⟨e0, he, _, _, e3⟩, _⟩
    · exact absurd e g3
    · exact ⟨by omega, by rw [e3]; exact bd e0 he⟩
  refine ⟨s, s', U, B, V, C, p1, q1, fr, p4, fun hB => ⟨sm 0 U B p2 p3 hB, sm 1 V C q2 q3 ?_⟩⟩
  rcases fr with ⟨e, _⟩ | ⟨_, b⟩
  · exact absurd e hB
  · have := b.1; omega
theorem f_sameAs {U B U' B' : Int64} (h : smF U B) (h' : smF U' B') : (f_X1_isSameAs U B U' B' = some 1 ∧ eqFr U.toInt B.toInt U'.toInt B'.toInt) ∨ (f_X1_isSameAs U B U' B' = some 0 ∧ ¬ eqFr U.toInt B.toInt U'.toInt B'.toInt) := by
  have zB : (lg_cmp B (0 : Int64) = (0 : Int32)) ↔ B.toInt = 0 := by rw [lg_cmp_eq, i64_ne0]
  have zB' : (lg_cmp B' (0 : Int64) = (0 : Int32)) ↔ B'.toInt = 0 := by rw [lg_cmp_eq, i64_ne0]
  have zz : (lg_cmp B B' = (0 : Int32)) ↔ B.toInt = B'.toInt := by rw [lg_cmp_eq, ← Int64.toInt_inj]
  have m1 := wthn_mul h.1 h'.2.2
  have m2 := wthn_mul h'.1 h.2.2
  have e1 : (U * B').toInt = U.toInt * B'.toInt := q64_mul (wthn_mono m1 (by decide))
  have e2 : (U' * B).toInt = U'.toInt * B.toInt := q64_mul (wthn_mono m2 (by decide))
  have zc : (lg_cmp (U * B') (U' * B) = (0 : Int32)) ↔ U.toInt * B'.toInt = U'.toInt * B.toInt := by rw [lg_cmp_eq, ← Int64.toInt_inj, e1, e2]
  unfold f_X1_isSameAs f_X1_isSameAs_J18 eqFr
  by_cases h0 : B.toInt = 0
  · rw [if_pos (zB.mpr h0)]
    by_cases h1 : B.toInt = B'.toInt
    · rw [if_pos (zz.mpr h1)]; exact Or.inl ⟨rfl, ⟨fun _ => by omega, fun _ => h0⟩, fun g => absurd h0 g⟩
    · rw [if_neg (fun g => h1 (zz.mp g))]; exact Or.inr ⟨rfl, fun g => by have := g.1.mp h0; omega⟩
  · rw [if_neg (fun g => h0 (zB.mp g))]
    by_cases h2 : B'.toInt = 0
    · rw [if_pos (zB'.mpr h2)]
      rw [if_neg (fun g => by have := zz.mp g; omega)]
      exact Or.inr ⟨rfl, fun g => h0 (g.1.mpr h2)⟩
    · rw [if_neg (fun g => h2 (zB'.mp g))]
      by_cases h3 : U.toInt * B'.toInt = U'.toInt * B.toInt
      · rw [if_pos (zc.mpr h3)]; exact Or.inl ⟨rfl, ⟨fun g => absurd g h0, fun g => absurd g h2⟩, fun _ => h3⟩
      · rw [if_neg (fun g => h3 (zc.mp g))]; exact Or.inr ⟨rfl, fun g => h3 (g.2 h0)⟩
theorem pop_proper : ∀ o, o < 16 → ∀ q, q < 16 → (nI q &&& (nI o ^^^ (-1 : Int32))) = 0 → q < o → ct_cd (hb (nI q)) 8 < ct_cd (hb (nI o)) 8 := by decide +kernel
section AGR5
variable {K b n : Nat} {np nl no nu nm : Nat → Nat} {fb tb ro co cx cy cf ct con : Nat → Int32} {pa ov un mi : Nat → Nat → Int64} {li : Nat → Nat → Int32} {sx sy sf st so s9 : Nat → Int32} {ax ay af at' ao : Int32} {cs il ld wi : Int32} {up dn sm nw : Nat → Int64} {wo ti : Nat → Int32}
theorem c_needed {x1 x2 : Int32} {lu ll gu gl : Int64} {o : Nat} (hK : 10000 ≤ K) (hC : laC np nl no nu nm fb tb ro) (hL : LI b co pa li cx cy cf ct) (hS : SR n sx sy sf st so s9) (ho : o < 16) (o1 : f_X8_onSet K (nI n) so = some (nI o)) (o3 : setIn (nI o) n) :
    ∃ (ans : Int32) (b' : Nat) (co' : Nat → Int32) (pa' : Nat → Nat → Int64) (li' : Nat → Nat → Int32) (ov' un' mi' : Nat → Nat → Int64) (cx' cy' cf' ct' con' : Nat → Int32) (a1 a2 a3 a4 a5 : Int32) (lu' ll' gu' gl' lb1 lb2 gb1 gb2 : Int64), f_X8_fewestThatTellAsMuch K np nl no nu nm (nI n) sx sy sf st so (nI b) fb tb ro co pa li ov un mi cx cy cf ct con ax ay af at' ao lu ll gu gl x1 x2 = some (ans, nI b', co', pa', li', ov', un', mi', cx', cy', cf', ct', con', a1, a2, a3, a4, a5, lu', ll', gu', gl', lb1, lb2, gb1, gb2) ∧ LI b' co' pa' li' cx' cy' cf' ct' ∧ ans = enc (nI o) (bst (subS (nI o)) (fun q => sameB (ind (x1 &&& x2)) (ind x2) (inS s9 0 0 n (nI q)) (inS s9 0 0 n (nI o))) o) := by
  have sIn : ∀ q, q < 16 → subS (nI o) q → setIn (nI q) n := fun q hq hs k hk g => o3 k hk (sub_bits o ho q hq hs k hk g)
  obtain ⟨k, b1, co1, pa1, li1, ov1, un1, mi1, cx1, cy1, cf1, ct1, con1, z1, z2, z3, z4, z5, h1, h2, h3, m, m1, m2, m3, m4⟩ := c_rows (K := K) (ov := ov) (un := un) (mi := mi) (con := con) (ax := ax) (ay := ay) (af := af) (at' := at') (ao := ao) (set := nI o) (giving := 0) (by' := 0) (wd := 0) (wi := 0) (by omega) hC hL hS o3 (fun _ _ _ => rfl) rfl ⟨by decide, by decide⟩
  have hkp := hC.1 k (by omega)
  obtain ⟨UA, BA, VA, CA, s1, s2, s3, s4, s5⟩ := c_fr (K := K) (x1 := x1) (x2 := x2) (by omega) m3 m4
  obtain ⟨r, l1, b', co', pa', li', ov', un', mi', cx', cy', cf', ct', con', a1, a2, a3, a4, a5, lu', ll', gu', gl', rfl, l2⟩ := lp_loop (f := f_X8_fewestThatTellAsMuch_L51 K np nl no nu nm sx sy sf st so fb tb ro UA BA VA CA x1 x2 (nI o))
    (fun q w => q ≤ o ∧ ∃ (b : Nat) (co : Nat → Int32) (pa : Nat → Nat → Int64) (li : Nat → Nat → Int32) (ov un mi : Nat → Nat → Int64) (cx cy cf ct con : Nat → Int32) (ax ay af at' ao : Int32) (lu ll gu gl : Int64), w = (enc (-1) (bst (subS (nI o)) (fun q => sameB (ind (x1 &&& x2)) (ind x2) (inS s9 0 0 n (nI q)) (inS s9 0 0 n (nI o))) q), nI q, nI b, co, pa, li, ov, un, mi, cx, cy, cf, ct, con, ax, ay, af, at', ao, lu, ll, gu, gl) ∧ LI b co pa li cx cy cf ct) o
    (fun r => ∃ (b : Nat) (co : Nat → Int32) (pa : Nat → Nat → Int64) (li : Nat → Nat → Int32) (ov un mi : Nat → Nat → Int64) (cx cy cf ct con : Nat → Int32) (ax ay af at' ao : Int32) (lu ll gu gl : Int64), r = (enc (-1) (bst (subS (nI o)) (fun q => sameB (ind (x1 &&& x2)) (ind x2) (inS s9 0 0 n (nI q)) (inS s9 0 0 n (nI o))) o), nI b, co, pa, li, ov, un, mi, cx, cy, cf, ct, con, ax, ay, af, at', ao, lu, ll, gu, gl) ∧ LI b co pa li cx cy cf ct) (fun q w hI => by
    obtain ⟨hq, b, co, pa, li, ov, un, mi, cx, cy, cf, ct, con, ax, ay, af, at', ao, lu, ll, gu, gl, rfl, hL⟩ := hI
    unfold f_X8_fewestThatTellAsMuch_L51
    simp only
    by_cases e : q = o
    · subst e
      rw [if_pos (nI_le (Nat.le_refl q) (by omega))]
      exact Or.inl ⟨_, rfl, b, co, pa, li, ov, un, mi, cx, cy, cf, ct, con, ax, ay, af, at', ao, lu, ll, gu, gl, rfl, hL⟩
    · have hqo : q < o := by omega
      rw [if_neg (nI_ge hqo (by omega))]
      rcases f_fewer (set := nI o) (q := q) (o := bst (subS (nI o)) (fun q => sameB (ind (x1 &&& x2)) (ind x2) (inS s9 0 0 n (nI q)) (inS s9 0 0 n (nI o))) q) (by omega) (fun m hm => by have := bst_lt q m hm; omega) with ⟨f1, f2, f3⟩ | ⟨f1, f2⟩
      · obtain ⟨k, b', co', pa', li', ov', un', mi', cx', cy', cf', ct', con', a1, a2, a3, a4, a5, h1, h2, h3, m, m1, m2, m3, m4⟩ := c_rows (K := K) (ov := ov) (un := un) (mi := mi) (con := con) (ax := ax) (ay := ay) (af := af) (at' := at') (ao := ao) (set := nI q) (giving := 0) (by' := 0) (wd := 0) (wi := 0) (by omega) hC hL hS (sIn q (by omega) f2) (fun _ _ _ => rfl) rfl ⟨by decide, by decide⟩
        have hkp := hC.1 k (by omega)
        obtain ⟨U, B, V, C, t1, t2, t3, t4, t5⟩ := c_fr (K := K) (x1 := x1) (x2 := x2) (by omega) m3 m4
        have iff := sameB_iff t5 s5
        rw [f1, Option.bind_some, if_neg (by decide), h1, Option.bind_some]
        simp only
        rw [if_neg (show ¬ 5 ≤ k by omega), hkp.1, m1, t1, Option.bind_some]
        simp only
        rw [t2, Option.bind_some]
        simp only
        have no : ¬ sameB (ind (x1 &&& x2)) (ind x2) (inS s9 0 0 n (nI q)) (inS s9 0 0 n (nI o)) → bst (subS (nI o)) (fun q => sameB (ind (x1 &&& x2)) (ind x2) (inS s9 0 0 n (nI q)) (inS s9 0 0 n (nI o))) (q + 1) = bst (subS (nI o)) (fun q => sameB (ind (x1 &&& x2)) (ind x2) (inS s9 0 0 n (nI q)) (inS s9 0 0 n (nI o))) q := fun g => by rw [bst]; exact if_neg (fun g2 => g g2.2.2)
        rcases f_sameAs t3 s3 with ⟨y1, y2⟩ | ⟨y1, y2⟩
        · rw [y1, Option.bind_some, if_neg (by decide)]
          rcases f_sameAs t4 s4 with ⟨y3, y4⟩ | ⟨y3, y4⟩
          · rw [y3, Option.bind_some, if_neg (by decide), nI_1]
            have eb : bst (subS (nI o)) (fun q => sameB (ind (x1 &&& x2)) (ind x2) (inS s9 0 0 n (nI q)) (inS s9 0 0 n (nI o))) (q + 1) = some q := by rw [bst]; exact if_pos ⟨f2, f3, iff.mpr ⟨y2, y4⟩⟩
            exact Or.inr ⟨hqo, _, rfl, by omega, b', co', pa', li', ov', un', mi', cx', cy', cf', ct', con', a1, a2, a3, a4, a5, U, B, V, C, by rw [eb]; rfl, h2⟩
          · rw [y3, Option.bind_some, if_pos rfl, nI_1]
            exact Or.inr ⟨hqo, _, rfl, by omega, b', co', pa', li', ov', un', mi', cx', cy', cf', ct', con', a1, a2, a3, a4, a5, U, B, V, C, by rw [no (fun g => y4 (iff.mp g).2)], h2⟩
        · rw [y1, Option.bind_some, if_pos rfl, nI_1]
          exact Or.inr ⟨hqo, _, rfl, by omega, b', co', pa', li', ov', un', mi', cx', cy', cf', ct', con', a1, a2, a3, a4, a5, U, B, V, C, by rw [no (fun g => y2 (iff.mp g).1)], h2⟩
      · rw [f1, Option.bind_some, if_pos rfl, nI_1]
        have eb : bst (subS (nI o)) (fun q => sameB (ind (x1 &&& x2)) (ind x2) (inS s9 0 0 n (nI q)) (inS s9 0 0 n (nI o))) (q + 1) = bst (subS (nI o)) (fun q => sameB (ind (x1 &&& x2)) (ind x2) (inS s9 0 0 n (nI q)) (inS s9 0 0 n (nI o))) q := by rw [bst]; exact if_neg (fun g => f2 ⟨g.1, g.2.1⟩)
        exact Or.inr ⟨hqo, _, rfl, by omega, b, co, pa, li, ov, un, mi, cx, cy, cf, ct, con, ax, ay, af, at', ao, lu, ll, gu, gl, by rw [eb], hL⟩) K 0 ((-1 : Int32), (0 : Int32), nI b1, co1, pa1, li1, ov1, un1, mi1, cx1, cy1, cf1, ct1, con1, z1, z2, z3, z4, z5, lu, ll, gu, gl) ⟨Nat.zero_le _, b1, co1, pa1, li1, ov1, un1, mi1, cx1, cy1, cf1, ct1, con1, z1, z2, z3, z4, z5, lu, ll, gu, gl, rfl, h2⟩ (by omega)
  unfold f_X8_fewestThatTellAsMuch
  rw [o1, Option.bind_some, h1, Option.bind_some]
  simp only
  rw [if_neg (show ¬ 5 ≤ k by omega), hkp.1, m1, s1, Option.bind_some]
  simp only
  rw [s2, Option.bind_some]
  simp only
  rw [l1, Option.bind_some]
  simp only
  cases hb0 : bst (subS (nI o)) (fun q => sameB (ind (x1 &&& x2)) (ind x2) (inS s9 0 0 n (nI q)) (inS s9 0 0 n (nI o))) o with
  | none =>
    rw [if_neg (show ¬ (0 : Int32) ≤ enc (-1) none by decide)]
    exact ⟨_, b', co', pa', li', ov', un', mi', cx', cy', cf', ct', con', a1, a2, a3, a4, a5, lu', ll', gu', gl', UA, BA, VA, CA, rfl, l2, rfl⟩
  | some m =>
    have hm := bst_lt _ m hb0
    rw [if_pos (show (0 : Int32) ≤ enc (-1) (some m) from nI_pos' (show m < 2 ^ 31 by omega))]
    exact ⟨_, b', co', pa', li', ov', un', mi', cx', cy', cf', ct', con', a1, a2, a3, a4, a5, lu', ll', gu', gl', UA, BA, VA, CA, rfl, l2, rfl⟩
end AGR5

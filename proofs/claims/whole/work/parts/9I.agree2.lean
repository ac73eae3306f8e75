/-! follows and quarrel are answered alike -/
theorem row_plain {n i : Nat} {sx sy sf st so s9 : Nat → Int32} {wi : Int32} (h : SR n sx sy sf st so s9) (hi : i < n) : rowOf s9 0 wi i 0 = av (sx i) (sy i) (sf i).toInt ∧ rowOf s9 0 wi i 1 = av (sx i) (sy i) (st i).toInt := by
  obtain ⟨h1, h2, h3, h4, -, h6, -⟩ := h.2 i hi
  unfold okFT at h6
  have e0 : en s9 0 wi i 0 = (sf i).toInt := by
    unfold en clamp
    rw [Nat.add_zero, ← h3, hb_zero, if_neg (show ¬ (false = true) by decide), Int.mul_zero, Int.add_zero, if_neg (by omega), if_neg (by omega)]
  have e1 : en s9 0 wi i 1 = (st i).toInt := by
    unfold en clamp
    rw [show 5 * i + 2 + 1 = 5 * i + 3 by omega, ← h4, hb_zero, if_neg (show ¬ (false = true) by decide), Int.mul_zero, Int.add_zero, if_neg (by omega), if_neg (by omega)]
  unfold rowOf
  rw [e0, e1, h1, h2]
  exact ⟨rfl, rfl⟩
section AGR2
variable {K b n : Nat} {np nl no nu nm : Nat → Nat} {fb tb ro co cx cy cf ct con : Nat → Int32} {pa ov un mi : Nat → Nat → Int64} {li : Nat → Nat → Int32} {sx sy sf st so s9 : Nat → Int32} {ax ay af at' ao : Int32} {cs il ld wi : Int32} {up dn sm nw : Nat → Int64} {wo ti : Nat → Int32}
theorem ag_follows {x1 : Int32} (hK : 10000 ≤ K) (hC : laC np nl no nu nm fb tb ro) (hL : LI b co pa li cx cy cf ct) (hS : SR n sx sy sf st so s9) (hw : wiOK wi) (hR : RI n s9 cs il ld up dn) :
    ∃ (ans : Int32) (b' : Nat) (co' : Nat → Int32) (pa' : Nat → Nat → Int64) (li' : Nat → Nat → Int32) (ov' un' mi' : Nat → Nat → Int64) (cx' cy' cf' ct' con' : Nat → Int32) (a1 a2 a3 a4 a5 : Int32) (il' ld' cs' : Int32) (up' dn' : Nat → Int64) (wo' ti' : Nat → Int32) (sm' nw' : Nat → Int64), f_X8_follows K np nl no nu nm (nI n) sx sy sf st so (nI b) fb tb ro co pa li ov un mi cx cy cf ct con ax ay af at' ao x1 = some (ans, nI b', co', pa', li', ov', un', mi', cx', cy', cf', ct', con', a1, a2, a3, a4, a5) ∧ LI b' co' pa' li' cx' cy' cf' ct' ∧ f_X9_follows K 40 38400 4800 5 4 30 8 (nI n) cs il ld 0 wi s9 up dn wo ti sm nw x1 = some (ans, 0, cs', il', ld', 0, up', dn', wo', ti', sm', nw') ∧ RI n s9 cs' il' ld' up' dn' := by
  have hn := hS.1
  unfold f_X8_follows f_X9_follows
  rcases g_saying x1 hn with ⟨t1, t2, -⟩ | ⟨t1, t2, i, hi, rfl⟩
  · rw [t1, t2]
    exact ⟨_, b, co, pa, li, ov, un, mi, cx, cy, cf, ct, con, ax, ay, af, at', ao, il, ld, cs, up, dn, wo, ti, sm, nw, rfl, hL, rfl, hR⟩
  obtain ⟨set, o1, o2, o3, o4⟩ := f_onSets (K := K) (by omega) hS
  have o5 : setIn (set &&& (((1 : Int32) <<< (nI i &&& 31)) ^^^ (-1 : Int32))) n := fun k hk g => by
    rw [hb_and, Bool.and_eq_true] at g
    exact o3 k hk g.1
  obtain ⟨k, b', co', pa', li', ov', un', mi', cx', cy', cf', ct', con', a1, a2, a3, a4, a5, h1, h2, h3, m, m1, m2, m3, m4⟩ := c_rows (K := K) (ov := ov) (un := un) (mi := mi) (con := con) (ax := ax) (ay := ay) (af := af) (at' := at') (ao := ao) (set := set &&& (((1 : Int32) <<< (nI i &&& 31)) ^^^ (-1 : Int32))) (giving := 0) (by' := 0) (wd := 0) (wi := 0) (by omega) hC hL hS o5 (fun _ _ _ => rfl) rfl ⟨by decide, by decide⟩
  obtain ⟨s, il', c, up', dn', wo', ti', sm', nw', g1, g2, g3', g4, g5, g6⟩ := f_loads (K := K) (wd := 0) (set := set &&& (((1 : Int32) <<< (nI i &&& 31)) ^^^ (-1 : Int32))) (wo := wo) (ti := ti) (sm := sm) (nw := nw) hK hS.ok hw hR
  have g3 := cmpl_iff (fun x => inS_wi (wi' := 0)) g3'
  have hkp := hC.1 k (by omega)
  have hc4 := g2.1
  obtain ⟨q1, q2, q3, q4, q5, q6, q7⟩ := hS.2 i hi
  have q6' := q6
  unfold okFT at q6
  obtain ⟨a, p1, p2⟩ := f_allKeep (K := K) (X := sx i) (Y := sy i) (F := sf i) (T := st i) (by omega) m3 m4 ⟨by omega, by omega⟩ ⟨by omega, by omega⟩
  obtain ⟨r1, r2⟩ := row_plain (wi := wi) hS hi
  have loop := lp_loop (f := f_X9_follows_L37 K 40 38400 (0 : Int32) (nI c) il' (set &&& (((1 : Int32) <<< (nI i &&& 31)) ^^^ (-1 : Int32))) (0 : Int32) wi s9 up' dn' wo' ti' sm' nw' (nI i)) (fun k st' => k ≤ c ∧ st' = nI k ∧ ∀ e, e < k → 0 ≤ ev (av (sx i) (sy i) (sf i).toInt) (ent up' e) ∧ ev (av (sx i) (sy i) (st i).toInt) (ent up' e) ≤ 0) c
    (fun r => (r = .inr () ∧ ∀ e, e < c → 0 ≤ ev (av (sx i) (sy i) (sf i).toInt) (ent up' e) ∧ ev (av (sx i) (sy i) (st i).toInt) (ent up' e) ≤ 0) ∨ (r = .inl ((0 : Int32), (0 : Int32), nI c, il', (set &&& (((1 : Int32) <<< (nI i &&& 31)) ^^^ (-1 : Int32))), (0 : Int32), up', dn', wo', ti', sm', nw') ∧ ¬ ∀ e, e < c → 0 ≤ ev (av (sx i) (sy i) (sf i).toInt) (ent up' e) ∧ ev (av (sx i) (sy i) (st i).toInt) (ent up' e) ≤ 0)) (fun k st' hI => by
    obtain ⟨hk, rfl, hh⟩ := hI
    unfold f_X9_follows_L37
    simp only
    by_cases e : k = c
    · subst e
      rw [if_pos (nI_le (Nat.le_refl k) (by omega))]
      exact Or.inl ⟨_, rfl, Or.inl ⟨rfl, hh⟩⟩
    · have hkc : k < c := by omega
      have hh8 := f_isHeld (sy := s9) (wd := 0) (wi := wi) (i := i) (fr := 8 * k) (na := 38400) (of := up') (K := K) (by omega) hS.ok hw hi (by omega) (by decide) (fun w hw' => by have := okR_ent g2 hkc w hw'; unfold ent at this; unfold wthn; omega)
      rw [r1, r2] at hh8
      have hh9 : f_X9_isHeld K 40 38400 0 wi s9 up' (nI i) (nI (8 * k)) = some (if 0 ≤ ev (av (sx i) (sy i) (sf i).toInt) (ent up' k) ∧ ev (av (sx i) (sy i) (st i).toInt) (ent up' k) ≤ 0 then 1 else 0) := hh8
      rw [if_neg (nI_ge hkc (by omega)), show (8 : Int32) * nI k = nI (8 * k) by rw [show (8 : Int32) = nI 8 from rfl, nI_mul], hh9, Option.bind_some]
      by_cases hg : 0 ≤ ev (av (sx i) (sy i) (sf i).toInt) (ent up' k) ∧ ev (av (sx i) (sy i) (st i).toInt) (ent up' k) ≤ 0
      · rw [if_pos hg, if_neg (by decide), nI_1]
        refine Or.inr ⟨hkc, _, rfl, by omega, rfl, fun e he => ?_⟩
        by_cases ek : e = k
        · rw [ek]; exact hg
        · exact hh e (by omega)
      · rw [if_neg hg, if_pos rfl]
        exact Or.inl ⟨_, rfl, Or.inr ⟨rfl, fun g => hg (g k hkc)⟩⟩) K 0 (0 : Int32) ⟨Nat.zero_le _, rfl, fun e he => absurd he (Nat.not_lt_zero e)⟩ (by omega)
  obtain ⟨r, l1, l2⟩ := loop
  rw [t1, t2]
  simp only [Option.bind_some]
  rw [if_neg (by decide), if_neg (by decide), o1, o2]
  simp only [Option.bind_some]
  rw [h1, g1]
  simp only [Option.bind_some]
  rw [if_neg (show ¬ 5 ≤ k by omega), if_neg (nI_in (show i < 4 by omega) (by decide)), nI_clamp (by omega), hkp.1, m1, p1, l1]
  simp only [Option.bind_some]
  rcases l2 with ⟨rfl, l3⟩ | ⟨rfl, l3⟩
  · have A2 : keepAns (inS s9 0 0 n (set &&& (((1 : Int32) <<< (nI i &&& 31)) ^^^ (-1 : Int32)))) (sx i) (sy i) (sf i).toInt (st i).toInt 1 := Or.inl ⟨rfl, (keep_list g3 _ _).mp l3⟩
    rw [keepAns_unique p2 A2, if_neg (by decide)]
    exact ⟨1, b', co', pa', li', ov', un', mi', cx', cy', cf', ct', con', a1, a2, a3, a4, a5, il', _, nI c, up', dn', wo', ti', sm', nw', rfl, h2, rfl, g5 rfl⟩
  · have A2 : keepAns (inS s9 0 0 n (set &&& (((1 : Int32) <<< (nI i &&& 31)) ^^^ (-1 : Int32)))) (sx i) (sy i) (sf i).toInt (st i).toInt 0 := Or.inr ⟨rfl, fun g => l3 ((keep_list g3 _ _).mpr g)⟩
    rw [keepAns_unique p2 A2, if_pos rfl]
    exact ⟨0, b', co', pa', li', ov', un', mi', cx', cy', cf', ct', con', a1, a2, a3, a4, a5, il', _, nI c, up', dn', wo', ti', sm', nw', rfl, h2, rfl, g5 rfl⟩
end AGR2
/-! sets in rising order: the fewest -/
def enc (d : Int32) (o : Option Nat) : Int32 := match o with
  | none => d
  | some m => nI m
def few (o : Option Nat) (q : Nat) : Prop := match o with
  | none => True
  | some m => ct_cd (hb (nI q)) 8 < ct_cd (hb (nI m)) 8
noncomputable def bst (S N : Nat → Prop) : Nat → Option Nat
  | 0 => none
  | q + 1 => @ite (Option Nat) (S q ∧ few (bst S N q) q ∧ N q) (Classical.propDecidable _) (some q) (bst S N q)
theorem bst_lt {S N : Nat → Prop} : ∀ q m, bst S N q = some m → m < q
  | 0, m, h => by cases h
  | q + 1, m, h => by
    rw [bst] at h
    by_cases hc : S q ∧ few (bst S N q) q ∧ N q
    · rw [if_pos hc] at h; cases h; omega
    · rw [if_neg hc] at h; have := bst_lt q m h; omega
def subS (set : Int32) (q : Nat) : Prop := (nI q &&& (set ^^^ (-1 : Int32))) = 0
theorem gbc_small : ∀ q, q < 256 → gbc q = ct_cd (hb (nI q)) 8 := by decide +kernel
theorem sub_le : ∀ o, o < 16 → ∀ q, q < 16 → (nI q &&& (nI o ^^^ (-1 : Int32))) = 0 → q ≤ o := by decide +kernel
theorem sub_bits : ∀ o, o < 16 → ∀ q, q < 16 → (nI q &&& (nI o ^^^ (-1 : Int32))) = 0 → ∀ k, k < 32 → hb (nI q) k = true → hb (nI o) k = true := by decide +kernel
theorem set_small {set : Int32} {n : Nat} (hn : n ≤ 4) (h : setIn set n) : ∃ o, o < 16 ∧ set = nI o := by
  obtain ⟨W, hW, hWb⟩ := mask8 (fun k => hb set k)
  have hW16 : W < 2 ^ n := mask_lt n (by omega) W hW (fun i hi hin => by
    rw [hWb i hi]
    exact Bool.eq_false_iff.mpr fun g => by have := h i (by omega) g; omega)
  have h16 : 2 ^ n ≤ 16 := by
    rcases (show n = 0 ∨ n = 1 ∨ n = 2 ∨ n = 3 ∨ n = 4 by omega) with rfl | rfl | rfl | rfl | rfl <;> decide
  refine ⟨W, by omega, hb_ext fun k hk => ?_⟩
  by_cases h8 : k < 8
  · rw [hWb k h8]
  · rw [mask_hi W hW k hk (by omega)]
    exact Bool.eq_false_iff.mpr fun g => by have := h k hk g; omega
theorem f_fewer {set : Int32} {q : Nat} {o : Option Nat} (hq : q < 16) (ho : ∀ m, o = some m → m < 16) : (f_X8_isFewerOf set (nI q) (enc (-1) o) = some 1 ∧ subS set q ∧ few o q) ∨ (f_X8_isFewerOf set (nI q) (enc (-1) o) = some 0 ∧ ¬ (subS set q ∧ few o q)) := by
  unfold f_X8_isFewerOf
  by_cases hs : subS set q
  · have hs' := hs
    unfold subS at hs'
    rw [if_pos hs']
    cases o with
    | none => exact Or.inl ⟨if_pos (by decide), hs, trivial⟩
    | some m =>
      have hm := ho m rfl
      have e1 : enc (-1) (some m) = nI m := rfl
      rw [e1, if_neg (nI_pos (by omega)), f_bc (by omega), Option.bind_some, f_bc (by omega), Option.bind_some, gbc_small q (by omega), gbc_small m (by omega)]
      have b1 := ct_cd_le (hb (nI q)) 8
      have b2 := ct_cd_le (hb (nI m)) 8
      by_cases hf : ct_cd (hb (nI q)) 8 < ct_cd (hb (nI m)) 8
      · exact Or.inl ⟨if_neg (nI_ge hf (by omega)), hs, hf⟩
      · exact Or.inr ⟨if_pos (nI_le (by omega) (by omega)), fun g => hf g.2⟩
  · exact Or.inr ⟨if_neg hs, fun g => hs g.1⟩
theorem bst_more {S N : Nat → Prop} {a : Nat} : ∀ d, (∀ q, a ≤ q → q < a + d → ¬ S q) → bst S N (a + d) = bst S N a
  | 0, _ => rfl
  | d + 1, h => by
    rw [← Nat.add_assoc, bst, if_neg (fun g => h (a + d) (by omega) (by omega) g.1)]
    exact bst_more d (fun q h1 h2 => h q h1 (by omega))
section AGR3
variable {K b n : Nat} {np nl no nu nm : Nat → Nat} {fb tb ro co cx cy cf ct con : Nat → Int32} {pa ov un mi : Nat → Nat → Int64} {li : Nat → Nat → Int32} {sx sy sf st so s9 : Nat → Int32} {ax ay af at' ao : Int32} {cs il ld wi : Int32} {up dn sm nw : Nat → Int64} {wo ti : Nat → Int32}
theorem ag_quarrel {x1 : Int32} (hK : 10000 ≤ K) (hC : laC np nl no nu nm fb tb ro) (hL : LI b co pa li cx cy cf ct) (hS : SR n sx sy sf st so s9) (hw : wiOK wi) (hR : RI n s9 cs il ld up dn) :
    ∃ (ans : Int32) (b' : Nat) (co' : Nat → Int32) (pa' : Nat → Nat → Int64) (li' : Nat → Nat → Int32) (ov' un' mi' : Nat → Nat → Int64) (cx' cy' cf' ct' con' : Nat → Int32) (a1 a2 a3 a4 a5 : Int32) (il' ld' cs' : Int32) (up' dn' : Nat → Int64) (wo' ti' : Nat → Int32) (sm' nw' : Nat → Int64), f_X8_quarrel K np nl no nu nm (nI n) sx sy sf st so (nI b) fb tb ro co pa li ov un mi cx cy cf ct con ax ay af at' ao x1 = some (ans, nI b', co', pa', li', ov', un', mi', cx', cy', cf', ct', con', a1, a2, a3, a4, a5) ∧ LI b' co' pa' li' cx' cy' cf' ct' ∧ f_X9_quarrel K 40 38400 4800 5 4 30 8 (nI n) cs il ld 0 wi s9 up dn wo ti sm nw x1 = some (ans, 0, cs', il', ld', 0, up', dn', wo', ti', sm', nw') ∧ RI n s9 cs' il' ld' up' dn' := by
  have hn := hS.1
  unfold f_X8_quarrel f_X9_quarrel
  rcases g_bit x1 with ⟨t1, t2⟩ | ⟨t1, t2, t3⟩
  · rw [t1, t2]
    exact ⟨_, b, co, pa, li, ov, un, mi, cx, cy, cf, ct, con, ax, ay, af, at', ao, il, ld, cs, up, dn, wo, ti, sm, nw, rfl, hL, rfl, hR⟩
  obtain ⟨set, o1, o2, o3, o4⟩ := f_onSets (K := K) (by omega) hS
  obtain ⟨o, ho, rfl⟩ := set_small hn o3
  have sIn : ∀ q, q < 16 → subS (nI o) q → setIn (nI q) n := fun q hq hs k hk g => o3 k hk (sub_bits o ho q hq hs k hk g)
  -- the class
  obtain ⟨r, l1, b', co', pa', li', ov', un', mi', cx', cy', cf', ct', con', a1, a2, a3, a4, a5, rfl, l2⟩ := lp_loop (f := f_X8_fewestThatCannot_L9 K np nl no nu nm sx sy sf st so fb tb ro (nI o))
    (fun q w => q ≤ o + 1 ∧ ∃ (b : Nat) (co : Nat → Int32) (pa : Nat → Nat → Int64) (li : Nat → Nat → Int32) (ov un mi : Nat → Nat → Int64) (cx cy cf ct con : Nat → Int32) (ax ay af at' ao : Int32), w = (enc (-1) (bst (subS (nI o)) (fun q => noRow (inS s9 0 0 n (nI q))) q), nI q, nI b, co, pa, li, ov, un, mi, cx, cy, cf, ct, con, ax, ay, af, at', ao) ∧ LI b co pa li cx cy cf ct) (o + 1)
    (fun r => ∃ (b : Nat) (co : Nat → Int32) (pa : Nat → Nat → Int64) (li : Nat → Nat → Int32) (ov un mi : Nat → Nat → Int64) (cx cy cf ct con : Nat → Int32) (ax ay af at' ao : Int32), r = (enc (-1) (bst (subS (nI o)) (fun q => noRow (inS s9 0 0 n (nI q))) (o + 1)), nI b, co, pa, li, ov, un, mi, cx, cy, cf, ct, con, ax, ay, af, at', ao) ∧ LI b co pa li cx cy cf ct) (fun q w hI => by
    obtain ⟨hq, b, co, pa, li, ov, un, mi, cx, cy, cf, ct, con, ax, ay, af, at', ao, rfl, hL⟩ := hI
    unfold f_X8_fewestThatCannot_L9
    simp only
    by_cases e : q = o + 1
    · subst e
      rw [if_pos (nI_lt (by omega) (by omega))]
      exact Or.inl ⟨_, rfl, b, co, pa, li, ov, un, mi, cx, cy, cf, ct, con, ax, ay, af, at', ao, rfl, hL⟩
    · rw [if_neg (nI_nlt (show q ≤ o by omega) (by omega))]
      rcases f_fewer (set := nI o) (q := q) (o := bst (subS (nI o)) (fun q => noRow (inS s9 0 0 n (nI q))) q) (by omega) (fun m hm => by have := bst_lt q m hm; omega) with ⟨f1, f2, f3⟩ | ⟨f1, f2⟩
      · obtain ⟨k, b', co', pa', li', ov', un', mi', cx', cy', cf', ct', con', a1, a2, a3, a4, a5, h1, h2, h3, m, m1, m2, m3, m4⟩ := c_rows (K := K) (ov := ov) (un := un) (mi := mi) (con := con) (ax := ax) (ay := ay) (af := af) (at' := at') (ao := ao) (set := nI q) (giving := 0) (by' := 0) (wd := 0) (wi := 0) (by omega) hC hL hS (sIn q (by omega) f2) (fun _ _ _ => rfl) rfl ⟨by decide, by decide⟩
        have hm := m3.1
        have hr := roomOf_le k
        rw [f1, Option.bind_some, if_neg (by decide), h1, Option.bind_some]
        simp only
        rw [if_neg (show ¬ 5 ≤ k by omega), m1]
        unfold f_X0_isEmpty
        by_cases h0 : m = 0
        · subst h0
          rw [if_pos (show nI 0 = (0 : Int32) from rfl), Option.bind_some, if_neg (by decide), nI_1]
          have eb : bst (subS (nI o)) (fun q => noRow (inS s9 0 0 n (nI q))) (q + 1) = some q := by rw [bst]; exact if_pos ⟨f2, f3, (noRow_list m4).mp rfl⟩
          exact Or.inr ⟨by omega, _, rfl, by omega, b', co', pa', li', ov', un', mi', cx', cy', cf', ct', con', a1, a2, a3, a4, a5, by rw [eb]; rfl, h2⟩
        · rw [if_neg (nI_ne0 (by omega) (by omega)), Option.bind_some, if_pos rfl, nI_1]
          have eb : bst (subS (nI o)) (fun q => noRow (inS s9 0 0 n (nI q))) (q + 1) = bst (subS (nI o)) (fun q => noRow (inS s9 0 0 n (nI q))) q := by rw [bst]; exact if_neg (fun g => h0 ((noRow_list m4).mpr g.2.2))
          exact Or.inr ⟨by omega, _, rfl, by omega, b', co', pa', li', ov', un', mi', cx', cy', cf', ct', con', a1, a2, a3, a4, a5, by rw [eb], h2⟩
      · rw [f1, Option.bind_some, if_pos rfl, nI_1]
        have eb : bst (subS (nI o)) (fun q => noRow (inS s9 0 0 n (nI q))) (q + 1) = bst (subS (nI o)) (fun q => noRow (inS s9 0 0 n (nI q))) q := by rw [bst]; exact if_neg (fun g => f2 ⟨g.1, g.2.1⟩)
        exact Or.inr ⟨by omega, _, rfl, by omega, b, co, pa, li, ov, un, mi, cx, cy, cf, ct, con, ax, ay, af, at', ao, by rw [eb], hL⟩) K 0 ((-1 : Int32), (0 : Int32), nI b, co, pa, li, ov, un, mi, cx, cy, cf, ct, con, ax, ay, af, at', ao) ⟨Nat.zero_le _, b, co, pa, li, ov, un, mi, cx, cy, cf, ct, con, ax, ay, af, at', ao, rfl, hL⟩ (by omega)
  -- the reference
  obtain ⟨r2, k1, cs', il', ld', up', dn', wo', ti', sm', nw', rfl, k2⟩ := lp_loop (f := f_X9_quarrel_L30 K 40 38400 4800 5 4 30 8 (nI n) (0 : Int32) wi s9 (nI o))
    (fun q w => q ≤ 16 ∧ ∃ (cs il ld : Int32) (up dn : Nat → Int64) (wo ti : Nat → Int32) (sm nw : Nat → Int64), w = (enc (-9) (bst (subS (nI o)) (fun q => noRow (inS s9 0 0 n (nI q))) q), nI q, cs, il, ld, up, dn, wo, ti, sm, nw) ∧ RI n s9 cs il ld up dn) 16
    (fun r => ∃ (cs il ld : Int32) (up dn : Nat → Int64) (wo ti : Nat → Int32) (sm nw : Nat → Int64), r = (enc (-9) (bst (subS (nI o)) (fun q => noRow (inS s9 0 0 n (nI q))) 16), cs, il, ld, up, dn, wo, ti, sm, nw) ∧ RI n s9 cs il ld up dn) (fun q w hI => by
    obtain ⟨hq, cs, il, ld, up, dn, wo, ti, sm, nw, rfl, hR⟩ := hI
    unfold f_X9_quarrel_L30
    simp only
    by_cases e : q = 16
    · subst e
      rw [if_pos (show (16 : Int32) ≤ nI 16 from nI_le (Nat.le_refl 16) (by decide))]
      exact Or.inl ⟨_, rfl, cs, il, ld, up, dn, wo, ti, sm, nw, rfl, hR⟩
    · have hq16 : q < 16 := by omega
      rw [if_neg (show ¬ (16 : Int32) ≤ nI q from nI_ge hq16 (by decide))]
      have skip : ¬ (subS (nI o) q ∧ few (bst (subS (nI o)) (fun q => noRow (inS s9 0 0 n (nI q))) q) q) → bst (subS (nI o)) (fun q => noRow (inS s9 0 0 n (nI q))) (q + 1) = bst (subS (nI o)) (fun q => noRow (inS s9 0 0 n (nI q))) q := fun g => by rw [bst]; exact if_neg (fun g2 => g ⟨g2.1, g2.2.1⟩)
      have try' : subS (nI o) q → few (bst (subS (nI o)) (fun q => noRow (inS s9 0 0 n (nI q))) q) q → ∃ w', f_X9_quarrel_J64 K 40 38400 4800 5 4 30 8 (nI n) cs il ld (0 : Int32) wi s9 up dn wo ti sm nw (enc (-9) (bst (subS (nI o)) (fun q => noRow (inS s9 0 0 n (nI q))) q)) (nI q) = some (.inr w') ∧ (q + 1 ≤ 16 ∧ ∃ (cs il ld : Int32) (up dn : Nat → Int64) (wo ti : Nat → Int32) (sm nw : Nat → Int64), w' = (enc (-9) (bst (subS (nI o)) (fun q => noRow (inS s9 0 0 n (nI q))) (q + 1)), nI (q + 1), cs, il, ld, up, dn, wo, ti, sm, nw) ∧ RI n s9 cs il ld up dn) := fun hs hf => by
        obtain ⟨s, il', c, up', dn', wo', ti', sm', nw', g1, g2, g3', g4, g5, g6⟩ := f_loads (K := K) (wd := 0) (set := nI q) (wo := wo) (ti := ti) (sm := sm) (nw := nw) hK hS.ok hw hR
        have g3 := cmpl_iff (fun x => inS_wi (wi' := 0)) g3'
        unfold f_X9_quarrel_J64
        rw [if_neg (by decide), g1, Option.bind_some]
        simp only
        rcases g4 with ⟨s1, s2⟩ | ⟨s1, s2⟩
        · have eb : bst (subS (nI o)) (fun q => noRow (inS s9 0 0 n (nI q))) (q + 1) = some q := by rw [bst]; exact if_pos ⟨hs, hf, (noRow_list g3).mp s2⟩
          rw [s1, if_pos rfl, nI_1]
          exact ⟨_, rfl, by omega, nI c, il', nI q, up', dn', wo', ti', sm', nw', by rw [eb]; rfl, g5 rfl⟩
        · have eb : bst (subS (nI o)) (fun q => noRow (inS s9 0 0 n (nI q))) (q + 1) = bst (subS (nI o)) (fun q => noRow (inS s9 0 0 n (nI q))) q := by rw [bst]; exact if_neg (fun g => by have := (noRow_list g3).mpr g.2.2; omega)
          rw [s1, if_neg (by decide), nI_1]
          exact ⟨_, rfl, by omega, nI c, il', nI q, up', dn', wo', ti', sm', nw', by rw [eb], g5 rfl⟩
      by_cases hs : subS (nI o) q
      · have hs' := hs
        unfold subS at hs'
        rw [if_pos hs']
        cases hb0 : bst (subS (nI o)) (fun q => noRow (inS s9 0 0 n (nI q))) q with
        | none =>
          rw [hb0] at try'
          obtain ⟨w', y1, y2⟩ := try' hs trivial
          rw [if_pos (show enc (-9) none = (-9 : Int32) from rfl)]
          exact Or.inr ⟨hq16, w', y1, y2⟩
        | some m =>
          have hm := bst_lt q m hb0
          rw [hb0] at try' skip
          have e1 : enc (-9) (some m) = nI m := rfl
          have ne9 : ∀ m, m < 16 → ¬ nI m = (-9 : Int32) := by decide
          rw [e1, if_neg (ne9 m (by omega)), f_ones (nI q) (K := K) (by omega), Option.bind_some, f_ones (nI m) (K := K) (by omega), Option.bind_some]
          have b1 := ct_cd_le (hb (nI q)) 8
          have b2 := ct_cd_le (hb (nI m)) 8
          by_cases hf : ct_cd (hb (nI q)) 8 < ct_cd (hb (nI m)) 8
          · rw [if_neg (nI_ge hf (by omega))]
            obtain ⟨w', y1, y2⟩ := try' hs hf
            exact Or.inr ⟨hq16, w', y1, y2⟩
          · rw [if_pos (nI_le (by omega) (by omega))]
            unfold f_X9_quarrel_J68
            rw [if_pos rfl, nI_1]
            exact Or.inr ⟨hq16, _, rfl, by omega, cs, il, ld, up, dn, wo, ti, sm, nw, by rw [skip (fun g => hf g.2)]; rfl, hR⟩
      · have hs' := hs
        unfold subS at hs'
        rw [if_neg hs']
        unfold f_X9_quarrel_J68
        rw [if_pos rfl, nI_1]
        exact Or.inr ⟨hq16, _, rfl, by omega, cs, il, ld, up, dn, wo, ti, sm, nw, by rw [skip (fun g => hs g.1)], hR⟩) K 0 ((-9 : Int32), (0 : Int32), cs, il, ld, up, dn, wo, ti, sm, nw) ⟨Nat.zero_le _, cs, il, ld, up, dn, wo, ti, sm, nw, rfl, hR⟩ (by omega)
  have same : bst (subS (nI o)) (fun q => noRow (inS s9 0 0 n (nI q))) 16 = bst (subS (nI o)) (fun q => noRow (inS s9 0 0 n (nI q))) (o + 1) := by
    have := bst_more (S := subS (nI o)) (N := fun q => noRow (inS s9 0 0 n (nI q))) (a := o + 1) (15 - o) (fun q h1 h2 hs => by have := sub_le o ho q (by omega) hs; omega)
    rw [show o + 1 + (15 - o) = 16 by omega] at this
    exact this
  rw [t1, t2]
  simp only [Option.bind_some]
  rw [if_neg (by decide), if_neg (by decide), o2]
  unfold f_X8_fewestThatCannot
  rw [o1]
  simp only [Option.bind_some]
  rw [l1, k1, same]
  simp only [Option.bind_some]
  cases hb0 : bst (subS (nI o)) (fun q => noRow (inS s9 0 0 n (nI q))) (o + 1) with
  | none =>
    rw [if_neg (show ¬ (0 : Int32) ≤ enc (-1) none by decide), if_pos (show enc (-9) none = (-9 : Int32) from rfl)]
    exact ⟨-9, b', co', pa', li', ov', un', mi', cx', cy', cf', ct', con', a1, a2, a3, a4, a5, il', ld', cs', up', dn', wo', ti', sm', nw', rfl, l2, rfl, k2⟩
  | some m =>
    have hm := bst_lt _ m hb0
    have ne9 : ∀ m, m < 16 → ¬ nI m = (-9 : Int32) := by decide
    rw [if_pos (show (0 : Int32) ≤ enc (-1) (some m) from nI_pos' (show m < 2 ^ 31 by omega)), if_neg (show ¬ enc (-9) (some m) = (-9 : Int32) from ne9 m (by omega))]
    rcases t3 with rfl | rfl
    · rw [if_pos rfl, if_neg (by decide)]
      have c1 : f_J6_bitCount_0f7a4 (enc (-1) (some m)) = some (nI (ct_cd (hb (nI m)) 8)) := by
        show f_J6_bitCount_0f7a4 (nI m) = _
        rw [f_bc (by omega), gbc_small m (by omega)]
      have c2 : f_X9_ones K (enc (-9) (some m)) = some (nI (ct_cd (hb (nI m)) 8)) := f_ones (nI m) (by omega)
      rw [c1, c2]
      exact ⟨_, b', co', pa', li', ov', un', mi', cx', cy', cf', ct', con', a1, a2, a3, a4, a5, il', ld', cs', up', dn', wo', ti', sm', nw', rfl, l2, rfl, k2⟩
    · rw [if_neg (by decide), if_pos rfl]
      exact ⟨nI m, b', co', pa', li', ov', un', mi', cx', cy', cf', ct', con', a1, a2, a3, a4, a5, il', ld', cs', up', dn', wo', ti', sm', nw', rfl, l2, rfl, k2⟩
end AGR3

/-! the reference's elimination -/
theorem mat_upd {m : Nat → Int64} {s i j i' j' : Nat} {v : Int64} (hj : j ≤ s) (hj' : j' ≤ s) : mat (vp_updL m ((s + 1) * i + j) v) s i' j' = if i' = i ∧ j' = j then v.toInt else mat m s i' j' := by
  unfold mat
  by_cases h : i' = i ∧ j' = j
  · rw [if_pos h, h.1, h.2, pk_uLs]
  · rw [if_neg h, pk_uLn]
    intro e
    exact h ((ixinj hj' hj e))
theorem i64_ne0 {v : Int64} : v = 0 ↔ v.toInt = 0 := by
  rw [← Int64.toInt_inj, i64_z]
theorem f_search {m : Nat → Int64} {s k K : Nat} (hK : 100 ≤ K) (hs : s ≤ 5) (hk : k < s) : ∃ r, lp (f_X9_corner_L126 30 m (nI s) (nI (s + 1)) (nI k)) K (nI k) = some (nI r) ∧ k ≤ r ∧ r ≤ s ∧ (∀ i, k ≤ i → i < r → mat m s i k = 0) ∧ (r < s → mat m s r k ≠ 0) := by
  have := lp_loop (f := f_X9_corner_L126 30 m (nI s) (nI (s + 1)) (nI k))
    (fun r st => k ≤ r ∧ r ≤ s ∧ st = nI r ∧ ∀ i, k ≤ i → i < r → mat m s i k = 0) s
    (fun res => ∃ r, res = nI r ∧ k ≤ r ∧ r ≤ s ∧ (∀ i, k ≤ i → i < r → mat m s i k = 0) ∧ (r < s → mat m s r k ≠ 0))
    (fun r st hI => by
      obtain ⟨h1, h2, rfl, h3⟩ := hI
      unfold f_X9_corner_L126
      simp only
      by_cases e : r = s
      · subst e
        rw [if_pos (nI_le (Nat.le_refl r) (by omega))]
        exact Or.inl ⟨_, rfl, r, rfl, h1, h2, h3, fun h => absurd h (Nat.lt_irrefl r)⟩
      · have hix := ix30 (k := r) hs (by omega) (show k ≤ s by omega)
        rw [if_neg (nI_ge (show r < s by omega) (by omega)), ix_nI, if_neg (nI_in hix (by decide)), nI_clamp (by omega)]
        by_cases hz : mat m s r k = 0
        · rw [if_pos ((lg_cmp_eq _ _).mpr (i64_ne0.mpr hz)), nI_1]
          refine Or.inr ⟨by omega, _, rfl, by omega, by omega, rfl, fun i hi hr => ?_⟩
          by_cases e' : i = r
          · rw [e']; exact hz
          · exact h3 i hi (by omega)
        · rw [if_neg (fun h => hz (i64_ne0.mp ((lg_cmp_eq _ _).mp h)))]
          exact Or.inl ⟨_, rfl, r, rfl, h1, h2, h3, fun _ => hz⟩) K k (nI k) ⟨Nat.le_refl k, by omega, rfl, fun i h1 h2 => by omega⟩ (by omega)
  obtain ⟨res, h1, r, rfl, h2⟩ := this
  exact ⟨r, h1, h2⟩
def sw (k r i : Nat) : Nat := if i = k then r else if i = r then k else i
theorem f_swap {m : Nat → Int64} {s k r K : Nat} (hK : 100 ≤ K) (hs : s ≤ 5) (hk : k < s) (hr : r < s) : ∃ m', lp (f_X9_corner_L166 30 (nI s) (nI (s + 1)) (nI k) (nI r)) K ((0 : Int32), m) = some m' ∧ ∀ i j, i < s → j ≤ s → mat m' s i j = mat m s (sw k r i) j := by
  refine lp_loop (f := f_X9_corner_L166 30 (nI s) (nI (s + 1)) (nI k) (nI r))
    (fun c st => c ≤ s + 1 ∧ ∃ m' : Nat → Int64, st = (nI c, m') ∧ ∀ i j, i < s → j ≤ s → mat m' s i j = if j < c then mat m s (sw k r i) j else mat m s i j) (s + 1) _ ?_ K 0 _ ⟨Nat.zero_le _, m, rfl, fun i j _ _ => by simp⟩ (by omega)
  intro c st hI
  obtain ⟨hc, m', rfl, h1⟩ := hI
  unfold f_X9_corner_L166
  simp only
  by_cases e : c = s + 1
  · subst e
    rw [if_pos (nI_lt (by omega) (by omega))]
    exact Or.inl ⟨m', rfl, fun i j hi hj => by rw [h1 i j hi hj, if_pos (by omega)]⟩
  · have hcs : c ≤ s := by omega
    have x1 := ix30 hs hr hcs
    have x2 := ix30 hs hk hcs
    rw [if_neg (nI_nlt hcs (by omega)), ix_nI, ix_nI, if_neg (nI_in x1 (by decide)), if_neg (nI_in x2 (by decide)), if_neg (nI_in x1 (by decide)), if_neg (nI_in x2 (by decide)), nI_clamp (by omega), nI_clamp (by omega), nI_1]
    refine Or.inr ⟨by omega, _, rfl, by omega, _, rfl, fun i j hi hj => ?_⟩
    rw [mat_upd hcs hj, mat_upd hcs hj]
    have hr1 := h1 r c hr hcs
    have hk1 := h1 k c hk hcs
    rw [if_neg (Nat.lt_irrefl c)] at hr1 hk1
    unfold mat at hr1 hk1
    by_cases ej : j = c
    · subst ej
      rw [if_pos (show j < j + 1 by omega)]
      unfold sw
      by_cases e1 : i = k
      · rw [if_pos ⟨e1, rfl⟩, if_pos e1, hr1]; rfl
      · rw [if_neg (fun h => e1 h.1), if_neg e1]
        by_cases e2 : i = r
        · rw [if_pos ⟨e2, rfl⟩, if_pos e2, hk1]; rfl
        · rw [if_neg (fun h => e2 h.1), if_neg e2, h1 i j hi hj, if_neg (Nat.lt_irrefl j)]
    · rw [if_neg (fun h => ej h.2), if_neg (fun h => ej h.2), h1 i j hi hj]
      by_cases e3 : j < c
      · rw [if_pos e3, if_pos (by omega)]
      · rw [if_neg e3, if_neg (by omega)]
theorem exact_div {x y b : Int64} {n : Int} (hb : b.toInt ≠ 0) (hbb : wthn 2000000000 b.toInt) (hn : wthn 2000000000 n) (hxy : x.toInt - y.toInt = b.toInt * n) (hr : wthn 9223372036854775807 (x.toInt - y.toInt)) : ((x - y) / b).toInt = n := by
  rw [Int64.toInt_div, q64_sub hr, hxy, Int.mul_tdiv_cancel_left _ hb, Int.bmod_def]
  unfold wthn at hn
  omega
theorem f_elimrow {m : Nat → Int64} {s k i K : Nat} {bf pv fc : Int64} {N : Nat → Int} (hK : 100 ≤ K) (hs : s ≤ 5) (hk : k < s) (hi : i < s) (hik : i ≠ k) (hb0 : bf.toInt ≠ 0) (hb : wthn 2000000000 bf.toInt) (hp : wthn 2000000000 pv.toInt) (hf : wthn 2000000000 fc.toInt)
    (hm : ∀ i j, i < s → j ≤ s → wthn 2000000000 (mat m s i j)) (hN : ∀ j, j ≤ s → wthn 2000000000 (N j)) (he : ∀ j, j ≤ s → bf.toInt * N j = pv.toInt * mat m s i j - fc.toInt * mat m s k j) :
    ∃ m', lp (f_X9_corner_L276 30 (nI s) (nI (s + 1)) bf (nI k) pv (nI i) fc) K ((0 : Int32), m) = some m' ∧ ∀ i' j, i' < s → j ≤ s → mat m' s i' j = if i' = i then N j else mat m s i' j := by
  refine lp_loop (f := f_X9_corner_L276 30 (nI s) (nI (s + 1)) bf (nI k) pv (nI i) fc)
    (fun c st => c ≤ s + 1 ∧ ∃ m' : Nat → Int64, st = (nI c, m') ∧ ∀ i' j, i' < s → j ≤ s → mat m' s i' j = if i' = i ∧ j < c then N j else mat m s i' j) (s + 1) _ ?_ K 0 _ ⟨Nat.zero_le _, m, rfl, fun i' j _ _ => by simp⟩ (by omega)
  intro c st hI
  obtain ⟨hc, m', rfl, h1⟩ := hI
  unfold f_X9_corner_L276
  simp only
  by_cases e : c = s + 1
  · subst e
    rw [if_pos (nI_lt (by omega) (by omega))]
    exact Or.inl ⟨m', rfl, fun i' j hi' hj => by
      rw [h1 i' j hi' hj]
      by_cases e' : i' = i
      · rw [if_pos ⟨e', by omega⟩, if_pos e']
      · rw [if_neg (fun h => e' h.1), if_neg e']⟩
  · have hcs : c ≤ s := by omega
    have x1 := ix30 hs hi hcs
    have x2 := ix30 hs hk hcs
    rw [if_neg (nI_nlt hcs (by omega)), if_neg (fun h => hik ((nI_eq (by omega) (by omega)).mp h)), ix_nI, ix_nI, if_neg (nI_in x1 (by decide)), if_neg (nI_in x2 (by decide)), if_neg (fun h => hb0 (i64_ne0.mp h)), if_neg (nI_in x1 (by decide)), nI_clamp (by omega), nI_clamp (by omega), nI_1]
    refine Or.inr ⟨by omega, _, rfl, by omega, _, rfl, fun i' j hi' hj => ?_⟩
    rw [mat_upd hcs hj]
    by_cases ej : i' = i ∧ j = c
    · rw [if_pos ej, if_pos ⟨ej.1, by omega⟩, ej.2]
      have a1 : (m' ((s + 1) * i + c)).toInt = mat m s i c := by
        have := h1 i c hi hcs
        rw [if_neg (fun h => Nat.lt_irrefl c h.2)] at this
        exact this
      have a2 : (m' ((s + 1) * k + c)).toInt = mat m s k c := by
        have := h1 k c hk hcs
        rw [if_neg (fun h => hik h.1.symm)] at this
        exact this
      have b1 := wthn_mul hp (hm i c hi hcs)
      have b2 := wthn_mul hf (hm k c hk hcs)
      have m1 : (pv * m' ((s + 1) * i + c)).toInt = pv.toInt * mat m s i c := by
        rw [q64_mul (by rw [a1]; exact wthn_mono b1 (by decide)), a1]
      have m2 : (fc * m' ((s + 1) * k + c)).toInt = fc.toInt * mat m s k c := by
        rw [q64_mul (by rw [a2]; exact wthn_mono b2 (by decide)), a2]
      refine exact_div hb0 hb (hN c hcs) ?_ ?_
      · rw [m1, m2, he c hcs]
      · rw [m1, m2]; unfold wthn at *; omega
    · rw [if_neg ej, h1 i' j hi' hj]
      by_cases e3 : i' = i ∧ j < c
      · rw [if_pos e3, if_pos ⟨e3.1, by omega⟩]
      · rw [if_neg e3, if_neg (fun h => by
          have h3 : ¬ j < c := fun h' => e3 ⟨h.1, h'⟩
          exact ej ⟨h.1, by omega⟩)]
theorem f_elimall {m : Nat → Int64} {s k K : Nat} {bf pv : Int64} {N : Nat → Nat → Int} (hK : 100 ≤ K) (hs : s ≤ 5) (hk : k < s) (hb0 : bf.toInt ≠ 0) (hb : wthn 2000000000 bf.toInt) (hp : wthn 2000000000 pv.toInt)
    (hm : ∀ i j, i < s → j ≤ s → wthn 2000000000 (mat m s i j)) (hN : ∀ i j, i < s → j ≤ s → wthn 2000000000 (N i j)) (hNk : ∀ j, j ≤ s → N k j = mat m s k j) (he : ∀ i j, i < s → i ≠ k → j ≤ s → bf.toInt * N i j = pv.toInt * mat m s i j - mat m s i k * mat m s k j) :
    ∃ m', lp (f_X9_corner_L252 K 30 (nI s) (nI (s + 1)) bf (nI k) pv) K ((0 : Int32), m) = some m' ∧ ∀ i j, i < s → j ≤ s → mat m' s i j = N i j := by
  refine lp_loop (f := f_X9_corner_L252 K 30 (nI s) (nI (s + 1)) bf (nI k) pv)
    (fun c st => c ≤ s ∧ ∃ m' : Nat → Int64, st = (nI c, m') ∧ ∀ i j, i < s → j ≤ s → mat m' s i j = if i < c then N i j else mat m s i j) s _ ?_ K 0 _ ⟨Nat.zero_le _, m, rfl, fun i j _ _ => by simp⟩ (by omega)
  intro c st hI
  obtain ⟨hc, m', rfl, h1⟩ := hI
  unfold f_X9_corner_L252
  simp only
  by_cases e : c = s
  · subst e
    rw [if_pos (nI_le (Nat.le_refl c) (by omega))]
    exact Or.inl ⟨m', rfl, fun i j hi hj => by rw [h1 i j hi hj, if_pos hi]⟩
  · have hcs : c < s := by omega
    have x1 := ix30 (j := k) hs hcs (by omega)
    rw [if_neg (nI_ge hcs (by omega)), ix_nI, if_neg (nI_in x1 (by decide)), nI_clamp (by omega)]
    have hck : mat m' s c k = mat m s c k := by rw [h1 c k hcs (by omega), if_neg (Nat.lt_irrefl c)]
    by_cases ek : c = k
    · -- the pivot's own row: nothing is done
      have row : lp (f_X9_corner_L276 30 (nI s) (nI (s + 1)) bf (nI k) pv (nI c) (m' ((s + 1) * c + k))) K ((0 : Int32), m') = some m' := by
        obtain ⟨K', rfl⟩ : ∃ K', K = K' + 1 := ⟨K - 1, by omega⟩
        have g : f_X9_corner_L276 30 (nI s) (nI (s + 1)) bf (nI k) pv (nI c) (m' ((s + 1) * c + k)) ((0 : Int32), m') = some (.inl m') := by
          unfold f_X9_corner_L276
          simp only
          rw [if_neg (show ¬ nI s < (0 : Int32) from nI_pos (by omega)), if_pos (by rw [ek])]
        rw [lp, g]
      rw [row, Option.bind_some, nI_1]
      refine Or.inr ⟨hcs, _, rfl, by omega, m', rfl, fun i j hi hj => ?_⟩
      rw [h1 i j hi hj]
      by_cases e3 : i < c
      · rw [if_pos e3, if_pos (by omega)]
      · rw [if_neg e3]
        by_cases e4 : i = c
        · rw [if_pos (by omega), e4, ek, hNk j hj]
        · rw [if_neg (by omega)]
    · have hrow : ∀ i j, i < s → j ≤ s → wthn 2000000000 (mat m' s i j) := fun i j hi hj => by
        rw [h1 i j hi hj]
        split
        · exact hN i j hi hj
        · exact hm i j hi hj
      have hfc : (m' ((s + 1) * c + k)).toInt = mat m s c k := hck
      have hkrow : ∀ j, j ≤ s → mat m' s k j = mat m s k j := fun j hj => by
        rw [h1 k j hk hj]
        split
        · exact hNk j hj
        · rfl
      obtain ⟨m2, p, q⟩ := f_elimrow (m := m') (i := c) (fc := m' ((s + 1) * c + k)) (N := N c) hK hs hk hcs ek hb0 hb hp (by rw [hfc]; exact hm c k hcs (by omega)) hrow (fun j hj => hN c j hcs hj) (fun j hj => by
        rw [hfc, hkrow j hj, h1 c j hcs hj, if_neg (Nat.lt_irrefl c)]
        exact he c j hcs ek hj)
      rw [p, Option.bind_some, nI_1]
      refine Or.inr ⟨hcs, _, rfl, by omega, m2, rfl, fun i j hi hj => ?_⟩
      rw [q i j hi hj]
      by_cases e4 : i = c
      · rw [if_pos e4, if_pos (by omega), e4]
      · rw [if_neg e4, h1 i j hi hj]
        by_cases e3 : i < c
        · rw [if_pos e3, if_pos (by omega)]
        · rw [if_neg e3, if_neg (by omega)]
/-- rows of A0, in another order -/
def reord (A0 A : Nat → Nat → Int) (s : Nat) : Prop := ∃ σ : Nat → Nat, (∀ i, i < s → σ i < s) ∧ (∀ i, i < s → ∃ i', i' < s ∧ σ i' = i) ∧ ∀ i j, A i j = A0 (σ i) j
theorem sw_lt {s k r i : Nat} (hk : k < s) (hr : r < s) (hi : i < s) : sw k r i < s := by unfold sw; split <;> (try split) <;> omega
theorem sw_sw (k r i : Nat) : sw k r (sw k r i) = i := by
  unfold sw
  by_cases h1 : i = k
  · subst h1
    rw [if_pos rfl]
    by_cases h2 : r = i
    · rw [if_pos h2, h2]
    · rw [if_neg h2, if_pos rfl]
  · rw [if_neg h1]
    by_cases h2 : i = r
    · rw [if_pos h2, if_pos rfl, h2]
    · rw [if_neg h2, if_neg h1, if_neg h2]
theorem reord_sw {A0 A : Nat → Nat → Int} {s k r : Nat} (hk : k < s) (hr : r < s) (h : reord A0 A s) : reord A0 (fun i j => A (sw k r i) j) s := by
  obtain ⟨σ, h1, h2, h3⟩ := h
  refine ⟨fun i => σ (sw k r i), fun i hi => h1 _ (sw_lt hk hr hi), fun i hi => ?_, fun i j => h3 _ j⟩
  obtain ⟨i', hi', e⟩ := h2 i hi
  exact ⟨sw k r i', sw_lt hk hr hi', by simp only [sw_sw]; exact e⟩
theorem reord_rows {A0 A : Nat → Nat → Int} {s : Nat} (h : reord A0 A s) (h0 : rows5 A0 s) : rows5 A s := by
  obtain ⟨σ, h1, h2, h3⟩ := h
  obtain ⟨o, ho, hr⟩ := h0
  obtain ⟨o', ho', e⟩ := h2 o ho
  refine ⟨o', ho', fun r hr' => ?_⟩
  have hA : A r = A0 (σ r) := funext (h3 r)
  have := hr (σ r) (h1 r hr')
  rw [hA]
  by_cases er : r = o'
  · rw [if_pos er]; rw [er, e, if_pos rfl] at this; rw [er, e]; exact this
  · rw [if_neg er]
    by_cases es : σ r = o
    · rw [if_pos es] at this; exact RB_100 this (by decide)
    · rw [if_neg es] at this; exact this
theorem reord_ker {A0 A : Nat → Nat → Int} {s : Nat} (h : reord A0 A s) {z : Nat → Int} (hz : ∀ i, i < s → sg (fun j => A i j * z j) (s + 1) = 0) : ∀ i, i < s → sg (fun j => A0 i j * z j) (s + 1) = 0 := by
  obtain ⟨σ, h1, h2, h3⟩ := h
  intro i hi
  obtain ⟨i', hi', e⟩ := h2 i hi
  rw [← hz i' hi']
  exact sg_cong fun j _ => by rw [h3 i' j, e]
/-- a column without a pivot, or the solution -/
theorem f_elim {m : Nat → Int64} {s K : Nat} {A0 : Nat → Nat → Int} {cs : Int32} {up dn nw : Nat → Int64} (hK : 100 ≤ K) (hs : s ≤ 5) (hs0 : 0 < s) (hr : rows5 A0 s) (hm : ∀ i j, i < s → j ≤ s → mat m s i j = A0 i j) :
    (∃ m', lp (f_X9_corner_L116 K 30 cs up dn nw (nI s) (nI (s + 1))) K ((1 : Int64), (0 : Int32), m) = some (.inl (cs, up, dn, m', nw)) ∧ ∃ z : Nat → Int, (∃ j, j < s ∧ z j ≠ 0) ∧ z s = 0 ∧ ∀ i, i < s → sg (fun j => A0 i j * z j) (s + 1) = 0) ∨
    (∃ bf m', lp (f_X9_corner_L116 K 30 cs up dn nw (nI s) (nI (s + 1))) K ((1 : Int64), (0 : Int32), m) = some (.inr (bf, m')) ∧ bf.toInt ≠ 0 ∧ wthn (lim5 s) bf.toInt ∧ (∀ j, j < s → wthn 2000000000 (mat m' s j s)) ∧ ∀ i, i < s → sg (fun j => A0 i j * mat m' s j s) s = A0 i s * bf.toInt) := by
  have := lp_loop (f := f_X9_corner_L116 K 30 cs up dn nw (nI s) (nI (s + 1)))
    (fun k st => k ≤ s ∧ ∃ (bf : Int64) (m' : Nat → Int64) (A : Nat → Nat → Int), st = (bf, nI k, m') ∧ reord A0 A s ∧ (∀ q, q ≤ k → dk A q ≠ 0) ∧ bf.toInt = dk A k ∧ ∀ i j, i < s → j ≤ s → mat m' s i j = bar A k i j) s
    (fun res => (∃ m', res = .inl (cs, up, dn, m', nw) ∧ ∃ z : Nat → Int, (∃ j, j < s ∧ z j ≠ 0) ∧ z s = 0 ∧ ∀ i, i < s → sg (fun j => A0 i j * z j) (s + 1) = 0) ∨
      (∃ bf m', res = .inr (bf, m') ∧ bf.toInt ≠ 0 ∧ wthn (lim5 s) bf.toInt ∧ (∀ j, j < s → wthn 2000000000 (mat m' s j s)) ∧ ∀ i, i < s → sg (fun j => A0 i j * mat m' s j s) s = A0 i s * bf.toInt))
    (fun k st hI => by
      obtain ⟨hk, bf, m', A, rfl, hre, hd, hbf, hmat⟩ := hI
      have hrows := reord_rows hre hr
      unfold f_X9_corner_L116
      simp only
      by_cases e : k = s
      · subst e
        rw [if_pos (nI_le (Nat.le_refl k) (by omega))]
        refine Or.inl ⟨_, rfl, Or.inr ⟨bf, m', rfl, by rw [hbf]; exact hd k (Nat.le_refl k), by rw [hbf]; exact dk_bound hs hs0 hrows, fun j hj => by rw [hmat j k hj (Nat.le_refl k)]; exact bar_bound hs hrows (Nat.le_refl k) hj k, ?_⟩⟩
        have sol := done_sol (A := A) hs hs0 hd
        obtain ⟨σ, h1, h2, h3⟩ := hre
        intro i hi
        obtain ⟨i', hi', ei⟩ := h2 i hi
        have := sol i' hi'
        rw [h3 i' k, ei] at this
        rw [hbf, ← this]
        exact sg_cong fun j hj => by rw [hmat j k hj (Nat.le_refl k), h3 i' j, ei]
      · have hks : k < s := by omega
        obtain ⟨r, p, hr1, hr2, hr3, hr4⟩ := f_search (m := m') hK hs hks
        rw [if_neg (nI_ge hks (by omega)), p, Option.bind_some]
        by_cases er : r = s
        · rw [if_pos (by rw [er])]
          refine Or.inl ⟨_, rfl, Or.inl ⟨m', rfl, ?_⟩⟩
          obtain ⟨z, z1, z2, z3⟩ := no_pivot (A := A) hs hks hd (fun i hi hi' => by rw [← hmat i k hi' (by omega)]; exact hr3 i hi (by omega))
          exact ⟨z, ⟨k, hks, z1⟩, z2 s hks, reord_ker hre z3⟩
        · have hrs : r < s := by omega
          rw [if_neg (fun h => er ((nI_eq (by omega) (by omega)).mp h))]
          obtain ⟨m2, p2, q2⟩ := f_swap (m := m') hK hs hks hrs
          have hix := ix30 (j := k) hs hks (by omega)
          rw [p2, Option.bind_some, ix_nI, if_neg (nI_in hix (by decide)), nI_clamp (by omega)]
          have hk4 : k ≤ 4 := by omega
          have fix : ∀ q, q < k → sw k r q = q := fun q hq => by unfold sw; rw [if_neg (by omega), if_neg (by omega)]
          have stay : ∀ q, k ≤ q → k ≤ sw k r q := fun q hq => by unfold sw; split <;> (try split) <;> omega
          have hA2 : ∀ i j, bar (fun i j => A (sw k r i) j) k i j = bar A k (sw k r i) j := fun i j => bar_perm A (sw k r) hk4 fix stay i j
          have hre2 := reord_sw hks hrs hre
          have hrows2 := reord_rows hre2 hr
          have hmat2 : ∀ i j, i < s → j ≤ s → mat m2 s i j = bar (fun i j => A (sw k r i) j) k i j := fun i j hi hj => by
            rw [q2 i j hi hj, hA2, hmat _ j (sw_lt hks hrs hi) hj]
          have hd2 : ∀ q, q ≤ k → dk (fun i j => A (sw k r i) j) q ≠ 0 := fun q hq => by
            rw [dk_perm A (sw k r) (by omega) (fun x hx => fix x (by omega))]; exact hd q hq
          have hbf2 : bf.toInt = dk (fun i j => A (sw k r i) j) k := by rw [dk_perm A (sw k r) hk4 fix]; exact hbf
          generalize (fun i j => A (sw k r i) j) = A2 at hre2 hrows2 hmat2 hd2 hbf2 hA2
          have hpiv : (m2 ((s + 1) * k + k)).toInt = bar A2 k k k := hmat2 k k hks (by omega)
          have hpn : bar A2 k k k ≠ 0 := by
            have h5 := hr4 hrs
            have h6 := hmat2 k k hks (by omega)
            rw [q2 k k hks (by omega)] at h6
            rw [← h6]
            have : sw k r k = r := by unfold sw; rw [if_pos rfl]
            rw [this]; exact h5
          have hbb : wthn 2000000000 bf.toInt := by
            rw [hbf2]
            by_cases k0 : k = 0
            · subst k0; exact (show -2000000000 ≤ (1 : Int) ∧ (1 : Int) ≤ 2000000000 by decide)
            · obtain ⟨k', rfl⟩ : ∃ k', k = k' + 1 := ⟨k - 1, by omega⟩
              rw [dk_succ A2 (by omega)]
              exact bar_bound hs hrows2 (by omega) (by omega) _
          obtain ⟨m3, p3, q3⟩ := f_elimall (m := m2) (bf := bf) (pv := m2 ((s + 1) * k + k)) (N := fun i j => bar A2 (k + 1) i j) hK hs hks (by rw [hbf2]; exact hd2 k (Nat.le_refl k)) hbb (by rw [hpiv]; exact bar_bound hs hrows2 (by omega) hks k)
            (fun i j hi hj => by rw [hmat2 i j hi hj]; exact bar_bound hs hrows2 (by omega) hi j) (fun i j hi hj => bar_bound hs hrows2 (by omega) hi j) (fun j hj => by rw [hmat2 k j hks hj]; exact bar_piv A2 (by omega) j)
            (fun i j hi hik hj => by
              rw [hmat2 i j hi hj, hmat2 i k hi (by omega), hmat2 k j hks hj, hpiv, hbf2]
              exact bar_step A2 (by omega) (by omega) hik j)
          rw [p3, Option.bind_some, nI_1]
          refine Or.inr ⟨hks, _, rfl, by omega, _, m3, A2, rfl, hre2, fun q hq => ?_, ?_, q3⟩
          · by_cases eq : q = k + 1
            · rw [eq, dk_succ A2 (by omega)]; exact hpn
            · exact hd2 q (by omega)
          · rw [dk_succ A2 (by omega)]; exact hpiv) K 0 _ ⟨Nat.zero_le _, 1, m, A0, rfl, ⟨fun i => i, fun i hi => hi, fun i hi => ⟨i, hi, rfl⟩, fun _ _ => rfl⟩, fun q hq => by
        have : q = 0 := by omega
        subst this; exact (by decide : (1 : Int) ≠ 0), rfl, hm⟩ (by omega)
  obtain ⟨res, h1, h2⟩ := this
  rcases h2 with ⟨m', rfl, h3⟩ | ⟨bf, m', rfl, h3⟩
  · exact Or.inl ⟨m', h1, h3⟩
  · exact Or.inr ⟨bf, m', h1, h3⟩

/-! type, clear, saying, on, move are answered alike -/
theorem one_ne : ¬ (1 : Int32) = 0 := by decide
def TX (L : Nat) (cb rt : Nat → Int32) : Prop := L ≤ 200 ∧ ∀ k, k < L → cb k = rt k ∧ ∃ v, v < 256 ∧ cb k = nI v
theorem low8 (y : Int64) : (y.toInt32 &&& (255 : Int32)) = (y &&& (255 : Int64)).toInt32 ∧ ∃ v, v < 256 ∧ (y.toInt32 &&& (255 : Int32)) = nI v := by
  have b255 : ∀ k, k < 32 → hb 255 k = decide (k < 8) := by decide
  have hy : ∀ k, k < 32 → hb y.toInt32 k = y.toBitVec.getLsbD k := fun k hk => by
    unfold hb
    show (y.toBitVec.signExtend 32).getLsbD k = _
    rw [BitVec.getLsbD_signExtend]
    simp [hk]
    intro h; omega
  have hz : ∀ k, k < 32 → hb (y &&& (255 : Int64)).toInt32 k = (y.toBitVec.getLsbD k && decide (k < 8)) := fun k hk => by
    unfold hb
    show ((y &&& (255 : Int64)).toBitVec.signExtend 32).getLsbD k = _
    rw [BitVec.getLsbD_signExtend, Int64.toBitVec_and]
    have o : ∀ k, k < 32 → (255 : Int64).toBitVec.getLsbD k = decide (k < 8) := by decide
    simp only [hk, decide_true, Bool.true_and, show k < 64 by omega, if_true, BitVec.getLsbD_and, o k hk]
  have e : (y.toInt32 &&& (255 : Int32)) = (y &&& (255 : Int64)).toInt32 := hb_ext fun k hk => by
    rw [hb_and, hy k hk, b255 k hk, hz k hk]
  refine ⟨e, ?_⟩
  obtain ⟨W, hW, hWb⟩ := mask8 (fun k => hb (y.toInt32 &&& (255 : Int32)) k)
  refine ⟨W, hW, hb_ext fun k hk => ?_⟩
  by_cases h8 : k < 8
  · rw [hWb k h8]
  · rw [mask_hi W hW k hk (by omega), hb_and, b255 k hk]; simp [h8]
def xcT (n j : Nat) : Int32 := if j < n then nI (8 * (n - 1 - j)) else -8
def xrT (n j : Nat) : Int32 := if j < n then nI (n - 1 - j) else -1
theorem xT_step : ∀ n, n < 9 → ∀ j, j < n → xcT n j + (-8) = xcT n (j + 1) ∧ xrT n j + (-1) = xrT n (j + 1) ∧ ¬ xcT n j < 0 ∧ ¬ xrT n j < 0 ∧ (8 : Int32) * xrT n j = xcT n j := by decide +kernel
theorem xT_end : ∀ n, n < 9 → xcT n n < 0 ∧ xrT n n < 0 := by decide +kernel
theorem xT_start : ∀ n, n < 9 → 0 < n → (8 : Int32) * (nI n - 1) = xcT n 0 ∧ nI n - 1 = xrT n 0 := by decide +kernel
theorem ag_type {K L : Nat} {cb rt : Nat → Int32} {v : Int64} {x : Int32} (hK : 1000 ≤ K) (h : TX L cb rt) : ∃ (ans : Int32) (L' : Nat) (cb' rt' : Nat → Int32), f_X8_type K 200 (nI L) cb v x = some (ans, nI L', cb') ∧ f_X9_type K 200 (nI L) rt v x = some (ans, 0, nI L', rt') ∧ TX L' cb' rt' := by
  have hL := h.1
  unfold f_X8_type f_X9_type f_X9_in
  by_cases h1 : x < 1
  · rw [if_pos h1, if_pos h1]
    exact ⟨-1, L, cb, rt, rfl, rfl, h⟩
  · rw [if_neg h1, if_neg h1]
    by_cases h2 : x ≤ 8
    · have h2' : ¬ (8 : Int32) < x := by rw [Int32.lt_iff_toInt_lt]; rw [Int32.le_iff_toInt_le] at h2; omega
      have h0 : ¬ x < 0 := by
        rw [Int32.lt_iff_toInt_lt] at h1 ⊢
        have a : (1 : Int32).toInt = 1 := rfl
        have b : (0 : Int32).toInt = 0 := rfl
        omega
      obtain ⟨n, hn, rfl⟩ := nI_of h0
      have hn8 : n < 9 := Classical.byContradiction fun g => h2' (show (8 : Int32) < nI n from nI_lt (show 8 < n by omega) hn)
      have hn0 : 0 < n := Classical.byContradiction fun g => h1 (by
        have : n = 0 := by omega
        subst this; decide)
      rw [if_pos h2, if_neg h2', Option.bind_some, if_neg one_ne, nI_add]
      by_cases h3 : L + n ≤ 200
      · obtain ⟨s1, s2⟩ := xT_start n hn8 hn0
        rw [if_pos (show nI (L + n) ≤ (200 : Int32) from nI_le h3 (by decide)), if_pos (show nI (L + n) ≤ (200 : Int32) from nI_le h3 (by decide)), s1, s2]
        obtain ⟨r, l1, cb', rfl, l2, l3⟩ := lp_loop (f := f_X8_type_L39 200 v) (fun j st => j ≤ n ∧ ∃ cb' : Nat → Int32, st = (xcT n j, nI (L + j), cb') ∧ (∀ k, k < L → cb' k = cb k) ∧ ∀ i, i < j → cb' (L + i) = (v >>> ((xcT n i).toInt64 &&& 63)).toInt32 &&& (255 : Int32)) n (fun r => ∃ cb' : Nat → Int32, r = (nI (L + n), cb') ∧ (∀ k, k < L → cb' k = cb k) ∧ ∀ i, i < n → cb' (L + i) = (v >>> ((xcT n i).toInt64 &&& 63)).toInt32 &&& (255 : Int32)) (fun j st hI => by
          obtain ⟨hj, cb', rfl, g1, g2⟩ := hI
          unfold f_X8_type_L39
          simp only
          by_cases e : j = n
          · subst e
            rw [if_pos (xT_end j hn8).1]
            exact Or.inl ⟨_, rfl, cb', rfl, g1, g2⟩
          · have hjn : j < n := by omega
            obtain ⟨t1, t2, t3, t4, t5⟩ := xT_step n hn8 j hjn
            unfold f_X5_append
            rw [if_neg t3, if_neg (show ¬ (200 : Int32) ≤ nI (L + j) from nI_ge (show L + j < 200 by omega) (by decide)), if_neg (nI_in (show L + j < 200 by omega) (by decide)), Option.bind_some, nI_clamp (by omega), t1, nI_1]
            refine Or.inr ⟨hjn, _, rfl, by omega, upd cb' (L + j) ((v >>> ((xcT n j).toInt64 &&& 63)).toInt32 &&& (255 : Int32)), rfl, fun k hk => ?_, fun i hi => ?_⟩
            · rw [pk_un (by omega)]; exact g1 k hk
            · by_cases ei : i = j
              · rw [ei, pk_us]
              · rw [pk_un (by omega)]; exact g2 i (by omega)) K 0 (xcT n 0, nI L, cb) ⟨Nat.zero_le _, cb, rfl, fun _ _ => rfl, fun i hi => absurd hi (Nat.not_lt_zero i)⟩ (by omega)
        obtain ⟨r2, m1, rt', rfl, m2, m3⟩ := lp_loop (f := f_X9_type_L37 200 v) (fun j st => j ≤ n ∧ ∃ rt' : Nat → Int32, st = (xrT n j, nI (L + j), rt') ∧ (∀ k, k < L → rt' k = rt k) ∧ ∀ i, i < j → rt' (L + i) = ((v >>> ((xcT n i).toInt64 &&& 63)) &&& (255 : Int64)).toInt32) n (fun r => ∃ rt' : Nat → Int32, r = (nI (L + n), rt') ∧ (∀ k, k < L → rt' k = rt k) ∧ ∀ i, i < n → rt' (L + i) = ((v >>> ((xcT n i).toInt64 &&& 63)) &&& (255 : Int64)).toInt32) (fun j st hI => by
          obtain ⟨hj, rt', rfl, g1, g2⟩ := hI
          unfold f_X9_type_L37
          simp only
          by_cases e : j = n
          · subst e
            rw [if_pos (xT_end j hn8).2]
            exact Or.inl ⟨_, rfl, rt', rfl, g1, g2⟩
          · have hjn : j < n := by omega
            obtain ⟨t1, t2, t3, t4, t5⟩ := xT_step n hn8 j hjn
            rw [if_neg t4, if_neg (nI_in (show L + j < 200 by omega) (by decide)), nI_clamp (by omega), t2, nI_1, t5]
            refine Or.inr ⟨hjn, _, rfl, by omega, _, rfl, fun k hk => ?_, fun i hi => ?_⟩
            · rw [pk_un (by omega)]; exact g1 k hk
            · by_cases ei : i = j
              · rw [ei, pk_us]
              · rw [pk_un (by omega)]; exact g2 i (by omega)) K 0 (xrT n 0, nI L, rt) ⟨Nat.zero_le _, rt, rfl, fun _ _ => rfl, fun i hi => absurd hi (Nat.not_lt_zero i)⟩ (by omega)
        rw [l1, m1]
        refine ⟨nI (L + n), L + n, cb', rt', rfl, rfl, h3, fun k hk => ?_⟩
        by_cases hkL : k < L
        · rw [l2 k hkL, m2 k hkL]; exact h.2 k hkL
        · obtain ⟨i, rfl⟩ : ∃ i, k = L + i := ⟨k - L, by omega⟩
          have := low8 (v >>> ((xcT n i).toInt64 &&& 63))
          rw [l3 i (by omega), m3 i (by omega)]
          exact this
      · rw [if_neg (show ¬ nI (L + n) ≤ (200 : Int32) from nI_ge (show 200 < L + n by omega) (by omega)), if_neg (show ¬ nI (L + n) ≤ (200 : Int32) from nI_ge (show 200 < L + n by omega) (by omega))]
        exact ⟨-3, L, cb, rt, rfl, rfl, h⟩
    · have h2' : (8 : Int32) < x := by rw [Int32.lt_iff_toInt_lt]; rw [Int32.le_iff_toInt_le] at h2; omega
      rw [if_neg h2, if_pos h2']
      exact ⟨-1, L, cb, rt, rfl, rfl, h⟩
theorem ag_clear {L : Nat} {cb rt : Nat → Int32} : f_X8_clear (nI L) = some (nI L, 0) ∧ f_X9_clear (nI L) = some (nI L, 0, 0) ∧ TX 0 cb rt := ⟨rfl, rfl, by decide, fun k hk => absurd hk (Nat.not_lt_zero k)⟩
theorem ix5 (i c : Nat) : ((5 : Int32) * nI i) + nI c = nI (5 * i + c) := by rw [show (5 : Int32) = nI 5 from rfl, nI_mul, nI_add]
theorem ag_saying {n : Nat} {sx sy sf st so s9 : Nat → Int32} {x1 x2 : Int32} (h : SR n sx sy sf st so s9) : ∃ ans, f_X8_saying (nI n) sx sy sf st so x1 x2 = some ans ∧ f_X9_saying 40 (nI n) s9 x1 x2 = some (ans, 0) := by
  have hn := h.1
  unfold f_X8_saying f_X9_saying
  rcases g_saying x1 hn with ⟨t1, t2, -⟩ | ⟨t1, t2, i, hi, rfl⟩
  · rw [t1, t2]; exact ⟨_, rfl, rfl⟩
  · obtain ⟨h1, h2, h3, h4, h5, -⟩ := h.2 i hi
    rw [t1, t2]
    simp only [Option.bind_some, if_neg one_ne]
    rw [if_neg (nI_in (show i < 4 by omega) (by decide)), nI_clamp (by omega)]
    unfold f_X9_in
    by_cases hc : ∃ c, c < 5 ∧ x2 = nI c
    · obtain ⟨c, hc5, rfl⟩ := hc
      rw [if_neg (nI_pos (by omega)), if_neg (show ¬ (4 : Int32) < nI c from nI_nlt (show c ≤ 4 by omega) (by decide)), Option.bind_some, if_neg one_ne, ix5, if_neg (nI_in (show 5 * i + c < 40 by omega) (by decide)), nI_clamp (by omega)]
      have hin : ¬ (nI i < 0 ∨ 4 ≤ i) := fun g => by
        rcases g with g | g
        · exact nI_pos (by omega) g
        · omega
      rcases (show c = 0 ∨ c = 1 ∨ c = 2 ∨ c = 3 ∨ c = 4 by omega) with rfl | rfl | rfl | rfl | rfl
      · rw [if_pos (show nI 0 = (0 : Int32) from rfl), Nat.add_zero, ← h1]; exact ⟨_, rfl, rfl⟩
      · rw [if_neg (by decide), if_pos (show nI 1 = (1 : Int32) from rfl), if_neg hin, ← h2]; exact ⟨_, rfl, rfl⟩
      · rw [if_neg (by decide), if_neg (by decide), if_pos (show nI 2 = (2 : Int32) from rfl), if_neg hin, ← h3]; exact ⟨_, rfl, rfl⟩
      · rw [if_neg (by decide), if_neg (by decide), if_neg (by decide), if_pos (show nI 3 = (3 : Int32) from rfl), if_neg hin, ← h4]; exact ⟨_, rfl, rfl⟩
      · rw [if_neg (by decide), if_neg (by decide), if_neg (by decide), if_neg (by decide), if_pos (show nI 4 = (4 : Int32) from rfl), if_neg hin, ← h5]; exact ⟨_, rfl, rfl⟩
    · have ne : ∀ c, c < 5 → ¬ x2 = nI c := fun c hc5 e => hc ⟨c, hc5, e⟩
      rw [if_neg (show ¬ x2 = (0 : Int32) from ne 0 (by decide)), if_neg (show ¬ x2 = (1 : Int32) from ne 1 (by decide)), if_neg (show ¬ x2 = (2 : Int32) from ne 2 (by decide)), if_neg (show ¬ x2 = (3 : Int32) from ne 3 (by decide)), if_neg (show ¬ x2 = (4 : Int32) from ne 4 (by decide))]
      by_cases q1 : x2 < 0
      · rw [if_pos q1]; exact ⟨_, rfl, rfl⟩
      · rw [if_neg q1]
        obtain ⟨c, hc31, rfl⟩ := nI_of q1
        have : 4 < c := Classical.byContradiction fun g => hc ⟨c, by omega, rfl⟩
        rw [if_pos (show (4 : Int32) < nI c from nI_lt this hc31)]
        exact ⟨_, rfl, rfl⟩
theorem RI_cong {n : Nat} {s9 s9' : Nat → Int32} {cs il ld : Int32} {up dn : Nat → Int64} (h : ∀ i, i < n → s9' (5 * i) = s9 (5 * i) ∧ s9' (5 * i + 1) = s9 (5 * i + 1) ∧ s9' (5 * i + 2) = s9 (5 * i + 2) ∧ s9' (5 * i + 3) = s9 (5 * i + 3)) (hR : RI n s9 cs il ld up dn) : RI n s9' cs il ld up dn := by
  rcases hR with g | ⟨c, g1, g2, g3⟩
  · exact Or.inl g
  · refine Or.inr ⟨c, g1, g2, cmpl_iff (fun x => ?_) g3⟩
    have e : ∀ i, i < n → rowOf s9' 0 0 i 0 = rowOf s9 0 0 i 0 ∧ rowOf s9' 0 0 i 1 = rowOf s9 0 0 i 1 := fun i hi => by
      obtain ⟨a, b, c, d⟩ := h i hi
      unfold rowOf en
      rw [Nat.add_zero, show 5 * i + 2 + 1 = 5 * i + 3 by omega, a, b, c, d]
      exact ⟨rfl, rfl⟩
    unfold inS
    refine and_congr Iff.rfl ⟨fun g i hi hb' => ?_, fun g i hi hb' => ?_⟩
    · rw [(e i hi).1, (e i hi).2]; exact g i hi hb'
    · rw [← (e i hi).1, ← (e i hi).2]; exact g i hi hb'
theorem ag_on {n : Nat} {sx sy sf st so s9 : Nat → Int32} {x1 x2 cs il ld : Int32} {up dn : Nat → Int64} (h : SR n sx sy sf st so s9) (hR : RI n s9 cs il ld up dn) : ∃ ans so' s9', f_X8_on (nI n) so x1 x2 = some (ans, so') ∧ f_X9_on 40 (nI n) s9 x1 x2 = some (ans, 0, s9') ∧ SR n sx sy sf st so' s9' ∧ RI n s9' cs il ld up dn := by
  have hn := h.1
  unfold f_X8_on f_X9_on
  rcases g_saying x1 hn with ⟨t1, t2, -⟩ | ⟨t1, t2, i, hi, rfl⟩
  · rw [t1, t2]; exact ⟨_, so, s9, rfl, rfl, h, hR⟩
  · obtain ⟨h1, h2, h3, h4, h5, h6, h7⟩ := h.2 i hi
    rw [t1, t2]
    simp only [Option.bind_some, if_neg one_ne]
    rcases g_bit x2 with ⟨t1, t2⟩ | ⟨t1, t2, t3⟩
    · rw [t1, t2]; exact ⟨_, so, s9, rfl, rfl, h, hR⟩
    · have ix : ((5 : Int32) * nI i) + (4 : Int32) = nI (5 * i + 4) := ix5 i 4
      rw [t1, t2]
      simp only [Option.bind_some, if_neg one_ne]
      rw [if_neg (nI_in (show i < 4 by omega) (by decide)), nI_clamp (by omega), if_neg (fun g => by
        rcases g with g | g
        · exact nI_pos (by omega) g
        · omega), ix, if_neg (nI_in (show 5 * i + 4 < 40 by omega) (by decide)), nI_clamp (by omega), if_neg (fun g => by
        rcases g with g | g
        · exact nI_pos (by omega) g
        · omega), ← h5]
      refine ⟨_, _, _, rfl, rfl, ⟨hn, fun j hj => ?_⟩, RI_cong (fun j hj => ⟨pk_un (by omega), pk_un (by omega), pk_un (by omega), pk_un (by omega)⟩) hR⟩
      obtain ⟨g1, g2, g3, g4, g5, g6, g7⟩ := h.2 j hj
      refine ⟨by rw [pk_un (by omega)]; exact g1, by rw [pk_un (by omega)]; exact g2, by rw [pk_un (by omega)]; exact g3, by rw [pk_un (by omega)]; exact g4, ?_, g6, ?_⟩
      · by_cases e : j = i
        · rw [e, va_up_self, pk_us]
        · rw [va_up_ne _ _ e, pk_un (by omega)]; exact g5
      · by_cases e : j = i
        · rw [e, va_up_self]; exact t3
        · rw [va_up_ne _ _ e]; exact g7

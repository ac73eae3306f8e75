def f_X0_findShare_L8 (K : Nat) (n_th_parts : Nat) (th_corners : Int32) (th_parts : Nat → Int64) (x1 : Int32) (x2 : Int32) (x3 : Int32) (s8 : Int32 × Int64 × Int64) : Option ((Int64 × Int64) ⊕ (Int32 × Int64 × Int64)) :=
  match s8 with
  | (x5, a4_upper, a4_lower) =>
    if th_corners ≤ x5 then
      some (.inl (a4_upper, a4_lower))
    else
      (f_X0_weight K n_th_parts th_parts x5 x2).bind fun z2_0 =>
      if (lg_cmp z2_0 (0 : Int64)) ≤ (0 : Int32) then
        some (.inr (x5 + 1, a4_upper, a4_lower))
      else
        (f_X0_weight K n_th_parts th_parts x5 (x1 &&& x2)).bind fun z4_0 =>
        (f_X1_improve a4_upper a4_lower z4_0 z2_0 x3).bind fun z5 => match z5 with
        | (z5_0, z5_1) =>
          some (.inr (x5 + 1, z5_0, z5_1))
def f_X0_findShare (K : Nat) (n_th_parts : Nat) (th_corners : Int32) (th_parts : Nat → Int64) (x1 : Int32) (x2 : Int32) (x3 : Int32) : Option (Int64 × Int64) :=
  (f_X1_forget).bind fun z6 => match z6 with
  | (z6_0, z6_1) =>
    (lp (f_X0_findShare_L8 K n_th_parts th_corners th_parts x1 x2 x3) K ((0 : Int32), z6_0, z6_1)).bind fun z7 => match z7 with
    | (z7_0, z7_1) =>
      some (z7_0, z7_1)
abbrev w_X0_findShare (tc : Nat → ClassId) (q_th : Nat) (q_th_parts : Nat) (q_th_limits : Nat) (q_th_overFrom : Nat) (q_th_underTo : Nat) (q_th_mixed : Nat) (q_th_cutBy : Nat) (q_a4 : Nat) (n_th_parts : Nat) (th_fromBit : Int32) (th_toBit : Int32) (th_room : Int32) (th_corners : Int32) (th_parts : Nat → Int64) (a4_upper : Int64) (a4_lower : Int64) : va_W := [(q_th, .inr (0, [.ref q_th_parts, .ref q_th_limits, .ref q_th_overFrom, .ref q_th_underTo, .ref q_th_mixed, .ref q_th_cutBy, .int th_fromBit, .int th_toBit, .int th_room, .int th_corners])), (q_th_parts, .inl (tc 1, n_th_parts, .inr (.inl th_parts))), (q_a4, .inr (1, [.long a4_upper, .long a4_lower]))]
set_option maxHeartbeats 4000000 in
set_option maxRecDepth 100000 in
theorem s_X0_findShare {l : Launch} {E : (Nat → Prop) → State → Prop} (hEok : st_Eok E) {D : va_G} {tc : Nat → ClassId} (q_th : Nat) (q_th_parts : Nat) (q_th_limits : Nat) (q_th_overFrom : Nat) (q_th_underTo : Nat) (q_th_mixed : Nat) (q_th_cutBy : Nat) (q_a4 : Nat) (n_th_parts : Nat) (th_fromBit : Int32) (th_toBit : Int32) (th_room : Int32) (th_corners : Int32) (th_parts : Nat → Int64) (a4_upper : Int64) (a4_lower : Int64) (x1 : Int32) (x2 : Int32) (x3 : Int32) (K : Nat) (a4_upper' : Int64) (a4_lower' : Int64) (h : f_X0_findShare K n_th_parts th_corners th_parts x1 x2 x3 = some (a4_upper', a4_lower')) : st l yX0_findShare wsX0_findShare ({ frames := 2, cells := 0, slots := 0, locals := 51 }) E D tc [.ref q_th, .int x1, .int x2, .int x3, .ref q_a4] (w_X0_findShare tc q_th q_th_parts q_th_limits q_th_overFrom q_th_underTo q_th_mixed q_th_cutBy q_a4 n_th_parts th_fromBit th_toBit th_room th_corners th_parts a4_upper a4_lower) none (w_X0_findShare tc q_th q_th_parts q_th_limits q_th_overFrom q_th_underTo q_th_mixed q_th_cutBy q_a4 n_th_parts th_fromBit th_toBit th_room th_corners th_parts a4_upper' a4_lower') := by
  refine st_enter (cc := cX0_findShare) (maxL := 8) (ret := none) (by decide) rfl (Nat.le_of_ble_eq_true rfl) ?_
  intro p e s m below meth c A ls hx hb hr hml hts hown hlocks hK hN hE hA hP hD hS hl
  have hl : lv_has ls 8 [(0, .ref q_th), (1, .int x1), (2, .int x2), (3, .int x3), (4, .ref q_a4)] := hl
  have hinX0 : ∀ w ∈ wsX00, w ∈ wsX0_findShare := by decide +kernel
  generalize hav : ([.ref q_th, .int x1, .int x2, .int x3, .ref q_a4] : List Value).toArray = av at hts ⊢
  have L8 : ∀ (x1 : Int32) (x2 : Int32) (x3 : Int32), ∀ (k : Nat) (s8 : Int32 × Int64 × Int64) (r : Int64 × Int64), lp (f_X0_findShare_L8 K n_th_parts th_corners th_parts x1 x2 x3) k s8 = some r → (fun y8 : Int64 × Int64 => match y8 with | (a4_upper, a4_lower) => ∀ (H : Heap) (locs : List Loc) (ls : Array Slot), va_P D vwCl (w_X0_findShare tc q_th q_th_parts q_th_limits q_th_overFrom q_th_underTo q_th_mixed q_th_cutBy q_a4 n_th_parts th_fromBit th_toBit th_room th_corners th_parts a4_upper a4_lower) H → va_D A (w_X0_findShare tc q_th q_th_parts q_th_limits q_th_overFrom q_th_underTo q_th_mixed q_th_cutBy q_a4 n_th_parts th_fromBit th_toBit th_room th_corners th_parts a4_upper a4_lower) → va_S A s.heap H locs → lv_has ls 8 [] → W p l e ({ frames := 2, cells := 0, slots := 0, locals := 51 } : Room) s m av below meth c H locs 0 0 (MQ below (st_Q D (w_X0_findShare tc q_th q_th_parts q_th_limits q_th_overFrom q_th_underTo q_th_mixed q_th_cutBy q_a4 n_th_parts th_fromBit th_toBit th_room th_corners th_parts a4_upper' a4_lower') none A) av s 0 0 A) (F0 m 56 ls [])) r → (fun s8 : Int32 × Int64 × Int64 => match s8 with | (x5, a4_upper, a4_lower) => ∀ (H : Heap) (locs : List Loc) (ls : Array Slot), va_P D vwCl (w_X0_findShare tc q_th q_th_parts q_th_limits q_th_overFrom q_th_underTo q_th_mixed q_th_cutBy q_a4 n_th_parts th_fromBit th_toBit th_room th_corners th_parts a4_upper a4_lower) H → va_D A (w_X0_findShare tc q_th q_th_parts q_th_limits q_th_overFrom q_th_underTo q_th_mixed q_th_cutBy q_a4 n_th_parts th_fromBit th_toBit th_room th_corners th_parts a4_upper a4_lower) → va_S A s.heap H locs → lv_has ls 8 [(0, .ref q_th), (1, .int x1), (2, .int x2), (3, .int x3), (4, .ref q_a4), (5, .int x5)] → W p l e ({ frames := 2, cells := 0, slots := 0, locals := 51 } : Room) s m av below meth c H locs 0 0 (MQ below (st_Q D (w_X0_findShare tc q_th q_th_parts q_th_limits q_th_overFrom q_th_underTo q_th_mixed q_th_cutBy q_a4 n_th_parts th_fromBit th_toBit th_room th_corners th_parts a4_upper' a4_lower') none A) av s 0 0 A) (F0 m 8 ls [])) s8 := by
    intro x1 x2 x3
    refine lp_W (f_X0_findShare_L8 K n_th_parts th_corners th_parts x1 x2 x3) (fun s8 : Int32 × Int64 × Int64 => match s8 with | (x5, a4_upper, a4_lower) => ∀ (H : Heap) (locs : List Loc) (ls : Array Slot), va_P D vwCl (w_X0_findShare tc q_th q_th_parts q_th_limits q_th_overFrom q_th_underTo q_th_mixed q_th_cutBy q_a4 n_th_parts th_fromBit th_toBit th_room th_corners th_parts a4_upper a4_lower) H → va_D A (w_X0_findShare tc q_th q_th_parts q_th_limits q_th_overFrom q_th_underTo q_th_mixed q_th_cutBy q_a4 n_th_parts th_fromBit th_toBit th_room th_corners th_parts a4_upper a4_lower) → va_S A s.heap H locs → lv_has ls 8 [(0, .ref q_th), (1, .int x1), (2, .int x2), (3, .int x3), (4, .ref q_a4), (5, .int x5)] → W p l e ({ frames := 2, cells := 0, slots := 0, locals := 51 } : Room) s m av below meth c H locs 0 0 (MQ below (st_Q D (w_X0_findShare tc q_th q_th_parts q_th_limits q_th_overFrom q_th_underTo q_th_mixed q_th_cutBy q_a4 n_th_parts th_fromBit th_toBit th_room th_corners th_parts a4_upper' a4_lower') none A) av s 0 0 A) (F0 m 8 ls [])) (fun y8 : Int64 × Int64 => match y8 with | (a4_upper, a4_lower) => ∀ (H : Heap) (locs : List Loc) (ls : Array Slot), va_P D vwCl (w_X0_findShare tc q_th q_th_parts q_th_limits q_th_overFrom q_th_underTo q_th_mixed q_th_cutBy q_a4 n_th_parts th_fromBit th_toBit th_room th_corners th_parts a4_upper a4_lower) H → va_D A (w_X0_findShare tc q_th q_th_parts q_th_limits q_th_overFrom q_th_underTo q_th_mixed q_th_cutBy q_a4 n_th_parts th_fromBit th_toBit th_room th_corners th_parts a4_upper a4_lower) → va_S A s.heap H locs → lv_has ls 8 [] → W p l e ({ frames := 2, cells := 0, slots := 0, locals := 51 } : Room) s m av below meth c H locs 0 0 (MQ below (st_Q D (w_X0_findShare tc q_th q_th_parts q_th_limits q_th_overFrom q_th_underTo q_th_mixed q_th_cutBy q_a4 n_th_parts th_fromBit th_toBit th_room th_corners th_parts a4_upper' a4_lower') none A) av s 0 0 A) (F0 m 56 ls [])) ?_
    rintro ⟨x5, a4_upper, a4_lower⟩ o h ih hz H locs ls hP hD hS hl
    unfold f_X0_findShare_L8 at h
    refine lv_iload hx hb dX0_findShare_8 (lv_at hl 5 rfl) ?_
    refine lv_aload_n hx hb dX0_findShare_10 rfl (lv_at hl 0 rfl) ?_
    refine va_get (D := D) (ci := 0) (v := .int th_corners) (C := RX0) (T := TX0) (N := 10) hx hb hts hinX0 hown hK hP 0 rfl rfl 9 (by decide) (hts (.fieldLink RX0 51 "ChanceBounds$Corners" "corners" "I") (by decide +kernel)) (fun _ h9 => h9) rfl dX0_findShare_11 ?_
    refine lv_icmp_ge (tgt := 56) hx hb dX0_findShare_14 (by decide) (fun c1 => ?_) (fun c1 => ?_)
    · replace h := ifp c1 h
      cases h
      exact hz _ rfl _ _ _ hP hD hS (lv_sub hl [] rfl)
    · replace h := ifn c1 h
      refine lv_aload_n hx hb dX0_findShare_17 rfl (lv_at hl 0 rfl) ?_
      refine lv_iload hx hb dX0_findShare_18 (lv_at hl 5 rfl) ?_
      refine lv_iload_n hx hb dX0_findShare_20 rfl (lv_at hl 2 rfl) ?_
      obtain ⟨z2_0, hc2, h⟩ := bd_ok h
      refine st_callV (As := [.int x5, .int x2]) (rest := []) (pos := [0, 1]) ⟨hx, hb, hml, hown, hts⟩ (s_X0_weight (l := l) (D := D) (tc := tc) hEok q_th q_th_parts q_th_limits q_th_overFrom q_th_underTo q_th_mixed q_th_cutBy n_th_parts th_fromBit th_toBit th_room th_corners th_parts x5 x2 K z2_0 hc2) (cwV 2 hts gX0_findShare_X0_weight rfl rfl rfl (by decide +kernel) ⟨Nat.le_of_ble_eq_true rfl, Nat.le_of_ble_eq_true rfl⟩) (st_recv (ci := 0) (q0 := 0) hK hP rfl rfl) hEok hE hK hN hP hD hS hA rfl rfl rfl rfl hl.1 rfl (Nat.le_of_ble_eq_true rfl) dX0_findShare_21 ⟨Nat.zero_le _, Nat.zero_le _⟩ (fun H locs hP hD hS => ?_)
      have hP : va_P D vwCl (w_X0_findShare tc q_th q_th_parts q_th_limits q_th_overFrom q_th_underTo q_th_mixed q_th_cutBy q_a4 n_th_parts th_fromBit th_toBit th_room th_corners th_parts a4_upper a4_lower) H := hP
      have hD : va_D A (w_X0_findShare tc q_th q_th_parts q_th_limits q_th_overFrom q_th_underTo q_th_mixed q_th_cutBy q_a4 n_th_parts th_fromBit th_toBit th_room th_corners th_parts a4_upper a4_lower) := hD
      refine lv_lstore (lv' := [(6, .long z2_0), (0, .ref q_th), (1, .int x1), (2, .int x2), (3, .int x3), (4, .ref q_a4), (5, .int x5)]) hx hb dX0_findShare_24 hl (by decide) rfl (fun ls hl => ?_)
      refine lv_lload hx hb dX0_findShare_26 (lv_at hl 0 rfl) ?_
      refine lv_lconst (v := (0 : Int64)) hx hb dX0_findShare_28 (by decide) ?_
      refine W.lcmp hx hb dX0_findShare_29 ?_
      refine lv_if_le (tgt := 50) hx hb dX0_findShare_30 (by decide) (fun c3 => ?_) (fun c3 => ?_)
      · replace h := ifp c3 h
        refine lv_iinc (v := x5 + 1) (lv' := [(5, .int (x5 + 1)), (6, .long z2_0), (0, .ref q_th), (1, .int x1), (2, .int x2), (3, .int x3), (4, .ref q_a4)]) hx hb dX0_findShare_50 hl (k := 6) rfl rfl (by decide) rfl (fun ls hl => ?_)
        refine lv_goto (tgt := 8) hx hb dX0_findShare_53 (by decide) ?_
        cases h
        exact ih _ rfl _ _ _ hP hD hS (lv_sub hl [2, 3, 4, 5, 6, 0] rfl)
      · replace h := ifn c3 h
        refine lv_aload hx hb dX0_findShare_33 (lv_at hl 5 rfl) ?_
        refine lv_aload_n hx hb dX0_findShare_35 rfl (lv_at hl 1 rfl) ?_
        refine lv_iload hx hb dX0_findShare_36 (lv_at hl 6 rfl) ?_
        refine lv_iload_n hx hb dX0_findShare_38 rfl (lv_at hl 2 rfl) ?_
        refine lv_iload_n hx hb dX0_findShare_39 rfl (lv_at hl 3 rfl) ?_
        refine lv_iand hx hb dX0_findShare_40 ?_
        obtain ⟨z4_0, hc4, h⟩ := bd_ok h
        refine st_callV (As := [.int x5, .int (x1 &&& x2)]) (rest := [.ref q_a4]) (pos := [0, 1]) ⟨hx, hb, hml, hown, hts⟩ (s_X0_weight (l := l) (D := D) (tc := tc) hEok q_th q_th_parts q_th_limits q_th_overFrom q_th_underTo q_th_mixed q_th_cutBy n_th_parts th_fromBit th_toBit th_room th_corners th_parts x5 (x1 &&& x2) K z4_0 hc4) (cwV 2 hts gX0_findShare_X0_weight rfl rfl rfl (by decide +kernel) ⟨Nat.le_of_ble_eq_true rfl, Nat.le_of_ble_eq_true rfl⟩) (st_recv (ci := 0) (q0 := 0) hK hP rfl rfl) hEok hE hK hN hP hD hS hA rfl rfl rfl rfl hl.1 rfl (Nat.le_of_ble_eq_true rfl) dX0_findShare_41 ⟨Nat.zero_le _, Nat.zero_le _⟩ (fun H locs hP hD hS => ?_)
        have hP : va_P D vwCl (w_X0_findShare tc q_th q_th_parts q_th_limits q_th_overFrom q_th_underTo q_th_mixed q_th_cutBy q_a4 n_th_parts th_fromBit th_toBit th_room th_corners th_parts a4_upper a4_lower) H := hP
        have hD : va_D A (w_X0_findShare tc q_th q_th_parts q_th_limits q_th_overFrom q_th_underTo q_th_mixed q_th_cutBy q_a4 n_th_parts th_fromBit th_toBit th_room th_corners th_parts a4_upper a4_lower) := hD
        refine lv_lload hx hb dX0_findShare_44 (lv_at hl 0 rfl) ?_
        refine lv_iload_n hx hb dX0_findShare_46 rfl (lv_at hl 4 rfl) ?_
        obtain ⟨⟨z5_0, z5_1⟩, hc5, h⟩ := bd_ok h
        refine st_callV (As := [.long z4_0, .long z2_0, .int x3]) (rest := []) (pos := [2]) ⟨hx, hb, hml, hown, hts⟩ (s_X1_improve (l := l) (D := D) (tc := tc) hEok q_a4 a4_upper a4_lower z4_0 z2_0 x3 z5_0 z5_1 hc5) (cwV 3 hts gX0_findShare_X1_improve rfl rfl rfl (by decide +kernel) ⟨Nat.le_of_ble_eq_true rfl, Nat.le_of_ble_eq_true rfl⟩) (st_recv (ci := 1) (q0 := 2) hK hP rfl rfl) hEok hE hK hN hP hD hS hA rfl rfl rfl rfl hl.1 rfl (Nat.le_of_ble_eq_true rfl) dX0_findShare_47 ⟨Nat.zero_le _, Nat.zero_le _⟩ (fun H locs hP hD hS => ?_)
        have hP : va_P D vwCl (w_X0_findShare tc q_th q_th_parts q_th_limits q_th_overFrom q_th_underTo q_th_mixed q_th_cutBy q_a4 n_th_parts th_fromBit th_toBit th_room th_corners th_parts z5_0 z5_1) H := hP
        have hD : va_D A (w_X0_findShare tc q_th q_th_parts q_th_limits q_th_overFrom q_th_underTo q_th_mixed q_th_cutBy q_a4 n_th_parts th_fromBit th_toBit th_room th_corners th_parts z5_0 z5_1) := hD
        refine lv_iinc (v := x5 + 1) (lv' := [(5, .int (x5 + 1)), (6, .long z2_0), (0, .ref q_th), (1, .int x1), (2, .int x2), (3, .int x3), (4, .ref q_a4)]) hx hb dX0_findShare_50 hl (k := 6) rfl rfl (by decide) rfl (fun ls hl => ?_)
        refine lv_goto (tgt := 8) hx hb dX0_findShare_53 (by decide) ?_
        cases h
        exact ih _ rfl _ _ _ hP hD hS (lv_sub hl [2, 3, 4, 5, 6, 0] rfl)
  unfold f_X0_findShare at h
  refine lv_aload hx hb dX0_findShare_0 (lv_at hl 4 rfl) ?_
  obtain ⟨⟨z6_0, z6_1⟩, hc6, h⟩ := bd_ok h
  refine st_callV (As := []) (rest := []) (pos := [2]) ⟨hx, hb, hml, hown, hts⟩ (s_X1_forget (l := l) (D := D) (tc := tc) hEok q_a4 a4_upper a4_lower z6_0 z6_1 hc6) (cwV 0 hts gX0_findShare_X1_forget rfl rfl rfl (by decide +kernel) ⟨Nat.le_of_ble_eq_true rfl, Nat.le_of_ble_eq_true rfl⟩) (st_recv (ci := 1) (q0 := 2) hK hP rfl rfl) hEok hE hK hN hP hD hS hA rfl rfl rfl rfl hl.1 rfl (Nat.le_of_ble_eq_true rfl) dX0_findShare_2 ⟨Nat.zero_le _, Nat.zero_le _⟩ (fun H locs hP hD hS => ?_)
  have hP : va_P D vwCl (w_X0_findShare tc q_th q_th_parts q_th_limits q_th_overFrom q_th_underTo q_th_mixed q_th_cutBy q_a4 n_th_parts th_fromBit th_toBit th_room th_corners th_parts z6_0 z6_1) H := hP
  have hD : va_D A (w_X0_findShare tc q_th q_th_parts q_th_limits q_th_overFrom q_th_underTo q_th_mixed q_th_cutBy q_a4 n_th_parts th_fromBit th_toBit th_room th_corners th_parts z6_0 z6_1) := hD
  refine lv_iconst (v := (0 : Int32)) hx hb dX0_findShare_5 (by decide) ?_
  refine lv_istore (lv' := [(5, .int (0 : Int32)), (0, .ref q_th), (1, .int x1), (2, .int x2), (3, .int x3), (4, .ref q_a4)]) hx hb dX0_findShare_6 hl (by decide) rfl (fun ls hl => ?_)
  obtain ⟨⟨z7_0, z7_1⟩, hl7, h⟩ := bd_ok h
  refine L8 x1 x2 x3 K _ _ hl7 ?_ _ _ _ hP hD hS (lv_sub hl [1, 2, 3, 4, 5, 0] rfl)
  intro H locs ls hP hD hS hl
  cases h
  exact st_vret hx hb hr hlocks hP hD hS dX0_findShare_56
def f_X0_findDifference_L8 (K : Nat) (n_th_parts : Nat) (th_corners : Int32) (th_parts : Nat → Int64) (x1 : Int32) (x2 : Int32) (x3 : Int32) (s8 : Int32 × Int64 × Int64) : Option ((Int64 × Int64) ⊕ (Int32 × Int64 × Int64)) :=
  match s8 with
  | (x5, a4_upper, a4_lower) =>
    if th_corners ≤ x5 then
      some (.inl (a4_upper, a4_lower))
    else
      (f_X0_weight K n_th_parts th_parts x5 x1).bind fun z2_0 =>
      (f_X0_weight K n_th_parts th_parts x5 x2).bind fun z3_0 =>
      (f_X0_weight K n_th_parts th_parts x5 (255 : Int32)).bind fun z4_0 =>
      (f_X1_improve a4_upper a4_lower (z2_0 - z3_0) z4_0 x3).bind fun z5 => match z5 with
      | (z5_0, z5_1) =>
        some (.inr (x5 + 1, z5_0, z5_1))
def f_X0_findDifference (K : Nat) (n_th_parts : Nat) (th_corners : Int32) (th_parts : Nat → Int64) (x1 : Int32) (x2 : Int32) (x3 : Int32) : Option (Int64 × Int64) :=
  (f_X1_forget).bind fun z6 => match z6 with
  | (z6_0, z6_1) =>
    (lp (f_X0_findDifference_L8 K n_th_parts th_corners th_parts x1 x2 x3) K ((0 : Int32), z6_0, z6_1)).bind fun z7 => match z7 with
    | (z7_0, z7_1) =>
      some (z7_0, z7_1)
abbrev w_X0_findDifference (tc : Nat → ClassId) (q_th : Nat) (q_th_parts : Nat) (q_th_limits : Nat) (q_th_overFrom : Nat) (q_th_underTo : Nat) (q_th_mixed : Nat) (q_th_cutBy : Nat) (q_a4 : Nat) (n_th_parts : Nat) (th_fromBit : Int32) (th_toBit : Int32) (th_room : Int32) (th_corners : Int32) (th_parts : Nat → Int64) (a4_upper : Int64) (a4_lower : Int64) : va_W := [(q_th, .inr (0, [.ref q_th_parts, .ref q_th_limits, .ref q_th_overFrom, .ref q_th_underTo, .ref q_th_mixed, .ref q_th_cutBy, .int th_fromBit, .int th_toBit, .int th_room, .int th_corners])), (q_th_parts, .inl (tc 1, n_th_parts, .inr (.inl th_parts))), (q_a4, .inr (1, [.long a4_upper, .long a4_lower]))]
set_option maxHeartbeats 4000000 in
set_option maxRecDepth 100000 in
theorem s_X0_findDifference {l : Launch} {E : (Nat → Prop) → State → Prop} (hEok : st_Eok E) {D : va_G} {tc : Nat → ClassId} (q_th : Nat) (q_th_parts : Nat) (q_th_limits : Nat) (q_th_overFrom : Nat) (q_th_underTo : Nat) (q_th_mixed : Nat) (q_th_cutBy : Nat) (q_a4 : Nat) (n_th_parts : Nat) (th_fromBit : Int32) (th_toBit : Int32) (th_room : Int32) (th_corners : Int32) (th_parts : Nat → Int64) (a4_upper : Int64) (a4_lower : Int64) (x1 : Int32) (x2 : Int32) (x3 : Int32) (K : Nat) (a4_upper' : Int64) (a4_lower' : Int64) (h : f_X0_findDifference K n_th_parts th_corners th_parts x1 x2 x3 = some (a4_upper', a4_lower')) : st l yX0_findDifference wsX0_findDifference ({ frames := 2, cells := 0, slots := 0, locals := 51 }) E D tc [.ref q_th, .int x1, .int x2, .int x3, .ref q_a4] (w_X0_findDifference tc q_th q_th_parts q_th_limits q_th_overFrom q_th_underTo q_th_mixed q_th_cutBy q_a4 n_th_parts th_fromBit th_toBit th_room th_corners th_parts a4_upper a4_lower) none (w_X0_findDifference tc q_th q_th_parts q_th_limits q_th_overFrom q_th_underTo q_th_mixed q_th_cutBy q_a4 n_th_parts th_fromBit th_toBit th_room th_corners th_parts a4_upper' a4_lower') := by
  refine st_enter (cc := cX0_findDifference) (maxL := 8) (ret := none) (by decide) rfl (Nat.le_of_ble_eq_true rfl) ?_
  intro p e s m below meth c A ls hx hb hr hml hts hown hlocks hK hN hE hA hP hD hS hl
  have hl : lv_has ls 8 [(0, .ref q_th), (1, .int x1), (2, .int x2), (3, .int x3), (4, .ref q_a4)] := hl
  have hinX0 : ∀ w ∈ wsX00, w ∈ wsX0_findDifference := by decide +kernel
  generalize hav : ([.ref q_th, .int x1, .int x2, .int x3, .ref q_a4] : List Value).toArray = av at hts ⊢
  have L8 : ∀ (x1 : Int32) (x2 : Int32) (x3 : Int32), ∀ (k : Nat) (s8 : Int32 × Int64 × Int64) (r : Int64 × Int64), lp (f_X0_findDifference_L8 K n_th_parts th_corners th_parts x1 x2 x3) k s8 = some r → (fun y8 : Int64 × Int64 => match y8 with | (a4_upper, a4_lower) => ∀ (H : Heap) (locs : List Loc) (ls : Array Slot), va_P D vwCl (w_X0_findDifference tc q_th q_th_parts q_th_limits q_th_overFrom q_th_underTo q_th_mixed q_th_cutBy q_a4 n_th_parts th_fromBit th_toBit th_room th_corners th_parts a4_upper a4_lower) H → va_D A (w_X0_findDifference tc q_th q_th_parts q_th_limits q_th_overFrom q_th_underTo q_th_mixed q_th_cutBy q_a4 n_th_parts th_fromBit th_toBit th_room th_corners th_parts a4_upper a4_lower) → va_S A s.heap H locs → lv_has ls 8 [] → W p l e ({ frames := 2, cells := 0, slots := 0, locals := 51 } : Room) s m av below meth c H locs 0 0 (MQ below (st_Q D (w_X0_findDifference tc q_th q_th_parts q_th_limits q_th_overFrom q_th_underTo q_th_mixed q_th_cutBy q_a4 n_th_parts th_fromBit th_toBit th_room th_corners th_parts a4_upper' a4_lower') none A) av s 0 0 A) (F0 m 57 ls [])) r → (fun s8 : Int32 × Int64 × Int64 => match s8 with | (x5, a4_upper, a4_lower) => ∀ (H : Heap) (locs : List Loc) (ls : Array Slot), va_P D vwCl (w_X0_findDifference tc q_th q_th_parts q_th_limits q_th_overFrom q_th_underTo q_th_mixed q_th_cutBy q_a4 n_th_parts th_fromBit th_toBit th_room th_corners th_parts a4_upper a4_lower) H → va_D A (w_X0_findDifference tc q_th q_th_parts q_th_limits q_th_overFrom q_th_underTo q_th_mixed q_th_cutBy q_a4 n_th_parts th_fromBit th_toBit th_room th_corners th_parts a4_upper a4_lower) → va_S A s.heap H locs → lv_has ls 8 [(0, .ref q_th), (1, .int x1), (2, .int x2), (3, .int x3), (4, .ref q_a4), (5, .int x5)] → W p l e ({ frames := 2, cells := 0, slots := 0, locals := 51 } : Room) s m av below meth c H locs 0 0 (MQ below (st_Q D (w_X0_findDifference tc q_th q_th_parts q_th_limits q_th_overFrom q_th_underTo q_th_mixed q_th_cutBy q_a4 n_th_parts th_fromBit th_toBit th_room th_corners th_parts a4_upper' a4_lower') none A) av s 0 0 A) (F0 m 8 ls [])) s8 := by
    intro x1 x2 x3
    refine lp_W (f_X0_findDifference_L8 K n_th_parts th_corners th_parts x1 x2 x3) (fun s8 : Int32 × Int64 × Int64 => match s8 with | (x5, a4_upper, a4_lower) => ∀ (H : Heap) (locs : List Loc) (ls : Array Slot), va_P D vwCl (w_X0_findDifference tc q_th q_th_parts q_th_limits q_th_overFrom q_th_underTo q_th_mixed q_th_cutBy q_a4 n_th_parts th_fromBit th_toBit th_room th_corners th_parts a4_upper a4_lower) H → va_D A (w_X0_findDifference tc q_th q_th_parts q_th_limits q_th_overFrom q_th_underTo q_th_mixed q_th_cutBy q_a4 n_th_parts th_fromBit th_toBit th_room th_corners th_parts a4_upper a4_lower) → va_S A s.heap H locs → lv_has ls 8 [(0, .ref q_th), (1, .int x1), (2, .int x2), (3, .int x3), (4, .ref q_a4), (5, .int x5)] → W p l e ({ frames := 2, cells := 0, slots := 0, locals := 51 } : Room) s m av below meth c H locs 0 0 (MQ below (st_Q D (w_X0_findDifference tc q_th q_th_parts q_th_limits q_th_overFrom q_th_underTo q_th_mixed q_th_cutBy q_a4 n_th_parts th_fromBit th_toBit th_room th_corners th_parts a4_upper' a4_lower') none A) av s 0 0 A) (F0 m 8 ls [])) (fun y8 : Int64 × Int64 => match y8 with | (a4_upper, a4_lower) => ∀ (H : Heap) (locs : List Loc) (ls : Array Slot), va_P D vwCl (w_X0_findDifference tc q_th q_th_parts q_th_limits q_th_overFrom q_th_underTo q_th_mixed q_th_cutBy q_a4 n_th_parts th_fromBit th_toBit th_room th_corners th_parts a4_upper a4_lower) H → va_D A (w_X0_findDifference tc q_th q_th_parts q_th_limits q_th_overFrom q_th_underTo q_th_mixed q_th_cutBy q_a4 n_th_parts th_fromBit th_toBit th_room th_corners th_parts a4_upper a4_lower) → va_S A s.heap H locs → lv_has ls 8 [] → W p l e ({ frames := 2, cells := 0, slots := 0, locals := 51 } : Room) s m av below meth c H locs 0 0 (MQ below (st_Q D (w_X0_findDifference tc q_th q_th_parts q_th_limits q_th_overFrom q_th_underTo q_th_mixed q_th_cutBy q_a4 n_th_parts th_fromBit th_toBit th_room th_corners th_parts a4_upper' a4_lower') none A) av s 0 0 A) (F0 m 57 ls [])) ?_
    rintro ⟨x5, a4_upper, a4_lower⟩ o h ih hz H locs ls hP hD hS hl
    unfold f_X0_findDifference_L8 at h
    refine lv_iload hx hb dX0_findDifference_8 (lv_at hl 5 rfl) ?_
    refine lv_aload_n hx hb dX0_findDifference_10 rfl (lv_at hl 0 rfl) ?_
    refine va_get (D := D) (ci := 0) (v := .int th_corners) (C := RX0) (T := TX0) (N := 10) hx hb hts hinX0 hown hK hP 0 rfl rfl 9 (by decide) (hts (.fieldLink RX0 51 "ChanceBounds$Corners" "corners" "I") (by decide +kernel)) (fun _ h9 => h9) rfl dX0_findDifference_11 ?_
    refine lv_icmp_ge (tgt := 57) hx hb dX0_findDifference_14 (by decide) (fun c1 => ?_) (fun c1 => ?_)
    · replace h := ifp c1 h
      cases h
      exact hz _ rfl _ _ _ hP hD hS (lv_sub hl [] rfl)
    · replace h := ifn c1 h
      refine lv_aload_n hx hb dX0_findDifference_17 rfl (lv_at hl 0 rfl) ?_
      refine lv_iload hx hb dX0_findDifference_18 (lv_at hl 5 rfl) ?_
      refine lv_iload_n hx hb dX0_findDifference_20 rfl (lv_at hl 1 rfl) ?_
      obtain ⟨z2_0, hc2, h⟩ := bd_ok h
      refine st_callV (As := [.int x5, .int x1]) (rest := []) (pos := [0, 1]) ⟨hx, hb, hml, hown, hts⟩ (s_X0_weight (l := l) (D := D) (tc := tc) hEok q_th q_th_parts q_th_limits q_th_overFrom q_th_underTo q_th_mixed q_th_cutBy n_th_parts th_fromBit th_toBit th_room th_corners th_parts x5 x1 K z2_0 hc2) (cwV 2 hts gX0_findDifference_X0_weight rfl rfl rfl (by decide +kernel) ⟨Nat.le_of_ble_eq_true rfl, Nat.le_of_ble_eq_true rfl⟩) (st_recv (ci := 0) (q0 := 0) hK hP rfl rfl) hEok hE hK hN hP hD hS hA rfl rfl rfl rfl hl.1 rfl (Nat.le_of_ble_eq_true rfl) dX0_findDifference_21 ⟨Nat.zero_le _, Nat.zero_le _⟩ (fun H locs hP hD hS => ?_)
      have hP : va_P D vwCl (w_X0_findDifference tc q_th q_th_parts q_th_limits q_th_overFrom q_th_underTo q_th_mixed q_th_cutBy q_a4 n_th_parts th_fromBit th_toBit th_room th_corners th_parts a4_upper a4_lower) H := hP
      have hD : va_D A (w_X0_findDifference tc q_th q_th_parts q_th_limits q_th_overFrom q_th_underTo q_th_mixed q_th_cutBy q_a4 n_th_parts th_fromBit th_toBit th_room th_corners th_parts a4_upper a4_lower) := hD
      refine lv_aload_n hx hb dX0_findDifference_24 rfl (lv_at hl 0 rfl) ?_
      refine lv_iload hx hb dX0_findDifference_25 (lv_at hl 5 rfl) ?_
      refine lv_iload_n hx hb dX0_findDifference_27 rfl (lv_at hl 2 rfl) ?_
      obtain ⟨z3_0, hc3, h⟩ := bd_ok h
      refine st_callV (As := [.int x5, .int x2]) (rest := [.long z2_0]) (pos := [0, 1]) ⟨hx, hb, hml, hown, hts⟩ (s_X0_weight (l := l) (D := D) (tc := tc) hEok q_th q_th_parts q_th_limits q_th_overFrom q_th_underTo q_th_mixed q_th_cutBy n_th_parts th_fromBit th_toBit th_room th_corners th_parts x5 x2 K z3_0 hc3) (cwV 2 hts gX0_findDifference_X0_weight rfl rfl rfl (by decide +kernel) ⟨Nat.le_of_ble_eq_true rfl, Nat.le_of_ble_eq_true rfl⟩) (st_recv (ci := 0) (q0 := 0) hK hP rfl rfl) hEok hE hK hN hP hD hS hA rfl rfl rfl rfl hl.1 rfl (Nat.le_of_ble_eq_true rfl) dX0_findDifference_28 ⟨Nat.zero_le _, Nat.zero_le _⟩ (fun H locs hP hD hS => ?_)
      have hP : va_P D vwCl (w_X0_findDifference tc q_th q_th_parts q_th_limits q_th_overFrom q_th_underTo q_th_mixed q_th_cutBy q_a4 n_th_parts th_fromBit th_toBit th_room th_corners th_parts a4_upper a4_lower) H := hP
      have hD : va_D A (w_X0_findDifference tc q_th q_th_parts q_th_limits q_th_overFrom q_th_underTo q_th_mixed q_th_cutBy q_a4 n_th_parts th_fromBit th_toBit th_room th_corners th_parts a4_upper a4_lower) := hD
      refine lv_lsub hx hb dX0_findDifference_31 ?_
      refine lv_lstore (lv' := [(6, .long (z2_0 - z3_0)), (0, .ref q_th), (1, .int x1), (2, .int x2), (3, .int x3), (4, .ref q_a4), (5, .int x5)]) hx hb dX0_findDifference_32 hl (by decide) rfl (fun ls hl => ?_)
      refine lv_aload hx hb dX0_findDifference_34 (lv_at hl 5 rfl) ?_
      refine lv_lload hx hb dX0_findDifference_36 (lv_at hl 0 rfl) ?_
      refine lv_aload_n hx hb dX0_findDifference_38 rfl (lv_at hl 1 rfl) ?_
      refine lv_iload hx hb dX0_findDifference_39 (lv_at hl 6 rfl) ?_
      refine lv_sipush (v := (255 : Int32)) hx hb dX0_findDifference_41 (by decide) ?_
      obtain ⟨z4_0, hc4, h⟩ := bd_ok h
      refine st_callV (As := [.int x5, .int (255 : Int32)]) (rest := [.long (z2_0 - z3_0), .ref q_a4]) (pos := [0, 1]) ⟨hx, hb, hml, hown, hts⟩ (s_X0_weight (l := l) (D := D) (tc := tc) hEok q_th q_th_parts q_th_limits q_th_overFrom q_th_underTo q_th_mixed q_th_cutBy n_th_parts th_fromBit th_toBit th_room th_corners th_parts x5 (255 : Int32) K z4_0 hc4) (cwV 2 hts gX0_findDifference_X0_weight rfl rfl rfl (by decide +kernel) ⟨Nat.le_of_ble_eq_true rfl, Nat.le_of_ble_eq_true rfl⟩) (st_recv (ci := 0) (q0 := 0) hK hP rfl rfl) hEok hE hK hN hP hD hS hA rfl rfl rfl rfl hl.1 rfl (Nat.le_of_ble_eq_true rfl) dX0_findDifference_44 ⟨Nat.zero_le _, Nat.zero_le _⟩ (fun H locs hP hD hS => ?_)
      have hP : va_P D vwCl (w_X0_findDifference tc q_th q_th_parts q_th_limits q_th_overFrom q_th_underTo q_th_mixed q_th_cutBy q_a4 n_th_parts th_fromBit th_toBit th_room th_corners th_parts a4_upper a4_lower) H := hP
      have hD : va_D A (w_X0_findDifference tc q_th q_th_parts q_th_limits q_th_overFrom q_th_underTo q_th_mixed q_th_cutBy q_a4 n_th_parts th_fromBit th_toBit th_room th_corners th_parts a4_upper a4_lower) := hD
      refine lv_iload_n hx hb dX0_findDifference_47 rfl (lv_at hl 4 rfl) ?_
      obtain ⟨⟨z5_0, z5_1⟩, hc5, h⟩ := bd_ok h
      refine st_callV (As := [.long (z2_0 - z3_0), .long z4_0, .int x3]) (rest := []) (pos := [2]) ⟨hx, hb, hml, hown, hts⟩ (s_X1_improve (l := l) (D := D) (tc := tc) hEok q_a4 a4_upper a4_lower (z2_0 - z3_0) z4_0 x3 z5_0 z5_1 hc5) (cwV 3 hts gX0_findDifference_X1_improve rfl rfl rfl (by decide +kernel) ⟨Nat.le_of_ble_eq_true rfl, Nat.le_of_ble_eq_true rfl⟩) (st_recv (ci := 1) (q0 := 2) hK hP rfl rfl) hEok hE hK hN hP hD hS hA rfl rfl rfl rfl hl.1 rfl (Nat.le_of_ble_eq_true rfl) dX0_findDifference_48 ⟨Nat.zero_le _, Nat.zero_le _⟩ (fun H locs hP hD hS => ?_)
      have hP : va_P D vwCl (w_X0_findDifference tc q_th q_th_parts q_th_limits q_th_overFrom q_th_underTo q_th_mixed q_th_cutBy q_a4 n_th_parts th_fromBit th_toBit th_room th_corners th_parts z5_0 z5_1) H := hP
      have hD : va_D A (w_X0_findDifference tc q_th q_th_parts q_th_limits q_th_overFrom q_th_underTo q_th_mixed q_th_cutBy q_a4 n_th_parts th_fromBit th_toBit th_room th_corners th_parts z5_0 z5_1) := hD
      refine lv_iinc (v := x5 + 1) (lv' := [(5, .int (x5 + 1)), (6, .long (z2_0 - z3_0)), (0, .ref q_th), (1, .int x1), (2, .int x2), (3, .int x3), (4, .ref q_a4)]) hx hb dX0_findDifference_51 hl (k := 6) rfl rfl (by decide) rfl (fun ls hl => ?_)
      refine lv_goto (tgt := 8) hx hb dX0_findDifference_54 (by decide) ?_
      cases h
      exact ih _ rfl _ _ _ hP hD hS (lv_sub hl [2, 3, 4, 5, 6, 0] rfl)
  unfold f_X0_findDifference at h
  refine lv_aload hx hb dX0_findDifference_0 (lv_at hl 4 rfl) ?_
  obtain ⟨⟨z6_0, z6_1⟩, hc6, h⟩ := bd_ok h
  refine st_callV (As := []) (rest := []) (pos := [2]) ⟨hx, hb, hml, hown, hts⟩ (s_X1_forget (l := l) (D := D) (tc := tc) hEok q_a4 a4_upper a4_lower z6_0 z6_1 hc6) (cwV 0 hts gX0_findDifference_X1_forget rfl rfl rfl (by decide +kernel) ⟨Nat.le_of_ble_eq_true rfl, Nat.le_of_ble_eq_true rfl⟩) (st_recv (ci := 1) (q0 := 2) hK hP rfl rfl) hEok hE hK hN hP hD hS hA rfl rfl rfl rfl hl.1 rfl (Nat.le_of_ble_eq_true rfl) dX0_findDifference_2 ⟨Nat.zero_le _, Nat.zero_le _⟩ (fun H locs hP hD hS => ?_)
  have hP : va_P D vwCl (w_X0_findDifference tc q_th q_th_parts q_th_limits q_th_overFrom q_th_underTo q_th_mixed q_th_cutBy q_a4 n_th_parts th_fromBit th_toBit th_room th_corners th_parts z6_0 z6_1) H := hP
  have hD : va_D A (w_X0_findDifference tc q_th q_th_parts q_th_limits q_th_overFrom q_th_underTo q_th_mixed q_th_cutBy q_a4 n_th_parts th_fromBit th_toBit th_room th_corners th_parts z6_0 z6_1) := hD
  refine lv_iconst (v := (0 : Int32)) hx hb dX0_findDifference_5 (by decide) ?_
  refine lv_istore (lv' := [(5, .int (0 : Int32)), (0, .ref q_th), (1, .int x1), (2, .int x2), (3, .int x3), (4, .ref q_a4)]) hx hb dX0_findDifference_6 hl (by decide) rfl (fun ls hl => ?_)
  obtain ⟨⟨z7_0, z7_1⟩, hl7, h⟩ := bd_ok h
  refine L8 x1 x2 x3 K _ _ hl7 ?_ _ _ _ hP hD hS (lv_sub hl [1, 2, 3, 4, 5, 0] rfl)
  intro H locs ls hP hD hS hl
  cases h
  exact st_vret hx hb hr hlocks hP hD hS dX0_findDifference_57
def f_X0_isAhead_L22 (n_th_parts : Nat) (th_parts : Nat → Int64) (x1 : Int32) (x2 : Int32) (x3 : Int64) (x5 : Int64) (s22 : Int32) : Option (((Int32) ⊕ (Unit)) ⊕ (Int32)) :=
  (fun x7 => 
    if (8 : Int32) ≤ x7 then
      some (.inl (.inr ()))
    else
      if (((8 : Int32) * x1) + x7) < 0 ∨ n_th_parts ≤ (((8 : Int32) * x1) + x7).toNatClampNeg then none else
      if (((8 : Int32) * x2) + x7) < 0 ∨ n_th_parts ≤ (((8 : Int32) * x2) + x7).toNatClampNeg then none else
      if (lg_cmp ((th_parts (((8 : Int32) * x1) + x7).toNatClampNeg) * x5) ((th_parts (((8 : Int32) * x2) + x7).toNatClampNeg) * x3)) = (0 : Int32) then
        some (.inr (x7 + 1))
      else
        if (0 : Int32) ≤ (lg_cmp ((th_parts (((8 : Int32) * x1) + x7).toNatClampNeg) * x5) ((th_parts (((8 : Int32) * x2) + x7).toNatClampNeg) * x3)) then
          some (.inl (.inl (0 : Int32)))
        else
          some (.inl (.inl (1 : Int32)))
  ) s22
def f_X0_isAhead (K : Nat) (n_th_parts : Nat) (th_parts : Nat → Int64) (x1 : Int32) (x2 : Int32) : Option (Int32) :=
  (f_X0_weight K n_th_parts th_parts x1 (255 : Int32)).bind fun z6_0 =>
  (f_X0_weight K n_th_parts th_parts x2 (255 : Int32)).bind fun z7_0 =>
  (lp (f_X0_isAhead_L22 n_th_parts th_parts x1 x2 z6_0 z7_0) K (0 : Int32)).bind fun z8 => match z8 with
  | .inl r => some r
  | .inr _ =>
    some (0 : Int32)
abbrev w_X0_isAhead (tc : Nat → ClassId) (q_th : Nat) (q_th_parts : Nat) (q_th_limits : Nat) (q_th_overFrom : Nat) (q_th_underTo : Nat) (q_th_mixed : Nat) (q_th_cutBy : Nat) (n_th_parts : Nat) (th_fromBit : Int32) (th_toBit : Int32) (th_room : Int32) (th_corners : Int32) (th_parts : Nat → Int64) : va_W := [(q_th, .inr (0, [.ref q_th_parts, .ref q_th_limits, .ref q_th_overFrom, .ref q_th_underTo, .ref q_th_mixed, .ref q_th_cutBy, .int th_fromBit, .int th_toBit, .int th_room, .int th_corners])), (q_th_parts, .inl (tc 1, n_th_parts, .inr (.inl th_parts)))]
set_option maxHeartbeats 4000000 in
set_option maxRecDepth 100000 in
theorem s_X0_isAhead {l : Launch} {E : (Nat → Prop) → State → Prop} (hEok : st_Eok E) {D : va_G} {tc : Nat → ClassId} (q_th : Nat) (q_th_parts : Nat) (q_th_limits : Nat) (q_th_overFrom : Nat) (q_th_underTo : Nat) (q_th_mixed : Nat) (q_th_cutBy : Nat) (n_th_parts : Nat) (th_fromBit : Int32) (th_toBit : Int32) (th_room : Int32) (th_corners : Int32) (th_parts : Nat → Int64) (x1 : Int32) (x2 : Int32) (K : Nat) (r0 : Int32) (h : f_X0_isAhead K n_th_parts th_parts x1 x2 = some r0) : st l yX0_isAhead wsX0_isAhead ({ frames := 2, cells := 0, slots := 0, locals := 46 }) E D tc [.ref q_th, .int x1, .int x2] (w_X0_isAhead tc q_th q_th_parts q_th_limits q_th_overFrom q_th_underTo q_th_mixed q_th_cutBy n_th_parts th_fromBit th_toBit th_room th_corners th_parts) (some (.int r0)) (w_X0_isAhead tc q_th q_th_parts q_th_limits q_th_overFrom q_th_underTo q_th_mixed q_th_cutBy n_th_parts th_fromBit th_toBit th_room th_corners th_parts) := by
  refine st_enter (cc := cX0_isAhead) (maxL := 12) (ret := (some .boolean)) (by decide) rfl (Nat.le_of_ble_eq_true rfl) ?_
  intro p e s m below meth c A ls hx hb hr hml hts hown hlocks hK hN hE hA hP hD hS hl
  have hl : lv_has ls 12 [(0, .ref q_th), (1, .int x1), (2, .int x2)] := hl
  have hinX0 : ∀ w ∈ wsX00, w ∈ wsX0_isAhead := by decide +kernel
  generalize hav : ([.ref q_th, .int x1, .int x2] : List Value).toArray = av at hts ⊢
  have L22 : ∀ (x1 : Int32) (x2 : Int32) (x3 : Int64) (x5 : Int64), ∀ (k : Nat) (s22 : Int32) (r : (Int32) ⊕ (Unit)), lp (f_X0_isAhead_L22 n_th_parts th_parts x1 x2 x3 x5) k s22 = some r → (fun z : (Int32) ⊕ (Unit) => match z with | .inl r => r = r0 | .inr y22 => ∀ (H : Heap) (locs : List Loc) (ls : Array Slot), va_P D vwCl (w_X0_isAhead tc q_th q_th_parts q_th_limits q_th_overFrom q_th_underTo q_th_mixed q_th_cutBy n_th_parts th_fromBit th_toBit th_room th_corners th_parts) H → va_D A (w_X0_isAhead tc q_th q_th_parts q_th_limits q_th_overFrom q_th_underTo q_th_mixed q_th_cutBy n_th_parts th_fromBit th_toBit th_room th_corners th_parts) → va_S A s.heap H locs → lv_has ls 12 [] → W p l e ({ frames := 2, cells := 0, slots := 0, locals := 46 } : Room) s m av below meth c H locs 0 0 (MQ below (st_Q D (w_X0_isAhead tc q_th q_th_parts q_th_limits q_th_overFrom q_th_underTo q_th_mixed q_th_cutBy n_th_parts th_fromBit th_toBit th_room th_corners th_parts) (some (.int r0)) A) av s 0 0 A) (F0 m 90 ls [])) r → (fun x7 : Int32 => ∀ (H : Heap) (locs : List Loc) (ls : Array Slot), va_P D vwCl (w_X0_isAhead tc q_th q_th_parts q_th_limits q_th_overFrom q_th_underTo q_th_mixed q_th_cutBy n_th_parts th_fromBit th_toBit th_room th_corners th_parts) H → va_D A (w_X0_isAhead tc q_th q_th_parts q_th_limits q_th_overFrom q_th_underTo q_th_mixed q_th_cutBy n_th_parts th_fromBit th_toBit th_room th_corners th_parts) → va_S A s.heap H locs → lv_has ls 12 [(0, .ref q_th), (1, .int x1), (2, .int x2), (3, .long x3), (5, .long x5), (7, .int x7)] → W p l e ({ frames := 2, cells := 0, slots := 0, locals := 46 } : Room) s m av below meth c H locs 0 0 (MQ below (st_Q D (w_X0_isAhead tc q_th q_th_parts q_th_limits q_th_overFrom q_th_underTo q_th_mixed q_th_cutBy n_th_parts th_fromBit th_toBit th_room th_corners th_parts) (some (.int r0)) A) av s 0 0 A) (F0 m 22 ls [])) s22 := by
    intro x1 x2 x3 x5
    refine lp_W (f_X0_isAhead_L22 n_th_parts th_parts x1 x2 x3 x5) (fun x7 : Int32 => ∀ (H : Heap) (locs : List Loc) (ls : Array Slot), va_P D vwCl (w_X0_isAhead tc q_th q_th_parts q_th_limits q_th_overFrom q_th_underTo q_th_mixed q_th_cutBy n_th_parts th_fromBit th_toBit th_room th_corners th_parts) H → va_D A (w_X0_isAhead tc q_th q_th_parts q_th_limits q_th_overFrom q_th_underTo q_th_mixed q_th_cutBy n_th_parts th_fromBit th_toBit th_room th_corners th_parts) → va_S A s.heap H locs → lv_has ls 12 [(0, .ref q_th), (1, .int x1), (2, .int x2), (3, .long x3), (5, .long x5), (7, .int x7)] → W p l e ({ frames := 2, cells := 0, slots := 0, locals := 46 } : Room) s m av below meth c H locs 0 0 (MQ below (st_Q D (w_X0_isAhead tc q_th q_th_parts q_th_limits q_th_overFrom q_th_underTo q_th_mixed q_th_cutBy n_th_parts th_fromBit th_toBit th_room th_corners th_parts) (some (.int r0)) A) av s 0 0 A) (F0 m 22 ls [])) (fun z : (Int32) ⊕ (Unit) => match z with | .inl r => r = r0 | .inr y22 => ∀ (H : Heap) (locs : List Loc) (ls : Array Slot), va_P D vwCl (w_X0_isAhead tc q_th q_th_parts q_th_limits q_th_overFrom q_th_underTo q_th_mixed q_th_cutBy n_th_parts th_fromBit th_toBit th_room th_corners th_parts) H → va_D A (w_X0_isAhead tc q_th q_th_parts q_th_limits q_th_overFrom q_th_underTo q_th_mixed q_th_cutBy n_th_parts th_fromBit th_toBit th_room th_corners th_parts) → va_S A s.heap H locs → lv_has ls 12 [] → W p l e ({ frames := 2, cells := 0, slots := 0, locals := 46 } : Room) s m av below meth c H locs 0 0 (MQ below (st_Q D (w_X0_isAhead tc q_th q_th_parts q_th_limits q_th_overFrom q_th_underTo q_th_mixed q_th_cutBy n_th_parts th_fromBit th_toBit th_room th_corners th_parts) (some (.int r0)) A) av s 0 0 A) (F0 m 90 ls [])) ?_
    rintro x7 o h ih hz H locs ls hP hD hS hl
    unfold f_X0_isAhead_L22 at h
    refine lv_iload hx hb dX0_isAhead_22 (lv_at hl 5 rfl) ?_
    refine lv_bipush (v := (8 : Int32)) hx hb dX0_isAhead_24 (by decide) ?_
    refine lv_icmp_ge (tgt := 90) hx hb dX0_isAhead_26 (by decide) (fun c1 => ?_) (fun c1 => ?_)
    · replace h := ifp c1 h
      cases h
      exact hz _ rfl _ _ _ hP hD hS (lv_sub hl [] rfl)
    · replace h := ifn c1 h
      refine lv_aload_n hx hb dX0_isAhead_29 rfl (lv_at hl 0 rfl) ?_
      refine va_get (D := D) (ci := 0) (v := .ref q_th_parts) (C := RX0) (T := TX0) (N := 10) hx hb hts hinX0 hown hK hP 0 rfl rfl 0 (by decide) (hts (.fieldLink RX0 32 "ChanceBounds$Corners" "parts" "[J") (by decide +kernel)) (fun _ h9 => h9) rfl dX0_isAhead_30 ?_
      refine lv_bipush (v := (8 : Int32)) hx hb dX0_isAhead_33 (by decide) ?_
      refine lv_iload_n hx hb dX0_isAhead_35 rfl (lv_at hl 1 rfl) ?_
      refine lv_imul hx hb dX0_isAhead_36 ?_
      refine lv_iload hx hb dX0_isAhead_37 (lv_at hl 5 rfl) ?_
      refine lv_iadd hx hb dX0_isAhead_39 ?_
      obtain ⟨g2, h⟩ := gd_ok h
      refine va_lald hx hb hK hP 1 1 rfl rfl g2 dX0_isAhead_40 ?_
      refine lv_lload hx hb dX0_isAhead_41 (lv_at hl 4 rfl) ?_
      refine lv_lmul hx hb dX0_isAhead_43 ?_
      refine lv_lstore (lv' := [(8, .long ((th_parts (((8 : Int32) * x1) + x7).toNatClampNeg) * x5)), (0, .ref q_th), (1, .int x1), (2, .int x2), (3, .long x3), (5, .long x5), (7, .int x7)]) hx hb dX0_isAhead_44 hl (by decide) rfl (fun ls hl => ?_)
      refine lv_aload_n hx hb dX0_isAhead_46 rfl (lv_at hl 1 rfl) ?_
      refine va_get (D := D) (ci := 0) (v := .ref q_th_parts) (C := RX0) (T := TX0) (N := 10) hx hb hts hinX0 hown hK hP 0 rfl rfl 0 (by decide) (hts (.fieldLink RX0 32 "ChanceBounds$Corners" "parts" "[J") (by decide +kernel)) (fun _ h9 => h9) rfl dX0_isAhead_47 ?_
      refine lv_bipush (v := (8 : Int32)) hx hb dX0_isAhead_50 (by decide) ?_
      refine lv_iload_n hx hb dX0_isAhead_52 rfl (lv_at hl 3 rfl) ?_
      refine lv_imul hx hb dX0_isAhead_53 ?_
      refine lv_iload hx hb dX0_isAhead_54 (lv_at hl 6 rfl) ?_
      refine lv_iadd hx hb dX0_isAhead_56 ?_
      obtain ⟨g3, h⟩ := gd_ok h
      refine va_lald hx hb hK hP 1 1 rfl rfl g3 dX0_isAhead_57 ?_
      refine lv_lload_n hx hb dX0_isAhead_58 rfl (lv_at hl 4 rfl) ?_
      refine lv_lmul hx hb dX0_isAhead_59 ?_
      refine lv_lstore (lv' := [(10, .long ((th_parts (((8 : Int32) * x2) + x7).toNatClampNeg) * x3)), (8, .long ((th_parts (((8 : Int32) * x1) + x7).toNatClampNeg) * x5)), (0, .ref q_th), (1, .int x1), (2, .int x2), (3, .long x3), (5, .long x5), (7, .int x7)]) hx hb dX0_isAhead_60 hl (by decide) rfl (fun ls hl => ?_)
      refine lv_lload hx hb dX0_isAhead_62 (lv_at hl 1 rfl) ?_
      refine lv_lload hx hb dX0_isAhead_64 (lv_at hl 0 rfl) ?_
      refine W.lcmp hx hb dX0_isAhead_66 ?_
      refine lv_if_eq (tgt := 84) hx hb dX0_isAhead_67 (by decide) (fun c4 => ?_) (fun c4 => ?_)
      · replace h := ifp c4 h
        refine lv_iinc (v := x7 + 1) (lv' := [(7, .int (x7 + 1)), (10, .long ((th_parts (((8 : Int32) * x2) + x7).toNatClampNeg) * x3)), (8, .long ((th_parts (((8 : Int32) * x1) + x7).toNatClampNeg) * x5)), (0, .ref q_th), (1, .int x1), (2, .int x2), (3, .long x3), (5, .long x5)]) hx hb dX0_isAhead_84 hl (k := 7) rfl rfl (by decide) rfl (fun ls hl => ?_)
        refine lv_goto (tgt := 22) hx hb dX0_isAhead_87 (by decide) ?_
        cases h
        exact ih _ rfl _ _ _ hP hD hS (lv_sub hl [3, 4, 5, 6, 7, 0] rfl)
      · replace h := ifn c4 h
        refine lv_lload hx hb dX0_isAhead_70 (lv_at hl 1 rfl) ?_
        refine lv_lload hx hb dX0_isAhead_72 (lv_at hl 0 rfl) ?_
        refine W.lcmp hx hb dX0_isAhead_74 ?_
        refine lv_if_ge (tgt := 82) hx hb dX0_isAhead_75 (by decide) (fun c5 => ?_) (fun c5 => ?_)
        · replace h := ifp c5 h
          refine lv_iconst (v := (0 : Int32)) hx hb dX0_isAhead_82 (by decide) ?_
          cases h
          have e8 := hz _ rfl
          cases e8
          exact st_zret hx hb hr hlocks hP hD hS rfl dX0_isAhead_83
        · replace h := ifn c5 h
          refine lv_iconst (v := (1 : Int32)) hx hb dX0_isAhead_78 (by decide) ?_
          refine lv_goto (tgt := 83) hx hb dX0_isAhead_79 (by decide) ?_
          cases h
          have e8 := hz _ rfl
          cases e8
          exact st_zret hx hb hr hlocks hP hD hS rfl dX0_isAhead_83
  unfold f_X0_isAhead at h
  refine lv_aload_n hx hb dX0_isAhead_0 rfl (lv_at hl 0 rfl) ?_
  refine lv_iload_n hx hb dX0_isAhead_1 rfl (lv_at hl 1 rfl) ?_
  refine lv_sipush (v := (255 : Int32)) hx hb dX0_isAhead_2 (by decide) ?_
  obtain ⟨z6_0, hc6, h⟩ := bd_ok h
  refine st_callV (As := [.int x1, .int (255 : Int32)]) (rest := []) (pos := [0, 1]) ⟨hx, hb, hml, hown, hts⟩ (s_X0_weight (l := l) (D := D) (tc := tc) hEok q_th q_th_parts q_th_limits q_th_overFrom q_th_underTo q_th_mixed q_th_cutBy n_th_parts th_fromBit th_toBit th_room th_corners th_parts x1 (255 : Int32) K z6_0 hc6) (cwV 2 hts gX0_isAhead_X0_weight rfl rfl rfl (by decide +kernel) ⟨Nat.le_of_ble_eq_true rfl, Nat.le_of_ble_eq_true rfl⟩) (st_recv (ci := 0) (q0 := 0) hK hP rfl rfl) hEok hE hK hN hP hD hS hA rfl rfl rfl rfl hl.1 rfl (Nat.le_of_ble_eq_true rfl) dX0_isAhead_5 ⟨Nat.zero_le _, Nat.zero_le _⟩ (fun H locs hP hD hS => ?_)
  have hP : va_P D vwCl (w_X0_isAhead tc q_th q_th_parts q_th_limits q_th_overFrom q_th_underTo q_th_mixed q_th_cutBy n_th_parts th_fromBit th_toBit th_room th_corners th_parts) H := hP
  have hD : va_D A (w_X0_isAhead tc q_th q_th_parts q_th_limits q_th_overFrom q_th_underTo q_th_mixed q_th_cutBy n_th_parts th_fromBit th_toBit th_room th_corners th_parts) := hD
  refine lv_lstore_n (lv' := [(3, .long z6_0), (0, .ref q_th), (1, .int x1), (2, .int x2)]) hx hb dX0_isAhead_8 rfl hl (by decide) rfl (fun ls hl => ?_)
  refine lv_aload_n hx hb dX0_isAhead_9 rfl (lv_at hl 1 rfl) ?_
  refine lv_iload_n hx hb dX0_isAhead_10 rfl (lv_at hl 3 rfl) ?_
  refine lv_sipush (v := (255 : Int32)) hx hb dX0_isAhead_11 (by decide) ?_
  obtain ⟨z7_0, hc7, h⟩ := bd_ok h
  refine st_callV (As := [.int x2, .int (255 : Int32)]) (rest := []) (pos := [0, 1]) ⟨hx, hb, hml, hown, hts⟩ (s_X0_weight (l := l) (D := D) (tc := tc) hEok q_th q_th_parts q_th_limits q_th_overFrom q_th_underTo q_th_mixed q_th_cutBy n_th_parts th_fromBit th_toBit th_room th_corners th_parts x2 (255 : Int32) K z7_0 hc7) (cwV 2 hts gX0_isAhead_X0_weight rfl rfl rfl (by decide +kernel) ⟨Nat.le_of_ble_eq_true rfl, Nat.le_of_ble_eq_true rfl⟩) (st_recv (ci := 0) (q0 := 0) hK hP rfl rfl) hEok hE hK hN hP hD hS hA rfl rfl rfl rfl hl.1 rfl (Nat.le_of_ble_eq_true rfl) dX0_isAhead_14 ⟨Nat.zero_le _, Nat.zero_le _⟩ (fun H locs hP hD hS => ?_)
  have hP : va_P D vwCl (w_X0_isAhead tc q_th q_th_parts q_th_limits q_th_overFrom q_th_underTo q_th_mixed q_th_cutBy n_th_parts th_fromBit th_toBit th_room th_corners th_parts) H := hP
  have hD : va_D A (w_X0_isAhead tc q_th q_th_parts q_th_limits q_th_overFrom q_th_underTo q_th_mixed q_th_cutBy n_th_parts th_fromBit th_toBit th_room th_corners th_parts) := hD
  refine lv_lstore (lv' := [(5, .long z7_0), (3, .long z6_0), (0, .ref q_th), (1, .int x1), (2, .int x2)]) hx hb dX0_isAhead_17 hl (by decide) rfl (fun ls hl => ?_)
  refine lv_iconst (v := (0 : Int32)) hx hb dX0_isAhead_19 (by decide) ?_
  refine lv_istore (lv' := [(7, .int (0 : Int32)), (5, .long z7_0), (3, .long z6_0), (0, .ref q_th), (1, .int x1), (2, .int x2)]) hx hb dX0_isAhead_20 hl (by decide) rfl (fun ls hl => ?_)
  obtain ⟨z8, hl8, h⟩ := bd_ok h
  refine L22 x1 x2 z6_0 z7_0 K _ z8 hl8 ?_ _ _ _ hP hD hS (lv_sub hl [3, 4, 5, 2, 1, 0] rfl)
  rcases z8 with r | ⟨⟩
  · cases h
    exact rfl
  intro H locs ls hP hD hS hl
  refine lv_iconst (v := (0 : Int32)) hx hb dX0_isAhead_90 (by decide) ?_
  cases h
  exact st_zret hx hb hr hlocks hP hD hS rfl dX0_isAhead_91
def f_X0_findInFirstRow_L17 (K : Nat) (n_th_parts : Nat) (th_corners : Int32) (th_parts : Nat → Int64) (s17 : Int32 × Int32) : Option ((Int32) ⊕ (Int32 × Int32)) :=
  match s17 with
  | (x3, x4) =>
    if th_corners ≤ x4 then
      some (.inl x3)
    else
      (f_X0_isAhead K n_th_parts th_parts x4 x3).bind fun z2_0 =>
      if z2_0 = (0 : Int32) then
        some (.inr (x3, x4 + 1))
      else
        some (.inr (x4, x4 + 1))
def f_X0_findInFirstRow (K : Nat) (n_th_parts : Nat) (th_corners : Int32) (th_parts : Nat → Int64) (x1 : Int32) : Option (Int64 × Int64) :=
  (f_X1_forget).bind fun z4 => match z4 with
  | (z4_0, z4_1) =>
    if th_corners = (0 : Int32) then
      some (z4_0, z4_1)
    else
      (lp (f_X0_findInFirstRow_L17 K n_th_parts th_corners th_parts) K ((0 : Int32), (1 : Int32))).bind fun z6_0 =>
      (f_X0_weight K n_th_parts th_parts z6_0 ((1 : Int32) <<< (x1 &&& 31))).bind fun z7_0 =>
      (f_X0_weight K n_th_parts th_parts z6_0 (255 : Int32)).bind fun z8_0 =>
      (f_X1_set z7_0 z8_0).bind fun z9 => match z9 with
      | (z9_0, z9_1) =>
        some (z9_0, z9_1)
abbrev w_X0_findInFirstRow (tc : Nat → ClassId) (q_th : Nat) (q_th_parts : Nat) (q_th_limits : Nat) (q_th_overFrom : Nat) (q_th_underTo : Nat) (q_th_mixed : Nat) (q_th_cutBy : Nat) (q_a2 : Nat) (n_th_parts : Nat) (th_fromBit : Int32) (th_toBit : Int32) (th_room : Int32) (th_corners : Int32) (th_parts : Nat → Int64) (a2_upper : Int64) (a2_lower : Int64) : va_W := [(q_th, .inr (0, [.ref q_th_parts, .ref q_th_limits, .ref q_th_overFrom, .ref q_th_underTo, .ref q_th_mixed, .ref q_th_cutBy, .int th_fromBit, .int th_toBit, .int th_room, .int th_corners])), (q_th_parts, .inl (tc 1, n_th_parts, .inr (.inl th_parts))), (q_a2, .inr (1, [.long a2_upper, .long a2_lower]))]
set_option maxHeartbeats 4000000 in
set_option maxRecDepth 100000 in
theorem s_X0_findInFirstRow {l : Launch} {E : (Nat → Prop) → State → Prop} (hEok : st_Eok E) {D : va_G} {tc : Nat → ClassId} (q_th : Nat) (q_th_parts : Nat) (q_th_limits : Nat) (q_th_overFrom : Nat) (q_th_underTo : Nat) (q_th_mixed : Nat) (q_th_cutBy : Nat) (q_a2 : Nat) (n_th_parts : Nat) (th_fromBit : Int32) (th_toBit : Int32) (th_room : Int32) (th_corners : Int32) (th_parts : Nat → Int64) (a2_upper : Int64) (a2_lower : Int64) (x1 : Int32) (K : Nat) (a2_upper' : Int64) (a2_lower' : Int64) (h : f_X0_findInFirstRow K n_th_parts th_corners th_parts x1 = some (a2_upper', a2_lower')) : st l yX0_findInFirstRow wsX0_findInFirstRow ({ frames := 3, cells := 0, slots := 0, locals := 77 }) E D tc [.ref q_th, .int x1, .ref q_a2] (w_X0_findInFirstRow tc q_th q_th_parts q_th_limits q_th_overFrom q_th_underTo q_th_mixed q_th_cutBy q_a2 n_th_parts th_fromBit th_toBit th_room th_corners th_parts a2_upper a2_lower) none (w_X0_findInFirstRow tc q_th q_th_parts q_th_limits q_th_overFrom q_th_underTo q_th_mixed q_th_cutBy q_a2 n_th_parts th_fromBit th_toBit th_room th_corners th_parts a2_upper' a2_lower') := by
  refine st_enter (cc := cX0_findInFirstRow) (maxL := 5) (ret := none) (by decide) rfl (Nat.le_of_ble_eq_true rfl) ?_
  intro p e s m below meth c A ls hx hb hr hml hts hown hlocks hK hN hE hA hP hD hS hl
  have hl : lv_has ls 5 [(0, .ref q_th), (1, .int x1), (2, .ref q_a2)] := hl
  have hinX0 : ∀ w ∈ wsX00, w ∈ wsX0_findInFirstRow := by decide +kernel
  generalize hav : ([.ref q_th, .int x1, .ref q_a2] : List Value).toArray = av at hts ⊢
  have L17 : ∀ (x1 : Int32) (a2_upper : Int64) (a2_lower : Int64), ∀ (k : Nat) (s17 : Int32 × Int32) (r : Int32), lp (f_X0_findInFirstRow_L17 K n_th_parts th_corners th_parts) k s17 = some r → (fun x3 : Int32 => ∀ (H : Heap) (locs : List Loc) (ls : Array Slot), va_P D vwCl (w_X0_findInFirstRow tc q_th q_th_parts q_th_limits q_th_overFrom q_th_underTo q_th_mixed q_th_cutBy q_a2 n_th_parts th_fromBit th_toBit th_room th_corners th_parts a2_upper a2_lower) H → va_D A (w_X0_findInFirstRow tc q_th q_th_parts q_th_limits q_th_overFrom q_th_underTo q_th_mixed q_th_cutBy q_a2 n_th_parts th_fromBit th_toBit th_room th_corners th_parts a2_upper a2_lower) → va_S A s.heap H locs → lv_has ls 5 [(0, .ref q_th), (1, .int x1), (2, .ref q_a2), (3, .int x3)] → W p l e ({ frames := 3, cells := 0, slots := 0, locals := 77 } : Room) s m av below meth c H locs 0 0 (MQ below (st_Q D (w_X0_findInFirstRow tc q_th q_th_parts q_th_limits q_th_overFrom q_th_underTo q_th_mixed q_th_cutBy q_a2 n_th_parts th_fromBit th_toBit th_room th_corners th_parts a2_upper' a2_lower') none A) av s 0 0 A) (F0 m 45 ls [])) r → (fun s17 : Int32 × Int32 => match s17 with | (x3, x4) => ∀ (H : Heap) (locs : List Loc) (ls : Array Slot), va_P D vwCl (w_X0_findInFirstRow tc q_th q_th_parts q_th_limits q_th_overFrom q_th_underTo q_th_mixed q_th_cutBy q_a2 n_th_parts th_fromBit th_toBit th_room th_corners th_parts a2_upper a2_lower) H → va_D A (w_X0_findInFirstRow tc q_th q_th_parts q_th_limits q_th_overFrom q_th_underTo q_th_mixed q_th_cutBy q_a2 n_th_parts th_fromBit th_toBit th_room th_corners th_parts a2_upper a2_lower) → va_S A s.heap H locs → lv_has ls 5 [(0, .ref q_th), (1, .int x1), (2, .ref q_a2), (3, .int x3), (4, .int x4)] → W p l e ({ frames := 3, cells := 0, slots := 0, locals := 77 } : Room) s m av below meth c H locs 0 0 (MQ below (st_Q D (w_X0_findInFirstRow tc q_th q_th_parts q_th_limits q_th_overFrom q_th_underTo q_th_mixed q_th_cutBy q_a2 n_th_parts th_fromBit th_toBit th_room th_corners th_parts a2_upper' a2_lower') none A) av s 0 0 A) (F0 m 17 ls [])) s17 := by
    intro x1 a2_upper a2_lower
    refine lp_W (f_X0_findInFirstRow_L17 K n_th_parts th_corners th_parts) (fun s17 : Int32 × Int32 => match s17 with | (x3, x4) => ∀ (H : Heap) (locs : List Loc) (ls : Array Slot), va_P D vwCl (w_X0_findInFirstRow tc q_th q_th_parts q_th_limits q_th_overFrom q_th_underTo q_th_mixed q_th_cutBy q_a2 n_th_parts th_fromBit th_toBit th_room th_corners th_parts a2_upper a2_lower) H → va_D A (w_X0_findInFirstRow tc q_th q_th_parts q_th_limits q_th_overFrom q_th_underTo q_th_mixed q_th_cutBy q_a2 n_th_parts th_fromBit th_toBit th_room th_corners th_parts a2_upper a2_lower) → va_S A s.heap H locs → lv_has ls 5 [(0, .ref q_th), (1, .int x1), (2, .ref q_a2), (3, .int x3), (4, .int x4)] → W p l e ({ frames := 3, cells := 0, slots := 0, locals := 77 } : Room) s m av below meth c H locs 0 0 (MQ below (st_Q D (w_X0_findInFirstRow tc q_th q_th_parts q_th_limits q_th_overFrom q_th_underTo q_th_mixed q_th_cutBy q_a2 n_th_parts th_fromBit th_toBit th_room th_corners th_parts a2_upper' a2_lower') none A) av s 0 0 A) (F0 m 17 ls [])) (fun x3 : Int32 => ∀ (H : Heap) (locs : List Loc) (ls : Array Slot), va_P D vwCl (w_X0_findInFirstRow tc q_th q_th_parts q_th_limits q_th_overFrom q_th_underTo q_th_mixed q_th_cutBy q_a2 n_th_parts th_fromBit th_toBit th_room th_corners th_parts a2_upper a2_lower) H → va_D A (w_X0_findInFirstRow tc q_th q_th_parts q_th_limits q_th_overFrom q_th_underTo q_th_mixed q_th_cutBy q_a2 n_th_parts th_fromBit th_toBit th_room th_corners th_parts a2_upper a2_lower) → va_S A s.heap H locs → lv_has ls 5 [(0, .ref q_th), (1, .int x1), (2, .ref q_a2), (3, .int x3)] → W p l e ({ frames := 3, cells := 0, slots := 0, locals := 77 } : Room) s m av below meth c H locs 0 0 (MQ below (st_Q D (w_X0_findInFirstRow tc q_th q_th_parts q_th_limits q_th_overFrom q_th_underTo q_th_mixed q_th_cutBy q_a2 n_th_parts th_fromBit th_toBit th_room th_corners th_parts a2_upper' a2_lower') none A) av s 0 0 A) (F0 m 45 ls [])) ?_
    rintro ⟨x3, x4⟩ o h ih hz H locs ls hP hD hS hl
    unfold f_X0_findInFirstRow_L17 at h
    refine lv_iload hx hb dX0_findInFirstRow_17 (lv_at hl 4 rfl) ?_
    refine lv_aload_n hx hb dX0_findInFirstRow_19 rfl (lv_at hl 0 rfl) ?_
    refine va_get (D := D) (ci := 0) (v := .int th_corners) (C := RX0) (T := TX0) (N := 10) hx hb hts hinX0 hown hK hP 0 rfl rfl 9 (by decide) (hts (.fieldLink RX0 51 "ChanceBounds$Corners" "corners" "I") (by decide +kernel)) (fun _ h9 => h9) rfl dX0_findInFirstRow_20 ?_
    refine lv_icmp_ge (tgt := 45) hx hb dX0_findInFirstRow_23 (by decide) (fun c1 => ?_) (fun c1 => ?_)
    · replace h := ifp c1 h
      cases h
      exact hz _ rfl _ _ _ hP hD hS (lv_sub hl [0, 1, 2, 3] rfl)
    · replace h := ifn c1 h
      refine lv_aload_n hx hb dX0_findInFirstRow_26 rfl (lv_at hl 0 rfl) ?_
      refine lv_iload hx hb dX0_findInFirstRow_27 (lv_at hl 4 rfl) ?_
      refine lv_iload_n hx hb dX0_findInFirstRow_29 rfl (lv_at hl 3 rfl) ?_
      obtain ⟨z2_0, hc2, h⟩ := bd_ok h
      refine st_callV (As := [.int x4, .int x3]) (rest := []) (pos := [0, 1]) ⟨hx, hb, hml, hown, hts⟩ (s_X0_isAhead (l := l) (D := D) (tc := tc) hEok q_th q_th_parts q_th_limits q_th_overFrom q_th_underTo q_th_mixed q_th_cutBy n_th_parts th_fromBit th_toBit th_room th_corners th_parts x4 x3 K z2_0 hc2) (cwV 2 hts gX0_findInFirstRow_X0_isAhead rfl rfl rfl (by decide +kernel) ⟨Nat.le_of_ble_eq_true rfl, Nat.le_of_ble_eq_true rfl⟩) (st_recv (ci := 0) (q0 := 0) hK hP rfl rfl) hEok hE hK hN hP hD hS hA rfl rfl rfl rfl hl.1 rfl (Nat.le_of_ble_eq_true rfl) dX0_findInFirstRow_30 ⟨Nat.zero_le _, Nat.zero_le _⟩ (fun H locs hP hD hS => ?_)
      have hP : va_P D vwCl (w_X0_findInFirstRow tc q_th q_th_parts q_th_limits q_th_overFrom q_th_underTo q_th_mixed q_th_cutBy q_a2 n_th_parts th_fromBit th_toBit th_room th_corners th_parts a2_upper a2_lower) H := hP
      have hD : va_D A (w_X0_findInFirstRow tc q_th q_th_parts q_th_limits q_th_overFrom q_th_underTo q_th_mixed q_th_cutBy q_a2 n_th_parts th_fromBit th_toBit th_room th_corners th_parts a2_upper a2_lower) := hD
      refine lv_if_eq (tgt := 39) hx hb dX0_findInFirstRow_33 (by decide) (fun c3 => ?_) (fun c3 => ?_)
      · replace h := ifp c3 h
        refine lv_iinc (v := x4 + 1) (lv' := [(4, .int (x4 + 1)), (0, .ref q_th), (1, .int x1), (2, .ref q_a2), (3, .int x3)]) hx hb dX0_findInFirstRow_39 hl (k := 4) rfl rfl (by decide) rfl (fun ls hl => ?_)
        refine lv_goto (tgt := 17) hx hb dX0_findInFirstRow_42 (by decide) ?_
        cases h
        exact ih _ rfl _ _ _ hP hD hS (lv_sub hl [1, 2, 3, 4, 0] rfl)
      · replace h := ifn c3 h
        refine lv_iload hx hb dX0_findInFirstRow_36 (lv_at hl 4 rfl) ?_
        refine lv_istore_n (lv' := [(3, .int x4), (0, .ref q_th), (1, .int x1), (2, .ref q_a2), (4, .int x4)]) hx hb dX0_findInFirstRow_38 rfl hl (by decide) rfl (fun ls hl => ?_)
        refine lv_iinc (v := x4 + 1) (lv' := [(4, .int (x4 + 1)), (3, .int x4), (0, .ref q_th), (1, .int x1), (2, .ref q_a2)]) hx hb dX0_findInFirstRow_39 hl (k := 4) rfl rfl (by decide) rfl (fun ls hl => ?_)
        refine lv_goto (tgt := 17) hx hb dX0_findInFirstRow_42 (by decide) ?_
        cases h
        exact ih _ rfl _ _ _ hP hD hS (lv_sub hl [2, 3, 4, 1, 0] rfl)
  unfold f_X0_findInFirstRow at h
  refine lv_aload_n hx hb dX0_findInFirstRow_0 rfl (lv_at hl 2 rfl) ?_
  obtain ⟨⟨z4_0, z4_1⟩, hc4, h⟩ := bd_ok h
  refine st_callV (As := []) (rest := []) (pos := [2]) ⟨hx, hb, hml, hown, hts⟩ (s_X1_forget (l := l) (D := D) (tc := tc) hEok q_a2 a2_upper a2_lower z4_0 z4_1 hc4) (cwV 0 hts gX0_findInFirstRow_X1_forget rfl rfl rfl (by decide +kernel) ⟨Nat.le_of_ble_eq_true rfl, Nat.le_of_ble_eq_true rfl⟩) (st_recv (ci := 1) (q0 := 2) hK hP rfl rfl) hEok hE hK hN hP hD hS hA rfl rfl rfl rfl hl.1 rfl (Nat.le_of_ble_eq_true rfl) dX0_findInFirstRow_1 ⟨Nat.zero_le _, Nat.zero_le _⟩ (fun H locs hP hD hS => ?_)
  have hP : va_P D vwCl (w_X0_findInFirstRow tc q_th q_th_parts q_th_limits q_th_overFrom q_th_underTo q_th_mixed q_th_cutBy q_a2 n_th_parts th_fromBit th_toBit th_room th_corners th_parts z4_0 z4_1) H := hP
  have hD : va_D A (w_X0_findInFirstRow tc q_th q_th_parts q_th_limits q_th_overFrom q_th_underTo q_th_mixed q_th_cutBy q_a2 n_th_parts th_fromBit th_toBit th_room th_corners th_parts z4_0 z4_1) := hD
  refine lv_aload_n hx hb dX0_findInFirstRow_4 rfl (lv_at hl 0 rfl) ?_
  refine va_get (D := D) (ci := 0) (v := .int th_corners) (C := RX0) (T := TX0) (N := 10) hx hb hts hinX0 hown hK hP 0 rfl rfl 9 (by decide) (hts (.fieldLink RX0 51 "ChanceBounds$Corners" "corners" "I") (by decide +kernel)) (fun _ h9 => h9) rfl dX0_findInFirstRow_5 ?_
  refine lv_if_ne (tgt := 12) hx hb dX0_findInFirstRow_8 (by decide) (fun c5 => ?_) (fun c5 => ?_)
  · replace h := ifn c5 h
    refine lv_iconst (v := (0 : Int32)) hx hb dX0_findInFirstRow_12 (by decide) ?_
    refine lv_istore_n (lv' := [(3, .int (0 : Int32)), (0, .ref q_th), (1, .int x1), (2, .ref q_a2)]) hx hb dX0_findInFirstRow_13 rfl hl (by decide) rfl (fun ls hl => ?_)
    refine lv_iconst (v := (1 : Int32)) hx hb dX0_findInFirstRow_14 (by decide) ?_
    refine lv_istore (lv' := [(4, .int (1 : Int32)), (3, .int (0 : Int32)), (0, .ref q_th), (1, .int x1), (2, .ref q_a2)]) hx hb dX0_findInFirstRow_15 hl (by decide) rfl (fun ls hl => ?_)
    obtain ⟨z6_0, hl6, h⟩ := bd_ok h
    refine L17 x1 z4_0 z4_1 K _ _ hl6 ?_ _ _ _ hP hD hS (lv_sub hl [2, 3, 4, 1, 0] rfl)
    intro H locs ls hP hD hS hl
    refine lv_aload_n hx hb dX0_findInFirstRow_45 rfl (lv_at hl 2 rfl) ?_
    refine lv_aload_n hx hb dX0_findInFirstRow_46 rfl (lv_at hl 0 rfl) ?_
    refine lv_iload_n hx hb dX0_findInFirstRow_47 rfl (lv_at hl 3 rfl) ?_
    refine lv_iconst (v := (1 : Int32)) hx hb dX0_findInFirstRow_48 (by decide) ?_
    refine lv_iload_n hx hb dX0_findInFirstRow_49 rfl (lv_at hl 1 rfl) ?_
    refine lv_ishl hx hb dX0_findInFirstRow_50 ?_
    obtain ⟨z7_0, hc7, h⟩ := bd_ok h
    refine st_callV (As := [.int z6_0, .int ((1 : Int32) <<< (x1 &&& 31))]) (rest := [.ref q_a2]) (pos := [0, 1]) ⟨hx, hb, hml, hown, hts⟩ (s_X0_weight (l := l) (D := D) (tc := tc) hEok q_th q_th_parts q_th_limits q_th_overFrom q_th_underTo q_th_mixed q_th_cutBy n_th_parts th_fromBit th_toBit th_room th_corners th_parts z6_0 ((1 : Int32) <<< (x1 &&& 31)) K z7_0 hc7) (cwV 2 hts gX0_findInFirstRow_X0_weight rfl rfl rfl (by decide +kernel) ⟨Nat.le_of_ble_eq_true rfl, Nat.le_of_ble_eq_true rfl⟩) (st_recv (ci := 0) (q0 := 0) hK hP rfl rfl) hEok hE hK hN hP hD hS hA rfl rfl rfl rfl hl.1 rfl (Nat.le_of_ble_eq_true rfl) dX0_findInFirstRow_51 ⟨Nat.zero_le _, Nat.zero_le _⟩ (fun H locs hP hD hS => ?_)
    have hP : va_P D vwCl (w_X0_findInFirstRow tc q_th q_th_parts q_th_limits q_th_overFrom q_th_underTo q_th_mixed q_th_cutBy q_a2 n_th_parts th_fromBit th_toBit th_room th_corners th_parts z4_0 z4_1) H := hP
    have hD : va_D A (w_X0_findInFirstRow tc q_th q_th_parts q_th_limits q_th_overFrom q_th_underTo q_th_mixed q_th_cutBy q_a2 n_th_parts th_fromBit th_toBit th_room th_corners th_parts z4_0 z4_1) := hD
    refine lv_aload_n hx hb dX0_findInFirstRow_54 rfl (lv_at hl 0 rfl) ?_
    refine lv_iload_n hx hb dX0_findInFirstRow_55 rfl (lv_at hl 3 rfl) ?_
    refine lv_sipush (v := (255 : Int32)) hx hb dX0_findInFirstRow_56 (by decide) ?_
    obtain ⟨z8_0, hc8, h⟩ := bd_ok h
    refine st_callV (As := [.int z6_0, .int (255 : Int32)]) (rest := [.long z7_0, .ref q_a2]) (pos := [0, 1]) ⟨hx, hb, hml, hown, hts⟩ (s_X0_weight (l := l) (D := D) (tc := tc) hEok q_th q_th_parts q_th_limits q_th_overFrom q_th_underTo q_th_mixed q_th_cutBy n_th_parts th_fromBit th_toBit th_room th_corners th_parts z6_0 (255 : Int32) K z8_0 hc8) (cwV 2 hts gX0_findInFirstRow_X0_weight rfl rfl rfl (by decide +kernel) ⟨Nat.le_of_ble_eq_true rfl, Nat.le_of_ble_eq_true rfl⟩) (st_recv (ci := 0) (q0 := 0) hK hP rfl rfl) hEok hE hK hN hP hD hS hA rfl rfl rfl rfl hl.1 rfl (Nat.le_of_ble_eq_true rfl) dX0_findInFirstRow_59 ⟨Nat.zero_le _, Nat.zero_le _⟩ (fun H locs hP hD hS => ?_)
    have hP : va_P D vwCl (w_X0_findInFirstRow tc q_th q_th_parts q_th_limits q_th_overFrom q_th_underTo q_th_mixed q_th_cutBy q_a2 n_th_parts th_fromBit th_toBit th_room th_corners th_parts z4_0 z4_1) H := hP
    have hD : va_D A (w_X0_findInFirstRow tc q_th q_th_parts q_th_limits q_th_overFrom q_th_underTo q_th_mixed q_th_cutBy q_a2 n_th_parts th_fromBit th_toBit th_room th_corners th_parts z4_0 z4_1) := hD
    obtain ⟨⟨z9_0, z9_1⟩, hc9, h⟩ := bd_ok h
    refine st_callV (As := [.long z7_0, .long z8_0]) (rest := []) (pos := [2]) ⟨hx, hb, hml, hown, hts⟩ (s_X1_set (l := l) (D := D) (tc := tc) hEok q_a2 z4_0 z4_1 z7_0 z8_0 z9_0 z9_1 hc9) (cwV 2 hts gX0_findInFirstRow_X1_set rfl rfl rfl (by decide +kernel) ⟨Nat.le_of_ble_eq_true rfl, Nat.le_of_ble_eq_true rfl⟩) (st_recv (ci := 1) (q0 := 2) hK hP rfl rfl) hEok hE hK hN hP hD hS hA rfl rfl rfl rfl hl.1 rfl (Nat.le_of_ble_eq_true rfl) dX0_findInFirstRow_62 ⟨Nat.zero_le _, Nat.zero_le _⟩ (fun H locs hP hD hS => ?_)
    have hP : va_P D vwCl (w_X0_findInFirstRow tc q_th q_th_parts q_th_limits q_th_overFrom q_th_underTo q_th_mixed q_th_cutBy q_a2 n_th_parts th_fromBit th_toBit th_room th_corners th_parts z9_0 z9_1) H := hP
    have hD : va_D A (w_X0_findInFirstRow tc q_th q_th_parts q_th_limits q_th_overFrom q_th_underTo q_th_mixed q_th_cutBy q_a2 n_th_parts th_fromBit th_toBit th_room th_corners th_parts z9_0 z9_1) := hD
    cases h
    exact st_vret hx hb hr hlocks hP hD hS dX0_findInFirstRow_65
  · replace h := ifp c5 h
    cases h
    exact st_vret hx hb hr hlocks hP hD hS dX0_findInFirstRow_11
def f_X0_worldsWithoutChance_L6 (n_th_limits : Nat) (th_corners : Int32) (th_limits : Nat → Int32) (s6 : Int32 × Int32) : Option ((Int32) ⊕ (Int32 × Int32)) :=
  match s6 with
  | (x1, x2) =>
    if th_corners ≤ x2 then
      some (.inl x1)
    else
      if x2 < 0 ∨ n_th_limits ≤ x2.toNatClampNeg then none else
      some (.inr (x1 &&& (th_limits x2.toNatClampNeg), x2 + 1))
def f_X0_worldsWithoutChance (K : Nat) (n_th_limits : Nat) (th_corners : Int32) (th_limits : Nat → Int32) : Option (Int32) :=
  (lp (f_X0_worldsWithoutChance_L6 n_th_limits th_corners th_limits) K ((255 : Int32), (0 : Int32))).bind fun z3_0 =>
  some z3_0
abbrev w_X0_worldsWithoutChance (tc : Nat → ClassId) (q_th : Nat) (q_th_parts : Nat) (q_th_limits : Nat) (q_th_overFrom : Nat) (q_th_underTo : Nat) (q_th_mixed : Nat) (q_th_cutBy : Nat) (n_th_limits : Nat) (th_fromBit : Int32) (th_toBit : Int32) (th_room : Int32) (th_corners : Int32) (th_limits : Nat → Int32) : va_W := [(q_th, .inr (0, [.ref q_th_parts, .ref q_th_limits, .ref q_th_overFrom, .ref q_th_underTo, .ref q_th_mixed, .ref q_th_cutBy, .int th_fromBit, .int th_toBit, .int th_room, .int th_corners])), (q_th_limits, .inl (tc 0, n_th_limits, .inl th_limits))]
set_option maxHeartbeats 4000000 in
set_option maxRecDepth 100000 in
theorem s_X0_worldsWithoutChance {l : Launch} {E : (Nat → Prop) → State → Prop} (hEok : st_Eok E) {D : va_G} {tc : Nat → ClassId} (q_th : Nat) (q_th_parts : Nat) (q_th_limits : Nat) (q_th_overFrom : Nat) (q_th_underTo : Nat) (q_th_mixed : Nat) (q_th_cutBy : Nat) (n_th_limits : Nat) (th_fromBit : Int32) (th_toBit : Int32) (th_room : Int32) (th_corners : Int32) (th_limits : Nat → Int32) (K : Nat) (r0 : Int32) (h : f_X0_worldsWithoutChance K n_th_limits th_corners th_limits = some r0) : st l yX0_worldsWithoutChance wsX0_worldsWithoutChance ({ frames := 0, cells := 0, slots := 0, locals := 0 }) E D tc [.ref q_th] (w_X0_worldsWithoutChance tc q_th q_th_parts q_th_limits q_th_overFrom q_th_underTo q_th_mixed q_th_cutBy n_th_limits th_fromBit th_toBit th_room th_corners th_limits) (some (.int r0)) (w_X0_worldsWithoutChance tc q_th q_th_parts q_th_limits q_th_overFrom q_th_underTo q_th_mixed q_th_cutBy n_th_limits th_fromBit th_toBit th_room th_corners th_limits) := by
  refine st_enter (cc := cX0_worldsWithoutChance) (maxL := 3) (ret := (some .int)) (by decide) rfl (Nat.le_of_ble_eq_true rfl) ?_
  intro p e s m below meth c A ls hx hb hr hml hts hown hlocks hK hN hE hA hP hD hS hl
  have hl : lv_has ls 3 [(0, .ref q_th)] := hl
  have hinX0 : ∀ w ∈ wsX00, w ∈ wsX0_worldsWithoutChance := by decide +kernel
  generalize hav : ([.ref q_th] : List Value).toArray = av at hts ⊢
  have L6 : ∀ (_ : Unit), ∀ (k : Nat) (s6 : Int32 × Int32) (r : Int32), lp (f_X0_worldsWithoutChance_L6 n_th_limits th_corners th_limits) k s6 = some r → (fun x1 : Int32 => ∀ (H : Heap) (locs : List Loc) (ls : Array Slot), va_P D vwCl (w_X0_worldsWithoutChance tc q_th q_th_parts q_th_limits q_th_overFrom q_th_underTo q_th_mixed q_th_cutBy n_th_limits th_fromBit th_toBit th_room th_corners th_limits) H → va_D A (w_X0_worldsWithoutChance tc q_th q_th_parts q_th_limits q_th_overFrom q_th_underTo q_th_mixed q_th_cutBy n_th_limits th_fromBit th_toBit th_room th_corners th_limits) → va_S A s.heap H locs → lv_has ls 3 [(1, .int x1)] → W p l e ({ frames := 0, cells := 0, slots := 0, locals := 0 } : Room) s m av below meth c H locs 0 0 (MQ below (st_Q D (w_X0_worldsWithoutChance tc q_th q_th_parts q_th_limits q_th_overFrom q_th_underTo q_th_mixed q_th_cutBy n_th_limits th_fromBit th_toBit th_room th_corners th_limits) (some (.int r0)) A) av s 0 0 A) (F0 m 29 ls [])) r → (fun s6 : Int32 × Int32 => match s6 with | (x1, x2) => ∀ (H : Heap) (locs : List Loc) (ls : Array Slot), va_P D vwCl (w_X0_worldsWithoutChance tc q_th q_th_parts q_th_limits q_th_overFrom q_th_underTo q_th_mixed q_th_cutBy n_th_limits th_fromBit th_toBit th_room th_corners th_limits) H → va_D A (w_X0_worldsWithoutChance tc q_th q_th_parts q_th_limits q_th_overFrom q_th_underTo q_th_mixed q_th_cutBy n_th_limits th_fromBit th_toBit th_room th_corners th_limits) → va_S A s.heap H locs → lv_has ls 3 [(0, .ref q_th), (1, .int x1), (2, .int x2)] → W p l e ({ frames := 0, cells := 0, slots := 0, locals := 0 } : Room) s m av below meth c H locs 0 0 (MQ below (st_Q D (w_X0_worldsWithoutChance tc q_th q_th_parts q_th_limits q_th_overFrom q_th_underTo q_th_mixed q_th_cutBy n_th_limits th_fromBit th_toBit th_room th_corners th_limits) (some (.int r0)) A) av s 0 0 A) (F0 m 6 ls [])) s6 := by
    intro _
    refine lp_W (f_X0_worldsWithoutChance_L6 n_th_limits th_corners th_limits) (fun s6 : Int32 × Int32 => match s6 with | (x1, x2) => ∀ (H : Heap) (locs : List Loc) (ls : Array Slot), va_P D vwCl (w_X0_worldsWithoutChance tc q_th q_th_parts q_th_limits q_th_overFrom q_th_underTo q_th_mixed q_th_cutBy n_th_limits th_fromBit th_toBit th_room th_corners th_limits) H → va_D A (w_X0_worldsWithoutChance tc q_th q_th_parts q_th_limits q_th_overFrom q_th_underTo q_th_mixed q_th_cutBy n_th_limits th_fromBit th_toBit th_room th_corners th_limits) → va_S A s.heap H locs → lv_has ls 3 [(0, .ref q_th), (1, .int x1), (2, .int x2)] → W p l e ({ frames := 0, cells := 0, slots := 0, locals := 0 } : Room) s m av below meth c H locs 0 0 (MQ below (st_Q D (w_X0_worldsWithoutChance tc q_th q_th_parts q_th_limits q_th_overFrom q_th_underTo q_th_mixed q_th_cutBy n_th_limits th_fromBit th_toBit th_room th_corners th_limits) (some (.int r0)) A) av s 0 0 A) (F0 m 6 ls [])) (fun x1 : Int32 => ∀ (H : Heap) (locs : List Loc) (ls : Array Slot), va_P D vwCl (w_X0_worldsWithoutChance tc q_th q_th_parts q_th_limits q_th_overFrom q_th_underTo q_th_mixed q_th_cutBy n_th_limits th_fromBit th_toBit th_room th_corners th_limits) H → va_D A (w_X0_worldsWithoutChance tc q_th q_th_parts q_th_limits q_th_overFrom q_th_underTo q_th_mixed q_th_cutBy n_th_limits th_fromBit th_toBit th_room th_corners th_limits) → va_S A s.heap H locs → lv_has ls 3 [(1, .int x1)] → W p l e ({ frames := 0, cells := 0, slots := 0, locals := 0 } : Room) s m av below meth c H locs 0 0 (MQ below (st_Q D (w_X0_worldsWithoutChance tc q_th q_th_parts q_th_limits q_th_overFrom q_th_underTo q_th_mixed q_th_cutBy n_th_limits th_fromBit th_toBit th_room th_corners th_limits) (some (.int r0)) A) av s 0 0 A) (F0 m 29 ls [])) ?_
    rintro ⟨x1, x2⟩ o h ih hz H locs ls hP hD hS hl
    unfold f_X0_worldsWithoutChance_L6 at h
    refine lv_iload_n hx hb dX0_worldsWithoutChance_6 rfl (lv_at hl 2 rfl) ?_
    refine lv_aload_n hx hb dX0_worldsWithoutChance_7 rfl (lv_at hl 0 rfl) ?_
    refine va_get (D := D) (ci := 0) (v := .int th_corners) (C := RX0) (T := TX0) (N := 10) hx hb hts hinX0 hown hK hP 0 rfl rfl 9 (by decide) (hts (.fieldLink RX0 51 "ChanceBounds$Corners" "corners" "I") (by decide +kernel)) (fun _ h9 => h9) rfl dX0_worldsWithoutChance_8 ?_
    refine lv_icmp_ge (tgt := 29) hx hb dX0_worldsWithoutChance_11 (by decide) (fun c1 => ?_) (fun c1 => ?_)
    · replace h := ifp c1 h
      cases h
      exact hz _ rfl _ _ _ hP hD hS (lv_sub hl [1] rfl)
    · replace h := ifn c1 h
      refine lv_iload_n hx hb dX0_worldsWithoutChance_14 rfl (lv_at hl 1 rfl) ?_
      refine lv_aload_n hx hb dX0_worldsWithoutChance_15 rfl (lv_at hl 0 rfl) ?_
      refine va_get (D := D) (ci := 0) (v := .ref q_th_limits) (C := RX0) (T := TX0) (N := 10) hx hb hts hinX0 hown hK hP 0 rfl rfl 1 (by decide) (hts (.fieldLink RX0 35 "ChanceBounds$Corners" "limits" "[I") (by decide +kernel)) (fun _ h9 => h9) rfl dX0_worldsWithoutChance_16 ?_
      refine lv_iload_n hx hb dX0_worldsWithoutChance_19 rfl (lv_at hl 2 rfl) ?_
      obtain ⟨g2, h⟩ := gd_ok h
      refine va_iald hx hb hK hP 1 0 rfl rfl g2 dX0_worldsWithoutChance_20 ?_
      refine lv_iand hx hb dX0_worldsWithoutChance_21 ?_
      refine lv_istore_n (lv' := [(1, .int (x1 &&& (th_limits x2.toNatClampNeg))), (0, .ref q_th), (2, .int x2)]) hx hb dX0_worldsWithoutChance_22 rfl hl (by decide) rfl (fun ls hl => ?_)
      refine lv_iinc (v := x2 + 1) (lv' := [(2, .int (x2 + 1)), (1, .int (x1 &&& (th_limits x2.toNatClampNeg))), (0, .ref q_th)]) hx hb dX0_worldsWithoutChance_23 hl (k := 2) rfl rfl (by decide) rfl (fun ls hl => ?_)
      refine lv_goto (tgt := 6) hx hb dX0_worldsWithoutChance_26 (by decide) ?_
      cases h
      exact ih _ rfl _ _ _ hP hD hS (lv_sub hl [2, 1, 0] rfl)
  unfold f_X0_worldsWithoutChance at h
  refine lv_sipush (v := (255 : Int32)) hx hb dX0_worldsWithoutChance_0 (by decide) ?_
  refine lv_istore_n (lv' := [(1, .int (255 : Int32)), (0, .ref q_th)]) hx hb dX0_worldsWithoutChance_3 rfl hl (by decide) rfl (fun ls hl => ?_)
  refine lv_iconst (v := (0 : Int32)) hx hb dX0_worldsWithoutChance_4 (by decide) ?_
  refine lv_istore_n (lv' := [(2, .int (0 : Int32)), (1, .int (255 : Int32)), (0, .ref q_th)]) hx hb dX0_worldsWithoutChance_5 rfl hl (by decide) rfl (fun ls hl => ?_)
  obtain ⟨z3_0, hl3, h⟩ := bd_ok h
  refine L6 () K _ _ hl3 ?_ _ _ _ hP hD hS (lv_sub hl [2, 1, 0] rfl)
  intro H locs ls hP hD hS hl
  refine lv_iload_n hx hb dX0_worldsWithoutChance_29 rfl (lv_at hl 0 rfl) ?_
  cases h
  exact st_iret hx hb hr hlocks hP hD hS dX0_worldsWithoutChance_30
def f_X0_allKeep_L2 (K : Nat) (n_th_parts : Nat) (th_corners : Int32) (th_parts : Nat → Int64) (a1_x : Int32) (a1_y : Int32) (a1_from : Int32) (a1_to : Int32) (s2 : Int32) : Option (((Int32) ⊕ (Unit)) ⊕ (Int32)) :=
  (fun x2 => 
    if th_corners ≤ x2 then
      some (.inl (.inr ()))
    else
      (f_X0_weight K n_th_parts th_parts x2 (a1_x &&& a1_y)).bind fun z2_0 =>
      (f_X0_weight K n_th_parts th_parts x2 a1_y).bind fun z3_0 =>
      (f_X4_isKeptBy a1_from a1_to z2_0 z3_0).bind fun z4_0 =>
      if z4_0 = (0 : Int32) then
        some (.inl (.inl (0 : Int32)))
      else
        some (.inr (x2 + 1))
  ) s2
def f_X0_allKeep (K : Nat) (n_th_parts : Nat) (th_corners : Int32) (th_parts : Nat → Int64) (a1_x : Int32) (a1_y : Int32) (a1_from : Int32) (a1_to : Int32) : Option (Int32) :=
  (lp (f_X0_allKeep_L2 K n_th_parts th_corners th_parts a1_x a1_y a1_from a1_to) K (0 : Int32)).bind fun z6 => match z6 with
  | .inl r => some r
  | .inr _ =>
    some (1 : Int32)
abbrev w_X0_allKeep (tc : Nat → ClassId) (q_th : Nat) (q_th_parts : Nat) (q_th_limits : Nat) (q_th_overFrom : Nat) (q_th_underTo : Nat) (q_th_mixed : Nat) (q_th_cutBy : Nat) (q_a1 : Nat) (n_th_parts : Nat) (th_fromBit : Int32) (th_toBit : Int32) (th_room : Int32) (th_corners : Int32) (th_parts : Nat → Int64) (a1_x : Int32) (a1_y : Int32) (a1_from : Int32) (a1_to : Int32) (a1_isOn : Int32) : va_W := [(q_th, .inr (0, [.ref q_th_parts, .ref q_th_limits, .ref q_th_overFrom, .ref q_th_underTo, .ref q_th_mixed, .ref q_th_cutBy, .int th_fromBit, .int th_toBit, .int th_room, .int th_corners])), (q_th_parts, .inl (tc 1, n_th_parts, .inr (.inl th_parts))), (q_a1, .inr (4, [.int a1_x, .int a1_y, .int a1_from, .int a1_to, .int a1_isOn]))]
set_option maxHeartbeats 4000000 in
set_option maxRecDepth 100000 in
theorem s_X0_allKeep {l : Launch} {E : (Nat → Prop) → State → Prop} (hEok : st_Eok E) {D : va_G} {tc : Nat → ClassId} (q_th : Nat) (q_th_parts : Nat) (q_th_limits : Nat) (q_th_overFrom : Nat) (q_th_underTo : Nat) (q_th_mixed : Nat) (q_th_cutBy : Nat) (q_a1 : Nat) (n_th_parts : Nat) (th_fromBit : Int32) (th_toBit : Int32) (th_room : Int32) (th_corners : Int32) (th_parts : Nat → Int64) (a1_x : Int32) (a1_y : Int32) (a1_from : Int32) (a1_to : Int32) (a1_isOn : Int32) (K : Nat) (r0 : Int32) (h : f_X0_allKeep K n_th_parts th_corners th_parts a1_x a1_y a1_from a1_to = some r0) : st l yX0_allKeep wsX0_allKeep ({ frames := 2, cells := 0, slots := 0, locals := 48 }) E D tc [.ref q_th, .ref q_a1] (w_X0_allKeep tc q_th q_th_parts q_th_limits q_th_overFrom q_th_underTo q_th_mixed q_th_cutBy q_a1 n_th_parts th_fromBit th_toBit th_room th_corners th_parts a1_x a1_y a1_from a1_to a1_isOn) (some (.int r0)) (w_X0_allKeep tc q_th q_th_parts q_th_limits q_th_overFrom q_th_underTo q_th_mixed q_th_cutBy q_a1 n_th_parts th_fromBit th_toBit th_room th_corners th_parts a1_x a1_y a1_from a1_to a1_isOn) := by
  refine st_enter (cc := cX0_allKeep) (maxL := 5) (ret := (some .boolean)) (by decide) rfl (Nat.le_of_ble_eq_true rfl) ?_
  intro p e s m below meth c A ls hx hb hr hml hts hown hlocks hK hN hE hA hP hD hS hl
  have hl : lv_has ls 5 [(0, .ref q_th), (1, .ref q_a1)] := hl
  have hinX0 : ∀ w ∈ wsX00, w ∈ wsX0_allKeep := by decide +kernel
  have hinX4 : ∀ w ∈ wsX40, w ∈ wsX0_allKeep := by decide +kernel
  generalize hav : ([.ref q_th, .ref q_a1] : List Value).toArray = av at hts ⊢
  have L2 : ∀ (_ : Unit), ∀ (k : Nat) (s2 : Int32) (r : (Int32) ⊕ (Unit)), lp (f_X0_allKeep_L2 K n_th_parts th_corners th_parts a1_x a1_y a1_from a1_to) k s2 = some r → (fun z : (Int32) ⊕ (Unit) => match z with | .inl r => r = r0 | .inr y2 => ∀ (H : Heap) (locs : List Loc) (ls : Array Slot), va_P D vwCl (w_X0_allKeep tc q_th q_th_parts q_th_limits q_th_overFrom q_th_underTo q_th_mixed q_th_cutBy q_a1 n_th_parts th_fromBit th_toBit th_room th_corners th_parts a1_x a1_y a1_from a1_to a1_isOn) H → va_D A (w_X0_allKeep tc q_th q_th_parts q_th_limits q_th_overFrom q_th_underTo q_th_mixed q_th_cutBy q_a1 n_th_parts th_fromBit th_toBit th_room th_corners th_parts a1_x a1_y a1_from a1_to a1_isOn) → va_S A s.heap H locs → lv_has ls 5 [] → W p l e ({ frames := 2, cells := 0, slots := 0, locals := 48 } : Room) s m av below meth c H locs 0 0 (MQ below (st_Q D (w_X0_allKeep tc q_th q_th_parts q_th_limits q_th_overFrom q_th_underTo q_th_mixed q_th_cutBy q_a1 n_th_parts th_fromBit th_toBit th_room th_corners th_parts a1_x a1_y a1_from a1_to a1_isOn) (some (.int r0)) A) av s 0 0 A) (F0 m 50 ls [])) r → (fun x2 : Int32 => ∀ (H : Heap) (locs : List Loc) (ls : Array Slot), va_P D vwCl (w_X0_allKeep tc q_th q_th_parts q_th_limits q_th_overFrom q_th_underTo q_th_mixed q_th_cutBy q_a1 n_th_parts th_fromBit th_toBit th_room th_corners th_parts a1_x a1_y a1_from a1_to a1_isOn) H → va_D A (w_X0_allKeep tc q_th q_th_parts q_th_limits q_th_overFrom q_th_underTo q_th_mixed q_th_cutBy q_a1 n_th_parts th_fromBit th_toBit th_room th_corners th_parts a1_x a1_y a1_from a1_to a1_isOn) → va_S A s.heap H locs → lv_has ls 5 [(0, .ref q_th), (1, .ref q_a1), (2, .int x2)] → W p l e ({ frames := 2, cells := 0, slots := 0, locals := 48 } : Room) s m av below meth c H locs 0 0 (MQ below (st_Q D (w_X0_allKeep tc q_th q_th_parts q_th_limits q_th_overFrom q_th_underTo q_th_mixed q_th_cutBy q_a1 n_th_parts th_fromBit th_toBit th_room th_corners th_parts a1_x a1_y a1_from a1_to a1_isOn) (some (.int r0)) A) av s 0 0 A) (F0 m 2 ls [])) s2 := by
    intro _
    refine lp_W (f_X0_allKeep_L2 K n_th_parts th_corners th_parts a1_x a1_y a1_from a1_to) (fun x2 : Int32 => ∀ (H : Heap) (locs : List Loc) (ls : Array Slot), va_P D vwCl (w_X0_allKeep tc q_th q_th_parts q_th_limits q_th_overFrom q_th_underTo q_th_mixed q_th_cutBy q_a1 n_th_parts th_fromBit th_toBit th_room th_corners th_parts a1_x a1_y a1_from a1_to a1_isOn) H → va_D A (w_X0_allKeep tc q_th q_th_parts q_th_limits q_th_overFrom q_th_underTo q_th_mixed q_th_cutBy q_a1 n_th_parts th_fromBit th_toBit th_room th_corners th_parts a1_x a1_y a1_from a1_to a1_isOn) → va_S A s.heap H locs → lv_has ls 5 [(0, .ref q_th), (1, .ref q_a1), (2, .int x2)] → W p l e ({ frames := 2, cells := 0, slots := 0, locals := 48 } : Room) s m av below meth c H locs 0 0 (MQ below (st_Q D (w_X0_allKeep tc q_th q_th_parts q_th_limits q_th_overFrom q_th_underTo q_th_mixed q_th_cutBy q_a1 n_th_parts th_fromBit th_toBit th_room th_corners th_parts a1_x a1_y a1_from a1_to a1_isOn) (some (.int r0)) A) av s 0 0 A) (F0 m 2 ls [])) (fun z : (Int32) ⊕ (Unit) => match z with | .inl r => r = r0 | .inr y2 => ∀ (H : Heap) (locs : List Loc) (ls : Array Slot), va_P D vwCl (w_X0_allKeep tc q_th q_th_parts q_th_limits q_th_overFrom q_th_underTo q_th_mixed q_th_cutBy q_a1 n_th_parts th_fromBit th_toBit th_room th_corners th_parts a1_x a1_y a1_from a1_to a1_isOn) H → va_D A (w_X0_allKeep tc q_th q_th_parts q_th_limits q_th_overFrom q_th_underTo q_th_mixed q_th_cutBy q_a1 n_th_parts th_fromBit th_toBit th_room th_corners th_parts a1_x a1_y a1_from a1_to a1_isOn) → va_S A s.heap H locs → lv_has ls 5 [] → W p l e ({ frames := 2, cells := 0, slots := 0, locals := 48 } : Room) s m av below meth c H locs 0 0 (MQ below (st_Q D (w_X0_allKeep tc q_th q_th_parts q_th_limits q_th_overFrom q_th_underTo q_th_mixed q_th_cutBy q_a1 n_th_parts th_fromBit th_toBit th_room th_corners th_parts a1_x a1_y a1_from a1_to a1_isOn) (some (.int r0)) A) av s 0 0 A) (F0 m 50 ls [])) ?_
    rintro x2 o h ih hz H locs ls hP hD hS hl
    unfold f_X0_allKeep_L2 at h
    refine lv_iload_n hx hb dX0_allKeep_2 rfl (lv_at hl 2 rfl) ?_
    refine lv_aload_n hx hb dX0_allKeep_3 rfl (lv_at hl 0 rfl) ?_
    refine va_get (D := D) (ci := 0) (v := .int th_corners) (C := RX0) (T := TX0) (N := 10) hx hb hts hinX0 hown hK hP 0 rfl rfl 9 (by decide) (hts (.fieldLink RX0 51 "ChanceBounds$Corners" "corners" "I") (by decide +kernel)) (fun _ h9 => h9) rfl dX0_allKeep_4 ?_
    refine lv_icmp_ge (tgt := 50) hx hb dX0_allKeep_7 (by decide) (fun c1 => ?_) (fun c1 => ?_)
    · replace h := ifp c1 h
      cases h
      exact hz _ rfl _ _ _ hP hD hS (lv_sub hl [] rfl)
    · replace h := ifn c1 h
      refine lv_aload_n hx hb dX0_allKeep_10 rfl (lv_at hl 0 rfl) ?_
      refine lv_iload_n hx hb dX0_allKeep_11 rfl (lv_at hl 2 rfl) ?_
      refine lv_aload_n hx hb dX0_allKeep_12 rfl (lv_at hl 1 rfl) ?_
      refine va_getN (D := D) (ci := 4) (v := .int a1_x) (C := RX4) (T := TX4) (N := 5) hx hb hts hinX4 hown hK hP 2 rfl rfl 0 (by decide) (va_Nw.use rfl (hN (.fieldLinkNest RX0 79 "ChanceBounds$Saying" "x" "I" "ChanceBounds") (by decide +kernel))) (fun _ h9 => h9) rfl dX0_allKeep_13 ?_
      refine lv_aload_n hx hb dX0_allKeep_16 rfl (lv_at hl 1 rfl) ?_
      refine va_getN (D := D) (ci := 4) (v := .int a1_y) (C := RX4) (T := TX4) (N := 5) hx hb hts hinX4 hown hK hP 2 rfl rfl 1 (by decide) (va_Nw.use rfl (hN (.fieldLinkNest RX0 82 "ChanceBounds$Saying" "y" "I" "ChanceBounds") (by decide +kernel))) (fun _ h9 => h9) rfl dX0_allKeep_17 ?_
      refine lv_iand hx hb dX0_allKeep_20 ?_
      obtain ⟨z2_0, hc2, h⟩ := bd_ok h
      refine st_callV (As := [.int x2, .int (a1_x &&& a1_y)]) (rest := []) (pos := [0, 1]) ⟨hx, hb, hml, hown, hts⟩ (s_X0_weight (l := l) (D := D) (tc := tc) hEok q_th q_th_parts q_th_limits q_th_overFrom q_th_underTo q_th_mixed q_th_cutBy n_th_parts th_fromBit th_toBit th_room th_corners th_parts x2 (a1_x &&& a1_y) K z2_0 hc2) (cwV 2 hts gX0_allKeep_X0_weight rfl rfl rfl (by decide +kernel) ⟨Nat.le_of_ble_eq_true rfl, Nat.le_of_ble_eq_true rfl⟩) (st_recv (ci := 0) (q0 := 0) hK hP rfl rfl) hEok hE hK hN hP hD hS hA rfl rfl rfl rfl hl.1 rfl (Nat.le_of_ble_eq_true rfl) dX0_allKeep_21 ⟨Nat.zero_le _, Nat.zero_le _⟩ (fun H locs hP hD hS => ?_)
      have hP : va_P D vwCl (w_X0_allKeep tc q_th q_th_parts q_th_limits q_th_overFrom q_th_underTo q_th_mixed q_th_cutBy q_a1 n_th_parts th_fromBit th_toBit th_room th_corners th_parts a1_x a1_y a1_from a1_to a1_isOn) H := hP
      have hD : va_D A (w_X0_allKeep tc q_th q_th_parts q_th_limits q_th_overFrom q_th_underTo q_th_mixed q_th_cutBy q_a1 n_th_parts th_fromBit th_toBit th_room th_corners th_parts a1_x a1_y a1_from a1_to a1_isOn) := hD
      refine lv_lstore_n (lv' := [(3, .long z2_0), (0, .ref q_th), (1, .ref q_a1), (2, .int x2)]) hx hb dX0_allKeep_24 rfl hl (by decide) rfl (fun ls hl => ?_)
      refine lv_aload_n hx hb dX0_allKeep_25 rfl (lv_at hl 2 rfl) ?_
      refine lv_lload_n hx hb dX0_allKeep_26 rfl (lv_at hl 0 rfl) ?_
      refine lv_aload_n hx hb dX0_allKeep_27 rfl (lv_at hl 1 rfl) ?_
      refine lv_iload_n hx hb dX0_allKeep_28 rfl (lv_at hl 3 rfl) ?_
      refine lv_aload_n hx hb dX0_allKeep_29 rfl (lv_at hl 2 rfl) ?_
      refine va_getN (D := D) (ci := 4) (v := .int a1_y) (C := RX4) (T := TX4) (N := 5) hx hb hts hinX4 hown hK hP 2 rfl rfl 1 (by decide) (va_Nw.use rfl (hN (.fieldLinkNest RX0 82 "ChanceBounds$Saying" "y" "I" "ChanceBounds") (by decide +kernel))) (fun _ h9 => h9) rfl dX0_allKeep_30 ?_
      obtain ⟨z3_0, hc3, h⟩ := bd_ok h
      refine st_callV (As := [.int x2, .int a1_y]) (rest := [.long z2_0, .ref q_a1]) (pos := [0, 1]) ⟨hx, hb, hml, hown, hts⟩ (s_X0_weight (l := l) (D := D) (tc := tc) hEok q_th q_th_parts q_th_limits q_th_overFrom q_th_underTo q_th_mixed q_th_cutBy n_th_parts th_fromBit th_toBit th_room th_corners th_parts x2 a1_y K z3_0 hc3) (cwV 2 hts gX0_allKeep_X0_weight rfl rfl rfl (by decide +kernel) ⟨Nat.le_of_ble_eq_true rfl, Nat.le_of_ble_eq_true rfl⟩) (st_recv (ci := 0) (q0 := 0) hK hP rfl rfl) hEok hE hK hN hP hD hS hA rfl rfl rfl rfl hl.1 rfl (Nat.le_of_ble_eq_true rfl) dX0_allKeep_33 ⟨Nat.zero_le _, Nat.zero_le _⟩ (fun H locs hP hD hS => ?_)
      have hP : va_P D vwCl (w_X0_allKeep tc q_th q_th_parts q_th_limits q_th_overFrom q_th_underTo q_th_mixed q_th_cutBy q_a1 n_th_parts th_fromBit th_toBit th_room th_corners th_parts a1_x a1_y a1_from a1_to a1_isOn) H := hP
      have hD : va_D A (w_X0_allKeep tc q_th q_th_parts q_th_limits q_th_overFrom q_th_underTo q_th_mixed q_th_cutBy q_a1 n_th_parts th_fromBit th_toBit th_room th_corners th_parts a1_x a1_y a1_from a1_to a1_isOn) := hD
      obtain ⟨z4_0, hc4, h⟩ := bd_ok h
      refine st_callV (As := [.long z2_0, .long z3_0]) (rest := []) (pos := [2]) ⟨hx, hb, hml, hown, hts⟩ (s_X4_isKeptBy (l := l) (D := D) (tc := tc) hEok q_a1 a1_x a1_y a1_from a1_to a1_isOn z2_0 z3_0 z4_0 hc4) (cwV 2 hts gX0_allKeep_X4_isKeptBy rfl rfl rfl (by decide +kernel) ⟨Nat.le_of_ble_eq_true rfl, Nat.le_of_ble_eq_true rfl⟩) (st_recv (ci := 4) (q0 := 2) hK hP rfl rfl) hEok hE hK hN hP hD hS hA rfl rfl rfl rfl hl.1 rfl (Nat.le_of_ble_eq_true rfl) dX0_allKeep_36 ⟨Nat.zero_le _, Nat.zero_le _⟩ (fun H locs hP hD hS => ?_)
      have hP : va_P D vwCl (w_X0_allKeep tc q_th q_th_parts q_th_limits q_th_overFrom q_th_underTo q_th_mixed q_th_cutBy q_a1 n_th_parts th_fromBit th_toBit th_room th_corners th_parts a1_x a1_y a1_from a1_to a1_isOn) H := hP
      have hD : va_D A (w_X0_allKeep tc q_th q_th_parts q_th_limits q_th_overFrom q_th_underTo q_th_mixed q_th_cutBy q_a1 n_th_parts th_fromBit th_toBit th_room th_corners th_parts a1_x a1_y a1_from a1_to a1_isOn) := hD
      refine lv_if_ne (tgt := 44) hx hb dX0_allKeep_39 (by decide) (fun c5 => ?_) (fun c5 => ?_)
      · replace h := ifn c5 h
        refine lv_iinc (v := x2 + 1) (lv' := [(2, .int (x2 + 1)), (3, .long z2_0), (0, .ref q_th), (1, .ref q_a1)]) hx hb dX0_allKeep_44 hl (k := 3) rfl rfl (by decide) rfl (fun ls hl => ?_)
        refine lv_goto (tgt := 2) hx hb dX0_allKeep_47 (by decide) ?_
        cases h
        exact ih _ rfl _ _ _ hP hD hS (lv_sub hl [2, 3, 0] rfl)
      · replace h := ifp c5 h
        refine lv_iconst (v := (0 : Int32)) hx hb dX0_allKeep_42 (by decide) ?_
        cases h
        have e8 := hz _ rfl
        cases e8
        exact st_zret hx hb hr hlocks hP hD hS rfl dX0_allKeep_43
  unfold f_X0_allKeep at h
  refine lv_iconst (v := (0 : Int32)) hx hb dX0_allKeep_0 (by decide) ?_
  refine lv_istore_n (lv' := [(2, .int (0 : Int32)), (0, .ref q_th), (1, .ref q_a1)]) hx hb dX0_allKeep_1 rfl hl (by decide) rfl (fun ls hl => ?_)
  obtain ⟨z6, hl6, h⟩ := bd_ok h
  refine L2 () K _ z6 hl6 ?_ _ _ _ hP hD hS (lv_sub hl [1, 2, 0] rfl)
  rcases z6 with r | ⟨⟩
  · cases h
    exact rfl
  intro H locs ls hP hD hS hl
  refine lv_iconst (v := (1 : Int32)) hx hb dX0_allKeep_50 (by decide) ?_
  cases h
  exact st_zret hx hb hr hlocks hP hD hS rfl dX0_allKeep_51

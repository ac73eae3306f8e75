def f_X0_weight_L5 (n_th_parts : Nat) (th_parts : Nat → Int64) (x1 : Int32) (x2 : Int32) (s5 : Int64 × Int32) : Option ((Int64) ⊕ (Int64 × Int32)) :=
  match s5 with
  | (x3, x5) =>
    if (8 : Int32) ≤ x5 then
      some (.inl x3)
    else
      (f_X8_has x2 x5).bind fun z2_0 =>
      if z2_0 = (0 : Int32) then
        some (.inr (x3, x5 + 1))
      else
        if (((8 : Int32) * x1) + x5) < 0 ∨ n_th_parts ≤ (((8 : Int32) * x1) + x5).toNatClampNeg then none else
        some (.inr (x3 + (th_parts (((8 : Int32) * x1) + x5).toNatClampNeg), x5 + 1))
def f_X0_weight (K : Nat) (n_th_parts : Nat) (th_parts : Nat → Int64) (x1 : Int32) (x2 : Int32) : Option (Int64) :=
  (lp (f_X0_weight_L5 n_th_parts th_parts x1 x2) K ((0 : Int64), (0 : Int32))).bind fun z5_0 =>
  some z5_0
abbrev w_X0_weight (tc : Nat → ClassId) (q_th : Nat) (q_th_parts : Nat) (q_th_limits : Nat) (q_th_overFrom : Nat) (q_th_underTo : Nat) (q_th_mixed : Nat) (q_th_cutBy : Nat) (n_th_parts : Nat) (th_fromBit : Int32) (th_toBit : Int32) (th_room : Int32) (th_corners : Int32) (th_parts : Nat → Int64) : va_W := [(q_th, .inr (0, [.ref q_th_parts, .ref q_th_limits, .ref q_th_overFrom, .ref q_th_underTo, .ref q_th_mixed, .ref q_th_cutBy, .int th_fromBit, .int th_toBit, .int th_room, .int th_corners])), (q_th_parts, .inl (tc 1, n_th_parts, .inr (.inl th_parts)))]
set_option maxHeartbeats 4000000 in
set_option maxRecDepth 100000 in
theorem s_X0_weight {l : Launch} {E : (Nat → Prop) → State → Prop} (hEok : st_Eok E) {D : va_G} {tc : Nat → ClassId} (q_th : Nat) (q_th_parts : Nat) (q_th_limits : Nat) (q_th_overFrom : Nat) (q_th_underTo : Nat) (q_th_mixed : Nat) (q_th_cutBy : Nat) (n_th_parts : Nat) (th_fromBit : Int32) (th_toBit : Int32) (th_room : Int32) (th_corners : Int32) (th_parts : Nat → Int64) (x1 : Int32) (x2 : Int32) (K : Nat) (r0 : Int64) (h : f_X0_weight K n_th_parts th_parts x1 x2 = some r0) : st l yX0_weight wsX0_weight ({ frames := 1, cells := 0, slots := 0, locals := 21 }) E D tc [.ref q_th, .int x1, .int x2] (w_X0_weight tc q_th q_th_parts q_th_limits q_th_overFrom q_th_underTo q_th_mixed q_th_cutBy n_th_parts th_fromBit th_toBit th_room th_corners th_parts) (some (.long r0)) (w_X0_weight tc q_th q_th_parts q_th_limits q_th_overFrom q_th_underTo q_th_mixed q_th_cutBy n_th_parts th_fromBit th_toBit th_room th_corners th_parts) := by
  refine st_enter (cc := cX0_weight) (maxL := 6) (ret := (some .long)) (by decide) rfl (Nat.le_of_ble_eq_true rfl) ?_
  intro p e s m below meth c A ls hx hb hr hml hts hown hlocks hK hN hE hA hP hD hS hl
  have hl : lv_has ls 6 [(0, .ref q_th), (1, .int x1), (2, .int x2)] := hl
  have hinX0 : ∀ w ∈ wsX00, w ∈ wsX0_weight := by decide +kernel
  generalize hav : ([.ref q_th, .int x1, .int x2] : List Value).toArray = av at hts ⊢
  have L5 : ∀ (x1 : Int32) (x2 : Int32), ∀ (k : Nat) (s5 : Int64 × Int32) (r : Int64), lp (f_X0_weight_L5 n_th_parts th_parts x1 x2) k s5 = some r → (fun x3 : Int64 => ∀ (H : Heap) (locs : List Loc) (ls : Array Slot), va_P D vwCl (w_X0_weight tc q_th q_th_parts q_th_limits q_th_overFrom q_th_underTo q_th_mixed q_th_cutBy n_th_parts th_fromBit th_toBit th_room th_corners th_parts) H → va_D A (w_X0_weight tc q_th q_th_parts q_th_limits q_th_overFrom q_th_underTo q_th_mixed q_th_cutBy n_th_parts th_fromBit th_toBit th_room th_corners th_parts) → va_S A s.heap H locs → lv_has ls 6 [(3, .long x3)] → W p l e ({ frames := 1, cells := 0, slots := 0, locals := 21 } : Room) s m av below meth c H locs 0 0 (MQ below (st_Q D (w_X0_weight tc q_th q_th_parts q_th_limits q_th_overFrom q_th_underTo q_th_mixed q_th_cutBy n_th_parts th_fromBit th_toBit th_room th_corners th_parts) (some (.long r0)) A) av s 0 0 A) (F0 m 42 ls [])) r → (fun s5 : Int64 × Int32 => match s5 with | (x3, x5) => ∀ (H : Heap) (locs : List Loc) (ls : Array Slot), va_P D vwCl (w_X0_weight tc q_th q_th_parts q_th_limits q_th_overFrom q_th_underTo q_th_mixed q_th_cutBy n_th_parts th_fromBit th_toBit th_room th_corners th_parts) H → va_D A (w_X0_weight tc q_th q_th_parts q_th_limits q_th_overFrom q_th_underTo q_th_mixed q_th_cutBy n_th_parts th_fromBit th_toBit th_room th_corners th_parts) → va_S A s.heap H locs → lv_has ls 6 [(0, .ref q_th), (1, .int x1), (2, .int x2), (3, .long x3), (5, .int x5)] → W p l e ({ frames := 1, cells := 0, slots := 0, locals := 21 } : Room) s m av below meth c H locs 0 0 (MQ below (st_Q D (w_X0_weight tc q_th q_th_parts q_th_limits q_th_overFrom q_th_underTo q_th_mixed q_th_cutBy n_th_parts th_fromBit th_toBit th_room th_corners th_parts) (some (.long r0)) A) av s 0 0 A) (F0 m 5 ls [])) s5 := by
    intro x1 x2
    refine lp_W (f_X0_weight_L5 n_th_parts th_parts x1 x2) (fun s5 : Int64 × Int32 => match s5 with | (x3, x5) => ∀ (H : Heap) (locs : List Loc) (ls : Array Slot), va_P D vwCl (w_X0_weight tc q_th q_th_parts q_th_limits q_th_overFrom q_th_underTo q_th_mixed q_th_cutBy n_th_parts th_fromBit th_toBit th_room th_corners th_parts) H → va_D A (w_X0_weight tc q_th q_th_parts q_th_limits q_th_overFrom q_th_underTo q_th_mixed q_th_cutBy n_th_parts th_fromBit th_toBit th_room th_corners th_parts) → va_S A s.heap H locs → lv_has ls 6 [(0, .ref q_th), (1, .int x1), (2, .int x2), (3, .long x3), (5, .int x5)] → W p l e ({ frames := 1, cells := 0, slots := 0, locals := 21 } : Room) s m av below meth c H locs 0 0 (MQ below (st_Q D (w_X0_weight tc q_th q_th_parts q_th_limits q_th_overFrom q_th_underTo q_th_mixed q_th_cutBy n_th_parts th_fromBit th_toBit th_room th_corners th_parts) (some (.long r0)) A) av s 0 0 A) (F0 m 5 ls [])) (fun x3 : Int64 => ∀ (H : Heap) (locs : List Loc) (ls : Array Slot), va_P D vwCl (w_X0_weight tc q_th q_th_parts q_th_limits q_th_overFrom q_th_underTo q_th_mixed q_th_cutBy n_th_parts th_fromBit th_toBit th_room th_corners th_parts) H → va_D A (w_X0_weight tc q_th q_th_parts q_th_limits q_th_overFrom q_th_underTo q_th_mixed q_th_cutBy n_th_parts th_fromBit th_toBit th_room th_corners th_parts) → va_S A s.heap H locs → lv_has ls 6 [(3, .long x3)] → W p l e ({ frames := 1, cells := 0, slots := 0, locals := 21 } : Room) s m av below meth c H locs 0 0 (MQ below (st_Q D (w_X0_weight tc q_th q_th_parts q_th_limits q_th_overFrom q_th_underTo q_th_mixed q_th_cutBy n_th_parts th_fromBit th_toBit th_room th_corners th_parts) (some (.long r0)) A) av s 0 0 A) (F0 m 42 ls [])) ?_
    rintro ⟨x3, x5⟩ o h ih hz H locs ls hP hD hS hl
    unfold f_X0_weight_L5 at h
    refine lv_iload hx hb dX0_weight_5 (lv_at hl 4 rfl) ?_
    refine lv_bipush (v := (8 : Int32)) hx hb dX0_weight_7 (by decide) ?_
    refine lv_icmp_ge (tgt := 42) hx hb dX0_weight_9 (by decide) (fun c1 => ?_) (fun c1 => ?_)
    · replace h := ifp c1 h
      cases h
      exact hz _ rfl _ _ _ hP hD hS (lv_sub hl [3] rfl)
    · replace h := ifn c1 h
      refine lv_iload_n hx hb dX0_weight_12 rfl (lv_at hl 2 rfl) ?_
      refine lv_iload hx hb dX0_weight_13 (lv_at hl 4 rfl) ?_
      obtain ⟨z2_0, hc2, h⟩ := bd_ok h
      refine st_callSN (As := [.int x2, .int x5]) (rest := []) (pos := []) ⟨hx, hb, hml, hown, hts⟩ (s_X8_has (l := l) (D := D) (tc := tc) hEok x2 x5 z2_0 hc2) ⟨va_cnB (host := "ChanceBounds") 2 hts gX0_weight_X8_has_n111 rfl rfl rfl (hN (.methodLinkNest RX0 111 yX8_has "ChanceBounds") (by decide +kernel)) (hts (.initialized RX8) (by decide +kernel)) (by decide +kernel) ⟨Nat.le_of_ble_eq_true rfl, Nat.le_of_ble_eq_true rfl⟩, hts (.static yX8_has) (by decide +kernel), trivial⟩ hEok hE hK hN hP hD hS hA rfl rfl rfl rfl hl.1 rfl (Nat.le_of_ble_eq_true rfl) dX0_weight_15 ⟨Nat.zero_le _, Nat.zero_le _⟩ (fun H locs hP hD hS => ?_)
      have hP : va_P D vwCl (w_X0_weight tc q_th q_th_parts q_th_limits q_th_overFrom q_th_underTo q_th_mixed q_th_cutBy n_th_parts th_fromBit th_toBit th_room th_corners th_parts) H := hP
      have hD : va_D A (w_X0_weight tc q_th q_th_parts q_th_limits q_th_overFrom q_th_underTo q_th_mixed q_th_cutBy n_th_parts th_fromBit th_toBit th_room th_corners th_parts) := hD
      refine lv_if_eq (tgt := 36) hx hb dX0_weight_18 (by decide) (fun c3 => ?_) (fun c3 => ?_)
      · replace h := ifp c3 h
        refine lv_iinc (v := x5 + 1) (lv' := [(5, .int (x5 + 1)), (0, .ref q_th), (1, .int x1), (2, .int x2), (3, .long x3)]) hx hb dX0_weight_36 hl (k := 4) rfl rfl (by decide) rfl (fun ls hl => ?_)
        refine lv_goto (tgt := 5) hx hb dX0_weight_39 (by decide) ?_
        cases h
        exact ih _ rfl _ _ _ hP hD hS (lv_sub hl [1, 2, 3, 4, 0] rfl)
      · replace h := ifn c3 h
        refine lv_lload_n hx hb dX0_weight_21 rfl (lv_at hl 3 rfl) ?_
        refine lv_aload_n hx hb dX0_weight_22 rfl (lv_at hl 0 rfl) ?_
        refine va_get (D := D) (ci := 0) (v := .ref q_th_parts) (C := RX0) (T := TX0) (N := 10) hx hb hts hinX0 hown hK hP 0 rfl rfl 0 (by decide) (hts (.fieldLink RX0 32 "ChanceBounds$Corners" "parts" "[J") (by decide +kernel)) (fun _ h9 => h9) rfl dX0_weight_23 ?_
        refine lv_bipush (v := (8 : Int32)) hx hb dX0_weight_26 (by decide) ?_
        refine lv_iload_n hx hb dX0_weight_28 rfl (lv_at hl 1 rfl) ?_
        refine lv_imul hx hb dX0_weight_29 ?_
        refine lv_iload hx hb dX0_weight_30 (lv_at hl 4 rfl) ?_
        refine lv_iadd hx hb dX0_weight_32 ?_
        obtain ⟨g4, h⟩ := gd_ok h
        refine va_lald hx hb hK hP 1 1 rfl rfl g4 dX0_weight_33 ?_
        refine lv_ladd hx hb dX0_weight_34 ?_
        refine lv_lstore_n (lv' := [(3, .long (x3 + (th_parts (((8 : Int32) * x1) + x5).toNatClampNeg))), (0, .ref q_th), (1, .int x1), (2, .int x2), (5, .int x5)]) hx hb dX0_weight_35 rfl hl (by decide) rfl (fun ls hl => ?_)
        refine lv_iinc (v := x5 + 1) (lv' := [(5, .int (x5 + 1)), (3, .long (x3 + (th_parts (((8 : Int32) * x1) + x5).toNatClampNeg))), (0, .ref q_th), (1, .int x1), (2, .int x2)]) hx hb dX0_weight_36 hl (k := 4) rfl rfl (by decide) rfl (fun ls hl => ?_)
        refine lv_goto (tgt := 5) hx hb dX0_weight_39 (by decide) ?_
        cases h
        exact ih _ rfl _ _ _ hP hD hS (lv_sub hl [2, 3, 4, 1, 0] rfl)
  unfold f_X0_weight at h
  refine lv_lconst (v := (0 : Int64)) hx hb dX0_weight_0 (by decide) ?_
  refine lv_lstore_n (lv' := [(3, .long (0 : Int64)), (0, .ref q_th), (1, .int x1), (2, .int x2)]) hx hb dX0_weight_1 rfl hl (by decide) rfl (fun ls hl => ?_)
  refine lv_iconst (v := (0 : Int32)) hx hb dX0_weight_2 (by decide) ?_
  refine lv_istore (lv' := [(5, .int (0 : Int32)), (3, .long (0 : Int64)), (0, .ref q_th), (1, .int x1), (2, .int x2)]) hx hb dX0_weight_3 hl (by decide) rfl (fun ls hl => ?_)
  obtain ⟨z5_0, hl5, h⟩ := bd_ok h
  refine L5 x1 x2 K _ _ hl5 ?_ _ _ _ hP hD hS (lv_sub hl [2, 3, 4, 1, 0] rfl)
  intro H locs ls hP hD hS hl
  refine lv_lload_n hx hb dX0_weight_42 rfl (lv_at hl 0 rfl) ?_
  cases h
  exact st_lret hx hb hr hlocks hP hD hS dX0_weight_43
def f_X0_isEmpty (th_corners : Int32) : Option (Int32) :=
  if th_corners = (0 : Int32) then
    some (1 : Int32)
  else
    some (0 : Int32)
abbrev w_X0_isEmpty (tc : Nat → ClassId) (q_th : Nat) (q_th_parts : Nat) (q_th_limits : Nat) (q_th_overFrom : Nat) (q_th_underTo : Nat) (q_th_mixed : Nat) (q_th_cutBy : Nat)  (th_fromBit : Int32) (th_toBit : Int32) (th_room : Int32) (th_corners : Int32) : va_W := [(q_th, .inr (0, [.ref q_th_parts, .ref q_th_limits, .ref q_th_overFrom, .ref q_th_underTo, .ref q_th_mixed, .ref q_th_cutBy, .int th_fromBit, .int th_toBit, .int th_room, .int th_corners]))]
set_option maxHeartbeats 4000000 in
set_option maxRecDepth 100000 in
theorem s_X0_isEmpty {l : Launch} {E : (Nat → Prop) → State → Prop} (hEok : st_Eok E) {D : va_G} {tc : Nat → ClassId} (q_th : Nat) (q_th_parts : Nat) (q_th_limits : Nat) (q_th_overFrom : Nat) (q_th_underTo : Nat) (q_th_mixed : Nat) (q_th_cutBy : Nat) (th_fromBit : Int32) (th_toBit : Int32) (th_room : Int32) (th_corners : Int32) (r0 : Int32) (h : f_X0_isEmpty th_corners = some r0) : st l yX0_isEmpty wsX0_isEmpty ({ frames := 0, cells := 0, slots := 0, locals := 0 }) E D tc [.ref q_th] (w_X0_isEmpty tc q_th q_th_parts q_th_limits q_th_overFrom q_th_underTo q_th_mixed q_th_cutBy th_fromBit th_toBit th_room th_corners) (some (.int r0)) (w_X0_isEmpty tc q_th q_th_parts q_th_limits q_th_overFrom q_th_underTo q_th_mixed q_th_cutBy th_fromBit th_toBit th_room th_corners) := by
  refine st_enter (cc := cX0_isEmpty) (maxL := 1) (ret := (some .boolean)) (by decide) rfl (Nat.le_of_ble_eq_true rfl) ?_
  intro p e s m below meth c A ls hx hb hr hml hts hown hlocks hK hN hE hA hP hD hS hl
  have hl : lv_has ls 1 [(0, .ref q_th)] := hl
  have hinX0 : ∀ w ∈ wsX00, w ∈ wsX0_isEmpty := by decide +kernel
  generalize hav : ([.ref q_th] : List Value).toArray = av at hts ⊢
  unfold f_X0_isEmpty at h
  refine lv_aload_n hx hb dX0_isEmpty_0 rfl (lv_at hl 0 rfl) ?_
  refine va_get (D := D) (ci := 0) (v := .int th_corners) (C := RX0) (T := TX0) (N := 10) hx hb hts hinX0 hown hK hP 0 rfl rfl 9 (by decide) (hts (.fieldLink RX0 51 "ChanceBounds$Corners" "corners" "I") (by decide +kernel)) (fun _ h9 => h9) rfl dX0_isEmpty_1 ?_
  refine lv_if_ne (tgt := 11) hx hb dX0_isEmpty_4 (by decide) (fun c1 => ?_) (fun c1 => ?_)
  · replace h := ifn c1 h
    refine lv_iconst (v := (0 : Int32)) hx hb dX0_isEmpty_11 (by decide) ?_
    cases h
    exact st_zret hx hb hr hlocks hP hD hS rfl dX0_isEmpty_12
  · replace h := ifp c1 h
    refine lv_iconst (v := (1 : Int32)) hx hb dX0_isEmpty_7 (by decide) ?_
    refine lv_goto (tgt := 12) hx hb dX0_isEmpty_8 (by decide) ?_
    cases h
    exact st_zret hx hb hr hlocks hP hD hS rfl dX0_isEmpty_12
def f_X0_measure_L2 (K : Nat) (n_th_parts : Nat) (n_th_overFrom : Nat) (n_th_underTo : Nat) (th_corners : Int32) (th_parts : Nat → Int64) (a1_x : Int32) (a1_y : Int32) (a1_from : Int32) (a1_to : Int32) (s2 : Int32 × (Nat → Int64) × (Nat → Int64)) : Option (((Nat → Int64) × (Nat → Int64)) ⊕ (Int32 × (Nat → Int64) × (Nat → Int64))) :=
  match s2 with
  | (x2, th_overFrom, th_underTo) =>
    if th_corners ≤ x2 then
      some (.inl (th_overFrom, th_underTo))
    else
      (f_X0_weight K n_th_parts th_parts x2 (a1_x &&& a1_y)).bind fun z2_0 =>
      (f_X0_weight K n_th_parts th_parts x2 a1_y).bind fun z3_0 =>
      (f_X4_overFrom a1_from z2_0 z3_0).bind fun z4_0 =>
      if x2 < 0 ∨ n_th_overFrom ≤ x2.toNatClampNeg then none else
      (f_X4_underTo a1_to z2_0 z3_0).bind fun z6_0 =>
      if x2 < 0 ∨ n_th_underTo ≤ x2.toNatClampNeg then none else
      some (.inr (x2 + 1, vp_updL th_overFrom x2.toNatClampNeg z4_0, vp_updL th_underTo x2.toNatClampNeg z6_0))
def f_X0_measure (K : Nat) (n_th_parts : Nat) (n_th_overFrom : Nat) (n_th_underTo : Nat) (th_corners : Int32) (th_parts : Nat → Int64) (th_overFrom : Nat → Int64) (th_underTo : Nat → Int64) (a1_x : Int32) (a1_y : Int32) (a1_from : Int32) (a1_to : Int32) : Option ((Nat → Int64) × (Nat → Int64)) :=
  (lp (f_X0_measure_L2 K n_th_parts n_th_overFrom n_th_underTo th_corners th_parts a1_x a1_y a1_from a1_to) K ((0 : Int32), th_overFrom, th_underTo)).bind fun z8 => match z8 with
  | (z8_0, z8_1) =>
    some (z8_0, z8_1)
abbrev w_X0_measure (tc : Nat → ClassId) (q_th : Nat) (q_th_parts : Nat) (q_th_limits : Nat) (q_th_overFrom : Nat) (q_th_underTo : Nat) (q_th_mixed : Nat) (q_th_cutBy : Nat) (q_a1 : Nat) (n_th_parts : Nat) (n_th_overFrom : Nat) (n_th_underTo : Nat) (th_fromBit : Int32) (th_toBit : Int32) (th_room : Int32) (th_corners : Int32) (th_parts : Nat → Int64) (th_overFrom : Nat → Int64) (th_underTo : Nat → Int64) (a1_x : Int32) (a1_y : Int32) (a1_from : Int32) (a1_to : Int32) (a1_isOn : Int32) : va_W := [(q_th, .inr (0, [.ref q_th_parts, .ref q_th_limits, .ref q_th_overFrom, .ref q_th_underTo, .ref q_th_mixed, .ref q_th_cutBy, .int th_fromBit, .int th_toBit, .int th_room, .int th_corners])), (q_th_parts, .inl (tc 1, n_th_parts, .inr (.inl th_parts))), (q_th_overFrom, .inl (tc 1, n_th_overFrom, .inr (.inl th_overFrom))), (q_th_underTo, .inl (tc 1, n_th_underTo, .inr (.inl th_underTo))), (q_a1, .inr (4, [.int a1_x, .int a1_y, .int a1_from, .int a1_to, .int a1_isOn]))]
set_option maxHeartbeats 4000000 in
set_option maxRecDepth 100000 in
theorem s_X0_measure {l : Launch} {E : (Nat → Prop) → State → Prop} (hEok : st_Eok E) {D : va_G} {tc : Nat → ClassId} (q_th : Nat) (q_th_parts : Nat) (q_th_limits : Nat) (q_th_overFrom : Nat) (q_th_underTo : Nat) (q_th_mixed : Nat) (q_th_cutBy : Nat) (q_a1 : Nat) (n_th_parts : Nat) (n_th_overFrom : Nat) (n_th_underTo : Nat) (th_fromBit : Int32) (th_toBit : Int32) (th_room : Int32) (th_corners : Int32) (th_parts : Nat → Int64) (th_overFrom : Nat → Int64) (th_underTo : Nat → Int64) (a1_x : Int32) (a1_y : Int32) (a1_from : Int32) (a1_to : Int32) (a1_isOn : Int32) (K : Nat) (th_overFrom' : Nat → Int64) (th_underTo' : Nat → Int64) (h : f_X0_measure K n_th_parts n_th_overFrom n_th_underTo th_corners th_parts th_overFrom th_underTo a1_x a1_y a1_from a1_to = some (th_overFrom', th_underTo')) : st l yX0_measure wsX0_measure ({ frames := 2, cells := 0, slots := 0, locals := 46 }) E D tc [.ref q_th, .ref q_a1] (w_X0_measure tc q_th q_th_parts q_th_limits q_th_overFrom q_th_underTo q_th_mixed q_th_cutBy q_a1 n_th_parts n_th_overFrom n_th_underTo th_fromBit th_toBit th_room th_corners th_parts th_overFrom th_underTo a1_x a1_y a1_from a1_to a1_isOn) none (w_X0_measure tc q_th q_th_parts q_th_limits q_th_overFrom q_th_underTo q_th_mixed q_th_cutBy q_a1 n_th_parts n_th_overFrom n_th_underTo th_fromBit th_toBit th_room th_corners th_parts th_overFrom' th_underTo' a1_x a1_y a1_from a1_to a1_isOn) := by
  refine st_enter (cc := cX0_measure) (maxL := 7) (ret := none) (by decide) rfl (Nat.le_of_ble_eq_true rfl) ?_
  intro p e s m below meth c A ls hx hb hr hml hts hown hlocks hK hN hE hA hP hD hS hl
  have hl : lv_has ls 7 [(0, .ref q_th), (1, .ref q_a1)] := hl
  have hinX0 : ∀ w ∈ wsX00, w ∈ wsX0_measure := by decide +kernel
  have hinX4 : ∀ w ∈ wsX40, w ∈ wsX0_measure := by decide +kernel
  generalize hav : ([.ref q_th, .ref q_a1] : List Value).toArray = av at hts ⊢
  have L2 : ∀ (_ : Unit), ∀ (k : Nat) (s2 : Int32 × (Nat → Int64) × (Nat → Int64)) (r : (Nat → Int64) × (Nat → Int64)), lp (f_X0_measure_L2 K n_th_parts n_th_overFrom n_th_underTo th_corners th_parts a1_x a1_y a1_from a1_to) k s2 = some r → (fun y2 : (Nat → Int64) × (Nat → Int64) => match y2 with | (th_overFrom, th_underTo) => ∀ (H : Heap) (locs : List Loc) (ls : Array Slot), va_P D vwCl (w_X0_measure tc q_th q_th_parts q_th_limits q_th_overFrom q_th_underTo q_th_mixed q_th_cutBy q_a1 n_th_parts n_th_overFrom n_th_underTo th_fromBit th_toBit th_room th_corners th_parts th_overFrom th_underTo a1_x a1_y a1_from a1_to a1_isOn) H → va_D A (w_X0_measure tc q_th q_th_parts q_th_limits q_th_overFrom q_th_underTo q_th_mixed q_th_cutBy q_a1 n_th_parts n_th_overFrom n_th_underTo th_fromBit th_toBit th_room th_corners th_parts th_overFrom th_underTo a1_x a1_y a1_from a1_to a1_isOn) → va_S A s.heap H locs → lv_has ls 7 [] → W p l e ({ frames := 2, cells := 0, slots := 0, locals := 46 } : Room) s m av below meth c H locs 0 0 (MQ below (st_Q D (w_X0_measure tc q_th q_th_parts q_th_limits q_th_overFrom q_th_underTo q_th_mixed q_th_cutBy q_a1 n_th_parts n_th_overFrom n_th_underTo th_fromBit th_toBit th_room th_corners th_parts th_overFrom' th_underTo' a1_x a1_y a1_from a1_to a1_isOn) none A) av s 0 0 A) (F0 m 68 ls [])) r → (fun s2 : Int32 × (Nat → Int64) × (Nat → Int64) => match s2 with | (x2, th_overFrom, th_underTo) => ∀ (H : Heap) (locs : List Loc) (ls : Array Slot), va_P D vwCl (w_X0_measure tc q_th q_th_parts q_th_limits q_th_overFrom q_th_underTo q_th_mixed q_th_cutBy q_a1 n_th_parts n_th_overFrom n_th_underTo th_fromBit th_toBit th_room th_corners th_parts th_overFrom th_underTo a1_x a1_y a1_from a1_to a1_isOn) H → va_D A (w_X0_measure tc q_th q_th_parts q_th_limits q_th_overFrom q_th_underTo q_th_mixed q_th_cutBy q_a1 n_th_parts n_th_overFrom n_th_underTo th_fromBit th_toBit th_room th_corners th_parts th_overFrom th_underTo a1_x a1_y a1_from a1_to a1_isOn) → va_S A s.heap H locs → lv_has ls 7 [(0, .ref q_th), (1, .ref q_a1), (2, .int x2)] → W p l e ({ frames := 2, cells := 0, slots := 0, locals := 46 } : Room) s m av below meth c H locs 0 0 (MQ below (st_Q D (w_X0_measure tc q_th q_th_parts q_th_limits q_th_overFrom q_th_underTo q_th_mixed q_th_cutBy q_a1 n_th_parts n_th_overFrom n_th_underTo th_fromBit th_toBit th_room th_corners th_parts th_overFrom' th_underTo' a1_x a1_y a1_from a1_to a1_isOn) none A) av s 0 0 A) (F0 m 2 ls [])) s2 := by
    intro _
    refine lp_W (f_X0_measure_L2 K n_th_parts n_th_overFrom n_th_underTo th_corners th_parts a1_x a1_y a1_from a1_to) (fun s2 : Int32 × (Nat → Int64) × (Nat → Int64) => match s2 with | (x2, th_overFrom, th_underTo) => ∀ (H : Heap) (locs : List Loc) (ls : Array Slot), va_P D vwCl (w_X0_measure tc q_th q_th_parts q_th_limits q_th_overFrom q_th_underTo q_th_mixed q_th_cutBy q_a1 n_th_parts n_th_overFrom n_th_underTo th_fromBit th_toBit th_room th_corners th_parts th_overFrom th_underTo a1_x a1_y a1_from a1_to a1_isOn) H → va_D A (w_X0_measure tc q_th q_th_parts q_th_limits q_th_overFrom q_th_underTo q_th_mixed q_th_cutBy q_a1 n_th_parts n_th_overFrom n_th_underTo th_fromBit th_toBit th_room th_corners th_parts th_overFrom th_underTo a1_x a1_y a1_from a1_to a1_isOn) → va_S A s.heap H locs → lv_has ls 7 [(0, .ref q_th), (1, .ref q_a1), (2, .int x2)] → W p l e ({ frames := 2, cells := 0, slots := 0, locals := 46 } : Room) s m av below meth c H locs 0 0 (MQ below (st_Q D (w_X0_measure tc q_th q_th_parts q_th_limits q_th_overFrom q_th_underTo q_th_mixed q_th_cutBy q_a1 n_th_parts n_th_overFrom n_th_underTo th_fromBit th_toBit th_room th_corners th_parts th_overFrom' th_underTo' a1_x a1_y a1_from a1_to a1_isOn) none A) av s 0 0 A) (F0 m 2 ls [])) (fun y2 : (Nat → Int64) × (Nat → Int64) => match y2 with | (th_overFrom, th_underTo) => ∀ (H : Heap) (locs : List Loc) (ls : Array Slot), va_P D vwCl (w_X0_measure tc q_th q_th_parts q_th_limits q_th_overFrom q_th_underTo q_th_mixed q_th_cutBy q_a1 n_th_parts n_th_overFrom n_th_underTo th_fromBit th_toBit th_room th_corners th_parts th_overFrom th_underTo a1_x a1_y a1_from a1_to a1_isOn) H → va_D A (w_X0_measure tc q_th q_th_parts q_th_limits q_th_overFrom q_th_underTo q_th_mixed q_th_cutBy q_a1 n_th_parts n_th_overFrom n_th_underTo th_fromBit th_toBit th_room th_corners th_parts th_overFrom th_underTo a1_x a1_y a1_from a1_to a1_isOn) → va_S A s.heap H locs → lv_has ls 7 [] → W p l e ({ frames := 2, cells := 0, slots := 0, locals := 46 } : Room) s m av below meth c H locs 0 0 (MQ below (st_Q D (w_X0_measure tc q_th q_th_parts q_th_limits q_th_overFrom q_th_underTo q_th_mixed q_th_cutBy q_a1 n_th_parts n_th_overFrom n_th_underTo th_fromBit th_toBit th_room th_corners th_parts th_overFrom' th_underTo' a1_x a1_y a1_from a1_to a1_isOn) none A) av s 0 0 A) (F0 m 68 ls [])) ?_
    rintro ⟨x2, th_overFrom, th_underTo⟩ o h ih hz H locs ls hP hD hS hl
    unfold f_X0_measure_L2 at h
    refine lv_iload_n hx hb dX0_measure_2 rfl (lv_at hl 2 rfl) ?_
    refine lv_aload_n hx hb dX0_measure_3 rfl (lv_at hl 0 rfl) ?_
    refine va_get (D := D) (ci := 0) (v := .int th_corners) (C := RX0) (T := TX0) (N := 10) hx hb hts hinX0 hown hK hP 0 rfl rfl 9 (by decide) (hts (.fieldLink RX0 51 "ChanceBounds$Corners" "corners" "I") (by decide +kernel)) (fun _ h9 => h9) rfl dX0_measure_4 ?_
    refine lv_icmp_ge (tgt := 68) hx hb dX0_measure_7 (by decide) (fun c1 => ?_) (fun c1 => ?_)
    · replace h := ifp c1 h
      cases h
      exact hz _ rfl _ _ _ hP hD hS (lv_sub hl [] rfl)
    · replace h := ifn c1 h
      refine lv_aload_n hx hb dX0_measure_10 rfl (lv_at hl 0 rfl) ?_
      refine lv_iload_n hx hb dX0_measure_11 rfl (lv_at hl 2 rfl) ?_
      refine lv_aload_n hx hb dX0_measure_12 rfl (lv_at hl 1 rfl) ?_
      refine va_getN (D := D) (ci := 4) (v := .int a1_x) (C := RX4) (T := TX4) (N := 5) hx hb hts hinX4 hown hK hP 4 rfl rfl 0 (by decide) (va_Nw.use rfl (hN (.fieldLinkNest RX0 79 "ChanceBounds$Saying" "x" "I" "ChanceBounds") (by decide +kernel))) (fun _ h9 => h9) rfl dX0_measure_13 ?_
      refine lv_aload_n hx hb dX0_measure_16 rfl (lv_at hl 1 rfl) ?_
      refine va_getN (D := D) (ci := 4) (v := .int a1_y) (C := RX4) (T := TX4) (N := 5) hx hb hts hinX4 hown hK hP 4 rfl rfl 1 (by decide) (va_Nw.use rfl (hN (.fieldLinkNest RX0 82 "ChanceBounds$Saying" "y" "I" "ChanceBounds") (by decide +kernel))) (fun _ h9 => h9) rfl dX0_measure_17 ?_
      refine lv_iand hx hb dX0_measure_20 ?_
      obtain ⟨z2_0, hc2, h⟩ := bd_ok h
      refine st_callV (As := [.int x2, .int (a1_x &&& a1_y)]) (rest := []) (pos := [0, 1]) ⟨hx, hb, hml, hown, hts⟩ (s_X0_weight (l := l) (D := D) (tc := tc) hEok q_th q_th_parts q_th_limits q_th_overFrom q_th_underTo q_th_mixed q_th_cutBy n_th_parts th_fromBit th_toBit th_room th_corners th_parts x2 (a1_x &&& a1_y) K z2_0 hc2) (cwV 2 hts gX0_measure_X0_weight rfl rfl rfl (by decide +kernel) ⟨Nat.le_of_ble_eq_true rfl, Nat.le_of_ble_eq_true rfl⟩) (st_recv (ci := 0) (q0 := 0) hK hP rfl rfl) hEok hE hK hN hP hD hS hA rfl rfl rfl rfl hl.1 rfl (Nat.le_of_ble_eq_true rfl) dX0_measure_21 ⟨Nat.zero_le _, Nat.zero_le _⟩ (fun H locs hP hD hS => ?_)
      have hP : va_P D vwCl (w_X0_measure tc q_th q_th_parts q_th_limits q_th_overFrom q_th_underTo q_th_mixed q_th_cutBy q_a1 n_th_parts n_th_overFrom n_th_underTo th_fromBit th_toBit th_room th_corners th_parts th_overFrom th_underTo a1_x a1_y a1_from a1_to a1_isOn) H := hP
      have hD : va_D A (w_X0_measure tc q_th q_th_parts q_th_limits q_th_overFrom q_th_underTo q_th_mixed q_th_cutBy q_a1 n_th_parts n_th_overFrom n_th_underTo th_fromBit th_toBit th_room th_corners th_parts th_overFrom th_underTo a1_x a1_y a1_from a1_to a1_isOn) := hD
      refine lv_lstore_n (lv' := [(3, .long z2_0), (0, .ref q_th), (1, .ref q_a1), (2, .int x2)]) hx hb dX0_measure_24 rfl hl (by decide) rfl (fun ls hl => ?_)
      refine lv_aload_n hx hb dX0_measure_25 rfl (lv_at hl 1 rfl) ?_
      refine lv_iload_n hx hb dX0_measure_26 rfl (lv_at hl 3 rfl) ?_
      refine lv_aload_n hx hb dX0_measure_27 rfl (lv_at hl 2 rfl) ?_
      refine va_getN (D := D) (ci := 4) (v := .int a1_y) (C := RX4) (T := TX4) (N := 5) hx hb hts hinX4 hown hK hP 4 rfl rfl 1 (by decide) (va_Nw.use rfl (hN (.fieldLinkNest RX0 82 "ChanceBounds$Saying" "y" "I" "ChanceBounds") (by decide +kernel))) (fun _ h9 => h9) rfl dX0_measure_28 ?_
      obtain ⟨z3_0, hc3, h⟩ := bd_ok h
      refine st_callV (As := [.int x2, .int a1_y]) (rest := []) (pos := [0, 1]) ⟨hx, hb, hml, hown, hts⟩ (s_X0_weight (l := l) (D := D) (tc := tc) hEok q_th q_th_parts q_th_limits q_th_overFrom q_th_underTo q_th_mixed q_th_cutBy n_th_parts th_fromBit th_toBit th_room th_corners th_parts x2 a1_y K z3_0 hc3) (cwV 2 hts gX0_measure_X0_weight rfl rfl rfl (by decide +kernel) ⟨Nat.le_of_ble_eq_true rfl, Nat.le_of_ble_eq_true rfl⟩) (st_recv (ci := 0) (q0 := 0) hK hP rfl rfl) hEok hE hK hN hP hD hS hA rfl rfl rfl rfl hl.1 rfl (Nat.le_of_ble_eq_true rfl) dX0_measure_31 ⟨Nat.zero_le _, Nat.zero_le _⟩ (fun H locs hP hD hS => ?_)
      have hP : va_P D vwCl (w_X0_measure tc q_th q_th_parts q_th_limits q_th_overFrom q_th_underTo q_th_mixed q_th_cutBy q_a1 n_th_parts n_th_overFrom n_th_underTo th_fromBit th_toBit th_room th_corners th_parts th_overFrom th_underTo a1_x a1_y a1_from a1_to a1_isOn) H := hP
      have hD : va_D A (w_X0_measure tc q_th q_th_parts q_th_limits q_th_overFrom q_th_underTo q_th_mixed q_th_cutBy q_a1 n_th_parts n_th_overFrom n_th_underTo th_fromBit th_toBit th_room th_corners th_parts th_overFrom th_underTo a1_x a1_y a1_from a1_to a1_isOn) := hD
      refine lv_lstore (lv' := [(5, .long z3_0), (3, .long z2_0), (0, .ref q_th), (1, .ref q_a1), (2, .int x2)]) hx hb dX0_measure_34 hl (by decide) rfl (fun ls hl => ?_)
      refine lv_aload_n hx hb dX0_measure_36 rfl (lv_at hl 2 rfl) ?_
      refine va_get (D := D) (ci := 0) (v := .ref q_th_overFrom) (C := RX0) (T := TX0) (N := 10) hx hb hts hinX0 hown hK hP 0 rfl rfl 2 (by decide) (hts (.fieldLink RX0 39 "ChanceBounds$Corners" "overFrom" "[J") (by decide +kernel)) (fun _ h9 => h9) rfl dX0_measure_37 ?_
      refine lv_iload_n hx hb dX0_measure_40 rfl (lv_at hl 4 rfl) ?_
      refine lv_aload_n hx hb dX0_measure_41 rfl (lv_at hl 3 rfl) ?_
      refine lv_lload_n hx hb dX0_measure_42 rfl (lv_at hl 1 rfl) ?_
      refine lv_lload hx hb dX0_measure_43 (lv_at hl 0 rfl) ?_
      obtain ⟨z4_0, hc4, h⟩ := bd_ok h
      refine st_callV (As := [.long z2_0, .long z3_0]) (rest := [.int x2, .ref q_th_overFrom]) (pos := [4]) ⟨hx, hb, hml, hown, hts⟩ (s_X4_overFrom (l := l) (D := D) (tc := tc) hEok q_a1 a1_x a1_y a1_from a1_to a1_isOn z2_0 z3_0 z4_0 hc4) (cwV 2 hts gX0_measure_X4_overFrom rfl rfl rfl (by decide +kernel) ⟨Nat.le_of_ble_eq_true rfl, Nat.le_of_ble_eq_true rfl⟩) (st_recv (ci := 4) (q0 := 4) hK hP rfl rfl) hEok hE hK hN hP hD hS hA rfl rfl rfl rfl hl.1 rfl (Nat.le_of_ble_eq_true rfl) dX0_measure_45 ⟨Nat.zero_le _, Nat.zero_le _⟩ (fun H locs hP hD hS => ?_)
      have hP : va_P D vwCl (w_X0_measure tc q_th q_th_parts q_th_limits q_th_overFrom q_th_underTo q_th_mixed q_th_cutBy q_a1 n_th_parts n_th_overFrom n_th_underTo th_fromBit th_toBit th_room th_corners th_parts th_overFrom th_underTo a1_x a1_y a1_from a1_to a1_isOn) H := hP
      have hD : va_D A (w_X0_measure tc q_th q_th_parts q_th_limits q_th_overFrom q_th_underTo q_th_mixed q_th_cutBy q_a1 n_th_parts n_th_overFrom n_th_underTo th_fromBit th_toBit th_room th_corners th_parts th_overFrom th_underTo a1_x a1_y a1_from a1_to a1_isOn) := hD
      obtain ⟨g5, h⟩ := gd_ok h
      refine va_last hx hb hK hP hD hS 2 1 rfl rfl g5 dX0_measure_48 (fun H locs hP hD hS => ?_)
      have hP : va_P D vwCl (w_X0_measure tc q_th q_th_parts q_th_limits q_th_overFrom q_th_underTo q_th_mixed q_th_cutBy q_a1 n_th_parts n_th_overFrom n_th_underTo th_fromBit th_toBit th_room th_corners th_parts (vp_updL th_overFrom x2.toNatClampNeg z4_0) th_underTo a1_x a1_y a1_from a1_to a1_isOn) H := hP
      have hD : va_D A (w_X0_measure tc q_th q_th_parts q_th_limits q_th_overFrom q_th_underTo q_th_mixed q_th_cutBy q_a1 n_th_parts n_th_overFrom n_th_underTo th_fromBit th_toBit th_room th_corners th_parts (vp_updL th_overFrom x2.toNatClampNeg z4_0) th_underTo a1_x a1_y a1_from a1_to a1_isOn) := hD
      refine lv_aload_n hx hb dX0_measure_49 rfl (lv_at hl 2 rfl) ?_
      refine va_get (D := D) (ci := 0) (v := .ref q_th_underTo) (C := RX0) (T := TX0) (N := 10) hx hb hts hinX0 hown hK hP 0 rfl rfl 3 (by decide) (hts (.fieldLink RX0 42 "ChanceBounds$Corners" "underTo" "[J") (by decide +kernel)) (fun _ h9 => h9) rfl dX0_measure_50 ?_
      refine lv_iload_n hx hb dX0_measure_53 rfl (lv_at hl 4 rfl) ?_
      refine lv_aload_n hx hb dX0_measure_54 rfl (lv_at hl 3 rfl) ?_
      refine lv_lload_n hx hb dX0_measure_55 rfl (lv_at hl 1 rfl) ?_
      refine lv_lload hx hb dX0_measure_56 (lv_at hl 0 rfl) ?_
      obtain ⟨z6_0, hc6, h⟩ := bd_ok h
      refine st_callV (As := [.long z2_0, .long z3_0]) (rest := [.int x2, .ref q_th_underTo]) (pos := [4]) ⟨hx, hb, hml, hown, hts⟩ (s_X4_underTo (l := l) (D := D) (tc := tc) hEok q_a1 a1_x a1_y a1_from a1_to a1_isOn z2_0 z3_0 z6_0 hc6) (cwV 2 hts gX0_measure_X4_underTo rfl rfl rfl (by decide +kernel) ⟨Nat.le_of_ble_eq_true rfl, Nat.le_of_ble_eq_true rfl⟩) (st_recv (ci := 4) (q0 := 4) hK hP rfl rfl) hEok hE hK hN hP hD hS hA rfl rfl rfl rfl hl.1 rfl (Nat.le_of_ble_eq_true rfl) dX0_measure_58 ⟨Nat.zero_le _, Nat.zero_le _⟩ (fun H locs hP hD hS => ?_)
      have hP : va_P D vwCl (w_X0_measure tc q_th q_th_parts q_th_limits q_th_overFrom q_th_underTo q_th_mixed q_th_cutBy q_a1 n_th_parts n_th_overFrom n_th_underTo th_fromBit th_toBit th_room th_corners th_parts (vp_updL th_overFrom x2.toNatClampNeg z4_0) th_underTo a1_x a1_y a1_from a1_to a1_isOn) H := hP
      have hD : va_D A (w_X0_measure tc q_th q_th_parts q_th_limits q_th_overFrom q_th_underTo q_th_mixed q_th_cutBy q_a1 n_th_parts n_th_overFrom n_th_underTo th_fromBit th_toBit th_room th_corners th_parts (vp_updL th_overFrom x2.toNatClampNeg z4_0) th_underTo a1_x a1_y a1_from a1_to a1_isOn) := hD
      obtain ⟨g7, h⟩ := gd_ok h
      refine va_last hx hb hK hP hD hS 3 1 rfl rfl g7 dX0_measure_61 (fun H locs hP hD hS => ?_)
      have hP : va_P D vwCl (w_X0_measure tc q_th q_th_parts q_th_limits q_th_overFrom q_th_underTo q_th_mixed q_th_cutBy q_a1 n_th_parts n_th_overFrom n_th_underTo th_fromBit th_toBit th_room th_corners th_parts (vp_updL th_overFrom x2.toNatClampNeg z4_0) (vp_updL th_underTo x2.toNatClampNeg z6_0) a1_x a1_y a1_from a1_to a1_isOn) H := hP
      have hD : va_D A (w_X0_measure tc q_th q_th_parts q_th_limits q_th_overFrom q_th_underTo q_th_mixed q_th_cutBy q_a1 n_th_parts n_th_overFrom n_th_underTo th_fromBit th_toBit th_room th_corners th_parts (vp_updL th_overFrom x2.toNatClampNeg z4_0) (vp_updL th_underTo x2.toNatClampNeg z6_0) a1_x a1_y a1_from a1_to a1_isOn) := hD
      refine lv_iinc (v := x2 + 1) (lv' := [(2, .int (x2 + 1)), (5, .long z3_0), (3, .long z2_0), (0, .ref q_th), (1, .ref q_a1)]) hx hb dX0_measure_62 hl (k := 4) rfl rfl (by decide) rfl (fun ls hl => ?_)
      refine lv_goto (tgt := 2) hx hb dX0_measure_65 (by decide) ?_
      cases h
      exact ih _ rfl _ _ _ hP hD hS (lv_sub hl [3, 4, 0] rfl)
  unfold f_X0_measure at h
  refine lv_iconst (v := (0 : Int32)) hx hb dX0_measure_0 (by decide) ?_
  refine lv_istore_n (lv' := [(2, .int (0 : Int32)), (0, .ref q_th), (1, .ref q_a1)]) hx hb dX0_measure_1 rfl hl (by decide) rfl (fun ls hl => ?_)
  obtain ⟨⟨z8_0, z8_1⟩, hl8, h⟩ := bd_ok h
  refine L2 () K _ _ hl8 ?_ _ _ _ hP hD hS (lv_sub hl [1, 2, 0] rfl)
  intro H locs ls hP hD hS hl
  cases h
  exact st_vret hx hb hr hlocks hP hD hS dX0_measure_68
def f_X0_isEdge_L28 (n_th_limits : Nat) (th_corners : Int32) (th_limits : Nat → Int32) (x1 : Int32) (x2 : Int32) (x3 : Int32) (s28 : Int32) : Option (((Int32) ⊕ (Unit)) ⊕ (Int32)) :=
  (fun x4 => 
    if th_corners ≤ x4 then
      some (.inl (.inr ()))
    else
      if x4 = x1 then
        some (.inr (x4 + 1))
      else
        if x4 = x2 then
          some (.inr (x4 + 1))
        else
          if x4 < 0 ∨ n_th_limits ≤ x4.toNatClampNeg then none else
          if ((th_limits x4.toNatClampNeg) &&& x3) = x3 then
            some (.inl (.inl (0 : Int32)))
          else
            some (.inr (x4 + 1))
  ) s28
def f_X0_isEdge (K : Nat) (n_th_limits : Nat) (th_corners : Int32) (th_limits : Nat → Int32) (x1 : Int32) (x2 : Int32) : Option (Int32) :=
  if x1 < 0 ∨ n_th_limits ≤ x1.toNatClampNeg then none else
  if x2 < 0 ∨ n_th_limits ≤ x2.toNatClampNeg then none else
  (f_J6_bitCount_0f7a4 ((th_limits x1.toNatClampNeg) &&& (th_limits x2.toNatClampNeg))).bind fun z8_0 =>
  if (6 : Int32) ≤ z8_0 then
    (lp (f_X0_isEdge_L28 n_th_limits th_corners th_limits x1 x2 ((th_limits x1.toNatClampNeg) &&& (th_limits x2.toNatClampNeg))) K (0 : Int32)).bind fun z10 => match z10 with
    | .inl r => some r
    | .inr _ =>
      some (1 : Int32)
  else
    some (0 : Int32)
abbrev w_X0_isEdge (tc : Nat → ClassId) (q_th : Nat) (q_th_parts : Nat) (q_th_limits : Nat) (q_th_overFrom : Nat) (q_th_underTo : Nat) (q_th_mixed : Nat) (q_th_cutBy : Nat) (n_th_limits : Nat) (th_fromBit : Int32) (th_toBit : Int32) (th_room : Int32) (th_corners : Int32) (th_limits : Nat → Int32) : va_W := [(q_th, .inr (0, [.ref q_th_parts, .ref q_th_limits, .ref q_th_overFrom, .ref q_th_underTo, .ref q_th_mixed, .ref q_th_cutBy, .int th_fromBit, .int th_toBit, .int th_room, .int th_corners])), (q_th_limits, .inl (tc 0, n_th_limits, .inl th_limits))]
set_option maxHeartbeats 4000000 in
set_option maxRecDepth 100000 in
theorem s_X0_isEdge {l : Launch} {E : (Nat → Prop) → State → Prop} (hEok : st_Eok E) {D : va_G} {tc : Nat → ClassId} (q_th : Nat) (q_th_parts : Nat) (q_th_limits : Nat) (q_th_overFrom : Nat) (q_th_underTo : Nat) (q_th_mixed : Nat) (q_th_cutBy : Nat) (n_th_limits : Nat) (th_fromBit : Int32) (th_toBit : Int32) (th_room : Int32) (th_corners : Int32) (th_limits : Nat → Int32) (x1 : Int32) (x2 : Int32) (K : Nat) (r0 : Int32) (h : f_X0_isEdge K n_th_limits th_corners th_limits x1 x2 = some r0) : st l yX0_isEdge wsX0_isEdge ({ frames := 1, cells := 0, slots := 0, locals := 20 }) E D tc [.ref q_th, .int x1, .int x2] (w_X0_isEdge tc q_th q_th_parts q_th_limits q_th_overFrom q_th_underTo q_th_mixed q_th_cutBy n_th_limits th_fromBit th_toBit th_room th_corners th_limits) (some (.int r0)) (w_X0_isEdge tc q_th q_th_parts q_th_limits q_th_overFrom q_th_underTo q_th_mixed q_th_cutBy n_th_limits th_fromBit th_toBit th_room th_corners th_limits) := by
  refine st_enter (cc := cX0_isEdge) (maxL := 5) (ret := (some .boolean)) (by decide) rfl (Nat.le_of_ble_eq_true rfl) ?_
  intro p e s m below meth c A ls hx hb hr hml hts hown hlocks hK hN hE hA hP hD hS hl
  have hl : lv_has ls 5 [(0, .ref q_th), (1, .int x1), (2, .int x2)] := hl
  have hinX0 : ∀ w ∈ wsX00, w ∈ wsX0_isEdge := by decide +kernel
  generalize hav : ([.ref q_th, .int x1, .int x2] : List Value).toArray = av at hts ⊢
  have L28 : ∀ (x1 : Int32) (x2 : Int32) (x3 : Int32), ∀ (k : Nat) (s28 : Int32) (r : (Int32) ⊕ (Unit)), lp (f_X0_isEdge_L28 n_th_limits th_corners th_limits x1 x2 x3) k s28 = some r → (fun z : (Int32) ⊕ (Unit) => match z with | .inl r => r = r0 | .inr y28 => ∀ (H : Heap) (locs : List Loc) (ls : Array Slot), va_P D vwCl (w_X0_isEdge tc q_th q_th_parts q_th_limits q_th_overFrom q_th_underTo q_th_mixed q_th_cutBy n_th_limits th_fromBit th_toBit th_room th_corners th_limits) H → va_D A (w_X0_isEdge tc q_th q_th_parts q_th_limits q_th_overFrom q_th_underTo q_th_mixed q_th_cutBy n_th_limits th_fromBit th_toBit th_room th_corners th_limits) → va_S A s.heap H locs → lv_has ls 5 [] → W p l e ({ frames := 1, cells := 0, slots := 0, locals := 20 } : Room) s m av below meth c H locs 0 0 (MQ below (st_Q D (w_X0_isEdge tc q_th q_th_parts q_th_limits q_th_overFrom q_th_underTo q_th_mixed q_th_cutBy n_th_limits th_fromBit th_toBit th_room th_corners th_limits) (some (.int r0)) A) av s 0 0 A) (F0 m 70 ls [])) r → (fun x4 : Int32 => ∀ (H : Heap) (locs : List Loc) (ls : Array Slot), va_P D vwCl (w_X0_isEdge tc q_th q_th_parts q_th_limits q_th_overFrom q_th_underTo q_th_mixed q_th_cutBy n_th_limits th_fromBit th_toBit th_room th_corners th_limits) H → va_D A (w_X0_isEdge tc q_th q_th_parts q_th_limits q_th_overFrom q_th_underTo q_th_mixed q_th_cutBy n_th_limits th_fromBit th_toBit th_room th_corners th_limits) → va_S A s.heap H locs → lv_has ls 5 [(0, .ref q_th), (1, .int x1), (2, .int x2), (3, .int x3), (4, .int x4)] → W p l e ({ frames := 1, cells := 0, slots := 0, locals := 20 } : Room) s m av below meth c H locs 0 0 (MQ below (st_Q D (w_X0_isEdge tc q_th q_th_parts q_th_limits q_th_overFrom q_th_underTo q_th_mixed q_th_cutBy n_th_limits th_fromBit th_toBit th_room th_corners th_limits) (some (.int r0)) A) av s 0 0 A) (F0 m 28 ls [])) s28 := by
    intro x1 x2 x3
    refine lp_W (f_X0_isEdge_L28 n_th_limits th_corners th_limits x1 x2 x3) (fun x4 : Int32 => ∀ (H : Heap) (locs : List Loc) (ls : Array Slot), va_P D vwCl (w_X0_isEdge tc q_th q_th_parts q_th_limits q_th_overFrom q_th_underTo q_th_mixed q_th_cutBy n_th_limits th_fromBit th_toBit th_room th_corners th_limits) H → va_D A (w_X0_isEdge tc q_th q_th_parts q_th_limits q_th_overFrom q_th_underTo q_th_mixed q_th_cutBy n_th_limits th_fromBit th_toBit th_room th_corners th_limits) → va_S A s.heap H locs → lv_has ls 5 [(0, .ref q_th), (1, .int x1), (2, .int x2), (3, .int x3), (4, .int x4)] → W p l e ({ frames := 1, cells := 0, slots := 0, locals := 20 } : Room) s m av below meth c H locs 0 0 (MQ below (st_Q D (w_X0_isEdge tc q_th q_th_parts q_th_limits q_th_overFrom q_th_underTo q_th_mixed q_th_cutBy n_th_limits th_fromBit th_toBit th_room th_corners th_limits) (some (.int r0)) A) av s 0 0 A) (F0 m 28 ls [])) (fun z : (Int32) ⊕ (Unit) => match z with | .inl r => r = r0 | .inr y28 => ∀ (H : Heap) (locs : List Loc) (ls : Array Slot), va_P D vwCl (w_X0_isEdge tc q_th q_th_parts q_th_limits q_th_overFrom q_th_underTo q_th_mixed q_th_cutBy n_th_limits th_fromBit th_toBit th_room th_corners th_limits) H → va_D A (w_X0_isEdge tc q_th q_th_parts q_th_limits q_th_overFrom q_th_underTo q_th_mixed q_th_cutBy n_th_limits th_fromBit th_toBit th_room th_corners th_limits) → va_S A s.heap H locs → lv_has ls 5 [] → W p l e ({ frames := 1, cells := 0, slots := 0, locals := 20 } : Room) s m av below meth c H locs 0 0 (MQ below (st_Q D (w_X0_isEdge tc q_th q_th_parts q_th_limits q_th_overFrom q_th_underTo q_th_mixed q_th_cutBy n_th_limits th_fromBit th_toBit th_room th_corners th_limits) (some (.int r0)) A) av s 0 0 A) (F0 m 70 ls [])) ?_
    rintro x4 o h ih hz H locs ls hP hD hS hl
    unfold f_X0_isEdge_L28 at h
    refine lv_iload hx hb dX0_isEdge_28 (lv_at hl 4 rfl) ?_
    refine lv_aload_n hx hb dX0_isEdge_30 rfl (lv_at hl 0 rfl) ?_
    refine va_get (D := D) (ci := 0) (v := .int th_corners) (C := RX0) (T := TX0) (N := 10) hx hb hts hinX0 hown hK hP 0 rfl rfl 9 (by decide) (hts (.fieldLink RX0 51 "ChanceBounds$Corners" "corners" "I") (by decide +kernel)) (fun _ h9 => h9) rfl dX0_isEdge_31 ?_
    refine lv_icmp_ge (tgt := 70) hx hb dX0_isEdge_34 (by decide) (fun c1 => ?_) (fun c1 => ?_)
    · replace h := ifp c1 h
      cases h
      exact hz _ rfl _ _ _ hP hD hS (lv_sub hl [] rfl)
    · replace h := ifn c1 h
      refine lv_iload hx hb dX0_isEdge_37 (lv_at hl 4 rfl) ?_
      refine lv_iload_n hx hb dX0_isEdge_39 rfl (lv_at hl 1 rfl) ?_
      refine lv_icmp_eq (tgt := 64) hx hb dX0_isEdge_40 (by decide) (fun c2 => ?_) (fun c2 => ?_)
      · replace h := ifp c2 h
        refine lv_iinc (v := x4 + 1) (lv' := [(4, .int (x4 + 1)), (0, .ref q_th), (1, .int x1), (2, .int x2), (3, .int x3)]) hx hb dX0_isEdge_64 hl (k := 4) rfl rfl (by decide) rfl (fun ls hl => ?_)
        refine lv_goto (tgt := 28) hx hb dX0_isEdge_67 (by decide) ?_
        cases h
        exact ih _ rfl _ _ _ hP hD hS (lv_sub hl [1, 2, 3, 4, 0] rfl)
      · replace h := ifn c2 h
        refine lv_iload hx hb dX0_isEdge_43 (lv_at hl 4 rfl) ?_
        refine lv_iload_n hx hb dX0_isEdge_45 rfl (lv_at hl 2 rfl) ?_
        refine lv_icmp_eq (tgt := 64) hx hb dX0_isEdge_46 (by decide) (fun c3 => ?_) (fun c3 => ?_)
        · replace h := ifp c3 h
          refine lv_iinc (v := x4 + 1) (lv' := [(4, .int (x4 + 1)), (0, .ref q_th), (1, .int x1), (2, .int x2), (3, .int x3)]) hx hb dX0_isEdge_64 hl (k := 4) rfl rfl (by decide) rfl (fun ls hl => ?_)
          refine lv_goto (tgt := 28) hx hb dX0_isEdge_67 (by decide) ?_
          cases h
          exact ih _ rfl _ _ _ hP hD hS (lv_sub hl [1, 2, 3, 4, 0] rfl)
        · replace h := ifn c3 h
          refine lv_aload_n hx hb dX0_isEdge_49 rfl (lv_at hl 0 rfl) ?_
          refine va_get (D := D) (ci := 0) (v := .ref q_th_limits) (C := RX0) (T := TX0) (N := 10) hx hb hts hinX0 hown hK hP 0 rfl rfl 1 (by decide) (hts (.fieldLink RX0 35 "ChanceBounds$Corners" "limits" "[I") (by decide +kernel)) (fun _ h9 => h9) rfl dX0_isEdge_50 ?_
          refine lv_iload hx hb dX0_isEdge_53 (lv_at hl 4 rfl) ?_
          obtain ⟨g4, h⟩ := gd_ok h
          refine va_iald hx hb hK hP 1 0 rfl rfl g4 dX0_isEdge_55 ?_
          refine lv_iload_n hx hb dX0_isEdge_56 rfl (lv_at hl 3 rfl) ?_
          refine lv_iand hx hb dX0_isEdge_57 ?_
          refine lv_iload_n hx hb dX0_isEdge_58 rfl (lv_at hl 3 rfl) ?_
          refine lv_icmp_ne (tgt := 64) hx hb dX0_isEdge_59 (by decide) (fun c5 => ?_) (fun c5 => ?_)
          · replace h := ifn c5 h
            refine lv_iinc (v := x4 + 1) (lv' := [(4, .int (x4 + 1)), (0, .ref q_th), (1, .int x1), (2, .int x2), (3, .int x3)]) hx hb dX0_isEdge_64 hl (k := 4) rfl rfl (by decide) rfl (fun ls hl => ?_)
            refine lv_goto (tgt := 28) hx hb dX0_isEdge_67 (by decide) ?_
            cases h
            exact ih _ rfl _ _ _ hP hD hS (lv_sub hl [1, 2, 3, 4, 0] rfl)
          · replace h := ifp c5 h
            refine lv_iconst (v := (0 : Int32)) hx hb dX0_isEdge_62 (by decide) ?_
            cases h
            have e8 := hz _ rfl
            cases e8
            exact st_zret hx hb hr hlocks hP hD hS rfl dX0_isEdge_63
  unfold f_X0_isEdge at h
  refine lv_aload_n hx hb dX0_isEdge_0 rfl (lv_at hl 0 rfl) ?_
  refine va_get (D := D) (ci := 0) (v := .ref q_th_limits) (C := RX0) (T := TX0) (N := 10) hx hb hts hinX0 hown hK hP 0 rfl rfl 1 (by decide) (hts (.fieldLink RX0 35 "ChanceBounds$Corners" "limits" "[I") (by decide +kernel)) (fun _ h9 => h9) rfl dX0_isEdge_1 ?_
  refine lv_iload_n hx hb dX0_isEdge_4 rfl (lv_at hl 1 rfl) ?_
  obtain ⟨g6, h⟩ := gd_ok h
  refine va_iald hx hb hK hP 1 0 rfl rfl g6 dX0_isEdge_5 ?_
  refine lv_aload_n hx hb dX0_isEdge_6 rfl (lv_at hl 0 rfl) ?_
  refine va_get (D := D) (ci := 0) (v := .ref q_th_limits) (C := RX0) (T := TX0) (N := 10) hx hb hts hinX0 hown hK hP 0 rfl rfl 1 (by decide) (hts (.fieldLink RX0 35 "ChanceBounds$Corners" "limits" "[I") (by decide +kernel)) (fun _ h9 => h9) rfl dX0_isEdge_7 ?_
  refine lv_iload_n hx hb dX0_isEdge_10 rfl (lv_at hl 2 rfl) ?_
  obtain ⟨g7, h⟩ := gd_ok h
  refine va_iald hx hb hK hP 1 0 rfl rfl g7 dX0_isEdge_11 ?_
  refine lv_iand hx hb dX0_isEdge_12 ?_
  refine lv_istore_n (lv' := [(3, .int ((th_limits x1.toNatClampNeg) &&& (th_limits x2.toNatClampNeg))), (0, .ref q_th), (1, .int x1), (2, .int x2)]) hx hb dX0_isEdge_13 rfl hl (by decide) rfl (fun ls hl => ?_)
  refine lv_iload_n hx hb dX0_isEdge_14 rfl (lv_at hl 0 rfl) ?_
  obtain ⟨z8_0, hc8, h⟩ := bd_ok h
  refine st_callS (As := [.int ((th_limits x1.toNatClampNeg) &&& (th_limits x2.toNatClampNeg))]) (rest := []) (pos := []) ⟨hx, hb, hml, hown, hts⟩ (s_J6_bitCount_0f7a4 (l := l) (D := D) (tc := tc) hEok ((th_limits x1.toNatClampNeg) &&& (th_limits x2.toNatClampNeg)) z8_0 hc8) (va_cwS 1 hts gX0_isEdge_J6_bitCount_0f7a4 rfl rfl rfl (by decide +kernel) ⟨Nat.le_of_ble_eq_true rfl, Nat.le_of_ble_eq_true rfl⟩) hEok hE hK hN hP hD hS hA rfl rfl rfl rfl hl.1 rfl (Nat.le_of_ble_eq_true rfl) dX0_isEdge_15 ⟨Nat.zero_le _, Nat.zero_le _⟩ (fun H locs hP hD hS => ?_)
  have hP : va_P D vwCl (w_X0_isEdge tc q_th q_th_parts q_th_limits q_th_overFrom q_th_underTo q_th_mixed q_th_cutBy n_th_limits th_fromBit th_toBit th_room th_corners th_limits) H := hP
  have hD : va_D A (w_X0_isEdge tc q_th q_th_parts q_th_limits q_th_overFrom q_th_underTo q_th_mixed q_th_cutBy n_th_limits th_fromBit th_toBit th_room th_corners th_limits) := hD
  refine lv_bipush (v := (6 : Int32)) hx hb dX0_isEdge_18 (by decide) ?_
  refine lv_icmp_ge (tgt := 25) hx hb dX0_isEdge_20 (by decide) (fun c9 => ?_) (fun c9 => ?_)
  · replace h := ifp c9 h
    refine lv_iconst (v := (0 : Int32)) hx hb dX0_isEdge_25 (by decide) ?_
    refine lv_istore (lv' := [(4, .int (0 : Int32)), (3, .int ((th_limits x1.toNatClampNeg) &&& (th_limits x2.toNatClampNeg))), (0, .ref q_th), (1, .int x1), (2, .int x2)]) hx hb dX0_isEdge_26 hl (by decide) rfl (fun ls hl => ?_)
    obtain ⟨z10, hl10, h⟩ := bd_ok h
    refine L28 x1 x2 ((th_limits x1.toNatClampNeg) &&& (th_limits x2.toNatClampNeg)) K _ z10 hl10 ?_ _ _ _ hP hD hS (lv_sub hl [2, 3, 4, 1, 0] rfl)
    rcases z10 with r | ⟨⟩
    · cases h
      exact rfl
    intro H locs ls hP hD hS hl
    refine lv_iconst (v := (1 : Int32)) hx hb dX0_isEdge_70 (by decide) ?_
    cases h
    exact st_zret hx hb hr hlocks hP hD hS rfl dX0_isEdge_71
  · replace h := ifn c9 h
    refine lv_iconst (v := (0 : Int32)) hx hb dX0_isEdge_23 (by decide) ?_
    cases h
    exact st_zret hx hb hr hlocks hP hD hS rfl dX0_isEdge_24
def f_X0_mix_L3 (n_th_mixed : Nat) (n_a1_parts : Nat) (a1_parts : Nat → Int64) (x2 : Int32) (x3 : Int64) (x5 : Int32) (x6 : Int64) (s3 : Int32 × (Nat → Int64)) : Option (((Nat → Int64)) ⊕ (Int32 × (Nat → Int64))) :=
  match s3 with
  | (x8, th_mixed) =>
    if (8 : Int32) ≤ x8 then
      some (.inl th_mixed)
    else
      if (((8 : Int32) * x2) + x8) < 0 ∨ n_a1_parts ≤ (((8 : Int32) * x2) + x8).toNatClampNeg then none else
      if (((8 : Int32) * x5) + x8) < 0 ∨ n_a1_parts ≤ (((8 : Int32) * x5) + x8).toNatClampNeg then none else
      if x8 < 0 ∨ n_th_mixed ≤ x8.toNatClampNeg then none else
      some (.inr (x8 + 1, vp_updL th_mixed x8.toNatClampNeg ((x3 * (a1_parts (((8 : Int32) * x2) + x8).toNatClampNeg)) + (x6 * (a1_parts (((8 : Int32) * x5) + x8).toNatClampNeg)))))
def f_X0_mix (K : Nat) (n_th_mixed : Nat) (n_a1_parts : Nat) (th_mixed : Nat → Int64) (a1_parts : Nat → Int64) (x2 : Int32) (x3 : Int64) (x5 : Int32) (x6 : Int64) : Option ((Nat → Int64)) :=
  (lp (f_X0_mix_L3 n_th_mixed n_a1_parts a1_parts x2 x3 x5 x6) K ((0 : Int32), th_mixed)).bind fun z5_0 =>
  some z5_0
abbrev w_X0_mix (tc : Nat → ClassId) (q_th : Nat) (q_th_parts : Nat) (q_th_limits : Nat) (q_th_overFrom : Nat) (q_th_underTo : Nat) (q_th_mixed : Nat) (q_th_cutBy : Nat) (q_a1 : Nat) (q_a1_parts : Nat) (q_a1_limits : Nat) (q_a1_overFrom : Nat) (q_a1_underTo : Nat) (q_a1_mixed : Nat) (q_a1_cutBy : Nat) (n_th_mixed : Nat) (n_a1_parts : Nat) (th_fromBit : Int32) (th_toBit : Int32) (th_room : Int32) (th_corners : Int32) (th_mixed : Nat → Int64) (a1_fromBit : Int32) (a1_toBit : Int32) (a1_room : Int32) (a1_corners : Int32) (a1_parts : Nat → Int64) : va_W := [(q_th, .inr (0, [.ref q_th_parts, .ref q_th_limits, .ref q_th_overFrom, .ref q_th_underTo, .ref q_th_mixed, .ref q_th_cutBy, .int th_fromBit, .int th_toBit, .int th_room, .int th_corners])), (q_th_mixed, .inl (tc 1, n_th_mixed, .inr (.inl th_mixed))), (q_a1, .inr (0, [.ref q_a1_parts, .ref q_a1_limits, .ref q_a1_overFrom, .ref q_a1_underTo, .ref q_a1_mixed, .ref q_a1_cutBy, .int a1_fromBit, .int a1_toBit, .int a1_room, .int a1_corners])), (q_a1_parts, .inl (tc 1, n_a1_parts, .inr (.inl a1_parts)))]
set_option maxHeartbeats 4000000 in
set_option maxRecDepth 100000 in
theorem s_X0_mix {l : Launch} {E : (Nat → Prop) → State → Prop} (hEok : st_Eok E) {D : va_G} {tc : Nat → ClassId} (q_th : Nat) (q_th_parts : Nat) (q_th_limits : Nat) (q_th_overFrom : Nat) (q_th_underTo : Nat) (q_th_mixed : Nat) (q_th_cutBy : Nat) (q_a1 : Nat) (q_a1_parts : Nat) (q_a1_limits : Nat) (q_a1_overFrom : Nat) (q_a1_underTo : Nat) (q_a1_mixed : Nat) (q_a1_cutBy : Nat) (n_th_mixed : Nat) (n_a1_parts : Nat) (th_fromBit : Int32) (th_toBit : Int32) (th_room : Int32) (th_corners : Int32) (th_mixed : Nat → Int64) (a1_fromBit : Int32) (a1_toBit : Int32) (a1_room : Int32) (a1_corners : Int32) (a1_parts : Nat → Int64) (x2 : Int32) (x3 : Int64) (x5 : Int32) (x6 : Int64) (K : Nat) (th_mixed' : Nat → Int64) (h : f_X0_mix K n_th_mixed n_a1_parts th_mixed a1_parts x2 x3 x5 x6 = some th_mixed') : st l yX0_mix wsX0_mix ({ frames := 0, cells := 0, slots := 0, locals := 0 }) E D tc [.ref q_th, .ref q_a1, .int x2, .long x3, .int x5, .long x6] (w_X0_mix tc q_th q_th_parts q_th_limits q_th_overFrom q_th_underTo q_th_mixed q_th_cutBy q_a1 q_a1_parts q_a1_limits q_a1_overFrom q_a1_underTo q_a1_mixed q_a1_cutBy n_th_mixed n_a1_parts th_fromBit th_toBit th_room th_corners th_mixed a1_fromBit a1_toBit a1_room a1_corners a1_parts) none (w_X0_mix tc q_th q_th_parts q_th_limits q_th_overFrom q_th_underTo q_th_mixed q_th_cutBy q_a1 q_a1_parts q_a1_limits q_a1_overFrom q_a1_underTo q_a1_mixed q_a1_cutBy n_th_mixed n_a1_parts th_fromBit th_toBit th_room th_corners th_mixed' a1_fromBit a1_toBit a1_room a1_corners a1_parts) := by
  refine st_enter (cc := cX0_mix) (maxL := 9) (ret := none) (by decide) rfl (Nat.le_of_ble_eq_true rfl) ?_
  intro p e s m below meth c A ls hx hb hr hml hts hown hlocks hK hN hE hA hP hD hS hl
  have hl : lv_has ls 9 [(0, .ref q_th), (1, .ref q_a1), (2, .int x2), (3, .long x3), (5, .int x5), (6, .long x6)] := hl
  have hinX0 : ∀ w ∈ wsX00, w ∈ wsX0_mix := by decide +kernel
  generalize hav : ([.ref q_th, .ref q_a1, .int x2, .long x3, .int x5, .long x6] : List Value).toArray = av at hts ⊢
  have L3 : ∀ (x2 : Int32) (x3 : Int64) (x5 : Int32) (x6 : Int64), ∀ (k : Nat) (s3 : Int32 × (Nat → Int64)) (r : (Nat → Int64)), lp (f_X0_mix_L3 n_th_mixed n_a1_parts a1_parts x2 x3 x5 x6) k s3 = some r → (fun th_mixed : (Nat → Int64) => ∀ (H : Heap) (locs : List Loc) (ls : Array Slot), va_P D vwCl (w_X0_mix tc q_th q_th_parts q_th_limits q_th_overFrom q_th_underTo q_th_mixed q_th_cutBy q_a1 q_a1_parts q_a1_limits q_a1_overFrom q_a1_underTo q_a1_mixed q_a1_cutBy n_th_mixed n_a1_parts th_fromBit th_toBit th_room th_corners th_mixed a1_fromBit a1_toBit a1_room a1_corners a1_parts) H → va_D A (w_X0_mix tc q_th q_th_parts q_th_limits q_th_overFrom q_th_underTo q_th_mixed q_th_cutBy q_a1 q_a1_parts q_a1_limits q_a1_overFrom q_a1_underTo q_a1_mixed q_a1_cutBy n_th_mixed n_a1_parts th_fromBit th_toBit th_room th_corners th_mixed a1_fromBit a1_toBit a1_room a1_corners a1_parts) → va_S A s.heap H locs → lv_has ls 9 [] → W p l e ({ frames := 0, cells := 0, slots := 0, locals := 0 } : Room) s m av below meth c H locs 0 0 (MQ below (st_Q D (w_X0_mix tc q_th q_th_parts q_th_limits q_th_overFrom q_th_underTo q_th_mixed q_th_cutBy q_a1 q_a1_parts q_a1_limits q_a1_overFrom q_a1_underTo q_a1_mixed q_a1_cutBy n_th_mixed n_a1_parts th_fromBit th_toBit th_room th_corners th_mixed' a1_fromBit a1_toBit a1_room a1_corners a1_parts) none A) av s 0 0 A) (F0 m 54 ls [])) r → (fun s3 : Int32 × (Nat → Int64) => match s3 with | (x8, th_mixed) => ∀ (H : Heap) (locs : List Loc) (ls : Array Slot), va_P D vwCl (w_X0_mix tc q_th q_th_parts q_th_limits q_th_overFrom q_th_underTo q_th_mixed q_th_cutBy q_a1 q_a1_parts q_a1_limits q_a1_overFrom q_a1_underTo q_a1_mixed q_a1_cutBy n_th_mixed n_a1_parts th_fromBit th_toBit th_room th_corners th_mixed a1_fromBit a1_toBit a1_room a1_corners a1_parts) H → va_D A (w_X0_mix tc q_th q_th_parts q_th_limits q_th_overFrom q_th_underTo q_th_mixed q_th_cutBy q_a1 q_a1_parts q_a1_limits q_a1_overFrom q_a1_underTo q_a1_mixed q_a1_cutBy n_th_mixed n_a1_parts th_fromBit th_toBit th_room th_corners th_mixed a1_fromBit a1_toBit a1_room a1_corners a1_parts) → va_S A s.heap H locs → lv_has ls 9 [(0, .ref q_th), (1, .ref q_a1), (2, .int x2), (3, .long x3), (5, .int x5), (6, .long x6), (8, .int x8)] → W p l e ({ frames := 0, cells := 0, slots := 0, locals := 0 } : Room) s m av below meth c H locs 0 0 (MQ below (st_Q D (w_X0_mix tc q_th q_th_parts q_th_limits q_th_overFrom q_th_underTo q_th_mixed q_th_cutBy q_a1 q_a1_parts q_a1_limits q_a1_overFrom q_a1_underTo q_a1_mixed q_a1_cutBy n_th_mixed n_a1_parts th_fromBit th_toBit th_room th_corners th_mixed' a1_fromBit a1_toBit a1_room a1_corners a1_parts) none A) av s 0 0 A) (F0 m 3 ls [])) s3 := by
    intro x2 x3 x5 x6
    refine lp_W (f_X0_mix_L3 n_th_mixed n_a1_parts a1_parts x2 x3 x5 x6) (fun s3 : Int32 × (Nat → Int64) => match s3 with | (x8, th_mixed) => ∀ (H : Heap) (locs : List Loc) (ls : Array Slot), va_P D vwCl (w_X0_mix tc q_th q_th_parts q_th_limits q_th_overFrom q_th_underTo q_th_mixed q_th_cutBy q_a1 q_a1_parts q_a1_limits q_a1_overFrom q_a1_underTo q_a1_mixed q_a1_cutBy n_th_mixed n_a1_parts th_fromBit th_toBit th_room th_corners th_mixed a1_fromBit a1_toBit a1_room a1_corners a1_parts) H → va_D A (w_X0_mix tc q_th q_th_parts q_th_limits q_th_overFrom q_th_underTo q_th_mixed q_th_cutBy q_a1 q_a1_parts q_a1_limits q_a1_overFrom q_a1_underTo q_a1_mixed q_a1_cutBy n_th_mixed n_a1_parts th_fromBit th_toBit th_room th_corners th_mixed a1_fromBit a1_toBit a1_room a1_corners a1_parts) → va_S A s.heap H locs → lv_has ls 9 [(0, .ref q_th), (1, .ref q_a1), (2, .int x2), (3, .long x3), (5, .int x5), (6, .long x6), (8, .int x8)] → W p l e ({ frames := 0, cells := 0, slots := 0, locals := 0 } : Room) s m av below meth c H locs 0 0 (MQ below (st_Q D (w_X0_mix tc q_th q_th_parts q_th_limits q_th_overFrom q_th_underTo q_th_mixed q_th_cutBy q_a1 q_a1_parts q_a1_limits q_a1_overFrom q_a1_underTo q_a1_mixed q_a1_cutBy n_th_mixed n_a1_parts th_fromBit th_toBit th_room th_corners th_mixed' a1_fromBit a1_toBit a1_room a1_corners a1_parts) none A) av s 0 0 A) (F0 m 3 ls [])) (fun th_mixed : (Nat → Int64) => ∀ (H : Heap) (locs : List Loc) (ls : Array Slot), va_P D vwCl (w_X0_mix tc q_th q_th_parts q_th_limits q_th_overFrom q_th_underTo q_th_mixed q_th_cutBy q_a1 q_a1_parts q_a1_limits q_a1_overFrom q_a1_underTo q_a1_mixed q_a1_cutBy n_th_mixed n_a1_parts th_fromBit th_toBit th_room th_corners th_mixed a1_fromBit a1_toBit a1_room a1_corners a1_parts) H → va_D A (w_X0_mix tc q_th q_th_parts q_th_limits q_th_overFrom q_th_underTo q_th_mixed q_th_cutBy q_a1 q_a1_parts q_a1_limits q_a1_overFrom q_a1_underTo q_a1_mixed q_a1_cutBy n_th_mixed n_a1_parts th_fromBit th_toBit th_room th_corners th_mixed a1_fromBit a1_toBit a1_room a1_corners a1_parts) → va_S A s.heap H locs → lv_has ls 9 [] → W p l e ({ frames := 0, cells := 0, slots := 0, locals := 0 } : Room) s m av below meth c H locs 0 0 (MQ below (st_Q D (w_X0_mix tc q_th q_th_parts q_th_limits q_th_overFrom q_th_underTo q_th_mixed q_th_cutBy q_a1 q_a1_parts q_a1_limits q_a1_overFrom q_a1_underTo q_a1_mixed q_a1_cutBy n_th_mixed n_a1_parts th_fromBit th_toBit th_room th_corners th_mixed' a1_fromBit a1_toBit a1_room a1_corners a1_parts) none A) av s 0 0 A) (F0 m 54 ls [])) ?_
    rintro ⟨x8, th_mixed⟩ o h ih hz H locs ls hP hD hS hl
    unfold f_X0_mix_L3 at h
    refine lv_iload hx hb dX0_mix_3 (lv_at hl 6 rfl) ?_
    refine lv_bipush (v := (8 : Int32)) hx hb dX0_mix_5 (by decide) ?_
    refine lv_icmp_ge (tgt := 54) hx hb dX0_mix_7 (by decide) (fun c1 => ?_) (fun c1 => ?_)
    · replace h := ifp c1 h
      cases h
      exact hz _ rfl _ _ _ hP hD hS (lv_sub hl [] rfl)
    · replace h := ifn c1 h
      refine lv_aload_n hx hb dX0_mix_10 rfl (lv_at hl 0 rfl) ?_
      refine va_get (D := D) (ci := 0) (v := .ref q_th_mixed) (C := RX0) (T := TX0) (N := 10) hx hb hts hinX0 hown hK hP 0 rfl rfl 4 (by decide) (hts (.fieldLink RX0 9 "ChanceBounds$Corners" "mixed" "[J") (by decide +kernel)) (fun _ h9 => h9) rfl dX0_mix_11 ?_
      refine lv_iload hx hb dX0_mix_14 (lv_at hl 6 rfl) ?_
      refine lv_lload_n hx hb dX0_mix_16 rfl (lv_at hl 3 rfl) ?_
      refine lv_aload_n hx hb dX0_mix_17 rfl (lv_at hl 1 rfl) ?_
      refine va_get (D := D) (ci := 0) (v := .ref q_a1_parts) (C := RX0) (T := TX0) (N := 10) hx hb hts hinX0 hown hK hP 2 rfl rfl 0 (by decide) (hts (.fieldLink RX0 32 "ChanceBounds$Corners" "parts" "[J") (by decide +kernel)) (fun _ h9 => h9) rfl dX0_mix_18 ?_
      refine lv_bipush (v := (8 : Int32)) hx hb dX0_mix_21 (by decide) ?_
      refine lv_iload_n hx hb dX0_mix_23 rfl (lv_at hl 2 rfl) ?_
      refine lv_imul hx hb dX0_mix_24 ?_
      refine lv_iload hx hb dX0_mix_25 (lv_at hl 6 rfl) ?_
      refine lv_iadd hx hb dX0_mix_27 ?_
      obtain ⟨g2, h⟩ := gd_ok h
      refine va_lald hx hb hK hP 3 1 rfl rfl g2 dX0_mix_28 ?_
      refine lv_lmul hx hb dX0_mix_29 ?_
      refine lv_lload hx hb dX0_mix_30 (lv_at hl 5 rfl) ?_
      refine lv_aload_n hx hb dX0_mix_32 rfl (lv_at hl 1 rfl) ?_
      refine va_get (D := D) (ci := 0) (v := .ref q_a1_parts) (C := RX0) (T := TX0) (N := 10) hx hb hts hinX0 hown hK hP 2 rfl rfl 0 (by decide) (hts (.fieldLink RX0 32 "ChanceBounds$Corners" "parts" "[J") (by decide +kernel)) (fun _ h9 => h9) rfl dX0_mix_33 ?_
      refine lv_bipush (v := (8 : Int32)) hx hb dX0_mix_36 (by decide) ?_
      refine lv_iload hx hb dX0_mix_38 (lv_at hl 4 rfl) ?_
      refine lv_imul hx hb dX0_mix_40 ?_
      refine lv_iload hx hb dX0_mix_41 (lv_at hl 6 rfl) ?_
      refine lv_iadd hx hb dX0_mix_43 ?_
      obtain ⟨g3, h⟩ := gd_ok h
      refine va_lald hx hb hK hP 3 1 rfl rfl g3 dX0_mix_44 ?_
      refine lv_lmul hx hb dX0_mix_45 ?_
      refine lv_ladd hx hb dX0_mix_46 ?_
      obtain ⟨g4, h⟩ := gd_ok h
      refine va_last hx hb hK hP hD hS 1 1 rfl rfl g4 dX0_mix_47 (fun H locs hP hD hS => ?_)
      have hP : va_P D vwCl (w_X0_mix tc q_th q_th_parts q_th_limits q_th_overFrom q_th_underTo q_th_mixed q_th_cutBy q_a1 q_a1_parts q_a1_limits q_a1_overFrom q_a1_underTo q_a1_mixed q_a1_cutBy n_th_mixed n_a1_parts th_fromBit th_toBit th_room th_corners (vp_updL th_mixed x8.toNatClampNeg ((x3 * (a1_parts (((8 : Int32) * x2) + x8).toNatClampNeg)) + (x6 * (a1_parts (((8 : Int32) * x5) + x8).toNatClampNeg)))) a1_fromBit a1_toBit a1_room a1_corners a1_parts) H := hP
      have hD : va_D A (w_X0_mix tc q_th q_th_parts q_th_limits q_th_overFrom q_th_underTo q_th_mixed q_th_cutBy q_a1 q_a1_parts q_a1_limits q_a1_overFrom q_a1_underTo q_a1_mixed q_a1_cutBy n_th_mixed n_a1_parts th_fromBit th_toBit th_room th_corners (vp_updL th_mixed x8.toNatClampNeg ((x3 * (a1_parts (((8 : Int32) * x2) + x8).toNatClampNeg)) + (x6 * (a1_parts (((8 : Int32) * x5) + x8).toNatClampNeg)))) a1_fromBit a1_toBit a1_room a1_corners a1_parts) := hD
      refine lv_iinc (v := x8 + 1) (lv' := [(8, .int (x8 + 1)), (0, .ref q_th), (1, .ref q_a1), (2, .int x2), (3, .long x3), (5, .int x5), (6, .long x6)]) hx hb dX0_mix_48 hl (k := 6) rfl rfl (by decide) rfl (fun ls hl => ?_)
      refine lv_goto (tgt := 3) hx hb dX0_mix_51 (by decide) ?_
      cases h
      exact ih _ rfl _ _ _ hP hD hS (lv_sub hl [1, 2, 3, 4, 5, 6, 0] rfl)
  unfold f_X0_mix at h
  refine lv_iconst (v := (0 : Int32)) hx hb dX0_mix_0 (by decide) ?_
  refine lv_istore (lv' := [(8, .int (0 : Int32)), (0, .ref q_th), (1, .ref q_a1), (2, .int x2), (3, .long x3), (5, .int x5), (6, .long x6)]) hx hb dX0_mix_1 hl (by decide) rfl (fun ls hl => ?_)
  obtain ⟨z5_0, hl5, h⟩ := bd_ok h
  refine L3 x2 x3 x5 x6 K _ _ hl5 ?_ _ _ _ hP hD hS (lv_sub hl [1, 2, 3, 4, 5, 6, 0] rfl)
  intro H locs ls hP hD hS hl
  cases h
  exact st_vret hx hb hr hlocks hP hD hS dX0_mix_54
def f_X0_add_L5 (K : Nat) (n_th_mixed : Nat) (th_mixed : Nat → Int64) (s5 : Int64 × Int32) : Option ((Int64) ⊕ (Int64 × Int32)) :=
  match s5 with
  | (x2, x4) =>
    if (8 : Int32) ≤ x4 then
      some (.inl x2)
    else
      if x4 < 0 ∨ n_th_mixed ≤ x4.toNatClampNeg then none else
      (f_X8_commonDivisor K (th_mixed x4.toNatClampNeg) x2).bind fun z3_0 =>
      some (.inr (z3_0, x4 + 1))
def f_X0_add_L51 (n_th_parts : Nat) (n_th_mixed : Nat) (th_corners : Int32) (th_mixed : Nat → Int64) (x2 : Int64) (s51 : Int32 × (Nat → Int64)) : Option (((Nat → Int64)) ⊕ (Int32 × (Nat → Int64))) :=
  match s51 with
  | (x4, th_parts) =>
    if (8 : Int32) ≤ x4 then
      some (.inl th_parts)
    else
      if x4 < 0 ∨ n_th_mixed ≤ x4.toNatClampNeg then none else
      if x2 = 0 then none else
      if (((8 : Int32) * th_corners) + x4) < 0 ∨ n_th_parts ≤ (((8 : Int32) * th_corners) + x4).toNatClampNeg then none else
      some (.inr (x4 + 1, vp_updL th_parts (((8 : Int32) * th_corners) + x4).toNatClampNeg ((th_mixed x4.toNatClampNeg) / x2)))
def f_X0_add (K : Nat) (n_th_parts : Nat) (n_th_limits : Nat) (n_th_mixed : Nat) (th_room : Int32) (th_corners : Int32) (th_parts : Nat → Int64) (th_limits : Nat → Int32) (th_mixed : Nat → Int64) (x1 : Int32) : Option (Int32 × (Nat → Int64) × (Nat → Int32)) :=
  (lp (f_X0_add_L5 K n_th_mixed th_mixed) K ((0 : Int64), (0 : Int32))).bind fun z8_0 =>
  if (lg_cmp z8_0 (0 : Int64)) = (0 : Int32) then
    some (th_corners, th_parts, th_limits)
  else
    if th_corners < th_room then
      (lp (f_X0_add_L51 n_th_parts n_th_mixed th_corners th_mixed z8_0) K ((0 : Int32), th_parts)).bind fun z11_0 =>
      if th_corners < 0 ∨ n_th_limits ≤ th_corners.toNatClampNeg then none else
      some (th_corners + (1 : Int32), z11_0, upd th_limits th_corners.toNatClampNeg x1)
    else
      some (th_corners, th_parts, th_limits)
abbrev w_X0_add (tc : Nat → ClassId) (q_th : Nat) (q_th_parts : Nat) (q_th_limits : Nat) (q_th_overFrom : Nat) (q_th_underTo : Nat) (q_th_mixed : Nat) (q_th_cutBy : Nat) (n_th_parts : Nat) (n_th_limits : Nat) (n_th_mixed : Nat) (th_fromBit : Int32) (th_toBit : Int32) (th_room : Int32) (th_corners : Int32) (th_parts : Nat → Int64) (th_limits : Nat → Int32) (th_mixed : Nat → Int64) : va_W := [(q_th, .inr (0, [.ref q_th_parts, .ref q_th_limits, .ref q_th_overFrom, .ref q_th_underTo, .ref q_th_mixed, .ref q_th_cutBy, .int th_fromBit, .int th_toBit, .int th_room, .int th_corners])), (q_th_parts, .inl (tc 1, n_th_parts, .inr (.inl th_parts))), (q_th_limits, .inl (tc 0, n_th_limits, .inl th_limits)), (q_th_mixed, .inl (tc 1, n_th_mixed, .inr (.inl th_mixed)))]
set_option maxHeartbeats 4000000 in
set_option maxRecDepth 100000 in
theorem s_X0_add {l : Launch} {E : (Nat → Prop) → State → Prop} (hEok : st_Eok E) {D : va_G} {tc : Nat → ClassId} (q_th : Nat) (q_th_parts : Nat) (q_th_limits : Nat) (q_th_overFrom : Nat) (q_th_underTo : Nat) (q_th_mixed : Nat) (q_th_cutBy : Nat) (n_th_parts : Nat) (n_th_limits : Nat) (n_th_mixed : Nat) (th_fromBit : Int32) (th_toBit : Int32) (th_room : Int32) (th_corners : Int32) (th_parts : Nat → Int64) (th_limits : Nat → Int32) (th_mixed : Nat → Int64) (x1 : Int32) (K : Nat) (th_corners' : Int32) (th_parts' : Nat → Int64) (th_limits' : Nat → Int32) (h : f_X0_add K n_th_parts n_th_limits n_th_mixed th_room th_corners th_parts th_limits th_mixed x1 = some (th_corners', th_parts', th_limits')) : st l yX0_add wsX0_add ({ frames := 1, cells := 0, slots := 0, locals := 30 }) E D tc [.ref q_th, .int x1] (w_X0_add tc q_th q_th_parts q_th_limits q_th_overFrom q_th_underTo q_th_mixed q_th_cutBy n_th_parts n_th_limits n_th_mixed th_fromBit th_toBit th_room th_corners th_parts th_limits th_mixed) none (w_X0_add tc q_th q_th_parts q_th_limits q_th_overFrom q_th_underTo q_th_mixed q_th_cutBy n_th_parts n_th_limits n_th_mixed th_fromBit th_toBit th_room th_corners' th_parts' th_limits' th_mixed) := by
  refine st_enter (cc := cX0_add) (maxL := 5) (ret := none) (by decide) rfl (Nat.le_of_ble_eq_true rfl) ?_
  intro p e s m below meth c A ls hx hb hr hml hts hown hlocks hK hN hE hA hP hD hS hl
  have hl : lv_has ls 5 [(0, .ref q_th), (1, .int x1)] := hl
  have hinX0 : ∀ w ∈ wsX00, w ∈ wsX0_add := by decide +kernel
  generalize hav : ([.ref q_th, .int x1] : List Value).toArray = av at hts ⊢
  have L5 : ∀ (x1 : Int32) (th_corners : Int32) (th_parts : Nat → Int64) (th_limits : Nat → Int32), ∀ (k : Nat) (s5 : Int64 × Int32) (r : Int64), lp (f_X0_add_L5 K n_th_mixed th_mixed) k s5 = some r → (fun x2 : Int64 => ∀ (H : Heap) (locs : List Loc) (ls : Array Slot), va_P D vwCl (w_X0_add tc q_th q_th_parts q_th_limits q_th_overFrom q_th_underTo q_th_mixed q_th_cutBy n_th_parts n_th_limits n_th_mixed th_fromBit th_toBit th_room th_corners th_parts th_limits th_mixed) H → va_D A (w_X0_add tc q_th q_th_parts q_th_limits q_th_overFrom q_th_underTo q_th_mixed q_th_cutBy n_th_parts n_th_limits n_th_mixed th_fromBit th_toBit th_room th_corners th_parts th_limits th_mixed) → va_S A s.heap H locs → lv_has ls 5 [(0, .ref q_th), (1, .int x1), (2, .long x2)] → W p l e ({ frames := 1, cells := 0, slots := 0, locals := 30 } : Room) s m av below meth c H locs 0 0 (MQ below (st_Q D (w_X0_add tc q_th q_th_parts q_th_limits q_th_overFrom q_th_underTo q_th_mixed q_th_cutBy n_th_parts n_th_limits n_th_mixed th_fromBit th_toBit th_room th_corners' th_parts' th_limits' th_mixed) none A) av s 0 0 A) (F0 m 30 ls [])) r → (fun s5 : Int64 × Int32 => match s5 with | (x2, x4) => ∀ (H : Heap) (locs : List Loc) (ls : Array Slot), va_P D vwCl (w_X0_add tc q_th q_th_parts q_th_limits q_th_overFrom q_th_underTo q_th_mixed q_th_cutBy n_th_parts n_th_limits n_th_mixed th_fromBit th_toBit th_room th_corners th_parts th_limits th_mixed) H → va_D A (w_X0_add tc q_th q_th_parts q_th_limits q_th_overFrom q_th_underTo q_th_mixed q_th_cutBy n_th_parts n_th_limits n_th_mixed th_fromBit th_toBit th_room th_corners th_parts th_limits th_mixed) → va_S A s.heap H locs → lv_has ls 5 [(0, .ref q_th), (1, .int x1), (2, .long x2), (4, .int x4)] → W p l e ({ frames := 1, cells := 0, slots := 0, locals := 30 } : Room) s m av below meth c H locs 0 0 (MQ below (st_Q D (w_X0_add tc q_th q_th_parts q_th_limits q_th_overFrom q_th_underTo q_th_mixed q_th_cutBy n_th_parts n_th_limits n_th_mixed th_fromBit th_toBit th_room th_corners' th_parts' th_limits' th_mixed) none A) av s 0 0 A) (F0 m 5 ls [])) s5 := by
    intro x1 th_corners th_parts th_limits
    refine lp_W (f_X0_add_L5 K n_th_mixed th_mixed) (fun s5 : Int64 × Int32 => match s5 with | (x2, x4) => ∀ (H : Heap) (locs : List Loc) (ls : Array Slot), va_P D vwCl (w_X0_add tc q_th q_th_parts q_th_limits q_th_overFrom q_th_underTo q_th_mixed q_th_cutBy n_th_parts n_th_limits n_th_mixed th_fromBit th_toBit th_room th_corners th_parts th_limits th_mixed) H → va_D A (w_X0_add tc q_th q_th_parts q_th_limits q_th_overFrom q_th_underTo q_th_mixed q_th_cutBy n_th_parts n_th_limits n_th_mixed th_fromBit th_toBit th_room th_corners th_parts th_limits th_mixed) → va_S A s.heap H locs → lv_has ls 5 [(0, .ref q_th), (1, .int x1), (2, .long x2), (4, .int x4)] → W p l e ({ frames := 1, cells := 0, slots := 0, locals := 30 } : Room) s m av below meth c H locs 0 0 (MQ below (st_Q D (w_X0_add tc q_th q_th_parts q_th_limits q_th_overFrom q_th_underTo q_th_mixed q_th_cutBy n_th_parts n_th_limits n_th_mixed th_fromBit th_toBit th_room th_corners' th_parts' th_limits' th_mixed) none A) av s 0 0 A) (F0 m 5 ls [])) (fun x2 : Int64 => ∀ (H : Heap) (locs : List Loc) (ls : Array Slot), va_P D vwCl (w_X0_add tc q_th q_th_parts q_th_limits q_th_overFrom q_th_underTo q_th_mixed q_th_cutBy n_th_parts n_th_limits n_th_mixed th_fromBit th_toBit th_room th_corners th_parts th_limits th_mixed) H → va_D A (w_X0_add tc q_th q_th_parts q_th_limits q_th_overFrom q_th_underTo q_th_mixed q_th_cutBy n_th_parts n_th_limits n_th_mixed th_fromBit th_toBit th_room th_corners th_parts th_limits th_mixed) → va_S A s.heap H locs → lv_has ls 5 [(0, .ref q_th), (1, .int x1), (2, .long x2)] → W p l e ({ frames := 1, cells := 0, slots := 0, locals := 30 } : Room) s m av below meth c H locs 0 0 (MQ below (st_Q D (w_X0_add tc q_th q_th_parts q_th_limits q_th_overFrom q_th_underTo q_th_mixed q_th_cutBy n_th_parts n_th_limits n_th_mixed th_fromBit th_toBit th_room th_corners' th_parts' th_limits' th_mixed) none A) av s 0 0 A) (F0 m 30 ls [])) ?_
    rintro ⟨x2, x4⟩ o h ih hz H locs ls hP hD hS hl
    unfold f_X0_add_L5 at h
    refine lv_iload hx hb dX0_add_5 (lv_at hl 3 rfl) ?_
    refine lv_bipush (v := (8 : Int32)) hx hb dX0_add_7 (by decide) ?_
    refine lv_icmp_ge (tgt := 30) hx hb dX0_add_9 (by decide) (fun c1 => ?_) (fun c1 => ?_)
    · replace h := ifp c1 h
      cases h
      exact hz _ rfl _ _ _ hP hD hS (lv_sub hl [0, 1, 2] rfl)
    · replace h := ifn c1 h
      refine lv_aload_n hx hb dX0_add_12 rfl (lv_at hl 0 rfl) ?_
      refine va_get (D := D) (ci := 0) (v := .ref q_th_mixed) (C := RX0) (T := TX0) (N := 10) hx hb hts hinX0 hown hK hP 0 rfl rfl 4 (by decide) (hts (.fieldLink RX0 9 "ChanceBounds$Corners" "mixed" "[J") (by decide +kernel)) (fun _ h9 => h9) rfl dX0_add_13 ?_
      refine lv_iload hx hb dX0_add_16 (lv_at hl 3 rfl) ?_
      obtain ⟨g2, h⟩ := gd_ok h
      refine va_lald hx hb hK hP 3 1 rfl rfl g2 dX0_add_18 ?_
      refine lv_lload_n hx hb dX0_add_19 rfl (lv_at hl 2 rfl) ?_
      obtain ⟨z3_0, hc3, h⟩ := bd_ok h
      refine st_callSN (As := [.long (th_mixed x4.toNatClampNeg), .long x2]) (rest := []) (pos := []) ⟨hx, hb, hml, hown, hts⟩ (s_X8_commonDivisor (l := l) (D := D) (tc := tc) hEok (th_mixed x4.toNatClampNeg) x2 K z3_0 hc3) ⟨va_cnB (host := "ChanceBounds") 2 hts gX0_add_X8_commonDivisor_n108 rfl rfl rfl (hN (.methodLinkNest RX0 108 yX8_commonDivisor "ChanceBounds") (by decide +kernel)) (hts (.initialized RX8) (by decide +kernel)) (by decide +kernel) ⟨Nat.le_of_ble_eq_true rfl, Nat.le_of_ble_eq_true rfl⟩, hts (.static yX8_commonDivisor) (by decide +kernel), trivial⟩ hEok hE hK hN hP hD hS hA rfl rfl rfl rfl hl.1 rfl (Nat.le_of_ble_eq_true rfl) dX0_add_20 ⟨Nat.zero_le _, Nat.zero_le _⟩ (fun H locs hP hD hS => ?_)
      have hP : va_P D vwCl (w_X0_add tc q_th q_th_parts q_th_limits q_th_overFrom q_th_underTo q_th_mixed q_th_cutBy n_th_parts n_th_limits n_th_mixed th_fromBit th_toBit th_room th_corners th_parts th_limits th_mixed) H := hP
      have hD : va_D A (w_X0_add tc q_th q_th_parts q_th_limits q_th_overFrom q_th_underTo q_th_mixed q_th_cutBy n_th_parts n_th_limits n_th_mixed th_fromBit th_toBit th_room th_corners th_parts th_limits th_mixed) := hD
      refine lv_lstore_n (lv' := [(2, .long z3_0), (0, .ref q_th), (1, .int x1), (4, .int x4)]) hx hb dX0_add_23 rfl hl (by decide) rfl (fun ls hl => ?_)
      refine lv_iinc (v := x4 + 1) (lv' := [(4, .int (x4 + 1)), (2, .long z3_0), (0, .ref q_th), (1, .int x1)]) hx hb dX0_add_24 hl (k := 3) rfl rfl (by decide) rfl (fun ls hl => ?_)
      refine lv_goto (tgt := 5) hx hb dX0_add_27 (by decide) ?_
      cases h
      exact ih _ rfl _ _ _ hP hD hS (lv_sub hl [2, 3, 1, 0] rfl)
  have L51 : ∀ (x1 : Int32) (x2 : Int64) (th_corners : Int32) (th_limits : Nat → Int32), ∀ (k : Nat) (s51 : Int32 × (Nat → Int64)) (r : (Nat → Int64)), lp (f_X0_add_L51 n_th_parts n_th_mixed th_corners th_mixed x2) k s51 = some r → (fun th_parts : (Nat → Int64) => ∀ (H : Heap) (locs : List Loc) (ls : Array Slot), va_P D vwCl (w_X0_add tc q_th q_th_parts q_th_limits q_th_overFrom q_th_underTo q_th_mixed q_th_cutBy n_th_parts n_th_limits n_th_mixed th_fromBit th_toBit th_room th_corners th_parts th_limits th_mixed) H → va_D A (w_X0_add tc q_th q_th_parts q_th_limits q_th_overFrom q_th_underTo q_th_mixed q_th_cutBy n_th_parts n_th_limits n_th_mixed th_fromBit th_toBit th_room th_corners th_parts th_limits th_mixed) → va_S A s.heap H locs → lv_has ls 5 [(0, .ref q_th), (1, .int x1)] → W p l e ({ frames := 1, cells := 0, slots := 0, locals := 30 } : Room) s m av below meth c H locs 0 0 (MQ below (st_Q D (w_X0_add tc q_th q_th_parts q_th_limits q_th_overFrom q_th_underTo q_th_mixed q_th_cutBy n_th_parts n_th_limits n_th_mixed th_fromBit th_toBit th_room th_corners' th_parts' th_limits' th_mixed) none A) av s 0 0 A) (F0 m 88 ls [])) r → (fun s51 : Int32 × (Nat → Int64) => match s51 with | (x4, th_parts) => ∀ (H : Heap) (locs : List Loc) (ls : Array Slot), va_P D vwCl (w_X0_add tc q_th q_th_parts q_th_limits q_th_overFrom q_th_underTo q_th_mixed q_th_cutBy n_th_parts n_th_limits n_th_mixed th_fromBit th_toBit th_room th_corners th_parts th_limits th_mixed) H → va_D A (w_X0_add tc q_th q_th_parts q_th_limits q_th_overFrom q_th_underTo q_th_mixed q_th_cutBy n_th_parts n_th_limits n_th_mixed th_fromBit th_toBit th_room th_corners th_parts th_limits th_mixed) → va_S A s.heap H locs → lv_has ls 5 [(0, .ref q_th), (1, .int x1), (2, .long x2), (4, .int x4)] → W p l e ({ frames := 1, cells := 0, slots := 0, locals := 30 } : Room) s m av below meth c H locs 0 0 (MQ below (st_Q D (w_X0_add tc q_th q_th_parts q_th_limits q_th_overFrom q_th_underTo q_th_mixed q_th_cutBy n_th_parts n_th_limits n_th_mixed th_fromBit th_toBit th_room th_corners' th_parts' th_limits' th_mixed) none A) av s 0 0 A) (F0 m 51 ls [])) s51 := by
    intro x1 x2 th_corners th_limits
    refine lp_W (f_X0_add_L51 n_th_parts n_th_mixed th_corners th_mixed x2) (fun s51 : Int32 × (Nat → Int64) => match s51 with | (x4, th_parts) => ∀ (H : Heap) (locs : List Loc) (ls : Array Slot), va_P D vwCl (w_X0_add tc q_th q_th_parts q_th_limits q_th_overFrom q_th_underTo q_th_mixed q_th_cutBy n_th_parts n_th_limits n_th_mixed th_fromBit th_toBit th_room th_corners th_parts th_limits th_mixed) H → va_D A (w_X0_add tc q_th q_th_parts q_th_limits q_th_overFrom q_th_underTo q_th_mixed q_th_cutBy n_th_parts n_th_limits n_th_mixed th_fromBit th_toBit th_room th_corners th_parts th_limits th_mixed) → va_S A s.heap H locs → lv_has ls 5 [(0, .ref q_th), (1, .int x1), (2, .long x2), (4, .int x4)] → W p l e ({ frames := 1, cells := 0, slots := 0, locals := 30 } : Room) s m av below meth c H locs 0 0 (MQ below (st_Q D (w_X0_add tc q_th q_th_parts q_th_limits q_th_overFrom q_th_underTo q_th_mixed q_th_cutBy n_th_parts n_th_limits n_th_mixed th_fromBit th_toBit th_room th_corners' th_parts' th_limits' th_mixed) none A) av s 0 0 A) (F0 m 51 ls [])) (fun th_parts : (Nat → Int64) => ∀ (H : Heap) (locs : List Loc) (ls : Array Slot), va_P D vwCl (w_X0_add tc q_th q_th_parts q_th_limits q_th_overFrom q_th_underTo q_th_mixed q_th_cutBy n_th_parts n_th_limits n_th_mixed th_fromBit th_toBit th_room th_corners th_parts th_limits th_mixed) H → va_D A (w_X0_add tc q_th q_th_parts q_th_limits q_th_overFrom q_th_underTo q_th_mixed q_th_cutBy n_th_parts n_th_limits n_th_mixed th_fromBit th_toBit th_room th_corners th_parts th_limits th_mixed) → va_S A s.heap H locs → lv_has ls 5 [(0, .ref q_th), (1, .int x1)] → W p l e ({ frames := 1, cells := 0, slots := 0, locals := 30 } : Room) s m av below meth c H locs 0 0 (MQ below (st_Q D (w_X0_add tc q_th q_th_parts q_th_limits q_th_overFrom q_th_underTo q_th_mixed q_th_cutBy n_th_parts n_th_limits n_th_mixed th_fromBit th_toBit th_room th_corners' th_parts' th_limits' th_mixed) none A) av s 0 0 A) (F0 m 88 ls [])) ?_
    rintro ⟨x4, th_parts⟩ o h ih hz H locs ls hP hD hS hl
    unfold f_X0_add_L51 at h
    refine lv_iload hx hb dX0_add_51 (lv_at hl 3 rfl) ?_
    refine lv_bipush (v := (8 : Int32)) hx hb dX0_add_53 (by decide) ?_
    refine lv_icmp_ge (tgt := 88) hx hb dX0_add_55 (by decide) (fun c4 => ?_) (fun c4 => ?_)
    · replace h := ifp c4 h
      cases h
      exact hz _ rfl _ _ _ hP hD hS (lv_sub hl [0, 1] rfl)
    · replace h := ifn c4 h
      refine lv_aload_n hx hb dX0_add_58 rfl (lv_at hl 0 rfl) ?_
      refine va_get (D := D) (ci := 0) (v := .ref q_th_parts) (C := RX0) (T := TX0) (N := 10) hx hb hts hinX0 hown hK hP 0 rfl rfl 0 (by decide) (hts (.fieldLink RX0 32 "ChanceBounds$Corners" "parts" "[J") (by decide +kernel)) (fun _ h9 => h9) rfl dX0_add_59 ?_
      refine lv_bipush (v := (8 : Int32)) hx hb dX0_add_62 (by decide) ?_
      refine lv_aload_n hx hb dX0_add_64 rfl (lv_at hl 0 rfl) ?_
      refine va_get (D := D) (ci := 0) (v := .int th_corners) (C := RX0) (T := TX0) (N := 10) hx hb hts hinX0 hown hK hP 0 rfl rfl 9 (by decide) (hts (.fieldLink RX0 51 "ChanceBounds$Corners" "corners" "I") (by decide +kernel)) (fun _ h9 => h9) rfl dX0_add_65 ?_
      refine lv_imul hx hb dX0_add_68 ?_
      refine lv_iload hx hb dX0_add_69 (lv_at hl 3 rfl) ?_
      refine lv_iadd hx hb dX0_add_71 ?_
      refine lv_aload_n hx hb dX0_add_72 rfl (lv_at hl 0 rfl) ?_
      refine va_get (D := D) (ci := 0) (v := .ref q_th_mixed) (C := RX0) (T := TX0) (N := 10) hx hb hts hinX0 hown hK hP 0 rfl rfl 4 (by decide) (hts (.fieldLink RX0 9 "ChanceBounds$Corners" "mixed" "[J") (by decide +kernel)) (fun _ h9 => h9) rfl dX0_add_73 ?_
      refine lv_iload hx hb dX0_add_76 (lv_at hl 3 rfl) ?_
      obtain ⟨g5, h⟩ := gd_ok h
      refine va_lald hx hb hK hP 3 1 rfl rfl g5 dX0_add_78 ?_
      refine lv_lload_n hx hb dX0_add_79 rfl (lv_at hl 2 rfl) ?_
      obtain ⟨g6, h⟩ := gd_ok h
      refine lv_ldiv hx hb dX0_add_80 g6 ?_
      obtain ⟨g7, h⟩ := gd_ok h
      refine va_last hx hb hK hP hD hS 1 1 rfl rfl g7 dX0_add_81 (fun H locs hP hD hS => ?_)
      have hP : va_P D vwCl (w_X0_add tc q_th q_th_parts q_th_limits q_th_overFrom q_th_underTo q_th_mixed q_th_cutBy n_th_parts n_th_limits n_th_mixed th_fromBit th_toBit th_room th_corners (vp_updL th_parts (((8 : Int32) * th_corners) + x4).toNatClampNeg ((th_mixed x4.toNatClampNeg) / x2)) th_limits th_mixed) H := hP
      have hD : va_D A (w_X0_add tc q_th q_th_parts q_th_limits q_th_overFrom q_th_underTo q_th_mixed q_th_cutBy n_th_parts n_th_limits n_th_mixed th_fromBit th_toBit th_room th_corners (vp_updL th_parts (((8 : Int32) * th_corners) + x4).toNatClampNeg ((th_mixed x4.toNatClampNeg) / x2)) th_limits th_mixed) := hD
      refine lv_iinc (v := x4 + 1) (lv' := [(4, .int (x4 + 1)), (0, .ref q_th), (1, .int x1), (2, .long x2)]) hx hb dX0_add_82 hl (k := 3) rfl rfl (by decide) rfl (fun ls hl => ?_)
      refine lv_goto (tgt := 51) hx hb dX0_add_85 (by decide) ?_
      cases h
      exact ih _ rfl _ _ _ hP hD hS (lv_sub hl [1, 2, 3, 0] rfl)
  unfold f_X0_add at h
  refine lv_lconst (v := (0 : Int64)) hx hb dX0_add_0 (by decide) ?_
  refine lv_lstore_n (lv' := [(2, .long (0 : Int64)), (0, .ref q_th), (1, .int x1)]) hx hb dX0_add_1 rfl hl (by decide) rfl (fun ls hl => ?_)
  refine lv_iconst (v := (0 : Int32)) hx hb dX0_add_2 (by decide) ?_
  refine lv_istore (lv' := [(4, .int (0 : Int32)), (2, .long (0 : Int64)), (0, .ref q_th), (1, .int x1)]) hx hb dX0_add_3 hl (by decide) rfl (fun ls hl => ?_)
  obtain ⟨z8_0, hl8, h⟩ := bd_ok h
  refine L5 x1 th_corners th_parts th_limits K _ _ hl8 ?_ _ _ _ hP hD hS (lv_sub hl [2, 3, 1, 0] rfl)
  intro H locs ls hP hD hS hl
  refine lv_lload_n hx hb dX0_add_30 rfl (lv_at hl 2 rfl) ?_
  refine lv_lconst (v := (0 : Int64)) hx hb dX0_add_31 (by decide) ?_
  refine W.lcmp hx hb dX0_add_32 ?_
  refine lv_if_eq (tgt := 47) hx hb dX0_add_33 (by decide) (fun c9 => ?_) (fun c9 => ?_)
  · replace h := ifp c9 h
    cases h
    exact st_vret hx hb hr hlocks hP hD hS dX0_add_47
  · replace h := ifn c9 h
    refine lv_aload_n hx hb dX0_add_36 rfl (lv_at hl 0 rfl) ?_
    refine va_get (D := D) (ci := 0) (v := .int th_corners) (C := RX0) (T := TX0) (N := 10) hx hb hts hinX0 hown hK hP 0 rfl rfl 9 (by decide) (hts (.fieldLink RX0 51 "ChanceBounds$Corners" "corners" "I") (by decide +kernel)) (fun _ h9 => h9) rfl dX0_add_37 ?_
    refine lv_aload_n hx hb dX0_add_40 rfl (lv_at hl 0 rfl) ?_
    refine va_get (D := D) (ci := 0) (v := .int th_room) (C := RX0) (T := TX0) (N := 10) hx hb hts hinX0 hown hK hP 0 rfl rfl 8 (by decide) (hts (.fieldLink RX0 28 "ChanceBounds$Corners" "room" "I") (by decide +kernel)) (fun _ h9 => h9) rfl dX0_add_41 ?_
    refine lv_icmp_lt (tgt := 48) hx hb dX0_add_44 (by decide) (fun c10 => ?_) (fun c10 => ?_)
    · replace h := ifp c10 h
      refine lv_iconst (v := (0 : Int32)) hx hb dX0_add_48 (by decide) ?_
      refine lv_istore (lv' := [(4, .int (0 : Int32)), (0, .ref q_th), (1, .int x1), (2, .long z8_0)]) hx hb dX0_add_49 hl (by decide) rfl (fun ls hl => ?_)
      obtain ⟨z11_0, hl11, h⟩ := bd_ok h
      refine L51 x1 z8_0 th_corners th_limits K _ _ hl11 ?_ _ _ _ hP hD hS (lv_sub hl [1, 2, 3, 0] rfl)
      intro H locs ls hP hD hS hl
      refine lv_aload_n hx hb dX0_add_88 rfl (lv_at hl 0 rfl) ?_
      refine va_get (D := D) (ci := 0) (v := .ref q_th_limits) (C := RX0) (T := TX0) (N := 10) hx hb hts hinX0 hown hK hP 0 rfl rfl 1 (by decide) (hts (.fieldLink RX0 35 "ChanceBounds$Corners" "limits" "[I") (by decide +kernel)) (fun _ h9 => h9) rfl dX0_add_89 ?_
      refine lv_aload_n hx hb dX0_add_92 rfl (lv_at hl 0 rfl) ?_
      refine va_get (D := D) (ci := 0) (v := .int th_corners) (C := RX0) (T := TX0) (N := 10) hx hb hts hinX0 hown hK hP 0 rfl rfl 9 (by decide) (hts (.fieldLink RX0 51 "ChanceBounds$Corners" "corners" "I") (by decide +kernel)) (fun _ h9 => h9) rfl dX0_add_93 ?_
      refine lv_iload_n hx hb dX0_add_96 rfl (lv_at hl 1 rfl) ?_
      obtain ⟨g12, h⟩ := gd_ok h
      refine va_iast hx hb hK hP hD hS 2 0 rfl rfl g12 dX0_add_97 (fun H locs hP hD hS => ?_)
      have hP : va_P D vwCl (w_X0_add tc q_th q_th_parts q_th_limits q_th_overFrom q_th_underTo q_th_mixed q_th_cutBy n_th_parts n_th_limits n_th_mixed th_fromBit th_toBit th_room th_corners z11_0 (upd th_limits th_corners.toNatClampNeg x1) th_mixed) H := hP
      have hD : va_D A (w_X0_add tc q_th q_th_parts q_th_limits q_th_overFrom q_th_underTo q_th_mixed q_th_cutBy n_th_parts n_th_limits n_th_mixed th_fromBit th_toBit th_room th_corners z11_0 (upd th_limits th_corners.toNatClampNeg x1) th_mixed) := hD
      refine lv_aload_n hx hb dX0_add_98 rfl (lv_at hl 0 rfl) ?_
      refine lv_dup hx hb dX0_add_99 rfl ?_
      refine va_get (D := D) (ci := 0) (v := .int th_corners) (C := RX0) (T := TX0) (N := 10) hx hb hts hinX0 hown hK hP 0 rfl rfl 9 (by decide) (hts (.fieldLink RX0 51 "ChanceBounds$Corners" "corners" "I") (by decide +kernel)) (fun _ h9 => h9) rfl dX0_add_100 ?_
      refine lv_iconst (v := (1 : Int32)) hx hb dX0_add_103 (by decide) ?_
      refine lv_iadd hx hb dX0_add_104 ?_
      refine va_put (D := D) (ci := 0) (v := .int (th_corners + (1 : Int32))) (ty := .int) (C := RX0) (T := TX0) (N := 10) hx hb hts hinX0 tyX0 tyX0_ok nmX0 hown hK hP hD hS 0 rfl rfl 9 (by decide) (hts (.fieldLink RX0 51 "ChanceBounds$Corners" "corners" "I") (by decide +kernel)) (fun _ h9 => h9) rfl (by decide +kernel) rfl rfl (Nat.le_of_ble_eq_true rfl) dX0_add_105 (fun H locs hP hD hS => ?_)
      have hP : va_P D vwCl (w_X0_add tc q_th q_th_parts q_th_limits q_th_overFrom q_th_underTo q_th_mixed q_th_cutBy n_th_parts n_th_limits n_th_mixed th_fromBit th_toBit th_room (th_corners + (1 : Int32)) z11_0 (upd th_limits th_corners.toNatClampNeg x1) th_mixed) H := hP
      have hD : va_D A (w_X0_add tc q_th q_th_parts q_th_limits q_th_overFrom q_th_underTo q_th_mixed q_th_cutBy n_th_parts n_th_limits n_th_mixed th_fromBit th_toBit th_room (th_corners + (1 : Int32)) z11_0 (upd th_limits th_corners.toNatClampNeg x1) th_mixed) := hD
      cases h
      exact st_vret hx hb hr hlocks hP hD hS dX0_add_108
    · replace h := ifn c10 h
      cases h
      exact st_vret hx hb hr hlocks hP hD hS dX0_add_47

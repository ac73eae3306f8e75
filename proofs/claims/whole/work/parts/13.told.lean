def f_X7_chance_L4 (n_th_thousandths : Nat) (th_thousandths : Nat → Int32) (x1 : Int32) (s4 : Int32 × Int32) : Option ((Int32) ⊕ (Int32 × Int32)) :=
  match s4 with
  | (x2, x3) =>
    if (8 : Int32) ≤ x3 then
      some (.inl x2)
    else
      (f_X8_has x1 x3).bind fun z2_0 =>
      if z2_0 = (0 : Int32) then
        some (.inr (x2, x3 + 1))
      else
        if x3 < 0 ∨ n_th_thousandths ≤ x3.toNatClampNeg then none else
        some (.inr (x2 + (th_thousandths x3.toNatClampNeg), x3 + 1))
def f_X7_chance (K : Nat) (n_th_thousandths : Nat) (th_thousandths : Nat → Int32) (x1 : Int32) : Option (Int32) :=
  (lp (f_X7_chance_L4 n_th_thousandths th_thousandths x1) K ((0 : Int32), (0 : Int32))).bind fun z5_0 =>
  some z5_0
abbrev w_X7_chance (tc : Nat → ClassId) (q_th : Nat) (q_th_thousandths : Nat) (n_th_thousandths : Nat) (th_thousandths : Nat → Int32) : va_W := [(q_th, .inr (7, [.ref q_th_thousandths])), (q_th_thousandths, .inl (tc 0, n_th_thousandths, .inl th_thousandths))]
set_option maxHeartbeats 4000000 in
set_option maxRecDepth 100000 in
theorem s_X7_chance {l : Launch} {E : (Nat → Prop) → State → Prop} (hEok : st_Eok E) {D : va_G} {tc : Nat → ClassId} (q_th : Nat) (q_th_thousandths : Nat) (n_th_thousandths : Nat) (th_thousandths : Nat → Int32) (x1 : Int32) (K : Nat) (r0 : Int32) (h : f_X7_chance K n_th_thousandths th_thousandths x1 = some r0) : st l yX7_chance wsX7_chance ({ frames := 1, cells := 0, slots := 0, locals := 21 }) E D tc [.ref q_th, .int x1] (w_X7_chance tc q_th q_th_thousandths n_th_thousandths th_thousandths) (some (.int r0)) (w_X7_chance tc q_th q_th_thousandths n_th_thousandths th_thousandths) := by
  refine st_enter (cc := cX7_chance) (maxL := 4) (ret := (some .int)) (by decide) rfl (Nat.le_of_ble_eq_true rfl) ?_
  intro p e s m below meth c A ls hx hb hr hml hts hown hlocks hK hN hE hA hP hD hS hl
  have hl : lv_has ls 4 [(0, .ref q_th), (1, .int x1)] := hl
  have hinX7 : ∀ w ∈ wsX70, w ∈ wsX7_chance := by decide +kernel
  generalize hav : ([.ref q_th, .int x1] : List Value).toArray = av at hts ⊢
  have L4 : ∀ (x1 : Int32), ∀ (k : Nat) (s4 : Int32 × Int32) (r : Int32), lp (f_X7_chance_L4 n_th_thousandths th_thousandths x1) k s4 = some r → (fun x2 : Int32 => ∀ (H : Heap) (locs : List Loc) (ls : Array Slot), va_P D vwCl (w_X7_chance tc q_th q_th_thousandths n_th_thousandths th_thousandths) H → va_D A (w_X7_chance tc q_th q_th_thousandths n_th_thousandths th_thousandths) → va_S A s.heap H locs → lv_has ls 4 [(2, .int x2)] → W p l e ({ frames := 1, cells := 0, slots := 0, locals := 21 } : Room) s m av below meth c H locs 0 0 (MQ below (st_Q D (w_X7_chance tc q_th q_th_thousandths n_th_thousandths th_thousandths) (some (.int r0)) A) av s 0 0 A) (F0 m 33 ls [])) r → (fun s4 : Int32 × Int32 => match s4 with | (x2, x3) => ∀ (H : Heap) (locs : List Loc) (ls : Array Slot), va_P D vwCl (w_X7_chance tc q_th q_th_thousandths n_th_thousandths th_thousandths) H → va_D A (w_X7_chance tc q_th q_th_thousandths n_th_thousandths th_thousandths) → va_S A s.heap H locs → lv_has ls 4 [(0, .ref q_th), (1, .int x1), (2, .int x2), (3, .int x3)] → W p l e ({ frames := 1, cells := 0, slots := 0, locals := 21 } : Room) s m av below meth c H locs 0 0 (MQ below (st_Q D (w_X7_chance tc q_th q_th_thousandths n_th_thousandths th_thousandths) (some (.int r0)) A) av s 0 0 A) (F0 m 4 ls [])) s4 := by
    intro x1
    refine lp_W (f_X7_chance_L4 n_th_thousandths th_thousandths x1) (fun s4 : Int32 × Int32 => match s4 with | (x2, x3) => ∀ (H : Heap) (locs : List Loc) (ls : Array Slot), va_P D vwCl (w_X7_chance tc q_th q_th_thousandths n_th_thousandths th_thousandths) H → va_D A (w_X7_chance tc q_th q_th_thousandths n_th_thousandths th_thousandths) → va_S A s.heap H locs → lv_has ls 4 [(0, .ref q_th), (1, .int x1), (2, .int x2), (3, .int x3)] → W p l e ({ frames := 1, cells := 0, slots := 0, locals := 21 } : Room) s m av below meth c H locs 0 0 (MQ below (st_Q D (w_X7_chance tc q_th q_th_thousandths n_th_thousandths th_thousandths) (some (.int r0)) A) av s 0 0 A) (F0 m 4 ls [])) (fun x2 : Int32 => ∀ (H : Heap) (locs : List Loc) (ls : Array Slot), va_P D vwCl (w_X7_chance tc q_th q_th_thousandths n_th_thousandths th_thousandths) H → va_D A (w_X7_chance tc q_th q_th_thousandths n_th_thousandths th_thousandths) → va_S A s.heap H locs → lv_has ls 4 [(2, .int x2)] → W p l e ({ frames := 1, cells := 0, slots := 0, locals := 21 } : Room) s m av below meth c H locs 0 0 (MQ below (st_Q D (w_X7_chance tc q_th q_th_thousandths n_th_thousandths th_thousandths) (some (.int r0)) A) av s 0 0 A) (F0 m 33 ls [])) ?_
    rintro ⟨x2, x3⟩ o h ih hz H locs ls hP hD hS hl
    unfold f_X7_chance_L4 at h
    refine lv_iload_n hx hb dX7_chance_4 rfl (lv_at hl 3 rfl) ?_
    refine lv_bipush (v := (8 : Int32)) hx hb dX7_chance_5 (by decide) ?_
    refine lv_icmp_ge (tgt := 33) hx hb dX7_chance_7 (by decide) (fun c1 => ?_) (fun c1 => ?_)
    · replace h := ifp c1 h
      cases h
      exact hz _ rfl _ _ _ hP hD hS (lv_sub hl [2] rfl)
    · replace h := ifn c1 h
      refine lv_iload_n hx hb dX7_chance_10 rfl (lv_at hl 1 rfl) ?_
      refine lv_iload_n hx hb dX7_chance_11 rfl (lv_at hl 3 rfl) ?_
      obtain ⟨z2_0, hc2, h⟩ := bd_ok h
      refine st_callSN (As := [.int x1, .int x3]) (rest := []) (pos := []) ⟨hx, hb, hml, hown, hts⟩ (s_X8_has (l := l) (D := D) (tc := tc) hEok x1 x3 z2_0 hc2) ⟨va_cnB (host := "ChanceBounds") 2 hts gX7_chance_X8_has_n15 rfl rfl rfl (hN (.methodLinkNest RX7 15 yX8_has "ChanceBounds") (by decide +kernel)) (hts (.initialized RX8) (by decide +kernel)) (by decide +kernel) ⟨Nat.le_of_ble_eq_true rfl, Nat.le_of_ble_eq_true rfl⟩, hts (.static yX8_has) (by decide +kernel), trivial⟩ hEok hE hK hN hP hD hS hA rfl rfl rfl rfl hl.1 rfl (Nat.le_of_ble_eq_true rfl) dX7_chance_12 ⟨Nat.zero_le _, Nat.zero_le _⟩ (fun H locs hP hD hS => ?_)
      have hP : va_P D vwCl (w_X7_chance tc q_th q_th_thousandths n_th_thousandths th_thousandths) H := hP
      have hD : va_D A (w_X7_chance tc q_th q_th_thousandths n_th_thousandths th_thousandths) := hD
      refine lv_if_eq (tgt := 27) hx hb dX7_chance_15 (by decide) (fun c3 => ?_) (fun c3 => ?_)
      · replace h := ifp c3 h
        refine lv_iinc (v := x3 + 1) (lv' := [(3, .int (x3 + 1)), (0, .ref q_th), (1, .int x1), (2, .int x2)]) hx hb dX7_chance_27 hl (k := 3) rfl rfl (by decide) rfl (fun ls hl => ?_)
        refine lv_goto (tgt := 4) hx hb dX7_chance_30 (by decide) ?_
        cases h
        exact ih _ rfl _ _ _ hP hD hS (lv_sub hl [1, 2, 3, 0] rfl)
      · replace h := ifn c3 h
        refine lv_iload_n hx hb dX7_chance_18 rfl (lv_at hl 2 rfl) ?_
        refine lv_aload_n hx hb dX7_chance_19 rfl (lv_at hl 0 rfl) ?_
        refine va_get (D := D) (ci := 7) (v := .ref q_th_thousandths) (C := RX7) (T := TX7) (N := 1) hx hb hts hinX7 hown hK hP 0 rfl rfl 0 (by decide) (hts (.fieldLink RX7 9 "ChanceBounds$ToldRow" "thousandths" "[I") (by decide +kernel)) (fun _ h9 => h9) rfl dX7_chance_20 ?_
        refine lv_iload_n hx hb dX7_chance_23 rfl (lv_at hl 3 rfl) ?_
        obtain ⟨g4, h⟩ := gd_ok h
        refine va_iald hx hb hK hP 1 0 rfl rfl g4 dX7_chance_24 ?_
        refine lv_iadd hx hb dX7_chance_25 ?_
        refine lv_istore_n (lv' := [(2, .int (x2 + (th_thousandths x3.toNatClampNeg))), (0, .ref q_th), (1, .int x1), (3, .int x3)]) hx hb dX7_chance_26 rfl hl (by decide) rfl (fun ls hl => ?_)
        refine lv_iinc (v := x3 + 1) (lv' := [(3, .int (x3 + 1)), (2, .int (x2 + (th_thousandths x3.toNatClampNeg))), (0, .ref q_th), (1, .int x1)]) hx hb dX7_chance_27 hl (k := 3) rfl rfl (by decide) rfl (fun ls hl => ?_)
        refine lv_goto (tgt := 4) hx hb dX7_chance_30 (by decide) ?_
        cases h
        exact ih _ rfl _ _ _ hP hD hS (lv_sub hl [2, 3, 1, 0] rfl)
  unfold f_X7_chance at h
  refine lv_iconst (v := (0 : Int32)) hx hb dX7_chance_0 (by decide) ?_
  refine lv_istore_n (lv' := [(2, .int (0 : Int32)), (0, .ref q_th), (1, .int x1)]) hx hb dX7_chance_1 rfl hl (by decide) rfl (fun ls hl => ?_)
  refine lv_iconst (v := (0 : Int32)) hx hb dX7_chance_2 (by decide) ?_
  refine lv_istore_n (lv' := [(3, .int (0 : Int32)), (2, .int (0 : Int32)), (0, .ref q_th), (1, .int x1)]) hx hb dX7_chance_3 rfl hl (by decide) rfl (fun ls hl => ?_)
  obtain ⟨z5_0, hl5, h⟩ := bd_ok h
  refine L4 x1 K _ _ hl5 ?_ _ _ _ hP hD hS (lv_sub hl [2, 3, 1, 0] rfl)
  intro H locs ls hP hD hS hl
  refine lv_iload_n hx hb dX7_chance_33 rfl (lv_at hl 0 rfl) ?_
  cases h
  exact st_iret hx hb hr hlocks hP hD hS dX7_chance_34
def f_X7_isWhole (K : Nat) (n_th_thousandths : Nat) (th_thousandths : Nat → Int32) : Option (Int32) :=
  (f_X7_chance K n_th_thousandths th_thousandths (255 : Int32)).bind fun z1_0 =>
  if z1_0 = (1000 : Int32) then
    some (1 : Int32)
  else
    some (0 : Int32)
abbrev w_X7_isWhole (tc : Nat → ClassId) (q_th : Nat) (q_th_thousandths : Nat) (n_th_thousandths : Nat) (th_thousandths : Nat → Int32) : va_W := [(q_th, .inr (7, [.ref q_th_thousandths])), (q_th_thousandths, .inl (tc 0, n_th_thousandths, .inl th_thousandths))]
set_option maxHeartbeats 4000000 in
set_option maxRecDepth 100000 in
theorem s_X7_isWhole {l : Launch} {E : (Nat → Prop) → State → Prop} (hEok : st_Eok E) {D : va_G} {tc : Nat → ClassId} (q_th : Nat) (q_th_thousandths : Nat) (n_th_thousandths : Nat) (th_thousandths : Nat → Int32) (K : Nat) (r0 : Int32) (h : f_X7_isWhole K n_th_thousandths th_thousandths = some r0) : st l yX7_isWhole wsX7_isWhole ({ frames := 2, cells := 0, slots := 0, locals := 44 }) E D tc [.ref q_th] (w_X7_isWhole tc q_th q_th_thousandths n_th_thousandths th_thousandths) (some (.int r0)) (w_X7_isWhole tc q_th q_th_thousandths n_th_thousandths th_thousandths) := by
  refine st_enter (cc := cX7_isWhole) (maxL := 1) (ret := (some .boolean)) (by decide) rfl (Nat.le_of_ble_eq_true rfl) ?_
  intro p e s m below meth c A ls hx hb hr hml hts hown hlocks hK hN hE hA hP hD hS hl
  have hl : lv_has ls 1 [(0, .ref q_th)] := hl
  generalize hav : ([.ref q_th] : List Value).toArray = av at hts ⊢
  unfold f_X7_isWhole at h
  refine lv_aload_n hx hb dX7_isWhole_0 rfl (lv_at hl 0 rfl) ?_
  refine lv_sipush (v := (255 : Int32)) hx hb dX7_isWhole_1 (by decide) ?_
  obtain ⟨z1_0, hc1, h⟩ := bd_ok h
  refine st_callV (As := [.int (255 : Int32)]) (rest := []) (pos := [0, 1]) ⟨hx, hb, hml, hown, hts⟩ (s_X7_chance (l := l) (D := D) (tc := tc) hEok q_th q_th_thousandths n_th_thousandths th_thousandths (255 : Int32) K z1_0 hc1) (cwV 1 hts gX7_isWhole_X7_chance rfl rfl rfl (by decide +kernel) ⟨Nat.le_of_ble_eq_true rfl, Nat.le_of_ble_eq_true rfl⟩) (st_recv (ci := 7) (q0 := 0) hK hP rfl rfl) hEok hE hK hN hP hD hS hA rfl rfl rfl rfl hl.1 rfl (Nat.le_of_ble_eq_true rfl) dX7_isWhole_4 ⟨Nat.zero_le _, Nat.zero_le _⟩ (fun H locs hP hD hS => ?_)
  have hP : va_P D vwCl (w_X7_isWhole tc q_th q_th_thousandths n_th_thousandths th_thousandths) H := hP
  have hD : va_D A (w_X7_isWhole tc q_th q_th_thousandths n_th_thousandths th_thousandths) := hD
  refine lv_sipush (v := (1000 : Int32)) hx hb dX7_isWhole_7 (by decide) ?_
  refine lv_icmp_ne (tgt := 17) hx hb dX7_isWhole_10 (by decide) (fun c2 => ?_) (fun c2 => ?_)
  · replace h := ifn c2 h
    refine lv_iconst (v := (0 : Int32)) hx hb dX7_isWhole_17 (by decide) ?_
    cases h
    exact st_zret hx hb hr hlocks hP hD hS rfl dX7_isWhole_18
  · replace h := ifp c2 h
    refine lv_iconst (v := (1 : Int32)) hx hb dX7_isWhole_13 (by decide) ?_
    refine lv_goto (tgt := 18) hx hb dX7_isWhole_14 (by decide) ?_
    cases h
    exact st_zret hx hb hr hlocks hP hD hS rfl dX7_isWhole_18
def f_X7_keeps (K : Nat) (n_th_thousandths : Nat) (th_thousandths : Nat → Int32) (a1_x : Int32) (a1_y : Int32) (a1_from : Int32) (a1_to : Int32) : Option (Int32) :=
  (f_X7_chance K n_th_thousandths th_thousandths (a1_x &&& a1_y)).bind fun z1_0 =>
  (f_X7_chance K n_th_thousandths th_thousandths a1_y).bind fun z2_0 =>
  (f_X4_isKeptBy a1_from a1_to z1_0.toInt64 z2_0.toInt64).bind fun z3_0 =>
  if ¬ (z3_0 = 0 ∨ z3_0 = 1) then none else
  some z3_0
abbrev w_X7_keeps (tc : Nat → ClassId) (q_th : Nat) (q_th_thousandths : Nat) (q_a1 : Nat) (n_th_thousandths : Nat) (th_thousandths : Nat → Int32) (a1_x : Int32) (a1_y : Int32) (a1_from : Int32) (a1_to : Int32) (a1_isOn : Int32) : va_W := [(q_th, .inr (7, [.ref q_th_thousandths])), (q_th_thousandths, .inl (tc 0, n_th_thousandths, .inl th_thousandths)), (q_a1, .inr (4, [.int a1_x, .int a1_y, .int a1_from, .int a1_to, .int a1_isOn]))]
set_option maxHeartbeats 4000000 in
set_option maxRecDepth 100000 in
theorem s_X7_keeps {l : Launch} {E : (Nat → Prop) → State → Prop} (hEok : st_Eok E) {D : va_G} {tc : Nat → ClassId} (q_th : Nat) (q_th_thousandths : Nat) (q_a1 : Nat) (n_th_thousandths : Nat) (th_thousandths : Nat → Int32) (a1_x : Int32) (a1_y : Int32) (a1_from : Int32) (a1_to : Int32) (a1_isOn : Int32) (K : Nat) (r0 : Int32) (h : f_X7_keeps K n_th_thousandths th_thousandths a1_x a1_y a1_from a1_to = some r0) : st l yX7_keeps wsX7_keeps ({ frames := 2, cells := 0, slots := 0, locals := 48 }) E D tc [.ref q_th, .ref q_a1] (w_X7_keeps tc q_th q_th_thousandths q_a1 n_th_thousandths th_thousandths a1_x a1_y a1_from a1_to a1_isOn) (some (.int r0)) (w_X7_keeps tc q_th q_th_thousandths q_a1 n_th_thousandths th_thousandths a1_x a1_y a1_from a1_to a1_isOn) := by
  refine st_enter (cc := cX7_keeps) (maxL := 2) (ret := (some .boolean)) (by decide) rfl (Nat.le_of_ble_eq_true rfl) ?_
  intro p e s m below meth c A ls hx hb hr hml hts hown hlocks hK hN hE hA hP hD hS hl
  have hl : lv_has ls 2 [(0, .ref q_th), (1, .ref q_a1)] := hl
  have hinX4 : ∀ w ∈ wsX40, w ∈ wsX7_keeps := by decide +kernel
  generalize hav : ([.ref q_th, .ref q_a1] : List Value).toArray = av at hts ⊢
  unfold f_X7_keeps at h
  refine lv_aload_n hx hb dX7_keeps_0 rfl (lv_at hl 1 rfl) ?_
  refine lv_aload_n hx hb dX7_keeps_1 rfl (lv_at hl 0 rfl) ?_
  refine lv_aload_n hx hb dX7_keeps_2 rfl (lv_at hl 1 rfl) ?_
  refine va_getN (D := D) (ci := 4) (v := .int a1_x) (C := RX4) (T := TX4) (N := 5) hx hb hts hinX4 hown hK hP 2 rfl rfl 0 (by decide) (va_Nw.use rfl (hN (.fieldLinkNest RX7 23 "ChanceBounds$Saying" "x" "I" "ChanceBounds") (by decide +kernel))) (fun _ h9 => h9) rfl dX7_keeps_3 ?_
  refine lv_aload_n hx hb dX7_keeps_6 rfl (lv_at hl 1 rfl) ?_
  refine va_getN (D := D) (ci := 4) (v := .int a1_y) (C := RX4) (T := TX4) (N := 5) hx hb hts hinX4 hown hK hP 2 rfl rfl 1 (by decide) (va_Nw.use rfl (hN (.fieldLinkNest RX7 29 "ChanceBounds$Saying" "y" "I" "ChanceBounds") (by decide +kernel))) (fun _ h9 => h9) rfl dX7_keeps_7 ?_
  refine lv_iand hx hb dX7_keeps_10 ?_
  obtain ⟨z1_0, hc1, h⟩ := bd_ok h
  refine st_callV (As := [.int (a1_x &&& a1_y)]) (rest := [.ref q_a1]) (pos := [0, 1]) ⟨hx, hb, hml, hown, hts⟩ (s_X7_chance (l := l) (D := D) (tc := tc) hEok q_th q_th_thousandths n_th_thousandths th_thousandths (a1_x &&& a1_y) K z1_0 hc1) (cwV 1 hts gX7_keeps_X7_chance rfl rfl rfl (by decide +kernel) ⟨Nat.le_of_ble_eq_true rfl, Nat.le_of_ble_eq_true rfl⟩) (st_recv (ci := 7) (q0 := 0) hK hP rfl rfl) hEok hE hK hN hP hD hS hA rfl rfl rfl rfl hl.1 rfl (Nat.le_of_ble_eq_true rfl) dX7_keeps_11 ⟨Nat.zero_le _, Nat.zero_le _⟩ (fun H locs hP hD hS => ?_)
  have hP : va_P D vwCl (w_X7_keeps tc q_th q_th_thousandths q_a1 n_th_thousandths th_thousandths a1_x a1_y a1_from a1_to a1_isOn) H := hP
  have hD : va_D A (w_X7_keeps tc q_th q_th_thousandths q_a1 n_th_thousandths th_thousandths a1_x a1_y a1_from a1_to a1_isOn) := hD
  refine lv_i2l (v := z1_0.toInt64) hx hb dX7_keeps_14 rfl ?_
  refine lv_aload_n hx hb dX7_keeps_15 rfl (lv_at hl 0 rfl) ?_
  refine lv_aload_n hx hb dX7_keeps_16 rfl (lv_at hl 1 rfl) ?_
  refine va_getN (D := D) (ci := 4) (v := .int a1_y) (C := RX4) (T := TX4) (N := 5) hx hb hts hinX4 hown hK hP 2 rfl rfl 1 (by decide) (va_Nw.use rfl (hN (.fieldLinkNest RX7 29 "ChanceBounds$Saying" "y" "I" "ChanceBounds") (by decide +kernel))) (fun _ h9 => h9) rfl dX7_keeps_17 ?_
  obtain ⟨z2_0, hc2, h⟩ := bd_ok h
  refine st_callV (As := [.int a1_y]) (rest := [.long z1_0.toInt64, .ref q_a1]) (pos := [0, 1]) ⟨hx, hb, hml, hown, hts⟩ (s_X7_chance (l := l) (D := D) (tc := tc) hEok q_th q_th_thousandths n_th_thousandths th_thousandths a1_y K z2_0 hc2) (cwV 1 hts gX7_keeps_X7_chance rfl rfl rfl (by decide +kernel) ⟨Nat.le_of_ble_eq_true rfl, Nat.le_of_ble_eq_true rfl⟩) (st_recv (ci := 7) (q0 := 0) hK hP rfl rfl) hEok hE hK hN hP hD hS hA rfl rfl rfl rfl hl.1 rfl (Nat.le_of_ble_eq_true rfl) dX7_keeps_20 ⟨Nat.zero_le _, Nat.zero_le _⟩ (fun H locs hP hD hS => ?_)
  have hP : va_P D vwCl (w_X7_keeps tc q_th q_th_thousandths q_a1 n_th_thousandths th_thousandths a1_x a1_y a1_from a1_to a1_isOn) H := hP
  have hD : va_D A (w_X7_keeps tc q_th q_th_thousandths q_a1 n_th_thousandths th_thousandths a1_x a1_y a1_from a1_to a1_isOn) := hD
  refine lv_i2l (v := z2_0.toInt64) hx hb dX7_keeps_23 rfl ?_
  obtain ⟨z3_0, hc3, h⟩ := bd_ok h
  refine st_callV (As := [.long z1_0.toInt64, .long z2_0.toInt64]) (rest := []) (pos := [2]) ⟨hx, hb, hml, hown, hts⟩ (s_X4_isKeptBy (l := l) (D := D) (tc := tc) hEok q_a1 a1_x a1_y a1_from a1_to a1_isOn z1_0.toInt64 z2_0.toInt64 z3_0 hc3) (cwV 2 hts gX7_keeps_X4_isKeptBy rfl rfl rfl (by decide +kernel) ⟨Nat.le_of_ble_eq_true rfl, Nat.le_of_ble_eq_true rfl⟩) (st_recv (ci := 4) (q0 := 2) hK hP rfl rfl) hEok hE hK hN hP hD hS hA rfl rfl rfl rfl hl.1 rfl (Nat.le_of_ble_eq_true rfl) dX7_keeps_24 ⟨Nat.zero_le _, Nat.zero_le _⟩ (fun H locs hP hD hS => ?_)
  have hP : va_P D vwCl (w_X7_keeps tc q_th q_th_thousandths q_a1 n_th_thousandths th_thousandths a1_x a1_y a1_from a1_to a1_isOn) H := hP
  have hD : va_D A (w_X7_keeps tc q_th q_th_thousandths q_a1 n_th_thousandths th_thousandths a1_x a1_y a1_from a1_to a1_isOn) := hD
  obtain ⟨g4, h⟩ := gd_ok h
  cases h
  exact st_zret hx hb hr hlocks hP hD hS (st_nb g4) dX7_keeps_27

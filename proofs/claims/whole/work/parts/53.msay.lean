def f_X9_saying (n_th_saying : Nat) (th_many : Int32) (th_saying : Nat → Int32) (x1 : Int32) (x2 : Int32) : Option (Int32 × Int32) :=
  (f_X9_isSaying th_many x1).bind fun z1_0 =>
  if z1_0 = (0 : Int32) then
    some ((-1 : Int32), (0 : Int32))
  else
    (f_X9_in x2 (0 : Int32) (4 : Int32)).bind fun z3_0 =>
    if z3_0 = (0 : Int32) then
      some ((-1 : Int32), (0 : Int32))
    else
      if (((5 : Int32) * x1) + x2) < 0 ∨ n_th_saying ≤ (((5 : Int32) * x1) + x2).toNatClampNeg then none else
      some (th_saying (((5 : Int32) * x1) + x2).toNatClampNeg, (0 : Int32))
abbrev w_X9_saying (tc : Nat → ClassId) (q_th : Nat) (q_th_text : Nat) (q_th_saying : Nat) (q_th_signs : Nat) (q_th_sets : Nat) (q_th_told : Nat) (q_th_up : Nat) (q_th_down : Nat) (q_th_world : Nat) (q_th_tight : Nat) (q_th_sum : Nat) (q_th_now : Nat) (n_th_saying : Nat) (th_thrown : Int32) (th_typed : Int32) (th_next : Int32) (th_token : Int32) (th_place : Int32) (th_value : Int32) (th_fault : Int32) (th_many : Int32) (th_signMany : Int32) (th_setMany : Int32) (th_corners : Int32) (th_isLoaded : Int32) (th_loaded : Int32) (th_widened : Int32) (th_wide : Int32) (th_boundUp : Int64) (th_boundDown : Int64) (th_saying : Nat → Int32) : va_W := [(q_th, .inr (9, [.int th_thrown, .ref q_th_text, .int th_typed, .int th_next, .int th_token, .int th_place, .int th_value, .int th_fault, .int th_many, .ref q_th_saying, .ref q_th_signs, .ref q_th_sets, .int th_signMany, .int th_setMany, .ref q_th_told, .int th_corners, .int th_isLoaded, .int th_loaded, .ref q_th_up, .ref q_th_down, .ref q_th_world, .ref q_th_tight, .ref q_th_sum, .ref q_th_now, .int th_widened, .int th_wide, .long th_boundUp, .long th_boundDown])), (q_th_saying, .inl (tc 0, n_th_saying, .inl th_saying))]
set_option maxHeartbeats 4000000 in
set_option maxRecDepth 100000 in
theorem s_X9_saying {l : Launch} {E : (Nat → Prop) → State → Prop} (hEok : st_Eok E) {D : va_G} {tc : Nat → ClassId} (q_th : Nat) (q_th_text : Nat) (q_th_saying : Nat) (q_th_signs : Nat) (q_th_sets : Nat) (q_th_told : Nat) (q_th_up : Nat) (q_th_down : Nat) (q_th_world : Nat) (q_th_tight : Nat) (q_th_sum : Nat) (q_th_now : Nat) (n_th_saying : Nat) (th_thrown : Int32) (th_typed : Int32) (th_next : Int32) (th_token : Int32) (th_place : Int32) (th_value : Int32) (th_fault : Int32) (th_many : Int32) (th_signMany : Int32) (th_setMany : Int32) (th_corners : Int32) (th_isLoaded : Int32) (th_loaded : Int32) (th_widened : Int32) (th_wide : Int32) (th_boundUp : Int64) (th_boundDown : Int64) (th_saying : Nat → Int32) (x1 : Int32) (x2 : Int32) (r0 : Int32) (th_thrown' : Int32) (h : f_X9_saying n_th_saying th_many th_saying x1 x2 = some (r0, th_thrown')) : st l yX9_saying wsX9_saying ({ frames := 2, cells := 0, slots := 0, locals := 43 }) E D tc [.ref q_th, .int x1, .int x2] (w_X9_saying tc q_th q_th_text q_th_saying q_th_signs q_th_sets q_th_told q_th_up q_th_down q_th_world q_th_tight q_th_sum q_th_now n_th_saying th_thrown th_typed th_next th_token th_place th_value th_fault th_many th_signMany th_setMany th_corners th_isLoaded th_loaded th_widened th_wide th_boundUp th_boundDown th_saying) (some (.int r0)) (w_X9_saying tc q_th q_th_text q_th_saying q_th_signs q_th_sets q_th_told q_th_up q_th_down q_th_world q_th_tight q_th_sum q_th_now n_th_saying th_thrown' th_typed th_next th_token th_place th_value th_fault th_many th_signMany th_setMany th_corners th_isLoaded th_loaded th_widened th_wide th_boundUp th_boundDown th_saying) := by
  refine st_enter (cc := cX9_saying) (maxL := 3) (ret := (some .int)) (by decide) rfl (Nat.le_of_ble_eq_true rfl) ?_
  intro p e s m below meth c A ls hx hb hr hml hts hown hlocks hK hN hE hA hP hD hS hl
  have hl : lv_has ls 3 [(0, .ref q_th), (1, .int x1), (2, .int x2)] := hl
  have hinX9 : ∀ w ∈ wsX90, w ∈ wsX9_saying := by decide +kernel
  generalize hav : ([.ref q_th, .int x1, .int x2] : List Value).toArray = av at hts ⊢
  unfold f_X9_saying at h
  refine lv_aload_n hx hb dX9_saying_0 rfl (lv_at hl 0 rfl) ?_
  refine lv_iconst (v := (0 : Int32)) hx hb dX9_saying_1 (by decide) ?_
  refine va_put (D := D) (ci := 9) (v := .int (0 : Int32)) (ty := .int) (C := RX9) (T := TX9) (N := 28) hx hb hts hinX9 tyX9 tyX9_ok nmX9 hown hK hP hD hS 0 rfl rfl 0 (by decide) (hts (.fieldLink RX9 45 "ChanceBoundsModel" "thrown" "I") (by decide +kernel)) (fun _ h9 => h9) rfl (by decide +kernel) rfl rfl (Nat.le_of_ble_eq_true rfl) dX9_saying_2 (fun H locs hP hD hS => ?_)
  have hP : va_P D vwCl (w_X9_saying tc q_th q_th_text q_th_saying q_th_signs q_th_sets q_th_told q_th_up q_th_down q_th_world q_th_tight q_th_sum q_th_now n_th_saying (0 : Int32) th_typed th_next th_token th_place th_value th_fault th_many th_signMany th_setMany th_corners th_isLoaded th_loaded th_widened th_wide th_boundUp th_boundDown th_saying) H := hP
  have hD : va_D A (w_X9_saying tc q_th q_th_text q_th_saying q_th_signs q_th_sets q_th_told q_th_up q_th_down q_th_world q_th_tight q_th_sum q_th_now n_th_saying (0 : Int32) th_typed th_next th_token th_place th_value th_fault th_many th_signMany th_setMany th_corners th_isLoaded th_loaded th_widened th_wide th_boundUp th_boundDown th_saying) := hD
  refine lv_aload_n hx hb dX9_saying_5 rfl (lv_at hl 0 rfl) ?_
  refine lv_iload_n hx hb dX9_saying_6 rfl (lv_at hl 1 rfl) ?_
  obtain ⟨z1_0, hc1, h⟩ := bd_ok h
  refine st_callV (As := [.int x1]) (rest := []) (pos := [0]) ⟨hx, hb, hml, hown, hts⟩ (s_X9_isSaying (l := l) (D := D) (tc := tc) hEok q_th q_th_text q_th_saying q_th_signs q_th_sets q_th_told q_th_up q_th_down q_th_world q_th_tight q_th_sum q_th_now (0 : Int32) th_typed th_next th_token th_place th_value th_fault th_many th_signMany th_setMany th_corners th_isLoaded th_loaded th_widened th_wide th_boundUp th_boundDown x1 z1_0 hc1) (cwV 1 hts gX9_saying_X9_isSaying rfl rfl rfl (by decide +kernel) ⟨Nat.le_of_ble_eq_true rfl, Nat.le_of_ble_eq_true rfl⟩) (st_recv (ci := 9) (q0 := 0) hK hP rfl rfl) hEok hE hK hN hP hD hS hA rfl rfl rfl rfl hl.1 rfl (Nat.le_of_ble_eq_true rfl) dX9_saying_7 ⟨Nat.zero_le _, Nat.zero_le _⟩ (fun H locs hP hD hS => ?_)
  have hP : va_P D vwCl (w_X9_saying tc q_th q_th_text q_th_saying q_th_signs q_th_sets q_th_told q_th_up q_th_down q_th_world q_th_tight q_th_sum q_th_now n_th_saying (0 : Int32) th_typed th_next th_token th_place th_value th_fault th_many th_signMany th_setMany th_corners th_isLoaded th_loaded th_widened th_wide th_boundUp th_boundDown th_saying) H := hP
  have hD : va_D A (w_X9_saying tc q_th q_th_text q_th_saying q_th_signs q_th_sets q_th_told q_th_up q_th_down q_th_world q_th_tight q_th_sum q_th_now n_th_saying (0 : Int32) th_typed th_next th_token th_place th_value th_fault th_many th_signMany th_setMany th_corners th_isLoaded th_loaded th_widened th_wide th_boundUp th_boundDown th_saying) := hD
  refine lv_if_eq (tgt := 35) hx hb dX9_saying_10 (by decide) (fun c2 => ?_) (fun c2 => ?_)
  · replace h := ifp c2 h
    refine lv_iconst (v := (-1 : Int32)) hx hb dX9_saying_35 (by decide) ?_
    cases h
    exact st_iret hx hb hr hlocks hP hD hS dX9_saying_36
  · replace h := ifn c2 h
    refine lv_iload_n hx hb dX9_saying_13 rfl (lv_at hl 2 rfl) ?_
    refine lv_iconst (v := (0 : Int32)) hx hb dX9_saying_14 (by decide) ?_
    refine lv_iconst (v := (4 : Int32)) hx hb dX9_saying_15 (by decide) ?_
    obtain ⟨z3_0, hc3, h⟩ := bd_ok h
    refine st_callS (As := [.int x2, .int (0 : Int32), .int (4 : Int32)]) (rest := []) (pos := []) ⟨hx, hb, hml, hown, hts⟩ (s_X9_in (l := l) (D := D) (tc := tc) hEok x2 (0 : Int32) (4 : Int32) z3_0 hc3) (va_cwS 3 hts gX9_saying_X9_in rfl rfl rfl (by decide +kernel) ⟨Nat.le_of_ble_eq_true rfl, Nat.le_of_ble_eq_true rfl⟩) hEok hE hK hN hP hD hS hA rfl rfl rfl rfl hl.1 rfl (Nat.le_of_ble_eq_true rfl) dX9_saying_16 ⟨Nat.zero_le _, Nat.zero_le _⟩ (fun H locs hP hD hS => ?_)
    have hP : va_P D vwCl (w_X9_saying tc q_th q_th_text q_th_saying q_th_signs q_th_sets q_th_told q_th_up q_th_down q_th_world q_th_tight q_th_sum q_th_now n_th_saying (0 : Int32) th_typed th_next th_token th_place th_value th_fault th_many th_signMany th_setMany th_corners th_isLoaded th_loaded th_widened th_wide th_boundUp th_boundDown th_saying) H := hP
    have hD : va_D A (w_X9_saying tc q_th q_th_text q_th_saying q_th_signs q_th_sets q_th_told q_th_up q_th_down q_th_world q_th_tight q_th_sum q_th_now n_th_saying (0 : Int32) th_typed th_next th_token th_place th_value th_fault th_many th_signMany th_setMany th_corners th_isLoaded th_loaded th_widened th_wide th_boundUp th_boundDown th_saying) := hD
    refine lv_if_eq (tgt := 35) hx hb dX9_saying_19 (by decide) (fun c4 => ?_) (fun c4 => ?_)
    · replace h := ifp c4 h
      refine lv_iconst (v := (-1 : Int32)) hx hb dX9_saying_35 (by decide) ?_
      cases h
      exact st_iret hx hb hr hlocks hP hD hS dX9_saying_36
    · replace h := ifn c4 h
      refine lv_aload_n hx hb dX9_saying_22 rfl (lv_at hl 0 rfl) ?_
      refine va_get (D := D) (ci := 9) (v := .ref q_th_saying) (C := RX9) (T := TX9) (N := 28) hx hb hts hinX9 hown hK hP 0 rfl rfl 9 (by decide) (hts (.fieldLink RX9 13 "ChanceBoundsModel" "saying" "[I") (by decide +kernel)) (fun _ h9 => h9) rfl dX9_saying_23 ?_
      refine lv_iconst (v := (5 : Int32)) hx hb dX9_saying_26 (by decide) ?_
      refine lv_iload_n hx hb dX9_saying_27 rfl (lv_at hl 1 rfl) ?_
      refine lv_imul hx hb dX9_saying_28 ?_
      refine lv_iload_n hx hb dX9_saying_29 rfl (lv_at hl 2 rfl) ?_
      refine lv_iadd hx hb dX9_saying_30 ?_
      obtain ⟨g5, h⟩ := gd_ok h
      refine va_iald hx hb hK hP 1 0 rfl rfl g5 dX9_saying_31 ?_
      refine lv_goto (tgt := 36) hx hb dX9_saying_32 (by decide) ?_
      cases h
      exact st_iret hx hb hr hlocks hP hD hS dX9_saying_36
def f_X9_on (n_th_saying : Nat) (th_many : Int32) (th_saying : Nat → Int32) (x1 : Int32) (x2 : Int32) : Option (Int32 × Int32 × (Nat → Int32)) :=
  (f_X9_isSaying th_many x1).bind fun z1_0 =>
  if z1_0 = (0 : Int32) then
    some ((-1 : Int32), (0 : Int32), th_saying)
  else
    (f_X9_isBit x2).bind fun z3_0 =>
    if z3_0 = (0 : Int32) then
      some ((-1 : Int32), (0 : Int32), th_saying)
    else
      if (((5 : Int32) * x1) + (4 : Int32)) < 0 ∨ n_th_saying ≤ (((5 : Int32) * x1) + (4 : Int32)).toNatClampNeg then none else
      if (((5 : Int32) * x1) + (4 : Int32)) < 0 ∨ n_th_saying ≤ (((5 : Int32) * x1) + (4 : Int32)).toNatClampNeg then none else
      some (th_saying (((5 : Int32) * x1) + (4 : Int32)).toNatClampNeg, (0 : Int32), upd th_saying (((5 : Int32) * x1) + (4 : Int32)).toNatClampNeg x2)
abbrev w_X9_on (tc : Nat → ClassId) (q_th : Nat) (q_th_text : Nat) (q_th_saying : Nat) (q_th_signs : Nat) (q_th_sets : Nat) (q_th_told : Nat) (q_th_up : Nat) (q_th_down : Nat) (q_th_world : Nat) (q_th_tight : Nat) (q_th_sum : Nat) (q_th_now : Nat) (n_th_saying : Nat) (th_thrown : Int32) (th_typed : Int32) (th_next : Int32) (th_token : Int32) (th_place : Int32) (th_value : Int32) (th_fault : Int32) (th_many : Int32) (th_signMany : Int32) (th_setMany : Int32) (th_corners : Int32) (th_isLoaded : Int32) (th_loaded : Int32) (th_widened : Int32) (th_wide : Int32) (th_boundUp : Int64) (th_boundDown : Int64) (th_saying : Nat → Int32) : va_W := [(q_th, .inr (9, [.int th_thrown, .ref q_th_text, .int th_typed, .int th_next, .int th_token, .int th_place, .int th_value, .int th_fault, .int th_many, .ref q_th_saying, .ref q_th_signs, .ref q_th_sets, .int th_signMany, .int th_setMany, .ref q_th_told, .int th_corners, .int th_isLoaded, .int th_loaded, .ref q_th_up, .ref q_th_down, .ref q_th_world, .ref q_th_tight, .ref q_th_sum, .ref q_th_now, .int th_widened, .int th_wide, .long th_boundUp, .long th_boundDown])), (q_th_saying, .inl (tc 0, n_th_saying, .inl th_saying))]
set_option maxHeartbeats 4000000 in
set_option maxRecDepth 100000 in
theorem s_X9_on {l : Launch} {E : (Nat → Prop) → State → Prop} (hEok : st_Eok E) {D : va_G} {tc : Nat → ClassId} (q_th : Nat) (q_th_text : Nat) (q_th_saying : Nat) (q_th_signs : Nat) (q_th_sets : Nat) (q_th_told : Nat) (q_th_up : Nat) (q_th_down : Nat) (q_th_world : Nat) (q_th_tight : Nat) (q_th_sum : Nat) (q_th_now : Nat) (n_th_saying : Nat) (th_thrown : Int32) (th_typed : Int32) (th_next : Int32) (th_token : Int32) (th_place : Int32) (th_value : Int32) (th_fault : Int32) (th_many : Int32) (th_signMany : Int32) (th_setMany : Int32) (th_corners : Int32) (th_isLoaded : Int32) (th_loaded : Int32) (th_widened : Int32) (th_wide : Int32) (th_boundUp : Int64) (th_boundDown : Int64) (th_saying : Nat → Int32) (x1 : Int32) (x2 : Int32) (r0 : Int32) (th_thrown' : Int32) (th_saying' : Nat → Int32) (h : f_X9_on n_th_saying th_many th_saying x1 x2 = some (r0, th_thrown', th_saying')) : st l yX9_on wsX9_on ({ frames := 2, cells := 0, slots := 0, locals := 43 }) E D tc [.ref q_th, .int x1, .int x2] (w_X9_on tc q_th q_th_text q_th_saying q_th_signs q_th_sets q_th_told q_th_up q_th_down q_th_world q_th_tight q_th_sum q_th_now n_th_saying th_thrown th_typed th_next th_token th_place th_value th_fault th_many th_signMany th_setMany th_corners th_isLoaded th_loaded th_widened th_wide th_boundUp th_boundDown th_saying) (some (.int r0)) (w_X9_on tc q_th q_th_text q_th_saying q_th_signs q_th_sets q_th_told q_th_up q_th_down q_th_world q_th_tight q_th_sum q_th_now n_th_saying th_thrown' th_typed th_next th_token th_place th_value th_fault th_many th_signMany th_setMany th_corners th_isLoaded th_loaded th_widened th_wide th_boundUp th_boundDown th_saying') := by
  refine st_enter (cc := cX9_on) (maxL := 4) (ret := (some .int)) (by decide) rfl (Nat.le_of_ble_eq_true rfl) ?_
  intro p e s m below meth c A ls hx hb hr hml hts hown hlocks hK hN hE hA hP hD hS hl
  have hl : lv_has ls 4 [(0, .ref q_th), (1, .int x1), (2, .int x2)] := hl
  have hinX9 : ∀ w ∈ wsX90, w ∈ wsX9_on := by decide +kernel
  generalize hav : ([.ref q_th, .int x1, .int x2] : List Value).toArray = av at hts ⊢
  unfold f_X9_on at h
  refine lv_aload_n hx hb dX9_on_0 rfl (lv_at hl 0 rfl) ?_
  refine lv_iconst (v := (0 : Int32)) hx hb dX9_on_1 (by decide) ?_
  refine va_put (D := D) (ci := 9) (v := .int (0 : Int32)) (ty := .int) (C := RX9) (T := TX9) (N := 28) hx hb hts hinX9 tyX9 tyX9_ok nmX9 hown hK hP hD hS 0 rfl rfl 0 (by decide) (hts (.fieldLink RX9 45 "ChanceBoundsModel" "thrown" "I") (by decide +kernel)) (fun _ h9 => h9) rfl (by decide +kernel) rfl rfl (Nat.le_of_ble_eq_true rfl) dX9_on_2 (fun H locs hP hD hS => ?_)
  have hP : va_P D vwCl (w_X9_on tc q_th q_th_text q_th_saying q_th_signs q_th_sets q_th_told q_th_up q_th_down q_th_world q_th_tight q_th_sum q_th_now n_th_saying (0 : Int32) th_typed th_next th_token th_place th_value th_fault th_many th_signMany th_setMany th_corners th_isLoaded th_loaded th_widened th_wide th_boundUp th_boundDown th_saying) H := hP
  have hD : va_D A (w_X9_on tc q_th q_th_text q_th_saying q_th_signs q_th_sets q_th_told q_th_up q_th_down q_th_world q_th_tight q_th_sum q_th_now n_th_saying (0 : Int32) th_typed th_next th_token th_place th_value th_fault th_many th_signMany th_setMany th_corners th_isLoaded th_loaded th_widened th_wide th_boundUp th_boundDown th_saying) := hD
  refine lv_aload_n hx hb dX9_on_5 rfl (lv_at hl 0 rfl) ?_
  refine lv_iload_n hx hb dX9_on_6 rfl (lv_at hl 1 rfl) ?_
  obtain ⟨z1_0, hc1, h⟩ := bd_ok h
  refine st_callV (As := [.int x1]) (rest := []) (pos := [0]) ⟨hx, hb, hml, hown, hts⟩ (s_X9_isSaying (l := l) (D := D) (tc := tc) hEok q_th q_th_text q_th_saying q_th_signs q_th_sets q_th_told q_th_up q_th_down q_th_world q_th_tight q_th_sum q_th_now (0 : Int32) th_typed th_next th_token th_place th_value th_fault th_many th_signMany th_setMany th_corners th_isLoaded th_loaded th_widened th_wide th_boundUp th_boundDown x1 z1_0 hc1) (cwV 1 hts gX9_on_X9_isSaying rfl rfl rfl (by decide +kernel) ⟨Nat.le_of_ble_eq_true rfl, Nat.le_of_ble_eq_true rfl⟩) (st_recv (ci := 9) (q0 := 0) hK hP rfl rfl) hEok hE hK hN hP hD hS hA rfl rfl rfl rfl hl.1 rfl (Nat.le_of_ble_eq_true rfl) dX9_on_7 ⟨Nat.zero_le _, Nat.zero_le _⟩ (fun H locs hP hD hS => ?_)
  have hP : va_P D vwCl (w_X9_on tc q_th q_th_text q_th_saying q_th_signs q_th_sets q_th_told q_th_up q_th_down q_th_world q_th_tight q_th_sum q_th_now n_th_saying (0 : Int32) th_typed th_next th_token th_place th_value th_fault th_many th_signMany th_setMany th_corners th_isLoaded th_loaded th_widened th_wide th_boundUp th_boundDown th_saying) H := hP
  have hD : va_D A (w_X9_on tc q_th q_th_text q_th_saying q_th_signs q_th_sets q_th_told q_th_up q_th_down q_th_world q_th_tight q_th_sum q_th_now n_th_saying (0 : Int32) th_typed th_next th_token th_place th_value th_fault th_many th_signMany th_setMany th_corners th_isLoaded th_loaded th_widened th_wide th_boundUp th_boundDown th_saying) := hD
  refine lv_if_eq (tgt := 20) hx hb dX9_on_10 (by decide) (fun c2 => ?_) (fun c2 => ?_)
  · replace h := ifp c2 h
    refine lv_iconst (v := (-1 : Int32)) hx hb dX9_on_20 (by decide) ?_
    cases h
    exact st_iret hx hb hr hlocks hP hD hS dX9_on_21
  · replace h := ifn c2 h
    refine lv_iload_n hx hb dX9_on_13 rfl (lv_at hl 2 rfl) ?_
    obtain ⟨z3_0, hc3, h⟩ := bd_ok h
    refine st_callS (As := [.int x2]) (rest := []) (pos := []) ⟨hx, hb, hml, hown, hts⟩ (s_X9_isBit (l := l) (D := D) (tc := tc) hEok x2 z3_0 hc3) (va_cwS 1 hts gX9_on_X9_isBit rfl rfl rfl (by decide +kernel) ⟨Nat.le_of_ble_eq_true rfl, Nat.le_of_ble_eq_true rfl⟩) hEok hE hK hN hP hD hS hA rfl rfl rfl rfl hl.1 rfl (Nat.le_of_ble_eq_true rfl) dX9_on_14 ⟨Nat.zero_le _, Nat.zero_le _⟩ (fun H locs hP hD hS => ?_)
    have hP : va_P D vwCl (w_X9_on tc q_th q_th_text q_th_saying q_th_signs q_th_sets q_th_told q_th_up q_th_down q_th_world q_th_tight q_th_sum q_th_now n_th_saying (0 : Int32) th_typed th_next th_token th_place th_value th_fault th_many th_signMany th_setMany th_corners th_isLoaded th_loaded th_widened th_wide th_boundUp th_boundDown th_saying) H := hP
    have hD : va_D A (w_X9_on tc q_th q_th_text q_th_saying q_th_signs q_th_sets q_th_told q_th_up q_th_down q_th_world q_th_tight q_th_sum q_th_now n_th_saying (0 : Int32) th_typed th_next th_token th_place th_value th_fault th_many th_signMany th_setMany th_corners th_isLoaded th_loaded th_widened th_wide th_boundUp th_boundDown th_saying) := hD
    refine lv_if_ne (tgt := 22) hx hb dX9_on_17 (by decide) (fun c4 => ?_) (fun c4 => ?_)
    · replace h := ifn c4 h
      refine lv_aload_n hx hb dX9_on_22 rfl (lv_at hl 0 rfl) ?_
      refine va_get (D := D) (ci := 9) (v := .ref q_th_saying) (C := RX9) (T := TX9) (N := 28) hx hb hts hinX9 hown hK hP 0 rfl rfl 9 (by decide) (hts (.fieldLink RX9 13 "ChanceBoundsModel" "saying" "[I") (by decide +kernel)) (fun _ h9 => h9) rfl dX9_on_23 ?_
      refine lv_iconst (v := (5 : Int32)) hx hb dX9_on_26 (by decide) ?_
      refine lv_iload_n hx hb dX9_on_27 rfl (lv_at hl 1 rfl) ?_
      refine lv_imul hx hb dX9_on_28 ?_
      refine lv_iconst (v := (4 : Int32)) hx hb dX9_on_29 (by decide) ?_
      refine lv_iadd hx hb dX9_on_30 ?_
      obtain ⟨g5, h⟩ := gd_ok h
      refine va_iald hx hb hK hP 1 0 rfl rfl g5 dX9_on_31 ?_
      refine lv_istore_n (lv' := [(3, .int (th_saying (((5 : Int32) * x1) + (4 : Int32)).toNatClampNeg)), (0, .ref q_th), (1, .int x1), (2, .int x2)]) hx hb dX9_on_32 rfl hl (by decide) rfl (fun ls hl => ?_)
      refine lv_aload_n hx hb dX9_on_33 rfl (lv_at hl 1 rfl) ?_
      refine va_get (D := D) (ci := 9) (v := .ref q_th_saying) (C := RX9) (T := TX9) (N := 28) hx hb hts hinX9 hown hK hP 0 rfl rfl 9 (by decide) (hts (.fieldLink RX9 13 "ChanceBoundsModel" "saying" "[I") (by decide +kernel)) (fun _ h9 => h9) rfl dX9_on_34 ?_
      refine lv_iconst (v := (5 : Int32)) hx hb dX9_on_37 (by decide) ?_
      refine lv_iload_n hx hb dX9_on_38 rfl (lv_at hl 2 rfl) ?_
      refine lv_imul hx hb dX9_on_39 ?_
      refine lv_iconst (v := (4 : Int32)) hx hb dX9_on_40 (by decide) ?_
      refine lv_iadd hx hb dX9_on_41 ?_
      refine lv_iload_n hx hb dX9_on_42 rfl (lv_at hl 3 rfl) ?_
      obtain ⟨g6, h⟩ := gd_ok h
      refine va_iast hx hb hK hP hD hS 1 0 rfl rfl g6 dX9_on_43 (fun H locs hP hD hS => ?_)
      have hP : va_P D vwCl (w_X9_on tc q_th q_th_text q_th_saying q_th_signs q_th_sets q_th_told q_th_up q_th_down q_th_world q_th_tight q_th_sum q_th_now n_th_saying (0 : Int32) th_typed th_next th_token th_place th_value th_fault th_many th_signMany th_setMany th_corners th_isLoaded th_loaded th_widened th_wide th_boundUp th_boundDown (upd th_saying (((5 : Int32) * x1) + (4 : Int32)).toNatClampNeg x2)) H := hP
      have hD : va_D A (w_X9_on tc q_th q_th_text q_th_saying q_th_signs q_th_sets q_th_told q_th_up q_th_down q_th_world q_th_tight q_th_sum q_th_now n_th_saying (0 : Int32) th_typed th_next th_token th_place th_value th_fault th_many th_signMany th_setMany th_corners th_isLoaded th_loaded th_widened th_wide th_boundUp th_boundDown (upd th_saying (((5 : Int32) * x1) + (4 : Int32)).toNatClampNeg x2)) := hD
      refine lv_iload_n hx hb dX9_on_44 rfl (lv_at hl 0 rfl) ?_
      cases h
      exact st_iret hx hb hr hlocks hP hD hS dX9_on_45
    · replace h := ifp c4 h
      refine lv_iconst (v := (-1 : Int32)) hx hb dX9_on_20 (by decide) ?_
      cases h
      exact st_iret hx hb hr hlocks hP hD hS dX9_on_21
def f_X9_move_J76 (n_th_saying : Nat) (th_thrown : Int32) (th_saying : Nat → Int32) (x3 : Int32) (x4 : Int32) : Option (Int32 × Int32 × Int32 × (Nat → Int32)) :=
  if x4 < 0 ∨ n_th_saying ≤ x4.toNatClampNeg then none else
  if x4 < 0 ∨ n_th_saying ≤ x4.toNatClampNeg then none else
  some (th_saying x4.toNatClampNeg, th_thrown, (0 : Int32), upd th_saying x4.toNatClampNeg x3)
def f_X9_move (n_th_saying : Nat) (th_many : Int32) (th_isLoaded : Int32) (th_saying : Nat → Int32) (x1 : Int32) (x2 : Int32) (x3 : Int32) : Option (Int32 × Int32 × Int32 × (Nat → Int32)) :=
  (f_X9_isSaying th_many x1).bind fun z3_0 =>
  if z3_0 = (0 : Int32) then
    some ((-1 : Int32), (0 : Int32), th_isLoaded, th_saying)
  else
    (f_X9_isBit x2).bind fun z5_0 =>
    if z5_0 = (0 : Int32) then
      some ((-1 : Int32), (0 : Int32), th_isLoaded, th_saying)
    else
      (f_X9_in x3 (0 : Int32) (100 : Int32)).bind fun z7_0 =>
      if z7_0 = (0 : Int32) then
        some ((-1 : Int32), (0 : Int32), th_isLoaded, th_saying)
      else
        if x2 = (0 : Int32) then
          if (((((5 : Int32) * x1) + (2 : Int32)) + x2) + (1 : Int32)) < 0 ∨ n_th_saying ≤ (((((5 : Int32) * x1) + (2 : Int32)) + x2) + (1 : Int32)).toNatClampNeg then none else
          if x3 ≤ (th_saying (((((5 : Int32) * x1) + (2 : Int32)) + x2) + (1 : Int32)).toNatClampNeg) then
            f_X9_move_J76 n_th_saying (0 : Int32) th_saying x3 ((((5 : Int32) * x1) + (2 : Int32)) + x2)
          else
            some ((-1 : Int32), (0 : Int32), th_isLoaded, th_saying)
        else
          if (((((5 : Int32) * x1) + (2 : Int32)) + x2) - (1 : Int32)) < 0 ∨ n_th_saying ≤ (((((5 : Int32) * x1) + (2 : Int32)) + x2) - (1 : Int32)).toNatClampNeg then none else
          if (th_saying (((((5 : Int32) * x1) + (2 : Int32)) + x2) - (1 : Int32)).toNatClampNeg) ≤ x3 then
            f_X9_move_J76 n_th_saying (0 : Int32) th_saying x3 ((((5 : Int32) * x1) + (2 : Int32)) + x2)
          else
            some ((-1 : Int32), (0 : Int32), th_isLoaded, th_saying)
abbrev w_X9_move (tc : Nat → ClassId) (q_th : Nat) (q_th_text : Nat) (q_th_saying : Nat) (q_th_signs : Nat) (q_th_sets : Nat) (q_th_told : Nat) (q_th_up : Nat) (q_th_down : Nat) (q_th_world : Nat) (q_th_tight : Nat) (q_th_sum : Nat) (q_th_now : Nat) (n_th_saying : Nat) (th_thrown : Int32) (th_typed : Int32) (th_next : Int32) (th_token : Int32) (th_place : Int32) (th_value : Int32) (th_fault : Int32) (th_many : Int32) (th_signMany : Int32) (th_setMany : Int32) (th_corners : Int32) (th_isLoaded : Int32) (th_loaded : Int32) (th_widened : Int32) (th_wide : Int32) (th_boundUp : Int64) (th_boundDown : Int64) (th_saying : Nat → Int32) : va_W := [(q_th, .inr (9, [.int th_thrown, .ref q_th_text, .int th_typed, .int th_next, .int th_token, .int th_place, .int th_value, .int th_fault, .int th_many, .ref q_th_saying, .ref q_th_signs, .ref q_th_sets, .int th_signMany, .int th_setMany, .ref q_th_told, .int th_corners, .int th_isLoaded, .int th_loaded, .ref q_th_up, .ref q_th_down, .ref q_th_world, .ref q_th_tight, .ref q_th_sum, .ref q_th_now, .int th_widened, .int th_wide, .long th_boundUp, .long th_boundDown])), (q_th_saying, .inl (tc 0, n_th_saying, .inl th_saying))]
set_option maxHeartbeats 4000000 in
set_option maxRecDepth 100000 in
theorem s_X9_move {l : Launch} {E : (Nat → Prop) → State → Prop} (hEok : st_Eok E) {D : va_G} {tc : Nat → ClassId} (q_th : Nat) (q_th_text : Nat) (q_th_saying : Nat) (q_th_signs : Nat) (q_th_sets : Nat) (q_th_told : Nat) (q_th_up : Nat) (q_th_down : Nat) (q_th_world : Nat) (q_th_tight : Nat) (q_th_sum : Nat) (q_th_now : Nat) (n_th_saying : Nat) (th_thrown : Int32) (th_typed : Int32) (th_next : Int32) (th_token : Int32) (th_place : Int32) (th_value : Int32) (th_fault : Int32) (th_many : Int32) (th_signMany : Int32) (th_setMany : Int32) (th_corners : Int32) (th_isLoaded : Int32) (th_loaded : Int32) (th_widened : Int32) (th_wide : Int32) (th_boundUp : Int64) (th_boundDown : Int64) (th_saying : Nat → Int32) (x1 : Int32) (x2 : Int32) (x3 : Int32) (r0 : Int32) (th_thrown' : Int32) (th_isLoaded' : Int32) (th_saying' : Nat → Int32) (h : f_X9_move n_th_saying th_many th_isLoaded th_saying x1 x2 x3 = some (r0, th_thrown', th_isLoaded', th_saying')) : st l yX9_move wsX9_move ({ frames := 2, cells := 0, slots := 0, locals := 43 }) E D tc [.ref q_th, .int x1, .int x2, .int x3] (w_X9_move tc q_th q_th_text q_th_saying q_th_signs q_th_sets q_th_told q_th_up q_th_down q_th_world q_th_tight q_th_sum q_th_now n_th_saying th_thrown th_typed th_next th_token th_place th_value th_fault th_many th_signMany th_setMany th_corners th_isLoaded th_loaded th_widened th_wide th_boundUp th_boundDown th_saying) (some (.int r0)) (w_X9_move tc q_th q_th_text q_th_saying q_th_signs q_th_sets q_th_told q_th_up q_th_down q_th_world q_th_tight q_th_sum q_th_now n_th_saying th_thrown' th_typed th_next th_token th_place th_value th_fault th_many th_signMany th_setMany th_corners th_isLoaded' th_loaded th_widened th_wide th_boundUp th_boundDown th_saying') := by
  refine st_enter (cc := cX9_move) (maxL := 6) (ret := (some .int)) (by decide) rfl (Nat.le_of_ble_eq_true rfl) ?_
  intro p e s m below meth c A ls hx hb hr hml hts hown hlocks hK hN hE hA hP hD hS hl
  have hl : lv_has ls 6 [(0, .ref q_th), (1, .int x1), (2, .int x2), (3, .int x3)] := hl
  have hinX9 : ∀ w ∈ wsX90, w ∈ wsX9_move := by decide +kernel
  generalize hav : ([.ref q_th, .int x1, .int x2, .int x3] : List Value).toArray = av at hts ⊢
  have J76 : ∀ (x3 : Int32) (x4 : Int32) (th_thrown : Int32) (th_isLoaded : Int32) (th_saying : Nat → Int32) (H : Heap) (locs : List Loc) (ls : Array Slot), f_X9_move_J76 n_th_saying th_thrown th_saying x3 x4 = some (r0, th_thrown', th_isLoaded', th_saying') → va_P D vwCl (w_X9_move tc q_th q_th_text q_th_saying q_th_signs q_th_sets q_th_told q_th_up q_th_down q_th_world q_th_tight q_th_sum q_th_now n_th_saying th_thrown th_typed th_next th_token th_place th_value th_fault th_many th_signMany th_setMany th_corners th_isLoaded th_loaded th_widened th_wide th_boundUp th_boundDown th_saying) H → va_D A (w_X9_move tc q_th q_th_text q_th_saying q_th_signs q_th_sets q_th_told q_th_up q_th_down q_th_world q_th_tight q_th_sum q_th_now n_th_saying th_thrown th_typed th_next th_token th_place th_value th_fault th_many th_signMany th_setMany th_corners th_isLoaded th_loaded th_widened th_wide th_boundUp th_boundDown th_saying) → va_S A s.heap H locs → lv_has ls 6 [(0, .ref q_th), (3, .int x3), (4, .int x4)] → W p l e ({ frames := 2, cells := 0, slots := 0, locals := 43 } : Room) s m av below meth c H locs 0 0 (MQ below (st_Q D (w_X9_move tc q_th q_th_text q_th_saying q_th_signs q_th_sets q_th_told q_th_up q_th_down q_th_world q_th_tight q_th_sum q_th_now n_th_saying th_thrown' th_typed th_next th_token th_place th_value th_fault th_many th_signMany th_setMany th_corners th_isLoaded' th_loaded th_widened th_wide th_boundUp th_boundDown th_saying') (some (.int r0)) A) av s 0 0 A) (F0 m 76 ls []) := by
    intro x3 x4 th_thrown th_isLoaded th_saying H locs ls h hP hD hS hl
    unfold f_X9_move_J76 at h
    refine lv_aload_n hx hb dX9_move_76 rfl (lv_at hl 0 rfl) ?_
    refine va_get (D := D) (ci := 9) (v := .ref q_th_saying) (C := RX9) (T := TX9) (N := 28) hx hb hts hinX9 hown hK hP 0 rfl rfl 9 (by decide) (hts (.fieldLink RX9 13 "ChanceBoundsModel" "saying" "[I") (by decide +kernel)) (fun _ h9 => h9) rfl dX9_move_77 ?_
    refine lv_iload hx hb dX9_move_80 (lv_at hl 2 rfl) ?_
    obtain ⟨g1, h⟩ := gd_ok h
    refine va_iald hx hb hK hP 1 0 rfl rfl g1 dX9_move_82 ?_
    refine lv_istore (lv' := [(5, .int (th_saying x4.toNatClampNeg)), (0, .ref q_th), (3, .int x3), (4, .int x4)]) hx hb dX9_move_83 hl (by decide) rfl (fun ls hl => ?_)
    refine lv_aload_n hx hb dX9_move_85 rfl (lv_at hl 1 rfl) ?_
    refine va_get (D := D) (ci := 9) (v := .ref q_th_saying) (C := RX9) (T := TX9) (N := 28) hx hb hts hinX9 hown hK hP 0 rfl rfl 9 (by decide) (hts (.fieldLink RX9 13 "ChanceBoundsModel" "saying" "[I") (by decide +kernel)) (fun _ h9 => h9) rfl dX9_move_86 ?_
    refine lv_iload hx hb dX9_move_89 (lv_at hl 3 rfl) ?_
    refine lv_iload_n hx hb dX9_move_91 rfl (lv_at hl 2 rfl) ?_
    obtain ⟨g2, h⟩ := gd_ok h
    refine va_iast hx hb hK hP hD hS 1 0 rfl rfl g2 dX9_move_92 (fun H locs hP hD hS => ?_)
    have hP : va_P D vwCl (w_X9_move tc q_th q_th_text q_th_saying q_th_signs q_th_sets q_th_told q_th_up q_th_down q_th_world q_th_tight q_th_sum q_th_now n_th_saying th_thrown th_typed th_next th_token th_place th_value th_fault th_many th_signMany th_setMany th_corners th_isLoaded th_loaded th_widened th_wide th_boundUp th_boundDown (upd th_saying x4.toNatClampNeg x3)) H := hP
    have hD : va_D A (w_X9_move tc q_th q_th_text q_th_saying q_th_signs q_th_sets q_th_told q_th_up q_th_down q_th_world q_th_tight q_th_sum q_th_now n_th_saying th_thrown th_typed th_next th_token th_place th_value th_fault th_many th_signMany th_setMany th_corners th_isLoaded th_loaded th_widened th_wide th_boundUp th_boundDown (upd th_saying x4.toNatClampNeg x3)) := hD
    refine lv_aload_n hx hb dX9_move_93 rfl (lv_at hl 1 rfl) ?_
    refine lv_iconst (v := (0 : Int32)) hx hb dX9_move_94 (by decide) ?_
    refine va_put (D := D) (ci := 9) (v := .int (0 : Int32)) (ty := .boolean) (C := RX9) (T := TX9) (N := 28) hx hb hts hinX9 tyX9 tyX9_ok nmX9 hown hK hP hD hS 0 rfl rfl 16 (by decide) (hts (.fieldLink RX9 120 "ChanceBoundsModel" "isLoaded" "Z") (by decide +kernel)) (fun _ h9 => h9) rfl (by decide +kernel) rfl rfl (Nat.le_of_ble_eq_true rfl) dX9_move_95 (fun H locs hP hD hS => ?_)
    have hP : va_P D vwCl (w_X9_move tc q_th q_th_text q_th_saying q_th_signs q_th_sets q_th_told q_th_up q_th_down q_th_world q_th_tight q_th_sum q_th_now n_th_saying th_thrown th_typed th_next th_token th_place th_value th_fault th_many th_signMany th_setMany th_corners (0 : Int32) th_loaded th_widened th_wide th_boundUp th_boundDown (upd th_saying x4.toNatClampNeg x3)) H := hP
    have hD : va_D A (w_X9_move tc q_th q_th_text q_th_saying q_th_signs q_th_sets q_th_told q_th_up q_th_down q_th_world q_th_tight q_th_sum q_th_now n_th_saying th_thrown th_typed th_next th_token th_place th_value th_fault th_many th_signMany th_setMany th_corners (0 : Int32) th_loaded th_widened th_wide th_boundUp th_boundDown (upd th_saying x4.toNatClampNeg x3)) := hD
    refine lv_iload hx hb dX9_move_98 (lv_at hl 0 rfl) ?_
    cases h
    exact st_iret hx hb hr hlocks hP hD hS dX9_move_100
  unfold f_X9_move at h
  refine lv_aload_n hx hb dX9_move_0 rfl (lv_at hl 0 rfl) ?_
  refine lv_iconst (v := (0 : Int32)) hx hb dX9_move_1 (by decide) ?_
  refine va_put (D := D) (ci := 9) (v := .int (0 : Int32)) (ty := .int) (C := RX9) (T := TX9) (N := 28) hx hb hts hinX9 tyX9 tyX9_ok nmX9 hown hK hP hD hS 0 rfl rfl 0 (by decide) (hts (.fieldLink RX9 45 "ChanceBoundsModel" "thrown" "I") (by decide +kernel)) (fun _ h9 => h9) rfl (by decide +kernel) rfl rfl (Nat.le_of_ble_eq_true rfl) dX9_move_2 (fun H locs hP hD hS => ?_)
  have hP : va_P D vwCl (w_X9_move tc q_th q_th_text q_th_saying q_th_signs q_th_sets q_th_told q_th_up q_th_down q_th_world q_th_tight q_th_sum q_th_now n_th_saying (0 : Int32) th_typed th_next th_token th_place th_value th_fault th_many th_signMany th_setMany th_corners th_isLoaded th_loaded th_widened th_wide th_boundUp th_boundDown th_saying) H := hP
  have hD : va_D A (w_X9_move tc q_th q_th_text q_th_saying q_th_signs q_th_sets q_th_told q_th_up q_th_down q_th_world q_th_tight q_th_sum q_th_now n_th_saying (0 : Int32) th_typed th_next th_token th_place th_value th_fault th_many th_signMany th_setMany th_corners th_isLoaded th_loaded th_widened th_wide th_boundUp th_boundDown th_saying) := hD
  refine lv_aload_n hx hb dX9_move_5 rfl (lv_at hl 0 rfl) ?_
  refine lv_iload_n hx hb dX9_move_6 rfl (lv_at hl 1 rfl) ?_
  obtain ⟨z3_0, hc3, h⟩ := bd_ok h
  refine st_callV (As := [.int x1]) (rest := []) (pos := [0]) ⟨hx, hb, hml, hown, hts⟩ (s_X9_isSaying (l := l) (D := D) (tc := tc) hEok q_th q_th_text q_th_saying q_th_signs q_th_sets q_th_told q_th_up q_th_down q_th_world q_th_tight q_th_sum q_th_now (0 : Int32) th_typed th_next th_token th_place th_value th_fault th_many th_signMany th_setMany th_corners th_isLoaded th_loaded th_widened th_wide th_boundUp th_boundDown x1 z3_0 hc3) (cwV 1 hts gX9_move_X9_isSaying rfl rfl rfl (by decide +kernel) ⟨Nat.le_of_ble_eq_true rfl, Nat.le_of_ble_eq_true rfl⟩) (st_recv (ci := 9) (q0 := 0) hK hP rfl rfl) hEok hE hK hN hP hD hS hA rfl rfl rfl rfl hl.1 rfl (Nat.le_of_ble_eq_true rfl) dX9_move_7 ⟨Nat.zero_le _, Nat.zero_le _⟩ (fun H locs hP hD hS => ?_)
  have hP : va_P D vwCl (w_X9_move tc q_th q_th_text q_th_saying q_th_signs q_th_sets q_th_told q_th_up q_th_down q_th_world q_th_tight q_th_sum q_th_now n_th_saying (0 : Int32) th_typed th_next th_token th_place th_value th_fault th_many th_signMany th_setMany th_corners th_isLoaded th_loaded th_widened th_wide th_boundUp th_boundDown th_saying) H := hP
  have hD : va_D A (w_X9_move tc q_th q_th_text q_th_saying q_th_signs q_th_sets q_th_told q_th_up q_th_down q_th_world q_th_tight q_th_sum q_th_now n_th_saying (0 : Int32) th_typed th_next th_token th_place th_value th_fault th_many th_signMany th_setMany th_corners th_isLoaded th_loaded th_widened th_wide th_boundUp th_boundDown th_saying) := hD
  refine lv_if_eq (tgt := 30) hx hb dX9_move_10 (by decide) (fun c4 => ?_) (fun c4 => ?_)
  · replace h := ifp c4 h
    refine lv_iconst (v := (-1 : Int32)) hx hb dX9_move_30 (by decide) ?_
    cases h
    exact st_iret hx hb hr hlocks hP hD hS dX9_move_31
  · replace h := ifn c4 h
    refine lv_iload_n hx hb dX9_move_13 rfl (lv_at hl 2 rfl) ?_
    obtain ⟨z5_0, hc5, h⟩ := bd_ok h
    refine st_callS (As := [.int x2]) (rest := []) (pos := []) ⟨hx, hb, hml, hown, hts⟩ (s_X9_isBit (l := l) (D := D) (tc := tc) hEok x2 z5_0 hc5) (va_cwS 1 hts gX9_move_X9_isBit rfl rfl rfl (by decide +kernel) ⟨Nat.le_of_ble_eq_true rfl, Nat.le_of_ble_eq_true rfl⟩) hEok hE hK hN hP hD hS hA rfl rfl rfl rfl hl.1 rfl (Nat.le_of_ble_eq_true rfl) dX9_move_14 ⟨Nat.zero_le _, Nat.zero_le _⟩ (fun H locs hP hD hS => ?_)
    have hP : va_P D vwCl (w_X9_move tc q_th q_th_text q_th_saying q_th_signs q_th_sets q_th_told q_th_up q_th_down q_th_world q_th_tight q_th_sum q_th_now n_th_saying (0 : Int32) th_typed th_next th_token th_place th_value th_fault th_many th_signMany th_setMany th_corners th_isLoaded th_loaded th_widened th_wide th_boundUp th_boundDown th_saying) H := hP
    have hD : va_D A (w_X9_move tc q_th q_th_text q_th_saying q_th_signs q_th_sets q_th_told q_th_up q_th_down q_th_world q_th_tight q_th_sum q_th_now n_th_saying (0 : Int32) th_typed th_next th_token th_place th_value th_fault th_many th_signMany th_setMany th_corners th_isLoaded th_loaded th_widened th_wide th_boundUp th_boundDown th_saying) := hD
    refine lv_if_eq (tgt := 30) hx hb dX9_move_17 (by decide) (fun c6 => ?_) (fun c6 => ?_)
    · replace h := ifp c6 h
      refine lv_iconst (v := (-1 : Int32)) hx hb dX9_move_30 (by decide) ?_
      cases h
      exact st_iret hx hb hr hlocks hP hD hS dX9_move_31
    · replace h := ifn c6 h
      refine lv_iload_n hx hb dX9_move_20 rfl (lv_at hl 3 rfl) ?_
      refine lv_iconst (v := (0 : Int32)) hx hb dX9_move_21 (by decide) ?_
      refine lv_bipush (v := (100 : Int32)) hx hb dX9_move_22 (by decide) ?_
      obtain ⟨z7_0, hc7, h⟩ := bd_ok h
      refine st_callS (As := [.int x3, .int (0 : Int32), .int (100 : Int32)]) (rest := []) (pos := []) ⟨hx, hb, hml, hown, hts⟩ (s_X9_in (l := l) (D := D) (tc := tc) hEok x3 (0 : Int32) (100 : Int32) z7_0 hc7) (va_cwS 3 hts gX9_move_X9_in rfl rfl rfl (by decide +kernel) ⟨Nat.le_of_ble_eq_true rfl, Nat.le_of_ble_eq_true rfl⟩) hEok hE hK hN hP hD hS hA rfl rfl rfl rfl hl.1 rfl (Nat.le_of_ble_eq_true rfl) dX9_move_24 ⟨Nat.zero_le _, Nat.zero_le _⟩ (fun H locs hP hD hS => ?_)
      have hP : va_P D vwCl (w_X9_move tc q_th q_th_text q_th_saying q_th_signs q_th_sets q_th_told q_th_up q_th_down q_th_world q_th_tight q_th_sum q_th_now n_th_saying (0 : Int32) th_typed th_next th_token th_place th_value th_fault th_many th_signMany th_setMany th_corners th_isLoaded th_loaded th_widened th_wide th_boundUp th_boundDown th_saying) H := hP
      have hD : va_D A (w_X9_move tc q_th q_th_text q_th_saying q_th_signs q_th_sets q_th_told q_th_up q_th_down q_th_world q_th_tight q_th_sum q_th_now n_th_saying (0 : Int32) th_typed th_next th_token th_place th_value th_fault th_many th_signMany th_setMany th_corners th_isLoaded th_loaded th_widened th_wide th_boundUp th_boundDown th_saying) := hD
      refine lv_if_ne (tgt := 32) hx hb dX9_move_27 (by decide) (fun c8 => ?_) (fun c8 => ?_)
      · replace h := ifn c8 h
        refine lv_iconst (v := (5 : Int32)) hx hb dX9_move_32 (by decide) ?_
        refine lv_iload_n hx hb dX9_move_33 rfl (lv_at hl 1 rfl) ?_
        refine lv_imul hx hb dX9_move_34 ?_
        refine lv_iconst (v := (2 : Int32)) hx hb dX9_move_35 (by decide) ?_
        refine lv_iadd hx hb dX9_move_36 ?_
        refine lv_iload_n hx hb dX9_move_37 rfl (lv_at hl 2 rfl) ?_
        refine lv_iadd hx hb dX9_move_38 ?_
        refine lv_istore (lv' := [(4, .int ((((5 : Int32) * x1) + (2 : Int32)) + x2)), (0, .ref q_th), (1, .int x1), (2, .int x2), (3, .int x3)]) hx hb dX9_move_39 hl (by decide) rfl (fun ls hl => ?_)
        refine lv_iload_n hx hb dX9_move_41 rfl (lv_at hl 3 rfl) ?_
        refine lv_if_ne (tgt := 61) hx hb dX9_move_42 (by decide) (fun c9 => ?_) (fun c9 => ?_)
        · replace h := ifn c9 h
          refine lv_iload_n hx hb dX9_move_61 rfl (lv_at hl 4 rfl) ?_
          refine lv_aload_n hx hb dX9_move_62 rfl (lv_at hl 1 rfl) ?_
          refine va_get (D := D) (ci := 9) (v := .ref q_th_saying) (C := RX9) (T := TX9) (N := 28) hx hb hts hinX9 hown hK hP 0 rfl rfl 9 (by decide) (hts (.fieldLink RX9 13 "ChanceBoundsModel" "saying" "[I") (by decide +kernel)) (fun _ h9 => h9) rfl dX9_move_63 ?_
          refine lv_iload hx hb dX9_move_66 (lv_at hl 0 rfl) ?_
          refine lv_iconst (v := (1 : Int32)) hx hb dX9_move_68 (by decide) ?_
          refine lv_isub hx hb dX9_move_69 ?_
          obtain ⟨g10, h⟩ := gd_ok h
          refine va_iald hx hb hK hP 1 0 rfl rfl g10 dX9_move_70 ?_
          refine lv_icmp_ge (tgt := 76) hx hb dX9_move_71 (by decide) (fun c11 => ?_) (fun c11 => ?_)
          · replace h := ifp c11 h
            exact J76 x3 ((((5 : Int32) * x1) + (2 : Int32)) + x2) (0 : Int32) th_isLoaded th_saying _ _ _ h hP hD hS (lv_sub hl [1, 4, 0] rfl)
          · replace h := ifn c11 h
            refine lv_iconst (v := (-1 : Int32)) hx hb dX9_move_74 (by decide) ?_
            cases h
            exact st_iret hx hb hr hlocks hP hD hS dX9_move_75
        · replace h := ifp c9 h
          refine lv_iload_n hx hb dX9_move_45 rfl (lv_at hl 4 rfl) ?_
          refine lv_aload_n hx hb dX9_move_46 rfl (lv_at hl 1 rfl) ?_
          refine va_get (D := D) (ci := 9) (v := .ref q_th_saying) (C := RX9) (T := TX9) (N := 28) hx hb hts hinX9 hown hK hP 0 rfl rfl 9 (by decide) (hts (.fieldLink RX9 13 "ChanceBoundsModel" "saying" "[I") (by decide +kernel)) (fun _ h9 => h9) rfl dX9_move_47 ?_
          refine lv_iload hx hb dX9_move_50 (lv_at hl 0 rfl) ?_
          refine lv_iconst (v := (1 : Int32)) hx hb dX9_move_52 (by decide) ?_
          refine lv_iadd hx hb dX9_move_53 ?_
          obtain ⟨g12, h⟩ := gd_ok h
          refine va_iald hx hb hK hP 1 0 rfl rfl g12 dX9_move_54 ?_
          refine lv_icmp_le (tgt := 76) hx hb dX9_move_55 (by decide) (fun c13 => ?_) (fun c13 => ?_)
          · replace h := ifp c13 h
            exact J76 x3 ((((5 : Int32) * x1) + (2 : Int32)) + x2) (0 : Int32) th_isLoaded th_saying _ _ _ h hP hD hS (lv_sub hl [1, 4, 0] rfl)
          · replace h := ifn c13 h
            refine lv_goto (tgt := 74) hx hb dX9_move_58 (by decide) ?_
            refine lv_iconst (v := (-1 : Int32)) hx hb dX9_move_74 (by decide) ?_
            cases h
            exact st_iret hx hb hr hlocks hP hD hS dX9_move_75
      · replace h := ifp c8 h
        refine lv_iconst (v := (-1 : Int32)) hx hb dX9_move_30 (by decide) ?_
        cases h
        exact st_iret hx hb hr hlocks hP hD hS dX9_move_31
def f_X9_ons_L4 (n_th_saying : Nat) (th_many : Int32) (th_saying : Nat → Int32) (s4 : Int32 × Int32) : Option ((Int32) ⊕ (Int32 × Int32)) :=
  match s4 with
  | (x1, x2) =>
    if th_many ≤ x2 then
      some (.inl x1)
    else
      if (((5 : Int32) * x2) + (4 : Int32)) < 0 ∨ n_th_saying ≤ (((5 : Int32) * x2) + (4 : Int32)).toNatClampNeg then none else
      (some (x1 ||| ((th_saying (((5 : Int32) * x2) + (4 : Int32)).toNatClampNeg) <<< (x2 &&& 31)) : Int32)).bind fun z3 =>
      some (.inr (z3, x2 + 1))
def f_X9_ons (K : Nat) (n_th_saying : Nat) (th_many : Int32) (th_saying : Nat → Int32) : Option (Int32) :=
  (lp (f_X9_ons_L4 n_th_saying th_many th_saying) K ((0 : Int32), (0 : Int32))).bind fun z4_0 =>
  some z4_0
abbrev w_X9_ons (tc : Nat → ClassId) (q_th : Nat) (q_th_text : Nat) (q_th_saying : Nat) (q_th_signs : Nat) (q_th_sets : Nat) (q_th_told : Nat) (q_th_up : Nat) (q_th_down : Nat) (q_th_world : Nat) (q_th_tight : Nat) (q_th_sum : Nat) (q_th_now : Nat) (n_th_saying : Nat) (th_thrown : Int32) (th_typed : Int32) (th_next : Int32) (th_token : Int32) (th_place : Int32) (th_value : Int32) (th_fault : Int32) (th_many : Int32) (th_signMany : Int32) (th_setMany : Int32) (th_corners : Int32) (th_isLoaded : Int32) (th_loaded : Int32) (th_widened : Int32) (th_wide : Int32) (th_boundUp : Int64) (th_boundDown : Int64) (th_saying : Nat → Int32) : va_W := [(q_th, .inr (9, [.int th_thrown, .ref q_th_text, .int th_typed, .int th_next, .int th_token, .int th_place, .int th_value, .int th_fault, .int th_many, .ref q_th_saying, .ref q_th_signs, .ref q_th_sets, .int th_signMany, .int th_setMany, .ref q_th_told, .int th_corners, .int th_isLoaded, .int th_loaded, .ref q_th_up, .ref q_th_down, .ref q_th_world, .ref q_th_tight, .ref q_th_sum, .ref q_th_now, .int th_widened, .int th_wide, .long th_boundUp, .long th_boundDown])), (q_th_saying, .inl (tc 0, n_th_saying, .inl th_saying))]
set_option maxHeartbeats 4000000 in
set_option maxRecDepth 100000 in
theorem s_X9_ons {l : Launch} {E : (Nat → Prop) → State → Prop} (hEok : st_Eok E) {D : va_G} {tc : Nat → ClassId} (q_th : Nat) (q_th_text : Nat) (q_th_saying : Nat) (q_th_signs : Nat) (q_th_sets : Nat) (q_th_told : Nat) (q_th_up : Nat) (q_th_down : Nat) (q_th_world : Nat) (q_th_tight : Nat) (q_th_sum : Nat) (q_th_now : Nat) (n_th_saying : Nat) (th_thrown : Int32) (th_typed : Int32) (th_next : Int32) (th_token : Int32) (th_place : Int32) (th_value : Int32) (th_fault : Int32) (th_many : Int32) (th_signMany : Int32) (th_setMany : Int32) (th_corners : Int32) (th_isLoaded : Int32) (th_loaded : Int32) (th_widened : Int32) (th_wide : Int32) (th_boundUp : Int64) (th_boundDown : Int64) (th_saying : Nat → Int32) (K : Nat) (r0 : Int32) (h : f_X9_ons K n_th_saying th_many th_saying = some r0) : st l yX9_ons wsX9_ons ({ frames := 0, cells := 0, slots := 0, locals := 0 }) E D tc [.ref q_th] (w_X9_ons tc q_th q_th_text q_th_saying q_th_signs q_th_sets q_th_told q_th_up q_th_down q_th_world q_th_tight q_th_sum q_th_now n_th_saying th_thrown th_typed th_next th_token th_place th_value th_fault th_many th_signMany th_setMany th_corners th_isLoaded th_loaded th_widened th_wide th_boundUp th_boundDown th_saying) (some (.int r0)) (w_X9_ons tc q_th q_th_text q_th_saying q_th_signs q_th_sets q_th_told q_th_up q_th_down q_th_world q_th_tight q_th_sum q_th_now n_th_saying th_thrown th_typed th_next th_token th_place th_value th_fault th_many th_signMany th_setMany th_corners th_isLoaded th_loaded th_widened th_wide th_boundUp th_boundDown th_saying) := by
  refine st_enter (cc := cX9_ons) (maxL := 3) (ret := (some .int)) (by decide) rfl (Nat.le_of_ble_eq_true rfl) ?_
  intro p e s m below meth c A ls hx hb hr hml hts hown hlocks hK hN hE hA hP hD hS hl
  have hl : lv_has ls 3 [(0, .ref q_th)] := hl
  have hinX9 : ∀ w ∈ wsX90, w ∈ wsX9_ons := by decide +kernel
  generalize hav : ([.ref q_th] : List Value).toArray = av at hts ⊢
  have L4 : ∀ (_ : Unit), ∀ (k : Nat) (s4 : Int32 × Int32) (r : Int32), lp (f_X9_ons_L4 n_th_saying th_many th_saying) k s4 = some r → (fun x1 : Int32 => ∀ (H : Heap) (locs : List Loc) (ls : Array Slot), va_P D vwCl (w_X9_ons tc q_th q_th_text q_th_saying q_th_signs q_th_sets q_th_told q_th_up q_th_down q_th_world q_th_tight q_th_sum q_th_now n_th_saying th_thrown th_typed th_next th_token th_place th_value th_fault th_many th_signMany th_setMany th_corners th_isLoaded th_loaded th_widened th_wide th_boundUp th_boundDown th_saying) H → va_D A (w_X9_ons tc q_th q_th_text q_th_saying q_th_signs q_th_sets q_th_told q_th_up q_th_down q_th_world q_th_tight q_th_sum q_th_now n_th_saying th_thrown th_typed th_next th_token th_place th_value th_fault th_many th_signMany th_setMany th_corners th_isLoaded th_loaded th_widened th_wide th_boundUp th_boundDown th_saying) → va_S A s.heap H locs → lv_has ls 3 [(1, .int x1)] → W p l e ({ frames := 0, cells := 0, slots := 0, locals := 0 } : Room) s m av below meth c H locs 0 0 (MQ below (st_Q D (w_X9_ons tc q_th q_th_text q_th_saying q_th_signs q_th_sets q_th_told q_th_up q_th_down q_th_world q_th_tight q_th_sum q_th_now n_th_saying th_thrown th_typed th_next th_token th_place th_value th_fault th_many th_signMany th_setMany th_corners th_isLoaded th_loaded th_widened th_wide th_boundUp th_boundDown th_saying) (some (.int r0)) A) av s 0 0 A) (F0 m 33 ls [])) r → (fun s4 : Int32 × Int32 => match s4 with | (x1, x2) => ∀ (H : Heap) (locs : List Loc) (ls : Array Slot), va_P D vwCl (w_X9_ons tc q_th q_th_text q_th_saying q_th_signs q_th_sets q_th_told q_th_up q_th_down q_th_world q_th_tight q_th_sum q_th_now n_th_saying th_thrown th_typed th_next th_token th_place th_value th_fault th_many th_signMany th_setMany th_corners th_isLoaded th_loaded th_widened th_wide th_boundUp th_boundDown th_saying) H → va_D A (w_X9_ons tc q_th q_th_text q_th_saying q_th_signs q_th_sets q_th_told q_th_up q_th_down q_th_world q_th_tight q_th_sum q_th_now n_th_saying th_thrown th_typed th_next th_token th_place th_value th_fault th_many th_signMany th_setMany th_corners th_isLoaded th_loaded th_widened th_wide th_boundUp th_boundDown th_saying) → va_S A s.heap H locs → lv_has ls 3 [(0, .ref q_th), (1, .int x1), (2, .int x2)] → W p l e ({ frames := 0, cells := 0, slots := 0, locals := 0 } : Room) s m av below meth c H locs 0 0 (MQ below (st_Q D (w_X9_ons tc q_th q_th_text q_th_saying q_th_signs q_th_sets q_th_told q_th_up q_th_down q_th_world q_th_tight q_th_sum q_th_now n_th_saying th_thrown th_typed th_next th_token th_place th_value th_fault th_many th_signMany th_setMany th_corners th_isLoaded th_loaded th_widened th_wide th_boundUp th_boundDown th_saying) (some (.int r0)) A) av s 0 0 A) (F0 m 4 ls [])) s4 := by
    intro _
    refine lp_W (f_X9_ons_L4 n_th_saying th_many th_saying) (fun s4 : Int32 × Int32 => match s4 with | (x1, x2) => ∀ (H : Heap) (locs : List Loc) (ls : Array Slot), va_P D vwCl (w_X9_ons tc q_th q_th_text q_th_saying q_th_signs q_th_sets q_th_told q_th_up q_th_down q_th_world q_th_tight q_th_sum q_th_now n_th_saying th_thrown th_typed th_next th_token th_place th_value th_fault th_many th_signMany th_setMany th_corners th_isLoaded th_loaded th_widened th_wide th_boundUp th_boundDown th_saying) H → va_D A (w_X9_ons tc q_th q_th_text q_th_saying q_th_signs q_th_sets q_th_told q_th_up q_th_down q_th_world q_th_tight q_th_sum q_th_now n_th_saying th_thrown th_typed th_next th_token th_place th_value th_fault th_many th_signMany th_setMany th_corners th_isLoaded th_loaded th_widened th_wide th_boundUp th_boundDown th_saying) → va_S A s.heap H locs → lv_has ls 3 [(0, .ref q_th), (1, .int x1), (2, .int x2)] → W p l e ({ frames := 0, cells := 0, slots := 0, locals := 0 } : Room) s m av below meth c H locs 0 0 (MQ below (st_Q D (w_X9_ons tc q_th q_th_text q_th_saying q_th_signs q_th_sets q_th_told q_th_up q_th_down q_th_world q_th_tight q_th_sum q_th_now n_th_saying th_thrown th_typed th_next th_token th_place th_value th_fault th_many th_signMany th_setMany th_corners th_isLoaded th_loaded th_widened th_wide th_boundUp th_boundDown th_saying) (some (.int r0)) A) av s 0 0 A) (F0 m 4 ls [])) (fun x1 : Int32 => ∀ (H : Heap) (locs : List Loc) (ls : Array Slot), va_P D vwCl (w_X9_ons tc q_th q_th_text q_th_saying q_th_signs q_th_sets q_th_told q_th_up q_th_down q_th_world q_th_tight q_th_sum q_th_now n_th_saying th_thrown th_typed th_next th_token th_place th_value th_fault th_many th_signMany th_setMany th_corners th_isLoaded th_loaded th_widened th_wide th_boundUp th_boundDown th_saying) H → va_D A (w_X9_ons tc q_th q_th_text q_th_saying q_th_signs q_th_sets q_th_told q_th_up q_th_down q_th_world q_th_tight q_th_sum q_th_now n_th_saying th_thrown th_typed th_next th_token th_place th_value th_fault th_many th_signMany th_setMany th_corners th_isLoaded th_loaded th_widened th_wide th_boundUp th_boundDown th_saying) → va_S A s.heap H locs → lv_has ls 3 [(1, .int x1)] → W p l e ({ frames := 0, cells := 0, slots := 0, locals := 0 } : Room) s m av below meth c H locs 0 0 (MQ below (st_Q D (w_X9_ons tc q_th q_th_text q_th_saying q_th_signs q_th_sets q_th_told q_th_up q_th_down q_th_world q_th_tight q_th_sum q_th_now n_th_saying th_thrown th_typed th_next th_token th_place th_value th_fault th_many th_signMany th_setMany th_corners th_isLoaded th_loaded th_widened th_wide th_boundUp th_boundDown th_saying) (some (.int r0)) A) av s 0 0 A) (F0 m 33 ls [])) ?_
    rintro ⟨x1, x2⟩ o h ih hz H locs ls hP hD hS hl
    unfold f_X9_ons_L4 at h
    refine lv_iload_n hx hb dX9_ons_4 rfl (lv_at hl 2 rfl) ?_
    refine lv_aload_n hx hb dX9_ons_5 rfl (lv_at hl 0 rfl) ?_
    refine va_get (D := D) (ci := 9) (v := .int th_many) (C := RX9) (T := TX9) (N := 28) hx hb hts hinX9 hown hK hP 0 rfl rfl 8 (by decide) (hts (.fieldLink RX9 49 "ChanceBoundsModel" "many" "I") (by decide +kernel)) (fun _ h9 => h9) rfl dX9_ons_6 ?_
    refine lv_icmp_ge (tgt := 33) hx hb dX9_ons_9 (by decide) (fun c1 => ?_) (fun c1 => ?_)
    · replace h := ifp c1 h
      cases h
      exact hz _ rfl _ _ _ hP hD hS (lv_sub hl [1] rfl)
    · replace h := ifn c1 h
      refine lv_iload_n hx hb dX9_ons_12 rfl (lv_at hl 1 rfl) ?_
      refine lv_aload_n hx hb dX9_ons_13 rfl (lv_at hl 0 rfl) ?_
      refine va_get (D := D) (ci := 9) (v := .ref q_th_saying) (C := RX9) (T := TX9) (N := 28) hx hb hts hinX9 hown hK hP 0 rfl rfl 9 (by decide) (hts (.fieldLink RX9 13 "ChanceBoundsModel" "saying" "[I") (by decide +kernel)) (fun _ h9 => h9) rfl dX9_ons_14 ?_
      refine lv_iconst (v := (5 : Int32)) hx hb dX9_ons_17 (by decide) ?_
      refine lv_iload_n hx hb dX9_ons_18 rfl (lv_at hl 2 rfl) ?_
      refine lv_imul hx hb dX9_ons_19 ?_
      refine lv_iconst (v := (4 : Int32)) hx hb dX9_ons_20 (by decide) ?_
      refine lv_iadd hx hb dX9_ons_21 ?_
      obtain ⟨g2, h⟩ := gd_ok h
      refine va_iald hx hb hK hP 1 0 rfl rfl g2 dX9_ons_22 ?_
      refine lv_iload_n hx hb dX9_ons_23 rfl (lv_at hl 2 rfl) ?_
      refine lv_ishl hx hb dX9_ons_24 ?_
      refine lv_ior hx hb dX9_ons_25 ?_
      obtain ⟨z3, hzz3, h⟩ := bd_ok h
      refine st_nmi (Option.some.inj hzz3) ?_
      refine lv_istore_n (lv' := [(1, .int z3), (0, .ref q_th), (2, .int x2)]) hx hb dX9_ons_26 rfl hl (by decide) rfl (fun ls hl => ?_)
      refine lv_iinc (v := x2 + 1) (lv' := [(2, .int (x2 + 1)), (1, .int z3), (0, .ref q_th)]) hx hb dX9_ons_27 hl (k := 2) rfl rfl (by decide) rfl (fun ls hl => ?_)
      refine lv_goto (tgt := 4) hx hb dX9_ons_30 (by decide) ?_
      cases h
      exact ih _ rfl _ _ _ hP hD hS (lv_sub hl [2, 1, 0] rfl)
  unfold f_X9_ons at h
  refine lv_iconst (v := (0 : Int32)) hx hb dX9_ons_0 (by decide) ?_
  refine lv_istore_n (lv' := [(1, .int (0 : Int32)), (0, .ref q_th)]) hx hb dX9_ons_1 rfl hl (by decide) rfl (fun ls hl => ?_)
  refine lv_iconst (v := (0 : Int32)) hx hb dX9_ons_2 (by decide) ?_
  refine lv_istore_n (lv' := [(2, .int (0 : Int32)), (1, .int (0 : Int32)), (0, .ref q_th)]) hx hb dX9_ons_3 rfl hl (by decide) rfl (fun ls hl => ?_)
  obtain ⟨z4_0, hl4, h⟩ := bd_ok h
  refine L4 () K _ _ hl4 ?_ _ _ _ hP hD hS (lv_sub hl [2, 1, 0] rfl)
  intro H locs ls hP hD hS hl
  refine lv_iload_n hx hb dX9_ons_33 rfl (lv_at hl 0 rfl) ?_
  cases h
  exact st_iret hx hb hr hlocks hP hD hS dX9_ons_34
def f_X9_end (n_th_saying : Nat) (th_widened : Int32) (th_wide : Int32) (th_saying : Nat → Int32) (x1 : Int32) (x2 : Int32) : Option (Int32) :=
  if ((((5 : Int32) * x1) + (2 : Int32)) + x2) < 0 ∨ n_th_saying ≤ ((((5 : Int32) * x1) + (2 : Int32)) + x2).toNatClampNeg then none else
  if ((th_widened >>> (x1 &&& 31)) &&& (1 : Int32)) = (1 : Int32) then
    if x2 = (0 : Int32) then
      (some ((th_saying ((((5 : Int32) * x1) + (2 : Int32)) + x2).toNatClampNeg) + (-th_wide) : Int32)).bind fun z14 =>
      if (0 : Int32) ≤ z14 then
        if z14 ≤ (100 : Int32) then
          some z14
        else
          some (100 : Int32)
      else
        some (0 : Int32)
    else
      (some ((th_saying ((((5 : Int32) * x1) + (2 : Int32)) + x2).toNatClampNeg) + th_wide : Int32)).bind fun z11 =>
      if (0 : Int32) ≤ z11 then
        if z11 ≤ (100 : Int32) then
          some z11
        else
          some (100 : Int32)
      else
        some (0 : Int32)
  else
    if x2 = (0 : Int32) then
      (some ((th_saying ((((5 : Int32) * x1) + (2 : Int32)) + x2).toNatClampNeg) + (-(0 : Int32)) : Int32)).bind fun z7 =>
      if (0 : Int32) ≤ z7 then
        if z7 ≤ (100 : Int32) then
          some z7
        else
          some (100 : Int32)
      else
        some (0 : Int32)
    else
      (some ((th_saying ((((5 : Int32) * x1) + (2 : Int32)) + x2).toNatClampNeg) + (0 : Int32) : Int32)).bind fun z4 =>
      if (0 : Int32) ≤ z4 then
        if z4 ≤ (100 : Int32) then
          some z4
        else
          some (100 : Int32)
      else
        some (0 : Int32)
abbrev w_X9_end (tc : Nat → ClassId) (q_th : Nat) (q_th_text : Nat) (q_th_saying : Nat) (q_th_signs : Nat) (q_th_sets : Nat) (q_th_told : Nat) (q_th_up : Nat) (q_th_down : Nat) (q_th_world : Nat) (q_th_tight : Nat) (q_th_sum : Nat) (q_th_now : Nat) (n_th_saying : Nat) (th_thrown : Int32) (th_typed : Int32) (th_next : Int32) (th_token : Int32) (th_place : Int32) (th_value : Int32) (th_fault : Int32) (th_many : Int32) (th_signMany : Int32) (th_setMany : Int32) (th_corners : Int32) (th_isLoaded : Int32) (th_loaded : Int32) (th_widened : Int32) (th_wide : Int32) (th_boundUp : Int64) (th_boundDown : Int64) (th_saying : Nat → Int32) : va_W := [(q_th, .inr (9, [.int th_thrown, .ref q_th_text, .int th_typed, .int th_next, .int th_token, .int th_place, .int th_value, .int th_fault, .int th_many, .ref q_th_saying, .ref q_th_signs, .ref q_th_sets, .int th_signMany, .int th_setMany, .ref q_th_told, .int th_corners, .int th_isLoaded, .int th_loaded, .ref q_th_up, .ref q_th_down, .ref q_th_world, .ref q_th_tight, .ref q_th_sum, .ref q_th_now, .int th_widened, .int th_wide, .long th_boundUp, .long th_boundDown])), (q_th_saying, .inl (tc 0, n_th_saying, .inl th_saying))]
set_option maxHeartbeats 4000000 in
set_option maxRecDepth 100000 in
theorem s_X9_end {l : Launch} {E : (Nat → Prop) → State → Prop} (hEok : st_Eok E) {D : va_G} {tc : Nat → ClassId} (q_th : Nat) (q_th_text : Nat) (q_th_saying : Nat) (q_th_signs : Nat) (q_th_sets : Nat) (q_th_told : Nat) (q_th_up : Nat) (q_th_down : Nat) (q_th_world : Nat) (q_th_tight : Nat) (q_th_sum : Nat) (q_th_now : Nat) (n_th_saying : Nat) (th_thrown : Int32) (th_typed : Int32) (th_next : Int32) (th_token : Int32) (th_place : Int32) (th_value : Int32) (th_fault : Int32) (th_many : Int32) (th_signMany : Int32) (th_setMany : Int32) (th_corners : Int32) (th_isLoaded : Int32) (th_loaded : Int32) (th_widened : Int32) (th_wide : Int32) (th_boundUp : Int64) (th_boundDown : Int64) (th_saying : Nat → Int32) (x1 : Int32) (x2 : Int32) (r0 : Int32) (h : f_X9_end n_th_saying th_widened th_wide th_saying x1 x2 = some r0) : st l yX9_end wsX9_end ({ frames := 0, cells := 0, slots := 0, locals := 0 }) E D tc [.ref q_th, .int x1, .int x2] (w_X9_end tc q_th q_th_text q_th_saying q_th_signs q_th_sets q_th_told q_th_up q_th_down q_th_world q_th_tight q_th_sum q_th_now n_th_saying th_thrown th_typed th_next th_token th_place th_value th_fault th_many th_signMany th_setMany th_corners th_isLoaded th_loaded th_widened th_wide th_boundUp th_boundDown th_saying) (some (.int r0)) (w_X9_end tc q_th q_th_text q_th_saying q_th_signs q_th_sets q_th_told q_th_up q_th_down q_th_world q_th_tight q_th_sum q_th_now n_th_saying th_thrown th_typed th_next th_token th_place th_value th_fault th_many th_signMany th_setMany th_corners th_isLoaded th_loaded th_widened th_wide th_boundUp th_boundDown th_saying) := by
  refine st_enter (cc := cX9_end) (maxL := 5) (ret := (some .int)) (by decide) rfl (Nat.le_of_ble_eq_true rfl) ?_
  intro p e s m below meth c A ls hx hb hr hml hts hown hlocks hK hN hE hA hP hD hS hl
  have hl : lv_has ls 5 [(0, .ref q_th), (1, .int x1), (2, .int x2)] := hl
  have hinX9 : ∀ w ∈ wsX90, w ∈ wsX9_end := by decide +kernel
  generalize hav : ([.ref q_th, .int x1, .int x2] : List Value).toArray = av at hts ⊢
  unfold f_X9_end at h
  refine lv_aload_n hx hb dX9_end_0 rfl (lv_at hl 0 rfl) ?_
  refine va_get (D := D) (ci := 9) (v := .ref q_th_saying) (C := RX9) (T := TX9) (N := 28) hx hb hts hinX9 hown hK hP 0 rfl rfl 9 (by decide) (hts (.fieldLink RX9 13 "ChanceBoundsModel" "saying" "[I") (by decide +kernel)) (fun _ h9 => h9) rfl dX9_end_1 ?_
  refine lv_iconst (v := (5 : Int32)) hx hb dX9_end_4 (by decide) ?_
  refine lv_iload_n hx hb dX9_end_5 rfl (lv_at hl 1 rfl) ?_
  refine lv_imul hx hb dX9_end_6 ?_
  refine lv_iconst (v := (2 : Int32)) hx hb dX9_end_7 (by decide) ?_
  refine lv_iadd hx hb dX9_end_8 ?_
  refine lv_iload_n hx hb dX9_end_9 rfl (lv_at hl 2 rfl) ?_
  refine lv_iadd hx hb dX9_end_10 ?_
  obtain ⟨g1, h⟩ := gd_ok h
  refine va_iald hx hb hK hP 1 0 rfl rfl g1 dX9_end_11 ?_
  refine lv_istore_n (lv' := [(3, .int (th_saying ((((5 : Int32) * x1) + (2 : Int32)) + x2).toNatClampNeg)), (0, .ref q_th), (1, .int x1), (2, .int x2)]) hx hb dX9_end_12 rfl hl (by decide) rfl (fun ls hl => ?_)
  refine lv_aload_n hx hb dX9_end_13 rfl (lv_at hl 1 rfl) ?_
  refine va_get (D := D) (ci := 9) (v := .int th_widened) (C := RX9) (T := TX9) (N := 28) hx hb hts hinX9 hown hK hP 0 rfl rfl 24 (by decide) (hts (.fieldLink RX9 130 "ChanceBoundsModel" "widened" "I") (by decide +kernel)) (fun _ h9 => h9) rfl dX9_end_14 ?_
  refine lv_iload_n hx hb dX9_end_17 rfl (lv_at hl 2 rfl) ?_
  refine lv_ishr hx hb dX9_end_18 ?_
  refine lv_iconst (v := (1 : Int32)) hx hb dX9_end_19 (by decide) ?_
  refine lv_iand hx hb dX9_end_20 ?_
  refine lv_iconst (v := (1 : Int32)) hx hb dX9_end_21 (by decide) ?_
  refine lv_icmp_ne (tgt := 32) hx hb dX9_end_22 (by decide) (fun c2 => ?_) (fun c2 => ?_)
  · replace h := ifn c2 h
    refine lv_iconst (v := (0 : Int32)) hx hb dX9_end_32 (by decide) ?_
    refine lv_istore (lv' := [(4, .int (0 : Int32)), (3, .int (th_saying ((((5 : Int32) * x1) + (2 : Int32)) + x2).toNatClampNeg)), (0, .ref q_th), (1, .int x1), (2, .int x2)]) hx hb dX9_end_33 hl (by decide) rfl (fun ls hl => ?_)
    refine lv_iload_n hx hb dX9_end_35 rfl (lv_at hl 1 rfl) ?_
    refine lv_iload_n hx hb dX9_end_36 rfl (lv_at hl 4 rfl) ?_
    refine lv_if_ne (tgt := 46) hx hb dX9_end_37 (by decide) (fun c3 => ?_) (fun c3 => ?_)
    · replace h := ifn c3 h
      refine lv_iload hx hb dX9_end_46 (lv_at hl 0 rfl) ?_
      refine lv_iadd hx hb dX9_end_48 ?_
      obtain ⟨z4, hzz4, h⟩ := bd_ok h
      refine st_nmi (Option.some.inj hzz4) ?_
      refine lv_istore_n (lv' := [(3, .int z4), (4, .int (0 : Int32)), (0, .ref q_th), (1, .int x1), (2, .int x2)]) hx hb dX9_end_49 rfl hl (by decide) rfl (fun ls hl => ?_)
      refine lv_iload_n hx hb dX9_end_50 rfl (lv_at hl 0 rfl) ?_
      refine lv_if_ge (tgt := 58) hx hb dX9_end_51 (by decide) (fun c5 => ?_) (fun c5 => ?_)
      · replace h := ifp c5 h
        refine lv_iload_n hx hb dX9_end_58 rfl (lv_at hl 0 rfl) ?_
        refine lv_bipush (v := (100 : Int32)) hx hb dX9_end_59 (by decide) ?_
        refine lv_icmp_le (tgt := 69) hx hb dX9_end_61 (by decide) (fun c6 => ?_) (fun c6 => ?_)
        · replace h := ifp c6 h
          refine lv_iload_n hx hb dX9_end_69 rfl (lv_at hl 0 rfl) ?_
          cases h
          exact st_iret hx hb hr hlocks hP hD hS dX9_end_70
        · replace h := ifn c6 h
          refine lv_bipush (v := (100 : Int32)) hx hb dX9_end_64 (by decide) ?_
          refine lv_goto (tgt := 70) hx hb dX9_end_66 (by decide) ?_
          cases h
          exact st_iret hx hb hr hlocks hP hD hS dX9_end_70
      · replace h := ifn c5 h
        refine lv_iconst (v := (0 : Int32)) hx hb dX9_end_54 (by decide) ?_
        refine lv_goto (tgt := 70) hx hb dX9_end_55 (by decide) ?_
        cases h
        exact st_iret hx hb hr hlocks hP hD hS dX9_end_70
    · replace h := ifp c3 h
      refine lv_iload hx hb dX9_end_40 (lv_at hl 0 rfl) ?_
      refine lv_ineg hx hb dX9_end_42 ?_
      refine lv_goto (tgt := 48) hx hb dX9_end_43 (by decide) ?_
      refine lv_iadd hx hb dX9_end_48 ?_
      obtain ⟨z7, hzz7, h⟩ := bd_ok h
      refine st_nmi (Option.some.inj hzz7) ?_
      refine lv_istore_n (lv' := [(3, .int z7), (4, .int (0 : Int32)), (0, .ref q_th), (1, .int x1), (2, .int x2)]) hx hb dX9_end_49 rfl hl (by decide) rfl (fun ls hl => ?_)
      refine lv_iload_n hx hb dX9_end_50 rfl (lv_at hl 0 rfl) ?_
      refine lv_if_ge (tgt := 58) hx hb dX9_end_51 (by decide) (fun c8 => ?_) (fun c8 => ?_)
      · replace h := ifp c8 h
        refine lv_iload_n hx hb dX9_end_58 rfl (lv_at hl 0 rfl) ?_
        refine lv_bipush (v := (100 : Int32)) hx hb dX9_end_59 (by decide) ?_
        refine lv_icmp_le (tgt := 69) hx hb dX9_end_61 (by decide) (fun c9 => ?_) (fun c9 => ?_)
        · replace h := ifp c9 h
          refine lv_iload_n hx hb dX9_end_69 rfl (lv_at hl 0 rfl) ?_
          cases h
          exact st_iret hx hb hr hlocks hP hD hS dX9_end_70
        · replace h := ifn c9 h
          refine lv_bipush (v := (100 : Int32)) hx hb dX9_end_64 (by decide) ?_
          refine lv_goto (tgt := 70) hx hb dX9_end_66 (by decide) ?_
          cases h
          exact st_iret hx hb hr hlocks hP hD hS dX9_end_70
      · replace h := ifn c8 h
        refine lv_iconst (v := (0 : Int32)) hx hb dX9_end_54 (by decide) ?_
        refine lv_goto (tgt := 70) hx hb dX9_end_55 (by decide) ?_
        cases h
        exact st_iret hx hb hr hlocks hP hD hS dX9_end_70
  · replace h := ifp c2 h
    refine lv_aload_n hx hb dX9_end_25 rfl (lv_at hl 1 rfl) ?_
    refine va_get (D := D) (ci := 9) (v := .int th_wide) (C := RX9) (T := TX9) (N := 28) hx hb hts hinX9 hown hK hP 0 rfl rfl 25 (by decide) (hts (.fieldLink RX9 133 "ChanceBoundsModel" "wide" "I") (by decide +kernel)) (fun _ h9 => h9) rfl dX9_end_26 ?_
    refine lv_goto (tgt := 33) hx hb dX9_end_29 (by decide) ?_
    refine lv_istore (lv' := [(4, .int th_wide), (3, .int (th_saying ((((5 : Int32) * x1) + (2 : Int32)) + x2).toNatClampNeg)), (0, .ref q_th), (1, .int x1), (2, .int x2)]) hx hb dX9_end_33 hl (by decide) rfl (fun ls hl => ?_)
    refine lv_iload_n hx hb dX9_end_35 rfl (lv_at hl 1 rfl) ?_
    refine lv_iload_n hx hb dX9_end_36 rfl (lv_at hl 4 rfl) ?_
    refine lv_if_ne (tgt := 46) hx hb dX9_end_37 (by decide) (fun c10 => ?_) (fun c10 => ?_)
    · replace h := ifn c10 h
      refine lv_iload hx hb dX9_end_46 (lv_at hl 0 rfl) ?_
      refine lv_iadd hx hb dX9_end_48 ?_
      obtain ⟨z11, hzz11, h⟩ := bd_ok h
      refine st_nmi (Option.some.inj hzz11) ?_
      refine lv_istore_n (lv' := [(3, .int z11), (4, .int th_wide), (0, .ref q_th), (1, .int x1), (2, .int x2)]) hx hb dX9_end_49 rfl hl (by decide) rfl (fun ls hl => ?_)
      refine lv_iload_n hx hb dX9_end_50 rfl (lv_at hl 0 rfl) ?_
      refine lv_if_ge (tgt := 58) hx hb dX9_end_51 (by decide) (fun c12 => ?_) (fun c12 => ?_)
      · replace h := ifp c12 h
        refine lv_iload_n hx hb dX9_end_58 rfl (lv_at hl 0 rfl) ?_
        refine lv_bipush (v := (100 : Int32)) hx hb dX9_end_59 (by decide) ?_
        refine lv_icmp_le (tgt := 69) hx hb dX9_end_61 (by decide) (fun c13 => ?_) (fun c13 => ?_)
        · replace h := ifp c13 h
          refine lv_iload_n hx hb dX9_end_69 rfl (lv_at hl 0 rfl) ?_
          cases h
          exact st_iret hx hb hr hlocks hP hD hS dX9_end_70
        · replace h := ifn c13 h
          refine lv_bipush (v := (100 : Int32)) hx hb dX9_end_64 (by decide) ?_
          refine lv_goto (tgt := 70) hx hb dX9_end_66 (by decide) ?_
          cases h
          exact st_iret hx hb hr hlocks hP hD hS dX9_end_70
      · replace h := ifn c12 h
        refine lv_iconst (v := (0 : Int32)) hx hb dX9_end_54 (by decide) ?_
        refine lv_goto (tgt := 70) hx hb dX9_end_55 (by decide) ?_
        cases h
        exact st_iret hx hb hr hlocks hP hD hS dX9_end_70
    · replace h := ifp c10 h
      refine lv_iload hx hb dX9_end_40 (lv_at hl 0 rfl) ?_
      refine lv_ineg hx hb dX9_end_42 ?_
      refine lv_goto (tgt := 48) hx hb dX9_end_43 (by decide) ?_
      refine lv_iadd hx hb dX9_end_48 ?_
      obtain ⟨z14, hzz14, h⟩ := bd_ok h
      refine st_nmi (Option.some.inj hzz14) ?_
      refine lv_istore_n (lv' := [(3, .int z14), (4, .int th_wide), (0, .ref q_th), (1, .int x1), (2, .int x2)]) hx hb dX9_end_49 rfl hl (by decide) rfl (fun ls hl => ?_)
      refine lv_iload_n hx hb dX9_end_50 rfl (lv_at hl 0 rfl) ?_
      refine lv_if_ge (tgt := 58) hx hb dX9_end_51 (by decide) (fun c15 => ?_) (fun c15 => ?_)
      · replace h := ifp c15 h
        refine lv_iload_n hx hb dX9_end_58 rfl (lv_at hl 0 rfl) ?_
        refine lv_bipush (v := (100 : Int32)) hx hb dX9_end_59 (by decide) ?_
        refine lv_icmp_le (tgt := 69) hx hb dX9_end_61 (by decide) (fun c16 => ?_) (fun c16 => ?_)
        · replace h := ifp c16 h
          refine lv_iload_n hx hb dX9_end_69 rfl (lv_at hl 0 rfl) ?_
          cases h
          exact st_iret hx hb hr hlocks hP hD hS dX9_end_70
        · replace h := ifn c16 h
          refine lv_bipush (v := (100 : Int32)) hx hb dX9_end_64 (by decide) ?_
          refine lv_goto (tgt := 70) hx hb dX9_end_66 (by decide) ?_
          cases h
          exact st_iret hx hb hr hlocks hP hD hS dX9_end_70
      · replace h := ifn c15 h
        refine lv_iconst (v := (0 : Int32)) hx hb dX9_end_54 (by decide) ?_
        refine lv_goto (tgt := 70) hx hb dX9_end_55 (by decide) ?_
        cases h
        exact st_iret hx hb hr hlocks hP hD hS dX9_end_70
def f_X9_part (n_th_saying : Nat) (th_widened : Int32) (th_wide : Int32) (th_saying : Nat → Int32) (x1 : Int32) (x2 : Int32) (x3 : Int32) : Option (Int32) :=
  if (((5 : Int32) * x1) + (1 : Int32)) < 0 ∨ n_th_saying ≤ (((5 : Int32) * x1) + (1 : Int32)).toNatClampNeg then none else
  (some (((th_saying (((5 : Int32) * x1) + (1 : Int32)).toNatClampNeg) >>> (x3 &&& 31)) &&& (1 : Int32) : Int32)).bind fun z2 =>
  if ((5 : Int32) * x1) < 0 ∨ n_th_saying ≤ ((5 : Int32) * x1).toNatClampNeg then none else
  (f_X9_end n_th_saying th_widened th_wide th_saying x1 x2).bind fun z4_0 =>
  some (((100 : Int32) * (z2 &&& ((th_saying ((5 : Int32) * x1).toNatClampNeg) >>> (x3 &&& 31)))) - (z4_0 * z2))
abbrev w_X9_part (tc : Nat → ClassId) (q_th : Nat) (q_th_text : Nat) (q_th_saying : Nat) (q_th_signs : Nat) (q_th_sets : Nat) (q_th_told : Nat) (q_th_up : Nat) (q_th_down : Nat) (q_th_world : Nat) (q_th_tight : Nat) (q_th_sum : Nat) (q_th_now : Nat) (n_th_saying : Nat) (th_thrown : Int32) (th_typed : Int32) (th_next : Int32) (th_token : Int32) (th_place : Int32) (th_value : Int32) (th_fault : Int32) (th_many : Int32) (th_signMany : Int32) (th_setMany : Int32) (th_corners : Int32) (th_isLoaded : Int32) (th_loaded : Int32) (th_widened : Int32) (th_wide : Int32) (th_boundUp : Int64) (th_boundDown : Int64) (th_saying : Nat → Int32) : va_W := [(q_th, .inr (9, [.int th_thrown, .ref q_th_text, .int th_typed, .int th_next, .int th_token, .int th_place, .int th_value, .int th_fault, .int th_many, .ref q_th_saying, .ref q_th_signs, .ref q_th_sets, .int th_signMany, .int th_setMany, .ref q_th_told, .int th_corners, .int th_isLoaded, .int th_loaded, .ref q_th_up, .ref q_th_down, .ref q_th_world, .ref q_th_tight, .ref q_th_sum, .ref q_th_now, .int th_widened, .int th_wide, .long th_boundUp, .long th_boundDown])), (q_th_saying, .inl (tc 0, n_th_saying, .inl th_saying))]
set_option maxHeartbeats 4000000 in
set_option maxRecDepth 100000 in
theorem s_X9_part {l : Launch} {E : (Nat → Prop) → State → Prop} (hEok : st_Eok E) {D : va_G} {tc : Nat → ClassId} (q_th : Nat) (q_th_text : Nat) (q_th_saying : Nat) (q_th_signs : Nat) (q_th_sets : Nat) (q_th_told : Nat) (q_th_up : Nat) (q_th_down : Nat) (q_th_world : Nat) (q_th_tight : Nat) (q_th_sum : Nat) (q_th_now : Nat) (n_th_saying : Nat) (th_thrown : Int32) (th_typed : Int32) (th_next : Int32) (th_token : Int32) (th_place : Int32) (th_value : Int32) (th_fault : Int32) (th_many : Int32) (th_signMany : Int32) (th_setMany : Int32) (th_corners : Int32) (th_isLoaded : Int32) (th_loaded : Int32) (th_widened : Int32) (th_wide : Int32) (th_boundUp : Int64) (th_boundDown : Int64) (th_saying : Nat → Int32) (x1 : Int32) (x2 : Int32) (x3 : Int32) (r0 : Int32) (h : f_X9_part n_th_saying th_widened th_wide th_saying x1 x2 x3 = some r0) : st l yX9_part wsX9_part ({ frames := 1, cells := 0, slots := 0, locals := 24 }) E D tc [.ref q_th, .int x1, .int x2, .int x3] (w_X9_part tc q_th q_th_text q_th_saying q_th_signs q_th_sets q_th_told q_th_up q_th_down q_th_world q_th_tight q_th_sum q_th_now n_th_saying th_thrown th_typed th_next th_token th_place th_value th_fault th_many th_signMany th_setMany th_corners th_isLoaded th_loaded th_widened th_wide th_boundUp th_boundDown th_saying) (some (.int r0)) (w_X9_part tc q_th q_th_text q_th_saying q_th_signs q_th_sets q_th_told q_th_up q_th_down q_th_world q_th_tight q_th_sum q_th_now n_th_saying th_thrown th_typed th_next th_token th_place th_value th_fault th_many th_signMany th_setMany th_corners th_isLoaded th_loaded th_widened th_wide th_boundUp th_boundDown th_saying) := by
  refine st_enter (cc := cX9_part) (maxL := 6) (ret := (some .int)) (by decide) rfl (Nat.le_of_ble_eq_true rfl) ?_
  intro p e s m below meth c A ls hx hb hr hml hts hown hlocks hK hN hE hA hP hD hS hl
  have hl : lv_has ls 6 [(0, .ref q_th), (1, .int x1), (2, .int x2), (3, .int x3)] := hl
  have hinX9 : ∀ w ∈ wsX90, w ∈ wsX9_part := by decide +kernel
  generalize hav : ([.ref q_th, .int x1, .int x2, .int x3] : List Value).toArray = av at hts ⊢
  unfold f_X9_part at h
  refine lv_aload_n hx hb dX9_part_0 rfl (lv_at hl 0 rfl) ?_
  refine va_get (D := D) (ci := 9) (v := .ref q_th_saying) (C := RX9) (T := TX9) (N := 28) hx hb hts hinX9 hown hK hP 0 rfl rfl 9 (by decide) (hts (.fieldLink RX9 13 "ChanceBoundsModel" "saying" "[I") (by decide +kernel)) (fun _ h9 => h9) rfl dX9_part_1 ?_
  refine lv_iconst (v := (5 : Int32)) hx hb dX9_part_4 (by decide) ?_
  refine lv_iload_n hx hb dX9_part_5 rfl (lv_at hl 1 rfl) ?_
  refine lv_imul hx hb dX9_part_6 ?_
  refine lv_iconst (v := (1 : Int32)) hx hb dX9_part_7 (by decide) ?_
  refine lv_iadd hx hb dX9_part_8 ?_
  obtain ⟨g1, h⟩ := gd_ok h
  refine va_iald hx hb hK hP 1 0 rfl rfl g1 dX9_part_9 ?_
  refine lv_iload_n hx hb dX9_part_10 rfl (lv_at hl 3 rfl) ?_
  refine lv_ishr hx hb dX9_part_11 ?_
  refine lv_iconst (v := (1 : Int32)) hx hb dX9_part_12 (by decide) ?_
  refine lv_iand hx hb dX9_part_13 ?_
  obtain ⟨z2, hzz2, h⟩ := bd_ok h
  refine st_nmi (Option.some.inj hzz2) ?_
  refine lv_istore (lv' := [(4, .int z2), (0, .ref q_th), (1, .int x1), (2, .int x2), (3, .int x3)]) hx hb dX9_part_14 hl (by decide) rfl (fun ls hl => ?_)
  refine lv_iload hx hb dX9_part_16 (lv_at hl 0 rfl) ?_
  refine lv_aload_n hx hb dX9_part_18 rfl (lv_at hl 1 rfl) ?_
  refine va_get (D := D) (ci := 9) (v := .ref q_th_saying) (C := RX9) (T := TX9) (N := 28) hx hb hts hinX9 hown hK hP 0 rfl rfl 9 (by decide) (hts (.fieldLink RX9 13 "ChanceBoundsModel" "saying" "[I") (by decide +kernel)) (fun _ h9 => h9) rfl dX9_part_19 ?_
  refine lv_iconst (v := (5 : Int32)) hx hb dX9_part_22 (by decide) ?_
  refine lv_iload_n hx hb dX9_part_23 rfl (lv_at hl 2 rfl) ?_
  refine lv_imul hx hb dX9_part_24 ?_
  obtain ⟨g3, h⟩ := gd_ok h
  refine va_iald hx hb hK hP 1 0 rfl rfl g3 dX9_part_25 ?_
  refine lv_iload_n hx hb dX9_part_26 rfl (lv_at hl 4 rfl) ?_
  refine lv_ishr hx hb dX9_part_27 ?_
  refine lv_iand hx hb dX9_part_28 ?_
  refine lv_istore (lv' := [(5, .int (z2 &&& ((th_saying ((5 : Int32) * x1).toNatClampNeg) >>> (x3 &&& 31)))), (4, .int z2), (0, .ref q_th), (1, .int x1), (2, .int x2), (3, .int x3)]) hx hb dX9_part_29 hl (by decide) rfl (fun ls hl => ?_)
  refine lv_bipush (v := (100 : Int32)) hx hb dX9_part_31 (by decide) ?_
  refine lv_iload hx hb dX9_part_33 (lv_at hl 0 rfl) ?_
  refine lv_imul hx hb dX9_part_35 ?_
  refine lv_aload_n hx hb dX9_part_36 rfl (lv_at hl 2 rfl) ?_
  refine lv_iload_n hx hb dX9_part_37 rfl (lv_at hl 3 rfl) ?_
  refine lv_iload_n hx hb dX9_part_38 rfl (lv_at hl 4 rfl) ?_
  obtain ⟨z4_0, hc4, h⟩ := bd_ok h
  refine st_callV (As := [.int x1, .int x2]) (rest := [.int ((100 : Int32) * (z2 &&& ((th_saying ((5 : Int32) * x1).toNatClampNeg) >>> (x3 &&& 31))))]) (pos := [0, 1]) ⟨hx, hb, hml, hown, hts⟩ (s_X9_end (l := l) (D := D) (tc := tc) hEok q_th q_th_text q_th_saying q_th_signs q_th_sets q_th_told q_th_up q_th_down q_th_world q_th_tight q_th_sum q_th_now n_th_saying th_thrown th_typed th_next th_token th_place th_value th_fault th_many th_signMany th_setMany th_corners th_isLoaded th_loaded th_widened th_wide th_boundUp th_boundDown th_saying x1 x2 z4_0 hc4) (cwV 2 hts gX9_part_X9_end rfl rfl rfl (by decide +kernel) ⟨Nat.le_of_ble_eq_true rfl, Nat.le_of_ble_eq_true rfl⟩) (st_recv (ci := 9) (q0 := 0) hK hP rfl rfl) hEok hE hK hN hP hD hS hA rfl rfl rfl rfl hl.1 rfl (Nat.le_of_ble_eq_true rfl) dX9_part_39 ⟨Nat.zero_le _, Nat.zero_le _⟩ (fun H locs hP hD hS => ?_)
  have hP : va_P D vwCl (w_X9_part tc q_th q_th_text q_th_saying q_th_signs q_th_sets q_th_told q_th_up q_th_down q_th_world q_th_tight q_th_sum q_th_now n_th_saying th_thrown th_typed th_next th_token th_place th_value th_fault th_many th_signMany th_setMany th_corners th_isLoaded th_loaded th_widened th_wide th_boundUp th_boundDown th_saying) H := hP
  have hD : va_D A (w_X9_part tc q_th q_th_text q_th_saying q_th_signs q_th_sets q_th_told q_th_up q_th_down q_th_world q_th_tight q_th_sum q_th_now n_th_saying th_thrown th_typed th_next th_token th_place th_value th_fault th_many th_signMany th_setMany th_corners th_isLoaded th_loaded th_widened th_wide th_boundUp th_boundDown th_saying) := hD
  refine lv_iload hx hb dX9_part_42 (lv_at hl 1 rfl) ?_
  refine lv_imul hx hb dX9_part_44 ?_
  refine lv_isub hx hb dX9_part_45 ?_
  cases h
  exact st_iret hx hb hr hlocks hP hD hS dX9_part_46
def f_X9_isHeld_L9 (n_th_saying : Nat) (n_a2 : Nat) (th_widened : Int32) (th_wide : Int32) (th_saying : Nat → Int32) (a2 : Nat → Int64) (x1 : Int32) (x3 : Int32) (s9 : Int64 × Int64 × Int32) : Option ((Int64 × Int64) ⊕ (Int64 × Int64 × Int32)) :=
  match s9 with
  | (x4, x6, x8) =>
    if (8 : Int32) ≤ x8 then
      some (.inl (x4, x6))
    else
      (f_X9_part n_th_saying th_widened th_wide th_saying x1 (0 : Int32) x8).bind fun z2_0 =>
      if (x3 + x8) < 0 ∨ n_a2 ≤ (x3 + x8).toNatClampNeg then none else
      (f_X9_part n_th_saying th_widened th_wide th_saying x1 (1 : Int32) x8).bind fun z4_0 =>
      if (x3 + x8) < 0 ∨ n_a2 ≤ (x3 + x8).toNatClampNeg then none else
      some (.inr (x4 + (z2_0.toInt64 * (a2 (x3 + x8).toNatClampNeg)), x6 + (z4_0.toInt64 * (a2 (x3 + x8).toNatClampNeg)), x8 + 1))
def f_X9_isHeld (K : Nat) (n_th_saying : Nat) (n_a2 : Nat) (th_widened : Int32) (th_wide : Int32) (th_saying : Nat → Int32) (a2 : Nat → Int64) (x1 : Int32) (x3 : Int32) : Option (Int32) :=
  (lp (f_X9_isHeld_L9 n_th_saying n_a2 th_widened th_wide th_saying a2 x1 x3) K ((0 : Int64), (0 : Int64), (0 : Int32))).bind fun z6 => match z6 with
  | (z6_0, z6_1) =>
    if (lg_cmp z6_0 (0 : Int64)) < (0 : Int32) then
      some (0 : Int32)
    else
      if (0 : Int32) < (lg_cmp z6_1 (0 : Int64)) then
        some (0 : Int32)
      else
        some (1 : Int32)
abbrev w_X9_isHeld (tc : Nat → ClassId) (q_th : Nat) (q_th_text : Nat) (q_th_saying : Nat) (q_th_signs : Nat) (q_th_sets : Nat) (q_th_told : Nat) (q_th_up : Nat) (q_th_down : Nat) (q_th_world : Nat) (q_th_tight : Nat) (q_th_sum : Nat) (q_th_now : Nat) (q_a2 : Nat) (n_th_saying : Nat) (n_a2 : Nat) (th_thrown : Int32) (th_typed : Int32) (th_next : Int32) (th_token : Int32) (th_place : Int32) (th_value : Int32) (th_fault : Int32) (th_many : Int32) (th_signMany : Int32) (th_setMany : Int32) (th_corners : Int32) (th_isLoaded : Int32) (th_loaded : Int32) (th_widened : Int32) (th_wide : Int32) (th_boundUp : Int64) (th_boundDown : Int64) (th_saying : Nat → Int32) (a2 : Nat → Int64) : va_W := [(q_th, .inr (9, [.int th_thrown, .ref q_th_text, .int th_typed, .int th_next, .int th_token, .int th_place, .int th_value, .int th_fault, .int th_many, .ref q_th_saying, .ref q_th_signs, .ref q_th_sets, .int th_signMany, .int th_setMany, .ref q_th_told, .int th_corners, .int th_isLoaded, .int th_loaded, .ref q_th_up, .ref q_th_down, .ref q_th_world, .ref q_th_tight, .ref q_th_sum, .ref q_th_now, .int th_widened, .int th_wide, .long th_boundUp, .long th_boundDown])), (q_th_saying, .inl (tc 0, n_th_saying, .inl th_saying)), (q_a2, .inl (tc 1, n_a2, .inr (.inl a2)))]
set_option maxHeartbeats 4000000 in
set_option maxRecDepth 100000 in
theorem s_X9_isHeld {l : Launch} {E : (Nat → Prop) → State → Prop} (hEok : st_Eok E) {D : va_G} {tc : Nat → ClassId} (q_th : Nat) (q_th_text : Nat) (q_th_saying : Nat) (q_th_signs : Nat) (q_th_sets : Nat) (q_th_told : Nat) (q_th_up : Nat) (q_th_down : Nat) (q_th_world : Nat) (q_th_tight : Nat) (q_th_sum : Nat) (q_th_now : Nat) (q_a2 : Nat) (n_th_saying : Nat) (n_a2 : Nat) (th_thrown : Int32) (th_typed : Int32) (th_next : Int32) (th_token : Int32) (th_place : Int32) (th_value : Int32) (th_fault : Int32) (th_many : Int32) (th_signMany : Int32) (th_setMany : Int32) (th_corners : Int32) (th_isLoaded : Int32) (th_loaded : Int32) (th_widened : Int32) (th_wide : Int32) (th_boundUp : Int64) (th_boundDown : Int64) (th_saying : Nat → Int32) (a2 : Nat → Int64) (x1 : Int32) (x3 : Int32) (K : Nat) (r0 : Int32) (h : f_X9_isHeld K n_th_saying n_a2 th_widened th_wide th_saying a2 x1 x3 = some r0) : st l yX9_isHeld wsX9_isHeld ({ frames := 2, cells := 0, slots := 0, locals := 49 }) E D tc [.ref q_th, .int x1, .ref q_a2, .int x3] (w_X9_isHeld tc q_th q_th_text q_th_saying q_th_signs q_th_sets q_th_told q_th_up q_th_down q_th_world q_th_tight q_th_sum q_th_now q_a2 n_th_saying n_a2 th_thrown th_typed th_next th_token th_place th_value th_fault th_many th_signMany th_setMany th_corners th_isLoaded th_loaded th_widened th_wide th_boundUp th_boundDown th_saying a2) (some (.int r0)) (w_X9_isHeld tc q_th q_th_text q_th_saying q_th_signs q_th_sets q_th_told q_th_up q_th_down q_th_world q_th_tight q_th_sum q_th_now q_a2 n_th_saying n_a2 th_thrown th_typed th_next th_token th_place th_value th_fault th_many th_signMany th_setMany th_corners th_isLoaded th_loaded th_widened th_wide th_boundUp th_boundDown th_saying a2) := by
  refine st_enter (cc := cX9_isHeld) (maxL := 9) (ret := (some .boolean)) (by decide) rfl (Nat.le_of_ble_eq_true rfl) ?_
  intro p e s m below meth c A ls hx hb hr hml hts hown hlocks hK hN hE hA hP hD hS hl
  have hl : lv_has ls 9 [(0, .ref q_th), (1, .int x1), (2, .ref q_a2), (3, .int x3)] := hl
  generalize hav : ([.ref q_th, .int x1, .ref q_a2, .int x3] : List Value).toArray = av at hts ⊢
  have L9 : ∀ (x1 : Int32) (x3 : Int32), ∀ (k : Nat) (s9 : Int64 × Int64 × Int32) (r : Int64 × Int64), lp (f_X9_isHeld_L9 n_th_saying n_a2 th_widened th_wide th_saying a2 x1 x3) k s9 = some r → (fun y9 : Int64 × Int64 => match y9 with | (x4, x6) => ∀ (H : Heap) (locs : List Loc) (ls : Array Slot), va_P D vwCl (w_X9_isHeld tc q_th q_th_text q_th_saying q_th_signs q_th_sets q_th_told q_th_up q_th_down q_th_world q_th_tight q_th_sum q_th_now q_a2 n_th_saying n_a2 th_thrown th_typed th_next th_token th_place th_value th_fault th_many th_signMany th_setMany th_corners th_isLoaded th_loaded th_widened th_wide th_boundUp th_boundDown th_saying a2) H → va_D A (w_X9_isHeld tc q_th q_th_text q_th_saying q_th_signs q_th_sets q_th_told q_th_up q_th_down q_th_world q_th_tight q_th_sum q_th_now q_a2 n_th_saying n_a2 th_thrown th_typed th_next th_token th_place th_value th_fault th_many th_signMany th_setMany th_corners th_isLoaded th_loaded th_widened th_wide th_boundUp th_boundDown th_saying a2) → va_S A s.heap H locs → lv_has ls 9 [(4, .long x4), (6, .long x6)] → W p l e ({ frames := 2, cells := 0, slots := 0, locals := 49 } : Room) s m av below meth c H locs 0 0 (MQ below (st_Q D (w_X9_isHeld tc q_th q_th_text q_th_saying q_th_signs q_th_sets q_th_told q_th_up q_th_down q_th_world q_th_tight q_th_sum q_th_now q_a2 n_th_saying n_a2 th_thrown th_typed th_next th_token th_place th_value th_fault th_many th_signMany th_setMany th_corners th_isLoaded th_loaded th_widened th_wide th_boundUp th_boundDown th_saying a2) (some (.int r0)) A) av s 0 0 A) (F0 m 64 ls [])) r → (fun s9 : Int64 × Int64 × Int32 => match s9 with | (x4, x6, x8) => ∀ (H : Heap) (locs : List Loc) (ls : Array Slot), va_P D vwCl (w_X9_isHeld tc q_th q_th_text q_th_saying q_th_signs q_th_sets q_th_told q_th_up q_th_down q_th_world q_th_tight q_th_sum q_th_now q_a2 n_th_saying n_a2 th_thrown th_typed th_next th_token th_place th_value th_fault th_many th_signMany th_setMany th_corners th_isLoaded th_loaded th_widened th_wide th_boundUp th_boundDown th_saying a2) H → va_D A (w_X9_isHeld tc q_th q_th_text q_th_saying q_th_signs q_th_sets q_th_told q_th_up q_th_down q_th_world q_th_tight q_th_sum q_th_now q_a2 n_th_saying n_a2 th_thrown th_typed th_next th_token th_place th_value th_fault th_many th_signMany th_setMany th_corners th_isLoaded th_loaded th_widened th_wide th_boundUp th_boundDown th_saying a2) → va_S A s.heap H locs → lv_has ls 9 [(0, .ref q_th), (1, .int x1), (2, .ref q_a2), (3, .int x3), (4, .long x4), (6, .long x6), (8, .int x8)] → W p l e ({ frames := 2, cells := 0, slots := 0, locals := 49 } : Room) s m av below meth c H locs 0 0 (MQ below (st_Q D (w_X9_isHeld tc q_th q_th_text q_th_saying q_th_signs q_th_sets q_th_told q_th_up q_th_down q_th_world q_th_tight q_th_sum q_th_now q_a2 n_th_saying n_a2 th_thrown th_typed th_next th_token th_place th_value th_fault th_many th_signMany th_setMany th_corners th_isLoaded th_loaded th_widened th_wide th_boundUp th_boundDown th_saying a2) (some (.int r0)) A) av s 0 0 A) (F0 m 9 ls [])) s9 := by
    intro x1 x3
    refine lp_W (f_X9_isHeld_L9 n_th_saying n_a2 th_widened th_wide th_saying a2 x1 x3) (fun s9 : Int64 × Int64 × Int32 => match s9 with | (x4, x6, x8) => ∀ (H : Heap) (locs : List Loc) (ls : Array Slot), va_P D vwCl (w_X9_isHeld tc q_th q_th_text q_th_saying q_th_signs q_th_sets q_th_told q_th_up q_th_down q_th_world q_th_tight q_th_sum q_th_now q_a2 n_th_saying n_a2 th_thrown th_typed th_next th_token th_place th_value th_fault th_many th_signMany th_setMany th_corners th_isLoaded th_loaded th_widened th_wide th_boundUp th_boundDown th_saying a2) H → va_D A (w_X9_isHeld tc q_th q_th_text q_th_saying q_th_signs q_th_sets q_th_told q_th_up q_th_down q_th_world q_th_tight q_th_sum q_th_now q_a2 n_th_saying n_a2 th_thrown th_typed th_next th_token th_place th_value th_fault th_many th_signMany th_setMany th_corners th_isLoaded th_loaded th_widened th_wide th_boundUp th_boundDown th_saying a2) → va_S A s.heap H locs → lv_has ls 9 [(0, .ref q_th), (1, .int x1), (2, .ref q_a2), (3, .int x3), (4, .long x4), (6, .long x6), (8, .int x8)] → W p l e ({ frames := 2, cells := 0, slots := 0, locals := 49 } : Room) s m av below meth c H locs 0 0 (MQ below (st_Q D (w_X9_isHeld tc q_th q_th_text q_th_saying q_th_signs q_th_sets q_th_told q_th_up q_th_down q_th_world q_th_tight q_th_sum q_th_now q_a2 n_th_saying n_a2 th_thrown th_typed th_next th_token th_place th_value th_fault th_many th_signMany th_setMany th_corners th_isLoaded th_loaded th_widened th_wide th_boundUp th_boundDown th_saying a2) (some (.int r0)) A) av s 0 0 A) (F0 m 9 ls [])) (fun y9 : Int64 × Int64 => match y9 with | (x4, x6) => ∀ (H : Heap) (locs : List Loc) (ls : Array Slot), va_P D vwCl (w_X9_isHeld tc q_th q_th_text q_th_saying q_th_signs q_th_sets q_th_told q_th_up q_th_down q_th_world q_th_tight q_th_sum q_th_now q_a2 n_th_saying n_a2 th_thrown th_typed th_next th_token th_place th_value th_fault th_many th_signMany th_setMany th_corners th_isLoaded th_loaded th_widened th_wide th_boundUp th_boundDown th_saying a2) H → va_D A (w_X9_isHeld tc q_th q_th_text q_th_saying q_th_signs q_th_sets q_th_told q_th_up q_th_down q_th_world q_th_tight q_th_sum q_th_now q_a2 n_th_saying n_a2 th_thrown th_typed th_next th_token th_place th_value th_fault th_many th_signMany th_setMany th_corners th_isLoaded th_loaded th_widened th_wide th_boundUp th_boundDown th_saying a2) → va_S A s.heap H locs → lv_has ls 9 [(4, .long x4), (6, .long x6)] → W p l e ({ frames := 2, cells := 0, slots := 0, locals := 49 } : Room) s m av below meth c H locs 0 0 (MQ below (st_Q D (w_X9_isHeld tc q_th q_th_text q_th_saying q_th_signs q_th_sets q_th_told q_th_up q_th_down q_th_world q_th_tight q_th_sum q_th_now q_a2 n_th_saying n_a2 th_thrown th_typed th_next th_token th_place th_value th_fault th_many th_signMany th_setMany th_corners th_isLoaded th_loaded th_widened th_wide th_boundUp th_boundDown th_saying a2) (some (.int r0)) A) av s 0 0 A) (F0 m 64 ls [])) ?_
    rintro ⟨x4, x6, x8⟩ o h ih hz H locs ls hP hD hS hl
    unfold f_X9_isHeld_L9 at h
    refine lv_iload hx hb dX9_isHeld_9 (lv_at hl 6 rfl) ?_
    refine lv_bipush (v := (8 : Int32)) hx hb dX9_isHeld_11 (by decide) ?_
    refine lv_icmp_ge (tgt := 64) hx hb dX9_isHeld_13 (by decide) (fun c1 => ?_) (fun c1 => ?_)
    · replace h := ifp c1 h
      cases h
      exact hz _ rfl _ _ _ hP hD hS (lv_sub hl [4, 5] rfl)
    · replace h := ifn c1 h
      refine lv_lload hx hb dX9_isHeld_16 (lv_at hl 4 rfl) ?_
      refine lv_aload_n hx hb dX9_isHeld_18 rfl (lv_at hl 0 rfl) ?_
      refine lv_iload_n hx hb dX9_isHeld_19 rfl (lv_at hl 1 rfl) ?_
      refine lv_iconst (v := (0 : Int32)) hx hb dX9_isHeld_20 (by decide) ?_
      refine lv_iload hx hb dX9_isHeld_21 (lv_at hl 6 rfl) ?_
      obtain ⟨z2_0, hc2, h⟩ := bd_ok h
      refine st_callV (As := [.int x1, .int (0 : Int32), .int x8]) (rest := [.long x4]) (pos := [0, 1]) ⟨hx, hb, hml, hown, hts⟩ (s_X9_part (l := l) (D := D) (tc := tc) hEok q_th q_th_text q_th_saying q_th_signs q_th_sets q_th_told q_th_up q_th_down q_th_world q_th_tight q_th_sum q_th_now n_th_saying th_thrown th_typed th_next th_token th_place th_value th_fault th_many th_signMany th_setMany th_corners th_isLoaded th_loaded th_widened th_wide th_boundUp th_boundDown th_saying x1 (0 : Int32) x8 z2_0 hc2) (cwV 3 hts gX9_isHeld_X9_part rfl rfl rfl (by decide +kernel) ⟨Nat.le_of_ble_eq_true rfl, Nat.le_of_ble_eq_true rfl⟩) (st_recv (ci := 9) (q0 := 0) hK hP rfl rfl) hEok hE hK hN hP hD hS hA rfl rfl rfl rfl hl.1 rfl (Nat.le_of_ble_eq_true rfl) dX9_isHeld_23 ⟨Nat.zero_le _, Nat.zero_le _⟩ (fun H locs hP hD hS => ?_)
      have hP : va_P D vwCl (w_X9_isHeld tc q_th q_th_text q_th_saying q_th_signs q_th_sets q_th_told q_th_up q_th_down q_th_world q_th_tight q_th_sum q_th_now q_a2 n_th_saying n_a2 th_thrown th_typed th_next th_token th_place th_value th_fault th_many th_signMany th_setMany th_corners th_isLoaded th_loaded th_widened th_wide th_boundUp th_boundDown th_saying a2) H := hP
      have hD : va_D A (w_X9_isHeld tc q_th q_th_text q_th_saying q_th_signs q_th_sets q_th_told q_th_up q_th_down q_th_world q_th_tight q_th_sum q_th_now q_a2 n_th_saying n_a2 th_thrown th_typed th_next th_token th_place th_value th_fault th_many th_signMany th_setMany th_corners th_isLoaded th_loaded th_widened th_wide th_boundUp th_boundDown th_saying a2) := hD
      refine lv_i2l (v := z2_0.toInt64) hx hb dX9_isHeld_26 rfl ?_
      refine lv_aload_n hx hb dX9_isHeld_27 rfl (lv_at hl 2 rfl) ?_
      refine lv_iload_n hx hb dX9_isHeld_28 rfl (lv_at hl 3 rfl) ?_
      refine lv_iload hx hb dX9_isHeld_29 (lv_at hl 6 rfl) ?_
      refine lv_iadd hx hb dX9_isHeld_31 ?_
      obtain ⟨g3, h⟩ := gd_ok h
      refine va_lald hx hb hK hP 2 1 rfl rfl g3 dX9_isHeld_32 ?_
      refine lv_lmul hx hb dX9_isHeld_33 ?_
      refine lv_ladd hx hb dX9_isHeld_34 ?_
      refine lv_lstore (lv' := [(4, .long (x4 + (z2_0.toInt64 * (a2 (x3 + x8).toNatClampNeg)))), (0, .ref q_th), (1, .int x1), (2, .ref q_a2), (3, .int x3), (6, .long x6), (8, .int x8)]) hx hb dX9_isHeld_35 hl (by decide) rfl (fun ls hl => ?_)
      refine lv_lload hx hb dX9_isHeld_37 (lv_at hl 5 rfl) ?_
      refine lv_aload_n hx hb dX9_isHeld_39 rfl (lv_at hl 1 rfl) ?_
      refine lv_iload_n hx hb dX9_isHeld_40 rfl (lv_at hl 2 rfl) ?_
      refine lv_iconst (v := (1 : Int32)) hx hb dX9_isHeld_41 (by decide) ?_
      refine lv_iload hx hb dX9_isHeld_42 (lv_at hl 6 rfl) ?_
      obtain ⟨z4_0, hc4, h⟩ := bd_ok h
      refine st_callV (As := [.int x1, .int (1 : Int32), .int x8]) (rest := [.long x6]) (pos := [0, 1]) ⟨hx, hb, hml, hown, hts⟩ (s_X9_part (l := l) (D := D) (tc := tc) hEok q_th q_th_text q_th_saying q_th_signs q_th_sets q_th_told q_th_up q_th_down q_th_world q_th_tight q_th_sum q_th_now n_th_saying th_thrown th_typed th_next th_token th_place th_value th_fault th_many th_signMany th_setMany th_corners th_isLoaded th_loaded th_widened th_wide th_boundUp th_boundDown th_saying x1 (1 : Int32) x8 z4_0 hc4) (cwV 3 hts gX9_isHeld_X9_part rfl rfl rfl (by decide +kernel) ⟨Nat.le_of_ble_eq_true rfl, Nat.le_of_ble_eq_true rfl⟩) (st_recv (ci := 9) (q0 := 0) hK hP rfl rfl) hEok hE hK hN hP hD hS hA rfl rfl rfl rfl hl.1 rfl (Nat.le_of_ble_eq_true rfl) dX9_isHeld_44 ⟨Nat.zero_le _, Nat.zero_le _⟩ (fun H locs hP hD hS => ?_)
      have hP : va_P D vwCl (w_X9_isHeld tc q_th q_th_text q_th_saying q_th_signs q_th_sets q_th_told q_th_up q_th_down q_th_world q_th_tight q_th_sum q_th_now q_a2 n_th_saying n_a2 th_thrown th_typed th_next th_token th_place th_value th_fault th_many th_signMany th_setMany th_corners th_isLoaded th_loaded th_widened th_wide th_boundUp th_boundDown th_saying a2) H := hP
      have hD : va_D A (w_X9_isHeld tc q_th q_th_text q_th_saying q_th_signs q_th_sets q_th_told q_th_up q_th_down q_th_world q_th_tight q_th_sum q_th_now q_a2 n_th_saying n_a2 th_thrown th_typed th_next th_token th_place th_value th_fault th_many th_signMany th_setMany th_corners th_isLoaded th_loaded th_widened th_wide th_boundUp th_boundDown th_saying a2) := hD
      refine lv_i2l (v := z4_0.toInt64) hx hb dX9_isHeld_47 rfl ?_
      refine lv_aload_n hx hb dX9_isHeld_48 rfl (lv_at hl 3 rfl) ?_
      refine lv_iload_n hx hb dX9_isHeld_49 rfl (lv_at hl 4 rfl) ?_
      refine lv_iload hx hb dX9_isHeld_50 (lv_at hl 6 rfl) ?_
      refine lv_iadd hx hb dX9_isHeld_52 ?_
      obtain ⟨g5, h⟩ := gd_ok h
      refine va_lald hx hb hK hP 2 1 rfl rfl g5 dX9_isHeld_53 ?_
      refine lv_lmul hx hb dX9_isHeld_54 ?_
      refine lv_ladd hx hb dX9_isHeld_55 ?_
      refine lv_lstore (lv' := [(6, .long (x6 + (z4_0.toInt64 * (a2 (x3 + x8).toNatClampNeg)))), (4, .long (x4 + (z2_0.toInt64 * (a2 (x3 + x8).toNatClampNeg)))), (0, .ref q_th), (1, .int x1), (2, .ref q_a2), (3, .int x3), (8, .int x8)]) hx hb dX9_isHeld_56 hl (by decide) rfl (fun ls hl => ?_)
      refine lv_iinc (v := x8 + 1) (lv' := [(8, .int (x8 + 1)), (6, .long (x6 + (z4_0.toInt64 * (a2 (x3 + x8).toNatClampNeg)))), (4, .long (x4 + (z2_0.toInt64 * (a2 (x3 + x8).toNatClampNeg)))), (0, .ref q_th), (1, .int x1), (2, .ref q_a2), (3, .int x3)]) hx hb dX9_isHeld_58 hl (k := 6) rfl rfl (by decide) rfl (fun ls hl => ?_)
      refine lv_goto (tgt := 9) hx hb dX9_isHeld_61 (by decide) ?_
      cases h
      exact ih _ rfl _ _ _ hP hD hS (lv_sub hl [3, 4, 5, 6, 2, 1, 0] rfl)
  unfold f_X9_isHeld at h
  refine lv_lconst (v := (0 : Int64)) hx hb dX9_isHeld_0 (by decide) ?_
  refine lv_lstore (lv' := [(4, .long (0 : Int64)), (0, .ref q_th), (1, .int x1), (2, .ref q_a2), (3, .int x3)]) hx hb dX9_isHeld_1 hl (by decide) rfl (fun ls hl => ?_)
  refine lv_lconst (v := (0 : Int64)) hx hb dX9_isHeld_3 (by decide) ?_
  refine lv_lstore (lv' := [(6, .long (0 : Int64)), (4, .long (0 : Int64)), (0, .ref q_th), (1, .int x1), (2, .ref q_a2), (3, .int x3)]) hx hb dX9_isHeld_4 hl (by decide) rfl (fun ls hl => ?_)
  refine lv_iconst (v := (0 : Int32)) hx hb dX9_isHeld_6 (by decide) ?_
  refine lv_istore (lv' := [(8, .int (0 : Int32)), (6, .long (0 : Int64)), (4, .long (0 : Int64)), (0, .ref q_th), (1, .int x1), (2, .ref q_a2), (3, .int x3)]) hx hb dX9_isHeld_7 hl (by decide) rfl (fun ls hl => ?_)
  obtain ⟨⟨z6_0, z6_1⟩, hl6, h⟩ := bd_ok h
  refine L9 x1 x3 K _ _ hl6 ?_ _ _ _ hP hD hS (lv_sub hl [3, 4, 5, 6, 2, 1, 0] rfl)
  intro H locs ls hP hD hS hl
  refine lv_lload hx hb dX9_isHeld_64 (lv_at hl 0 rfl) ?_
  refine lv_lconst (v := (0 : Int64)) hx hb dX9_isHeld_66 (by decide) ?_
  refine W.lcmp hx hb dX9_isHeld_67 ?_
  refine lv_if_lt (tgt := 82) hx hb dX9_isHeld_68 (by decide) (fun c7 => ?_) (fun c7 => ?_)
  · replace h := ifp c7 h
    refine lv_iconst (v := (0 : Int32)) hx hb dX9_isHeld_82 (by decide) ?_
    cases h
    exact st_zret hx hb hr hlocks hP hD hS rfl dX9_isHeld_83
  · replace h := ifn c7 h
    refine lv_lload hx hb dX9_isHeld_71 (lv_at hl 1 rfl) ?_
    refine lv_lconst (v := (0 : Int64)) hx hb dX9_isHeld_73 (by decide) ?_
    refine W.lcmp hx hb dX9_isHeld_74 ?_
    refine lv_if_gt (tgt := 82) hx hb dX9_isHeld_75 (by decide) (fun c8 => ?_) (fun c8 => ?_)
    · replace h := ifp c8 h
      refine lv_iconst (v := (0 : Int32)) hx hb dX9_isHeld_82 (by decide) ?_
      cases h
      exact st_zret hx hb hr hlocks hP hD hS rfl dX9_isHeld_83
    · replace h := ifn c8 h
      refine lv_iconst (v := (1 : Int32)) hx hb dX9_isHeld_78 (by decide) ?_
      refine lv_goto (tgt := 83) hx hb dX9_isHeld_79 (by decide) ?_
      cases h
      exact st_zret hx hb hr hlocks hP hD hS rfl dX9_isHeld_83
def f_X9_ones_L4 (x0 : Int32) (s4 : Int32 × Int32) : Option ((Int32) ⊕ (Int32 × Int32)) :=
  match s4 with
  | (x1, x2) =>
    if (8 : Int32) ≤ x2 then
      some (.inl x1)
    else
      some (.inr (x1 + ((x0 >>> (x2 &&& 31)) &&& (1 : Int32)), x2 + 1))
def f_X9_ones (K : Nat) (x0 : Int32) : Option (Int32) :=
  (lp (f_X9_ones_L4 x0) K ((0 : Int32), (0 : Int32))).bind fun z2_0 =>
  some z2_0
abbrev w_X9_ones : va_W := []
set_option maxHeartbeats 4000000 in
set_option maxRecDepth 100000 in
theorem s_X9_ones {l : Launch} {E : (Nat → Prop) → State → Prop} (hEok : st_Eok E) {D : va_G} {tc : Nat → ClassId} (x0 : Int32) (K : Nat) (r0 : Int32) (h : f_X9_ones K x0 = some r0) : st l yX9_ones wsX9_ones ({ frames := 0, cells := 0, slots := 0, locals := 0 }) E D tc [.int x0] w_X9_ones (some (.int r0)) w_X9_ones := by
  refine st_enter (cc := cX9_ones) (maxL := 3) (ret := (some .int)) (by decide) rfl (Nat.le_of_ble_eq_true rfl) ?_
  intro p e s m below meth c A ls hx hb hr hml hts hown hlocks hK hN hE hA hP hD hS hl
  have hl : lv_has ls 3 [(0, .int x0)] := hl
  generalize hav : ([.int x0] : List Value).toArray = av at hts ⊢
  have L4 : ∀ (x0 : Int32), ∀ (k : Nat) (s4 : Int32 × Int32) (r : Int32), lp (f_X9_ones_L4 x0) k s4 = some r → (fun x1 : Int32 => ∀ (H : Heap) (locs : List Loc) (ls : Array Slot), va_P D vwCl w_X9_ones H → va_D A w_X9_ones → va_S A s.heap H locs → lv_has ls 3 [(1, .int x1)] → W p l e ({ frames := 0, cells := 0, slots := 0, locals := 0 } : Room) s m av below meth c H locs 0 0 (MQ below (st_Q D w_X9_ones (some (.int r0)) A) av s 0 0 A) (F0 m 24 ls [])) r → (fun s4 : Int32 × Int32 => match s4 with | (x1, x2) => ∀ (H : Heap) (locs : List Loc) (ls : Array Slot), va_P D vwCl w_X9_ones H → va_D A w_X9_ones → va_S A s.heap H locs → lv_has ls 3 [(0, .int x0), (1, .int x1), (2, .int x2)] → W p l e ({ frames := 0, cells := 0, slots := 0, locals := 0 } : Room) s m av below meth c H locs 0 0 (MQ below (st_Q D w_X9_ones (some (.int r0)) A) av s 0 0 A) (F0 m 4 ls [])) s4 := by
    intro x0
    refine lp_W (f_X9_ones_L4 x0) (fun s4 : Int32 × Int32 => match s4 with | (x1, x2) => ∀ (H : Heap) (locs : List Loc) (ls : Array Slot), va_P D vwCl w_X9_ones H → va_D A w_X9_ones → va_S A s.heap H locs → lv_has ls 3 [(0, .int x0), (1, .int x1), (2, .int x2)] → W p l e ({ frames := 0, cells := 0, slots := 0, locals := 0 } : Room) s m av below meth c H locs 0 0 (MQ below (st_Q D w_X9_ones (some (.int r0)) A) av s 0 0 A) (F0 m 4 ls [])) (fun x1 : Int32 => ∀ (H : Heap) (locs : List Loc) (ls : Array Slot), va_P D vwCl w_X9_ones H → va_D A w_X9_ones → va_S A s.heap H locs → lv_has ls 3 [(1, .int x1)] → W p l e ({ frames := 0, cells := 0, slots := 0, locals := 0 } : Room) s m av below meth c H locs 0 0 (MQ below (st_Q D w_X9_ones (some (.int r0)) A) av s 0 0 A) (F0 m 24 ls [])) ?_
    rintro ⟨x1, x2⟩ o h ih hz H locs ls hP hD hS hl
    unfold f_X9_ones_L4 at h
    refine lv_iload_n hx hb dX9_ones_4 rfl (lv_at hl 2 rfl) ?_
    refine lv_bipush (v := (8 : Int32)) hx hb dX9_ones_5 (by decide) ?_
    refine lv_icmp_ge (tgt := 24) hx hb dX9_ones_7 (by decide) (fun c1 => ?_) (fun c1 => ?_)
    · replace h := ifp c1 h
      cases h
      exact hz _ rfl _ _ _ hP hD hS (lv_sub hl [1] rfl)
    · replace h := ifn c1 h
      refine lv_iload_n hx hb dX9_ones_10 rfl (lv_at hl 1 rfl) ?_
      refine lv_iload_n hx hb dX9_ones_11 rfl (lv_at hl 0 rfl) ?_
      refine lv_iload_n hx hb dX9_ones_12 rfl (lv_at hl 2 rfl) ?_
      refine lv_ishr hx hb dX9_ones_13 ?_
      refine lv_iconst (v := (1 : Int32)) hx hb dX9_ones_14 (by decide) ?_
      refine lv_iand hx hb dX9_ones_15 ?_
      refine lv_iadd hx hb dX9_ones_16 ?_
      refine lv_istore_n (lv' := [(1, .int (x1 + ((x0 >>> (x2 &&& 31)) &&& (1 : Int32)))), (0, .int x0), (2, .int x2)]) hx hb dX9_ones_17 rfl hl (by decide) rfl (fun ls hl => ?_)
      refine lv_iinc (v := x2 + 1) (lv' := [(2, .int (x2 + 1)), (1, .int (x1 + ((x0 >>> (x2 &&& 31)) &&& (1 : Int32)))), (0, .int x0)]) hx hb dX9_ones_18 hl (k := 2) rfl rfl (by decide) rfl (fun ls hl => ?_)
      refine lv_goto (tgt := 4) hx hb dX9_ones_21 (by decide) ?_
      cases h
      exact ih _ rfl _ _ _ hP hD hS (lv_sub hl [2, 1, 0] rfl)
  unfold f_X9_ones at h
  refine lv_iconst (v := (0 : Int32)) hx hb dX9_ones_0 (by decide) ?_
  refine lv_istore_n (lv' := [(1, .int (0 : Int32)), (0, .int x0)]) hx hb dX9_ones_1 rfl hl (by decide) rfl (fun ls hl => ?_)
  refine lv_iconst (v := (0 : Int32)) hx hb dX9_ones_2 (by decide) ?_
  refine lv_istore_n (lv' := [(2, .int (0 : Int32)), (1, .int (0 : Int32)), (0, .int x0)]) hx hb dX9_ones_3 rfl hl (by decide) rfl (fun ls hl => ?_)
  obtain ⟨z2_0, hl2, h⟩ := bd_ok h
  refine L4 x0 K _ _ hl2 ?_ _ _ _ hP hD hS (lv_sub hl [2, 1, 0] rfl)
  intro H locs ls hP hD hS hl
  refine lv_iload_n hx hb dX9_ones_24 rfl (lv_at hl 0 rfl) ?_
  cases h
  exact st_iret hx hb hr hlocks hP hD hS dX9_ones_25

def f_X9_quarrel_J68 (K : Nat) (n_th_saying : Nat) (n_th_up : Nat) (n_th_down : Nat) (n_th_world : Nat) (n_th_tight : Nat) (n_th_sum : Nat) (n_th_now : Nat) (th_many : Int32) (th_corners : Int32) (th_isLoaded : Int32) (th_loaded : Int32) (th_widened : Int32) (th_wide : Int32) (th_saying : Nat → Int32) (th_up : Nat → Int64) (th_down : Nat → Int64) (th_world : Nat → Int32) (th_tight : Nat → Int32) (th_sum : Nat → Int64) (th_now : Nat → Int64) (x3 : Int32) (x4 : Int32) : Option ((Int32 × Int32 × Int32 × Int32 × (Nat → Int64) × (Nat → Int64) × (Nat → Int32) × (Nat → Int32) × (Nat → Int64) × (Nat → Int64)) ⊕ (Int32 × Int32 × Int32 × Int32 × Int32 × (Nat → Int64) × (Nat → Int64) × (Nat → Int32) × (Nat → Int32) × (Nat → Int64) × (Nat → Int64))) :=
  if (0 : Int32) = (0 : Int32) then
    some (.inr (x3, x4 + 1, th_corners, th_isLoaded, th_loaded, th_up, th_down, th_world, th_tight, th_sum, th_now))
  else
    (f_X9_loads K n_th_saying n_th_up n_th_down n_th_world n_th_tight n_th_sum n_th_now th_many th_corners th_isLoaded th_loaded th_widened th_wide th_saying th_up th_down th_world th_tight th_sum th_now x4).bind fun z2 => match z2 with
    | (z2_0, z2_1, z2_2, z2_3, z2_4, z2_5, z2_6, z2_7, z2_8, z2_9) =>
      if z2_0 = (0 : Int32) then
        some (.inr (x4, x4 + 1, z2_1, z2_2, z2_3, z2_4, z2_5, z2_6, z2_7, z2_8, z2_9))
      else
        some (.inr (x3, x4 + 1, z2_1, z2_2, z2_3, z2_4, z2_5, z2_6, z2_7, z2_8, z2_9))
def f_X9_quarrel_J64 (K : Nat) (n_th_saying : Nat) (n_th_up : Nat) (n_th_down : Nat) (n_th_world : Nat) (n_th_tight : Nat) (n_th_sum : Nat) (n_th_now : Nat) (th_many : Int32) (th_corners : Int32) (th_isLoaded : Int32) (th_loaded : Int32) (th_widened : Int32) (th_wide : Int32) (th_saying : Nat → Int32) (th_up : Nat → Int64) (th_down : Nat → Int64) (th_world : Nat → Int32) (th_tight : Nat → Int32) (th_sum : Nat → Int64) (th_now : Nat → Int64) (x3 : Int32) (x4 : Int32) : Option ((Int32 × Int32 × Int32 × Int32 × (Nat → Int64) × (Nat → Int64) × (Nat → Int32) × (Nat → Int32) × (Nat → Int64) × (Nat → Int64)) ⊕ (Int32 × Int32 × Int32 × Int32 × Int32 × (Nat → Int64) × (Nat → Int64) × (Nat → Int32) × (Nat → Int32) × (Nat → Int64) × (Nat → Int64))) :=
  if (1 : Int32) = (0 : Int32) then
    some (.inr (x3, x4 + 1, th_corners, th_isLoaded, th_loaded, th_up, th_down, th_world, th_tight, th_sum, th_now))
  else
    (f_X9_loads K n_th_saying n_th_up n_th_down n_th_world n_th_tight n_th_sum n_th_now th_many th_corners th_isLoaded th_loaded th_widened th_wide th_saying th_up th_down th_world th_tight th_sum th_now x4).bind fun z5 => match z5 with
    | (z5_0, z5_1, z5_2, z5_3, z5_4, z5_5, z5_6, z5_7, z5_8, z5_9) =>
      if z5_0 = (0 : Int32) then
        some (.inr (x4, x4 + 1, z5_1, z5_2, z5_3, z5_4, z5_5, z5_6, z5_7, z5_8, z5_9))
      else
        some (.inr (x3, x4 + 1, z5_1, z5_2, z5_3, z5_4, z5_5, z5_6, z5_7, z5_8, z5_9))
def f_X9_quarrel_L30 (K : Nat) (n_th_saying : Nat) (n_th_up : Nat) (n_th_down : Nat) (n_th_world : Nat) (n_th_tight : Nat) (n_th_sum : Nat) (n_th_now : Nat) (th_many : Int32) (th_widened : Int32) (th_wide : Int32) (th_saying : Nat → Int32) (x2 : Int32) (s30 : Int32 × Int32 × Int32 × Int32 × Int32 × (Nat → Int64) × (Nat → Int64) × (Nat → Int32) × (Nat → Int32) × (Nat → Int64) × (Nat → Int64)) : Option ((Int32 × Int32 × Int32 × Int32 × (Nat → Int64) × (Nat → Int64) × (Nat → Int32) × (Nat → Int32) × (Nat → Int64) × (Nat → Int64)) ⊕ (Int32 × Int32 × Int32 × Int32 × Int32 × (Nat → Int64) × (Nat → Int64) × (Nat → Int32) × (Nat → Int32) × (Nat → Int64) × (Nat → Int64))) :=
  match s30 with
  | (x3, x4, th_corners, th_isLoaded, th_loaded, th_up, th_down, th_world, th_tight, th_sum, th_now) =>
    if (16 : Int32) ≤ x4 then
      some (.inl (x3, th_corners, th_isLoaded, th_loaded, th_up, th_down, th_world, th_tight, th_sum, th_now))
    else
      if (x4 &&& (x2 ^^^ (-1 : Int32))) = (0 : Int32) then
        if x3 = (-9 : Int32) then
          f_X9_quarrel_J64 K n_th_saying n_th_up n_th_down n_th_world n_th_tight n_th_sum n_th_now th_many th_corners th_isLoaded th_loaded th_widened th_wide th_saying th_up th_down th_world th_tight th_sum th_now x3 x4
        else
          (f_X9_ones K x4).bind fun z10_0 =>
          (f_X9_ones K x3).bind fun z11_0 =>
          if z11_0 ≤ z10_0 then
            f_X9_quarrel_J68 K n_th_saying n_th_up n_th_down n_th_world n_th_tight n_th_sum n_th_now th_many th_corners th_isLoaded th_loaded th_widened th_wide th_saying th_up th_down th_world th_tight th_sum th_now x3 x4
          else
            f_X9_quarrel_J64 K n_th_saying n_th_up n_th_down n_th_world n_th_tight n_th_sum n_th_now th_many th_corners th_isLoaded th_loaded th_widened th_wide th_saying th_up th_down th_world th_tight th_sum th_now x3 x4
      else
        f_X9_quarrel_J68 K n_th_saying n_th_up n_th_down n_th_world n_th_tight n_th_sum n_th_now th_many th_corners th_isLoaded th_loaded th_widened th_wide th_saying th_up th_down th_world th_tight th_sum th_now x3 x4
def f_X9_quarrel (K : Nat) (n_th_saying : Nat) (n_th_up : Nat) (n_th_down : Nat) (n_th_world : Nat) (n_th_tight : Nat) (n_th_sum : Nat) (n_th_now : Nat) (th_many : Int32) (th_corners : Int32) (th_isLoaded : Int32) (th_loaded : Int32) (th_widened : Int32) (th_wide : Int32) (th_saying : Nat → Int32) (th_up : Nat → Int64) (th_down : Nat → Int64) (th_world : Nat → Int32) (th_tight : Nat → Int32) (th_sum : Nat → Int64) (th_now : Nat → Int64) (x1 : Int32) : Option (Int32 × Int32 × Int32 × Int32 × Int32 × Int32 × (Nat → Int64) × (Nat → Int64) × (Nat → Int32) × (Nat → Int32) × (Nat → Int64) × (Nat → Int64)) :=
  (f_X9_isBit x1).bind fun z13_0 =>
  if z13_0 = (0 : Int32) then
    some ((-1 : Int32), (0 : Int32), th_corners, th_isLoaded, th_loaded, th_widened, th_up, th_down, th_world, th_tight, th_sum, th_now)
  else
    (f_X9_ons K n_th_saying th_many th_saying).bind fun z15_0 =>
    (lp (f_X9_quarrel_L30 K n_th_saying n_th_up n_th_down n_th_world n_th_tight n_th_sum n_th_now th_many (0 : Int32) th_wide th_saying z15_0) K ((-9 : Int32), (0 : Int32), th_corners, th_isLoaded, th_loaded, th_up, th_down, th_world, th_tight, th_sum, th_now)).bind fun z16 => match z16 with
    | (z16_0, z16_1, z16_2, z16_3, z16_4, z16_5, z16_6, z16_7, z16_8, z16_9) =>
      if z16_0 = (-9 : Int32) then
        some (z16_0, (0 : Int32), z16_1, z16_2, z16_3, (0 : Int32), z16_4, z16_5, z16_6, z16_7, z16_8, z16_9)
      else
        if x1 = (1 : Int32) then
          some (z16_0, (0 : Int32), z16_1, z16_2, z16_3, (0 : Int32), z16_4, z16_5, z16_6, z16_7, z16_8, z16_9)
        else
          (f_X9_ones K z16_0).bind fun z19_0 =>
          some (z19_0, (0 : Int32), z16_1, z16_2, z16_3, (0 : Int32), z16_4, z16_5, z16_6, z16_7, z16_8, z16_9)
abbrev w_X9_quarrel (tc : Nat → ClassId) (q_th : Nat) (q_th_text : Nat) (q_th_saying : Nat) (q_th_signs : Nat) (q_th_sets : Nat) (q_th_told : Nat) (q_th_up : Nat) (q_th_down : Nat) (q_th_world : Nat) (q_th_tight : Nat) (q_th_sum : Nat) (q_th_now : Nat) (n_th_saying : Nat) (n_th_up : Nat) (n_th_down : Nat) (n_th_world : Nat) (n_th_tight : Nat) (n_th_sum : Nat) (n_th_now : Nat) (th_thrown : Int32) (th_typed : Int32) (th_next : Int32) (th_token : Int32) (th_place : Int32) (th_value : Int32) (th_fault : Int32) (th_many : Int32) (th_signMany : Int32) (th_setMany : Int32) (th_corners : Int32) (th_isLoaded : Int32) (th_loaded : Int32) (th_widened : Int32) (th_wide : Int32) (th_boundUp : Int64) (th_boundDown : Int64) (th_saying : Nat → Int32) (th_up : Nat → Int64) (th_down : Nat → Int64) (th_world : Nat → Int32) (th_tight : Nat → Int32) (th_sum : Nat → Int64) (th_now : Nat → Int64) : va_W := [(q_th, .inr (9, [.int th_thrown, .ref q_th_text, .int th_typed, .int th_next, .int th_token, .int th_place, .int th_value, .int th_fault, .int th_many, .ref q_th_saying, .ref q_th_signs, .ref q_th_sets, .int th_signMany, .int th_setMany, .ref q_th_told, .int th_corners, .int th_isLoaded, .int th_loaded, .ref q_th_up, .ref q_th_down, .ref q_th_world, .ref q_th_tight, .ref q_th_sum, .ref q_th_now, .int th_widened, .int th_wide, .long th_boundUp, .long th_boundDown])), (q_th_saying, .inl (tc 0, n_th_saying, .inl th_saying)), (q_th_up, .inl (tc 1, n_th_up, .inr (.inl th_up))), (q_th_down, .inl (tc 1, n_th_down, .inr (.inl th_down))), (q_th_world, .inl (tc 0, n_th_world, .inl th_world)), (q_th_tight, .inl (tc 0, n_th_tight, .inl th_tight)), (q_th_sum, .inl (tc 1, n_th_sum, .inr (.inl th_sum))), (q_th_now, .inl (tc 1, n_th_now, .inr (.inl th_now)))]
theorem wa_X9_quarrel {tc : Nat → ClassId} {q_th : Nat} {q_th_text : Nat} {q_th_saying : Nat} {q_th_signs : Nat} {q_th_sets : Nat} {q_th_told : Nat} {q_th_up : Nat} {q_th_down : Nat} {q_th_world : Nat} {q_th_tight : Nat} {q_th_sum : Nat} {q_th_now : Nat} {n_th_saying : Nat} {n_th_up : Nat} {n_th_down : Nat} {n_th_world : Nat} {n_th_tight : Nat} {n_th_sum : Nat} {n_th_now : Nat} {th_thrown : Int32} {th_typed : Int32} {th_next : Int32} {th_token : Int32} {th_place : Int32} {th_value : Int32} {th_fault : Int32} {th_many : Int32} {th_signMany : Int32} {th_setMany : Int32} {th_corners : Int32} {th_isLoaded : Int32} {th_loaded : Int32} {th_widened : Int32} {th_wide : Int32} {th_boundUp : Int64} {th_boundDown : Int64} {th_saying : Nat → Int32} {th_up : Nat → Int64} {th_down : Nat → Int64} {th_world : Nat → Int32} {th_tight : Nat → Int32} {th_sum : Nat → Int64} {th_now : Nat → Int64} : (w_X9_quarrel tc q_th q_th_text q_th_saying q_th_signs q_th_sets q_th_told q_th_up q_th_down q_th_world q_th_tight q_th_sum q_th_now n_th_saying n_th_up n_th_down n_th_world n_th_tight n_th_sum n_th_now th_thrown th_typed th_next th_token th_place th_value th_fault th_many th_signMany th_setMany th_corners th_isLoaded th_loaded th_widened th_wide th_boundUp th_boundDown th_saying th_up th_down th_world th_tight th_sum th_now).map (fun q => q.1) = [q_th, q_th_saying, q_th_up, q_th_down, q_th_world, q_th_tight, q_th_sum, q_th_now] := rfl
set_option maxHeartbeats 4000000 in
set_option maxRecDepth 100000 in
theorem s_X9_quarrel {l : Launch} {E : (Nat → Prop) → State → Prop} (hEok : st_Eok E) {D : va_G} {tc : Nat → ClassId} (q_th : Nat) (q_th_text : Nat) (q_th_saying : Nat) (q_th_signs : Nat) (q_th_sets : Nat) (q_th_told : Nat) (q_th_up : Nat) (q_th_down : Nat) (q_th_world : Nat) (q_th_tight : Nat) (q_th_sum : Nat) (q_th_now : Nat) (n_th_saying : Nat) (n_th_up : Nat) (n_th_down : Nat) (n_th_world : Nat) (n_th_tight : Nat) (n_th_sum : Nat) (n_th_now : Nat) (th_thrown : Int32) (th_typed : Int32) (th_next : Int32) (th_token : Int32) (th_place : Int32) (th_value : Int32) (th_fault : Int32) (th_many : Int32) (th_signMany : Int32) (th_setMany : Int32) (th_corners : Int32) (th_isLoaded : Int32) (th_loaded : Int32) (th_widened : Int32) (th_wide : Int32) (th_boundUp : Int64) (th_boundDown : Int64) (th_saying : Nat → Int32) (th_up : Nat → Int64) (th_down : Nat → Int64) (th_world : Nat → Int32) (th_tight : Nat → Int32) (th_sum : Nat → Int64) (th_now : Nat → Int64) (x1 : Int32) (K : Nat) (r0 : Int32) (th_thrown' : Int32) (th_corners' : Int32) (th_isLoaded' : Int32) (th_loaded' : Int32) (th_widened' : Int32) (th_up' : Nat → Int64) (th_down' : Nat → Int64) (th_world' : Nat → Int32) (th_tight' : Nat → Int32) (th_sum' : Nat → Int64) (th_now' : Nat → Int64) (h : f_X9_quarrel K n_th_saying n_th_up n_th_down n_th_world n_th_tight n_th_sum n_th_now th_many th_corners th_isLoaded th_loaded th_widened th_wide th_saying th_up th_down th_world th_tight th_sum th_now x1 = some (r0, th_thrown', th_corners', th_isLoaded', th_loaded', th_widened', th_up', th_down', th_world', th_tight', th_sum', th_now')) : st l yX9_quarrel wsX9_quarrel ({ frames := 5, cells := 0, slots := 0, locals := 138 }) E D tc [.ref q_th, .int x1] (w_X9_quarrel tc q_th q_th_text q_th_saying q_th_signs q_th_sets q_th_told q_th_up q_th_down q_th_world q_th_tight q_th_sum q_th_now n_th_saying n_th_up n_th_down n_th_world n_th_tight n_th_sum n_th_now th_thrown th_typed th_next th_token th_place th_value th_fault th_many th_signMany th_setMany th_corners th_isLoaded th_loaded th_widened th_wide th_boundUp th_boundDown th_saying th_up th_down th_world th_tight th_sum th_now) (some (.int r0)) (w_X9_quarrel tc q_th q_th_text q_th_saying q_th_signs q_th_sets q_th_told q_th_up q_th_down q_th_world q_th_tight q_th_sum q_th_now n_th_saying n_th_up n_th_down n_th_world n_th_tight n_th_sum n_th_now th_thrown' th_typed th_next th_token th_place th_value th_fault th_many th_signMany th_setMany th_corners' th_isLoaded' th_loaded' th_widened' th_wide th_boundUp th_boundDown th_saying th_up' th_down' th_world' th_tight' th_sum' th_now') := by
  refine st_enter (cc := cX9_quarrel) (maxL := 6) (ret := (some .int)) (by decide) rfl (Nat.le_of_ble_eq_true rfl) ?_
  intro p e s m below meth c A ls hx hb hr hml hts hown hlocks hK hN hE hA hP hD hS hl
  have hl : lv_has ls 6 [(0, .ref q_th), (1, .int x1)] := hl
  have hinX9 : ∀ w ∈ wsX90, w ∈ wsX9_quarrel := by decide +kernel
  generalize hav : ([.ref q_th, .int x1] : List Value).toArray = av at hts ⊢
  have L30 : ∀ (x1 : Int32) (x2 : Int32) (th_thrown : Int32) (th_widened : Int32), ∀ (k : Nat) (s30 : Int32 × Int32 × Int32 × Int32 × Int32 × (Nat → Int64) × (Nat → Int64) × (Nat → Int32) × (Nat → Int32) × (Nat → Int64) × (Nat → Int64)) (r : Int32 × Int32 × Int32 × Int32 × (Nat → Int64) × (Nat → Int64) × (Nat → Int32) × (Nat → Int32) × (Nat → Int64) × (Nat → Int64)), lp (f_X9_quarrel_L30 K n_th_saying n_th_up n_th_down n_th_world n_th_tight n_th_sum n_th_now th_many th_widened th_wide th_saying x2) k s30 = some r → (fun y30 : Int32 × Int32 × Int32 × Int32 × (Nat → Int64) × (Nat → Int64) × (Nat → Int32) × (Nat → Int32) × (Nat → Int64) × (Nat → Int64) => match y30 with | (x3, th_corners, th_isLoaded, th_loaded, th_up, th_down, th_world, th_tight, th_sum, th_now) => ∀ (H : Heap) (locs : List Loc) (ls : Array Slot), va_P D vwCl (w_X9_quarrel tc q_th q_th_text q_th_saying q_th_signs q_th_sets q_th_told q_th_up q_th_down q_th_world q_th_tight q_th_sum q_th_now n_th_saying n_th_up n_th_down n_th_world n_th_tight n_th_sum n_th_now th_thrown th_typed th_next th_token th_place th_value th_fault th_many th_signMany th_setMany th_corners th_isLoaded th_loaded th_widened th_wide th_boundUp th_boundDown th_saying th_up th_down th_world th_tight th_sum th_now) H → va_D A (w_X9_quarrel tc q_th q_th_text q_th_saying q_th_signs q_th_sets q_th_told q_th_up q_th_down q_th_world q_th_tight q_th_sum q_th_now n_th_saying n_th_up n_th_down n_th_world n_th_tight n_th_sum n_th_now th_thrown th_typed th_next th_token th_place th_value th_fault th_many th_signMany th_setMany th_corners th_isLoaded th_loaded th_widened th_wide th_boundUp th_boundDown th_saying th_up th_down th_world th_tight th_sum th_now) → va_S A s.heap H locs → lv_has ls 6 [(1, .int x1), (3, .int x3)] → W p l e ({ frames := 5, cells := 0, slots := 0, locals := 138 } : Room) s m av below meth c H locs 0 0 (MQ below (st_Q D (w_X9_quarrel tc q_th q_th_text q_th_saying q_th_signs q_th_sets q_th_told q_th_up q_th_down q_th_world q_th_tight q_th_sum q_th_now n_th_saying n_th_up n_th_down n_th_world n_th_tight n_th_sum n_th_now th_thrown' th_typed th_next th_token th_place th_value th_fault th_many th_signMany th_setMany th_corners' th_isLoaded' th_loaded' th_widened' th_wide th_boundUp th_boundDown th_saying th_up' th_down' th_world' th_tight' th_sum' th_now') (some (.int r0)) A) av s 0 0 A) (F0 m 98 ls [])) r → (fun s30 : Int32 × Int32 × Int32 × Int32 × Int32 × (Nat → Int64) × (Nat → Int64) × (Nat → Int32) × (Nat → Int32) × (Nat → Int64) × (Nat → Int64) => match s30 with | (x3, x4, th_corners, th_isLoaded, th_loaded, th_up, th_down, th_world, th_tight, th_sum, th_now) => ∀ (H : Heap) (locs : List Loc) (ls : Array Slot), va_P D vwCl (w_X9_quarrel tc q_th q_th_text q_th_saying q_th_signs q_th_sets q_th_told q_th_up q_th_down q_th_world q_th_tight q_th_sum q_th_now n_th_saying n_th_up n_th_down n_th_world n_th_tight n_th_sum n_th_now th_thrown th_typed th_next th_token th_place th_value th_fault th_many th_signMany th_setMany th_corners th_isLoaded th_loaded th_widened th_wide th_boundUp th_boundDown th_saying th_up th_down th_world th_tight th_sum th_now) H → va_D A (w_X9_quarrel tc q_th q_th_text q_th_saying q_th_signs q_th_sets q_th_told q_th_up q_th_down q_th_world q_th_tight q_th_sum q_th_now n_th_saying n_th_up n_th_down n_th_world n_th_tight n_th_sum n_th_now th_thrown th_typed th_next th_token th_place th_value th_fault th_many th_signMany th_setMany th_corners th_isLoaded th_loaded th_widened th_wide th_boundUp th_boundDown th_saying th_up th_down th_world th_tight th_sum th_now) → va_S A s.heap H locs → lv_has ls 6 [(0, .ref q_th), (1, .int x1), (2, .int x2), (3, .int x3), (4, .int x4)] → W p l e ({ frames := 5, cells := 0, slots := 0, locals := 138 } : Room) s m av below meth c H locs 0 0 (MQ below (st_Q D (w_X9_quarrel tc q_th q_th_text q_th_saying q_th_signs q_th_sets q_th_told q_th_up q_th_down q_th_world q_th_tight q_th_sum q_th_now n_th_saying n_th_up n_th_down n_th_world n_th_tight n_th_sum n_th_now th_thrown' th_typed th_next th_token th_place th_value th_fault th_many th_signMany th_setMany th_corners' th_isLoaded' th_loaded' th_widened' th_wide th_boundUp th_boundDown th_saying th_up' th_down' th_world' th_tight' th_sum' th_now') (some (.int r0)) A) av s 0 0 A) (F0 m 30 ls [])) s30 := by
    intro x1 x2 th_thrown th_widened
    refine lp_W (f_X9_quarrel_L30 K n_th_saying n_th_up n_th_down n_th_world n_th_tight n_th_sum n_th_now th_many th_widened th_wide th_saying x2) (fun s30 : Int32 × Int32 × Int32 × Int32 × Int32 × (Nat → Int64) × (Nat → Int64) × (Nat → Int32) × (Nat → Int32) × (Nat → Int64) × (Nat → Int64) => match s30 with | (x3, x4, th_corners, th_isLoaded, th_loaded, th_up, th_down, th_world, th_tight, th_sum, th_now) => ∀ (H : Heap) (locs : List Loc) (ls : Array Slot), va_P D vwCl (w_X9_quarrel tc q_th q_th_text q_th_saying q_th_signs q_th_sets q_th_told q_th_up q_th_down q_th_world q_th_tight q_th_sum q_th_now n_th_saying n_th_up n_th_down n_th_world n_th_tight n_th_sum n_th_now th_thrown th_typed th_next th_token th_place th_value th_fault th_many th_signMany th_setMany th_corners th_isLoaded th_loaded th_widened th_wide th_boundUp th_boundDown th_saying th_up th_down th_world th_tight th_sum th_now) H → va_D A (w_X9_quarrel tc q_th q_th_text q_th_saying q_th_signs q_th_sets q_th_told q_th_up q_th_down q_th_world q_th_tight q_th_sum q_th_now n_th_saying n_th_up n_th_down n_th_world n_th_tight n_th_sum n_th_now th_thrown th_typed th_next th_token th_place th_value th_fault th_many th_signMany th_setMany th_corners th_isLoaded th_loaded th_widened th_wide th_boundUp th_boundDown th_saying th_up th_down th_world th_tight th_sum th_now) → va_S A s.heap H locs → lv_has ls 6 [(0, .ref q_th), (1, .int x1), (2, .int x2), (3, .int x3), (4, .int x4)] → W p l e ({ frames := 5, cells := 0, slots := 0, locals := 138 } : Room) s m av below meth c H locs 0 0 (MQ below (st_Q D (w_X9_quarrel tc q_th q_th_text q_th_saying q_th_signs q_th_sets q_th_told q_th_up q_th_down q_th_world q_th_tight q_th_sum q_th_now n_th_saying n_th_up n_th_down n_th_world n_th_tight n_th_sum n_th_now th_thrown' th_typed th_next th_token th_place th_value th_fault th_many th_signMany th_setMany th_corners' th_isLoaded' th_loaded' th_widened' th_wide th_boundUp th_boundDown th_saying th_up' th_down' th_world' th_tight' th_sum' th_now') (some (.int r0)) A) av s 0 0 A) (F0 m 30 ls [])) (fun y30 : Int32 × Int32 × Int32 × Int32 × (Nat → Int64) × (Nat → Int64) × (Nat → Int32) × (Nat → Int32) × (Nat → Int64) × (Nat → Int64) => match y30 with | (x3, th_corners, th_isLoaded, th_loaded, th_up, th_down, th_world, th_tight, th_sum, th_now) => ∀ (H : Heap) (locs : List Loc) (ls : Array Slot), va_P D vwCl (w_X9_quarrel tc q_th q_th_text q_th_saying q_th_signs q_th_sets q_th_told q_th_up q_th_down q_th_world q_th_tight q_th_sum q_th_now n_th_saying n_th_up n_th_down n_th_world n_th_tight n_th_sum n_th_now th_thrown th_typed th_next th_token th_place th_value th_fault th_many th_signMany th_setMany th_corners th_isLoaded th_loaded th_widened th_wide th_boundUp th_boundDown th_saying th_up th_down th_world th_tight th_sum th_now) H → va_D A (w_X9_quarrel tc q_th q_th_text q_th_saying q_th_signs q_th_sets q_th_told q_th_up q_th_down q_th_world q_th_tight q_th_sum q_th_now n_th_saying n_th_up n_th_down n_th_world n_th_tight n_th_sum n_th_now th_thrown th_typed th_next th_token th_place th_value th_fault th_many th_signMany th_setMany th_corners th_isLoaded th_loaded th_widened th_wide th_boundUp th_boundDown th_saying th_up th_down th_world th_tight th_sum th_now) → va_S A s.heap H locs → lv_has ls 6 [(1, .int x1), (3, .int x3)] → W p l e ({ frames := 5, cells := 0, slots := 0, locals := 138 } : Room) s m av below meth c H locs 0 0 (MQ below (st_Q D (w_X9_quarrel tc q_th q_th_text q_th_saying q_th_signs q_th_sets q_th_told q_th_up q_th_down q_th_world q_th_tight q_th_sum q_th_now n_th_saying n_th_up n_th_down n_th_world n_th_tight n_th_sum n_th_now th_thrown' th_typed th_next th_token th_place th_value th_fault th_many th_signMany th_setMany th_corners' th_isLoaded' th_loaded' th_widened' th_wide th_boundUp th_boundDown th_saying th_up' th_down' th_world' th_tight' th_sum' th_now') (some (.int r0)) A) av s 0 0 A) (F0 m 98 ls [])) ?_
    rintro ⟨x3, x4, th_corners, th_isLoaded, th_loaded, th_up, th_down, th_world, th_tight, th_sum, th_now⟩ o h ih hz H locs ls hP hD hS hl
    have J68 : ∀ (x3 : Int32) (x4 : Int32) (th_corners : Int32) (th_isLoaded : Int32) (th_loaded : Int32) (th_up : Nat → Int64) (th_down : Nat → Int64) (th_world : Nat → Int32) (th_tight : Nat → Int32) (th_sum : Nat → Int64) (th_now : Nat → Int64) (H : Heap) (locs : List Loc) (ls : Array Slot), f_X9_quarrel_J68 K n_th_saying n_th_up n_th_down n_th_world n_th_tight n_th_sum n_th_now th_many th_corners th_isLoaded th_loaded th_widened th_wide th_saying th_up th_down th_world th_tight th_sum th_now x3 x4 = some o → va_P D vwCl (w_X9_quarrel tc q_th q_th_text q_th_saying q_th_signs q_th_sets q_th_told q_th_up q_th_down q_th_world q_th_tight q_th_sum q_th_now n_th_saying n_th_up n_th_down n_th_world n_th_tight n_th_sum n_th_now th_thrown th_typed th_next th_token th_place th_value th_fault th_many th_signMany th_setMany th_corners th_isLoaded th_loaded th_widened th_wide th_boundUp th_boundDown th_saying th_up th_down th_world th_tight th_sum th_now) H → va_D A (w_X9_quarrel tc q_th q_th_text q_th_saying q_th_signs q_th_sets q_th_told q_th_up q_th_down q_th_world q_th_tight q_th_sum q_th_now n_th_saying n_th_up n_th_down n_th_world n_th_tight n_th_sum n_th_now th_thrown th_typed th_next th_token th_place th_value th_fault th_many th_signMany th_setMany th_corners th_isLoaded th_loaded th_widened th_wide th_boundUp th_boundDown th_saying th_up th_down th_world th_tight th_sum th_now) → va_S A s.heap H locs → lv_has ls 6 [(0, .ref q_th), (1, .int x1), (2, .int x2), (3, .int x3), (4, .int x4)] → W p l e ({ frames := 5, cells := 0, slots := 0, locals := 138 } : Room) s m av below meth c H locs 0 0 (MQ below (st_Q D (w_X9_quarrel tc q_th q_th_text q_th_saying q_th_signs q_th_sets q_th_told q_th_up q_th_down q_th_world q_th_tight q_th_sum q_th_now n_th_saying n_th_up n_th_down n_th_world n_th_tight n_th_sum n_th_now th_thrown' th_typed th_next th_token th_place th_value th_fault th_many th_signMany th_setMany th_corners' th_isLoaded' th_loaded' th_widened' th_wide th_boundUp th_boundDown th_saying th_up' th_down' th_world' th_tight' th_sum' th_now') (some (.int r0)) A) av s 0 0 A) (F0 m 68 ls []) := by
      intro x3 x4 th_corners th_isLoaded th_loaded th_up th_down th_world th_tight th_sum th_now H locs ls h hP hD hS hl
      unfold f_X9_quarrel_J68 at h
      refine lv_iconst (v := (0 : Int32)) hx hb dX9_quarrel_68 (by decide) ?_
      refine lv_istore (lv' := [(5, .int (0 : Int32)), (0, .ref q_th), (1, .int x1), (2, .int x2), (3, .int x3), (4, .int x4)]) hx hb dX9_quarrel_69 hl (by decide) rfl (fun ls hl => ?_)
      refine lv_iload hx hb dX9_quarrel_71 (lv_at hl 0 rfl) ?_
      refine lv_if_eq (tgt := 90) hx hb dX9_quarrel_73 (by decide) (fun c1 => ?_) (fun c1 => ?_)
      · replace h := ifp c1 h
        refine lv_iload_n hx hb dX9_quarrel_90 rfl (lv_at hl 4 rfl) ?_
        refine lv_istore_n (lv' := [(3, .int x3), (5, .int (0 : Int32)), (0, .ref q_th), (1, .int x1), (2, .int x2), (4, .int x4)]) hx hb dX9_quarrel_91 rfl hl (by decide) rfl (fun ls hl => ?_)
        refine lv_iinc (v := x4 + 1) (lv' := [(4, .int (x4 + 1)), (3, .int x3), (5, .int (0 : Int32)), (0, .ref q_th), (1, .int x1), (2, .int x2)]) hx hb dX9_quarrel_92 hl (k := 5) rfl rfl (by decide) rfl (fun ls hl => ?_)
        refine lv_goto (tgt := 30) hx hb dX9_quarrel_95 (by decide) ?_
        cases h
        exact ih _ rfl _ _ _ hP hD hS (lv_sub hl [3, 4, 5, 1, 0] rfl)
      · replace h := ifn c1 h
        refine lv_aload_n hx hb dX9_quarrel_76 rfl (lv_at hl 1 rfl) ?_
        refine lv_iload hx hb dX9_quarrel_77 (lv_at hl 5 rfl) ?_
        obtain ⟨⟨z2_0, z2_1, z2_2, z2_3, z2_4, z2_5, z2_6, z2_7, z2_8, z2_9⟩, hc2, h⟩ := bd_ok h
        refine st_callV (As := [.int x4]) (rest := []) (pos := (List.range' 0 8)) ⟨hx, hb, hml, hown, hts⟩ (s_X9_loads (l := l) (D := D) (tc := tc) hEok q_th q_th_text q_th_saying q_th_signs q_th_sets q_th_told q_th_up q_th_down q_th_world q_th_tight q_th_sum q_th_now n_th_saying n_th_up n_th_down n_th_world n_th_tight n_th_sum n_th_now th_thrown th_typed th_next th_token th_place th_value th_fault th_many th_signMany th_setMany th_corners th_isLoaded th_loaded th_widened th_wide th_boundUp th_boundDown th_saying th_up th_down th_world th_tight th_sum th_now x4 K z2_0 z2_1 z2_2 z2_3 z2_4 z2_5 z2_6 z2_7 z2_8 z2_9 hc2) (cwV 1 hts gX9_quarrel_X9_loads rfl rfl rfl (by decide +kernel) ⟨Nat.le_of_ble_eq_true rfl, Nat.le_of_ble_eq_true rfl⟩) (st_recv (ci := 9) (q0 := 0) hK hP rfl rfl) hEok hE hK hN hP hD hS hA (st_segpos (m := 8) (by rfl) (by rfl) (by rfl)) (st_seg_nd _ _) (wa_X9_loads.trans wa_X9_loads.symm) rfl hl.1 rfl (Nat.le_of_ble_eq_true rfl) dX9_quarrel_79 ⟨Nat.zero_le _, Nat.zero_le _⟩ (fun H locs hP hD hS => ?_)
        have hP : va_P D vwCl (w_X9_quarrel tc q_th q_th_text q_th_saying q_th_signs q_th_sets q_th_told q_th_up q_th_down q_th_world q_th_tight q_th_sum q_th_now n_th_saying n_th_up n_th_down n_th_world n_th_tight n_th_sum n_th_now th_thrown th_typed th_next th_token th_place th_value th_fault th_many th_signMany th_setMany z2_1 z2_2 z2_3 th_widened th_wide th_boundUp th_boundDown th_saying z2_4 z2_5 z2_6 z2_7 z2_8 z2_9) H := st_segP (w0 := (w_X9_loads tc q_th q_th_text q_th_saying q_th_signs q_th_sets q_th_told q_th_up q_th_down q_th_world q_th_tight q_th_sum q_th_now n_th_saying n_th_up n_th_down n_th_world n_th_tight n_th_sum n_th_now th_thrown th_typed th_next th_token th_place th_value th_fault th_many th_signMany th_setMany th_corners th_isLoaded th_loaded th_widened th_wide th_boundUp th_boundDown th_saying th_up th_down th_world th_tight th_sum th_now)) (m := 8) (by rfl) (by rfl) (by rfl) (by rfl) (by rfl) hP
        have hD : va_D A (w_X9_quarrel tc q_th q_th_text q_th_saying q_th_signs q_th_sets q_th_told q_th_up q_th_down q_th_world q_th_tight q_th_sum q_th_now n_th_saying n_th_up n_th_down n_th_world n_th_tight n_th_sum n_th_now th_thrown th_typed th_next th_token th_place th_value th_fault th_many th_signMany th_setMany z2_1 z2_2 z2_3 th_widened th_wide th_boundUp th_boundDown th_saying z2_4 z2_5 z2_6 z2_7 z2_8 z2_9) := st_segD (w0 := (w_X9_loads tc q_th q_th_text q_th_saying q_th_signs q_th_sets q_th_told q_th_up q_th_down q_th_world q_th_tight q_th_sum q_th_now n_th_saying n_th_up n_th_down n_th_world n_th_tight n_th_sum n_th_now th_thrown th_typed th_next th_token th_place th_value th_fault th_many th_signMany th_setMany th_corners th_isLoaded th_loaded th_widened th_wide th_boundUp th_boundDown th_saying th_up th_down th_world th_tight th_sum th_now)) (m := 8) (by rfl) (by rfl) (by rfl) (by rfl) (by rfl) hD
        refine lv_if_ne (tgt := 90) hx hb dX9_quarrel_82 (by decide) (fun c3 => ?_) (fun c3 => ?_)
        · replace h := ifn c3 h
          refine lv_iload_n hx hb dX9_quarrel_90 rfl (lv_at hl 4 rfl) ?_
          refine lv_istore_n (lv' := [(3, .int x3), (5, .int (0 : Int32)), (0, .ref q_th), (1, .int x1), (2, .int x2), (4, .int x4)]) hx hb dX9_quarrel_91 rfl hl (by decide) rfl (fun ls hl => ?_)
          refine lv_iinc (v := x4 + 1) (lv' := [(4, .int (x4 + 1)), (3, .int x3), (5, .int (0 : Int32)), (0, .ref q_th), (1, .int x1), (2, .int x2)]) hx hb dX9_quarrel_92 hl (k := 5) rfl rfl (by decide) rfl (fun ls hl => ?_)
          refine lv_goto (tgt := 30) hx hb dX9_quarrel_95 (by decide) ?_
          cases h
          exact ih _ rfl _ _ _ hP hD hS (lv_sub hl [3, 4, 5, 1, 0] rfl)
        · replace h := ifp c3 h
          refine lv_iload hx hb dX9_quarrel_85 (lv_at hl 5 rfl) ?_
          refine lv_goto (tgt := 91) hx hb dX9_quarrel_87 (by decide) ?_
          refine lv_istore_n (lv' := [(3, .int x4), (5, .int (0 : Int32)), (0, .ref q_th), (1, .int x1), (2, .int x2), (4, .int x4)]) hx hb dX9_quarrel_91 rfl hl (by decide) rfl (fun ls hl => ?_)
          refine lv_iinc (v := x4 + 1) (lv' := [(4, .int (x4 + 1)), (3, .int x4), (5, .int (0 : Int32)), (0, .ref q_th), (1, .int x1), (2, .int x2)]) hx hb dX9_quarrel_92 hl (k := 5) rfl rfl (by decide) rfl (fun ls hl => ?_)
          refine lv_goto (tgt := 30) hx hb dX9_quarrel_95 (by decide) ?_
          cases h
          exact ih _ rfl _ _ _ hP hD hS (lv_sub hl [3, 4, 5, 1, 0] rfl)
    have J64 : ∀ (x3 : Int32) (x4 : Int32) (th_corners : Int32) (th_isLoaded : Int32) (th_loaded : Int32) (th_up : Nat → Int64) (th_down : Nat → Int64) (th_world : Nat → Int32) (th_tight : Nat → Int32) (th_sum : Nat → Int64) (th_now : Nat → Int64) (H : Heap) (locs : List Loc) (ls : Array Slot), f_X9_quarrel_J64 K n_th_saying n_th_up n_th_down n_th_world n_th_tight n_th_sum n_th_now th_many th_corners th_isLoaded th_loaded th_widened th_wide th_saying th_up th_down th_world th_tight th_sum th_now x3 x4 = some o → va_P D vwCl (w_X9_quarrel tc q_th q_th_text q_th_saying q_th_signs q_th_sets q_th_told q_th_up q_th_down q_th_world q_th_tight q_th_sum q_th_now n_th_saying n_th_up n_th_down n_th_world n_th_tight n_th_sum n_th_now th_thrown th_typed th_next th_token th_place th_value th_fault th_many th_signMany th_setMany th_corners th_isLoaded th_loaded th_widened th_wide th_boundUp th_boundDown th_saying th_up th_down th_world th_tight th_sum th_now) H → va_D A (w_X9_quarrel tc q_th q_th_text q_th_saying q_th_signs q_th_sets q_th_told q_th_up q_th_down q_th_world q_th_tight q_th_sum q_th_now n_th_saying n_th_up n_th_down n_th_world n_th_tight n_th_sum n_th_now th_thrown th_typed th_next th_token th_place th_value th_fault th_many th_signMany th_setMany th_corners th_isLoaded th_loaded th_widened th_wide th_boundUp th_boundDown th_saying th_up th_down th_world th_tight th_sum th_now) → va_S A s.heap H locs → lv_has ls 6 [(0, .ref q_th), (1, .int x1), (2, .int x2), (3, .int x3), (4, .int x4)] → W p l e ({ frames := 5, cells := 0, slots := 0, locals := 138 } : Room) s m av below meth c H locs 0 0 (MQ below (st_Q D (w_X9_quarrel tc q_th q_th_text q_th_saying q_th_signs q_th_sets q_th_told q_th_up q_th_down q_th_world q_th_tight q_th_sum q_th_now n_th_saying n_th_up n_th_down n_th_world n_th_tight n_th_sum n_th_now th_thrown' th_typed th_next th_token th_place th_value th_fault th_many th_signMany th_setMany th_corners' th_isLoaded' th_loaded' th_widened' th_wide th_boundUp th_boundDown th_saying th_up' th_down' th_world' th_tight' th_sum' th_now') (some (.int r0)) A) av s 0 0 A) (F0 m 64 ls []) := by
      intro x3 x4 th_corners th_isLoaded th_loaded th_up th_down th_world th_tight th_sum th_now H locs ls h hP hD hS hl
      unfold f_X9_quarrel_J64 at h
      refine lv_iconst (v := (1 : Int32)) hx hb dX9_quarrel_64 (by decide) ?_
      refine lv_goto (tgt := 69) hx hb dX9_quarrel_65 (by decide) ?_
      refine lv_istore (lv' := [(5, .int (1 : Int32)), (0, .ref q_th), (1, .int x1), (2, .int x2), (3, .int x3), (4, .int x4)]) hx hb dX9_quarrel_69 hl (by decide) rfl (fun ls hl => ?_)
      refine lv_iload hx hb dX9_quarrel_71 (lv_at hl 0 rfl) ?_
      refine lv_if_eq (tgt := 90) hx hb dX9_quarrel_73 (by decide) (fun c4 => ?_) (fun c4 => ?_)
      · replace h := ifp c4 h
        refine lv_iload_n hx hb dX9_quarrel_90 rfl (lv_at hl 4 rfl) ?_
        refine lv_istore_n (lv' := [(3, .int x3), (5, .int (1 : Int32)), (0, .ref q_th), (1, .int x1), (2, .int x2), (4, .int x4)]) hx hb dX9_quarrel_91 rfl hl (by decide) rfl (fun ls hl => ?_)
        refine lv_iinc (v := x4 + 1) (lv' := [(4, .int (x4 + 1)), (3, .int x3), (5, .int (1 : Int32)), (0, .ref q_th), (1, .int x1), (2, .int x2)]) hx hb dX9_quarrel_92 hl (k := 5) rfl rfl (by decide) rfl (fun ls hl => ?_)
        refine lv_goto (tgt := 30) hx hb dX9_quarrel_95 (by decide) ?_
        cases h
        exact ih _ rfl _ _ _ hP hD hS (lv_sub hl [3, 4, 5, 1, 0] rfl)
      · replace h := ifn c4 h
        refine lv_aload_n hx hb dX9_quarrel_76 rfl (lv_at hl 1 rfl) ?_
        refine lv_iload hx hb dX9_quarrel_77 (lv_at hl 5 rfl) ?_
        obtain ⟨⟨z5_0, z5_1, z5_2, z5_3, z5_4, z5_5, z5_6, z5_7, z5_8, z5_9⟩, hc5, h⟩ := bd_ok h
        refine st_callV (As := [.int x4]) (rest := []) (pos := (List.range' 0 8)) ⟨hx, hb, hml, hown, hts⟩ (s_X9_loads (l := l) (D := D) (tc := tc) hEok q_th q_th_text q_th_saying q_th_signs q_th_sets q_th_told q_th_up q_th_down q_th_world q_th_tight q_th_sum q_th_now n_th_saying n_th_up n_th_down n_th_world n_th_tight n_th_sum n_th_now th_thrown th_typed th_next th_token th_place th_value th_fault th_many th_signMany th_setMany th_corners th_isLoaded th_loaded th_widened th_wide th_boundUp th_boundDown th_saying th_up th_down th_world th_tight th_sum th_now x4 K z5_0 z5_1 z5_2 z5_3 z5_4 z5_5 z5_6 z5_7 z5_8 z5_9 hc5) (cwV 1 hts gX9_quarrel_X9_loads rfl rfl rfl (by decide +kernel) ⟨Nat.le_of_ble_eq_true rfl, Nat.le_of_ble_eq_true rfl⟩) (st_recv (ci := 9) (q0 := 0) hK hP rfl rfl) hEok hE hK hN hP hD hS hA (st_segpos (m := 8) (by rfl) (by rfl) (by rfl)) (st_seg_nd _ _) (wa_X9_loads.trans wa_X9_loads.symm) rfl hl.1 rfl (Nat.le_of_ble_eq_true rfl) dX9_quarrel_79 ⟨Nat.zero_le _, Nat.zero_le _⟩ (fun H locs hP hD hS => ?_)
        have hP : va_P D vwCl (w_X9_quarrel tc q_th q_th_text q_th_saying q_th_signs q_th_sets q_th_told q_th_up q_th_down q_th_world q_th_tight q_th_sum q_th_now n_th_saying n_th_up n_th_down n_th_world n_th_tight n_th_sum n_th_now th_thrown th_typed th_next th_token th_place th_value th_fault th_many th_signMany th_setMany z5_1 z5_2 z5_3 th_widened th_wide th_boundUp th_boundDown th_saying z5_4 z5_5 z5_6 z5_7 z5_8 z5_9) H := st_segP (w0 := (w_X9_loads tc q_th q_th_text q_th_saying q_th_signs q_th_sets q_th_told q_th_up q_th_down q_th_world q_th_tight q_th_sum q_th_now n_th_saying n_th_up n_th_down n_th_world n_th_tight n_th_sum n_th_now th_thrown th_typed th_next th_token th_place th_value th_fault th_many th_signMany th_setMany th_corners th_isLoaded th_loaded th_widened th_wide th_boundUp th_boundDown th_saying th_up th_down th_world th_tight th_sum th_now)) (m := 8) (by rfl) (by rfl) (by rfl) (by rfl) (by rfl) hP
        have hD : va_D A (w_X9_quarrel tc q_th q_th_text q_th_saying q_th_signs q_th_sets q_th_told q_th_up q_th_down q_th_world q_th_tight q_th_sum q_th_now n_th_saying n_th_up n_th_down n_th_world n_th_tight n_th_sum n_th_now th_thrown th_typed th_next th_token th_place th_value th_fault th_many th_signMany th_setMany z5_1 z5_2 z5_3 th_widened th_wide th_boundUp th_boundDown th_saying z5_4 z5_5 z5_6 z5_7 z5_8 z5_9) := st_segD (w0 := (w_X9_loads tc q_th q_th_text q_th_saying q_th_signs q_th_sets q_th_told q_th_up q_th_down q_th_world q_th_tight q_th_sum q_th_now n_th_saying n_th_up n_th_down n_th_world n_th_tight n_th_sum n_th_now th_thrown th_typed th_next th_token th_place th_value th_fault th_many th_signMany th_setMany th_corners th_isLoaded th_loaded th_widened th_wide th_boundUp th_boundDown th_saying th_up th_down th_world th_tight th_sum th_now)) (m := 8) (by rfl) (by rfl) (by rfl) (by rfl) (by rfl) hD
        refine lv_if_ne (tgt := 90) hx hb dX9_quarrel_82 (by decide) (fun c6 => ?_) (fun c6 => ?_)
        · replace h := ifn c6 h
          refine lv_iload_n hx hb dX9_quarrel_90 rfl (lv_at hl 4 rfl) ?_
          refine lv_istore_n (lv' := [(3, .int x3), (5, .int (1 : Int32)), (0, .ref q_th), (1, .int x1), (2, .int x2), (4, .int x4)]) hx hb dX9_quarrel_91 rfl hl (by decide) rfl (fun ls hl => ?_)
          refine lv_iinc (v := x4 + 1) (lv' := [(4, .int (x4 + 1)), (3, .int x3), (5, .int (1 : Int32)), (0, .ref q_th), (1, .int x1), (2, .int x2)]) hx hb dX9_quarrel_92 hl (k := 5) rfl rfl (by decide) rfl (fun ls hl => ?_)
          refine lv_goto (tgt := 30) hx hb dX9_quarrel_95 (by decide) ?_
          cases h
          exact ih _ rfl _ _ _ hP hD hS (lv_sub hl [3, 4, 5, 1, 0] rfl)
        · replace h := ifp c6 h
          refine lv_iload hx hb dX9_quarrel_85 (lv_at hl 5 rfl) ?_
          refine lv_goto (tgt := 91) hx hb dX9_quarrel_87 (by decide) ?_
          refine lv_istore_n (lv' := [(3, .int x4), (5, .int (1 : Int32)), (0, .ref q_th), (1, .int x1), (2, .int x2), (4, .int x4)]) hx hb dX9_quarrel_91 rfl hl (by decide) rfl (fun ls hl => ?_)
          refine lv_iinc (v := x4 + 1) (lv' := [(4, .int (x4 + 1)), (3, .int x4), (5, .int (1 : Int32)), (0, .ref q_th), (1, .int x1), (2, .int x2)]) hx hb dX9_quarrel_92 hl (k := 5) rfl rfl (by decide) rfl (fun ls hl => ?_)
          refine lv_goto (tgt := 30) hx hb dX9_quarrel_95 (by decide) ?_
          cases h
          exact ih _ rfl _ _ _ hP hD hS (lv_sub hl [3, 4, 5, 1, 0] rfl)
    unfold f_X9_quarrel_L30 at h
    refine lv_iload hx hb dX9_quarrel_30 (lv_at hl 4 rfl) ?_
    refine lv_bipush (v := (16 : Int32)) hx hb dX9_quarrel_32 (by decide) ?_
    refine lv_icmp_ge (tgt := 98) hx hb dX9_quarrel_34 (by decide) (fun c7 => ?_) (fun c7 => ?_)
    · replace h := ifp c7 h
      cases h
      exact hz _ rfl _ _ _ hP hD hS (lv_sub hl [1, 3] rfl)
    · replace h := ifn c7 h
      refine lv_iload hx hb dX9_quarrel_37 (lv_at hl 4 rfl) ?_
      refine lv_iload_n hx hb dX9_quarrel_39 rfl (lv_at hl 2 rfl) ?_
      refine lv_iconst (v := (-1 : Int32)) hx hb dX9_quarrel_40 (by decide) ?_
      refine lv_ixor hx hb dX9_quarrel_41 ?_
      refine lv_iand hx hb dX9_quarrel_42 ?_
      refine lv_if_ne (tgt := 68) hx hb dX9_quarrel_43 (by decide) (fun c8 => ?_) (fun c8 => ?_)
      · replace h := ifn c8 h
        exact J68 x3 x4 th_corners th_isLoaded th_loaded th_up th_down th_world th_tight th_sum th_now _ _ _ h hP hD hS (lv_sub hl [0, 1, 2, 3, 4] rfl)
      · replace h := ifp c8 h
        refine lv_iload_n hx hb dX9_quarrel_46 rfl (lv_at hl 3 rfl) ?_
        refine lv_bipush (v := (-9 : Int32)) hx hb dX9_quarrel_47 (by decide) ?_
        refine lv_icmp_eq (tgt := 64) hx hb dX9_quarrel_49 (by decide) (fun c9 => ?_) (fun c9 => ?_)
        · replace h := ifp c9 h
          exact J64 x3 x4 th_corners th_isLoaded th_loaded th_up th_down th_world th_tight th_sum th_now _ _ _ h hP hD hS (lv_sub hl [0, 1, 2, 3, 4] rfl)
        · replace h := ifn c9 h
          refine lv_iload hx hb dX9_quarrel_52 (lv_at hl 4 rfl) ?_
          obtain ⟨z10_0, hc10, h⟩ := bd_ok h
          refine st_callS (As := [.int x4]) (rest := []) (pos := []) ⟨hx, hb, hml, hown, hts⟩ (s_X9_ones (l := l) (D := D) (tc := tc) hEok x4 K z10_0 hc10) (va_cwS 1 hts gX9_quarrel_X9_ones rfl rfl rfl (by decide +kernel) ⟨Nat.le_of_ble_eq_true rfl, Nat.le_of_ble_eq_true rfl⟩) hEok hE hK hN hP hD hS hA rfl rfl rfl rfl hl.1 rfl (Nat.le_of_ble_eq_true rfl) dX9_quarrel_54 ⟨Nat.zero_le _, Nat.zero_le _⟩ (fun H locs hP hD hS => ?_)
          have hP : va_P D vwCl (w_X9_quarrel tc q_th q_th_text q_th_saying q_th_signs q_th_sets q_th_told q_th_up q_th_down q_th_world q_th_tight q_th_sum q_th_now n_th_saying n_th_up n_th_down n_th_world n_th_tight n_th_sum n_th_now th_thrown th_typed th_next th_token th_place th_value th_fault th_many th_signMany th_setMany th_corners th_isLoaded th_loaded th_widened th_wide th_boundUp th_boundDown th_saying th_up th_down th_world th_tight th_sum th_now) H := hP
          have hD : va_D A (w_X9_quarrel tc q_th q_th_text q_th_saying q_th_signs q_th_sets q_th_told q_th_up q_th_down q_th_world q_th_tight q_th_sum q_th_now n_th_saying n_th_up n_th_down n_th_world n_th_tight n_th_sum n_th_now th_thrown th_typed th_next th_token th_place th_value th_fault th_many th_signMany th_setMany th_corners th_isLoaded th_loaded th_widened th_wide th_boundUp th_boundDown th_saying th_up th_down th_world th_tight th_sum th_now) := hD
          refine lv_iload_n hx hb dX9_quarrel_57 rfl (lv_at hl 3 rfl) ?_
          obtain ⟨z11_0, hc11, h⟩ := bd_ok h
          refine st_callS (As := [.int x3]) (rest := [.int z10_0]) (pos := []) ⟨hx, hb, hml, hown, hts⟩ (s_X9_ones (l := l) (D := D) (tc := tc) hEok x3 K z11_0 hc11) (va_cwS 1 hts gX9_quarrel_X9_ones rfl rfl rfl (by decide +kernel) ⟨Nat.le_of_ble_eq_true rfl, Nat.le_of_ble_eq_true rfl⟩) hEok hE hK hN hP hD hS hA rfl rfl rfl rfl hl.1 rfl (Nat.le_of_ble_eq_true rfl) dX9_quarrel_58 ⟨Nat.zero_le _, Nat.zero_le _⟩ (fun H locs hP hD hS => ?_)
          have hP : va_P D vwCl (w_X9_quarrel tc q_th q_th_text q_th_saying q_th_signs q_th_sets q_th_told q_th_up q_th_down q_th_world q_th_tight q_th_sum q_th_now n_th_saying n_th_up n_th_down n_th_world n_th_tight n_th_sum n_th_now th_thrown th_typed th_next th_token th_place th_value th_fault th_many th_signMany th_setMany th_corners th_isLoaded th_loaded th_widened th_wide th_boundUp th_boundDown th_saying th_up th_down th_world th_tight th_sum th_now) H := hP
          have hD : va_D A (w_X9_quarrel tc q_th q_th_text q_th_saying q_th_signs q_th_sets q_th_told q_th_up q_th_down q_th_world q_th_tight q_th_sum q_th_now n_th_saying n_th_up n_th_down n_th_world n_th_tight n_th_sum n_th_now th_thrown th_typed th_next th_token th_place th_value th_fault th_many th_signMany th_setMany th_corners th_isLoaded th_loaded th_widened th_wide th_boundUp th_boundDown th_saying th_up th_down th_world th_tight th_sum th_now) := hD
          refine lv_icmp_ge (tgt := 68) hx hb dX9_quarrel_61 (by decide) (fun c12 => ?_) (fun c12 => ?_)
          · replace h := ifp c12 h
            exact J68 x3 x4 th_corners th_isLoaded th_loaded th_up th_down th_world th_tight th_sum th_now _ _ _ h hP hD hS (lv_sub hl [0, 1, 2, 3, 4] rfl)
          · replace h := ifn c12 h
            exact J64 x3 x4 th_corners th_isLoaded th_loaded th_up th_down th_world th_tight th_sum th_now _ _ _ h hP hD hS (lv_sub hl [0, 1, 2, 3, 4] rfl)
  unfold f_X9_quarrel at h
  refine lv_aload_n hx hb dX9_quarrel_0 rfl (lv_at hl 0 rfl) ?_
  refine lv_iconst (v := (0 : Int32)) hx hb dX9_quarrel_1 (by decide) ?_
  refine va_put (D := D) (ci := 9) (v := .int (0 : Int32)) (ty := .int) (C := RX9) (T := TX9) (N := 28) hx hb hts hinX9 tyX9 tyX9_ok nmX9 hown hK hP hD hS 0 rfl rfl 0 (by decide) (hts (.fieldLink RX9 45 "ChanceBoundsModel" "thrown" "I") (by decide +kernel)) (fun _ h9 => h9) rfl (by decide +kernel) rfl rfl (Nat.le_of_ble_eq_true rfl) dX9_quarrel_2 (fun H locs hP hD hS => ?_)
  have hP : va_P D vwCl (w_X9_quarrel tc q_th q_th_text q_th_saying q_th_signs q_th_sets q_th_told q_th_up q_th_down q_th_world q_th_tight q_th_sum q_th_now n_th_saying n_th_up n_th_down n_th_world n_th_tight n_th_sum n_th_now (0 : Int32) th_typed th_next th_token th_place th_value th_fault th_many th_signMany th_setMany th_corners th_isLoaded th_loaded th_widened th_wide th_boundUp th_boundDown th_saying th_up th_down th_world th_tight th_sum th_now) H := hP
  have hD : va_D A (w_X9_quarrel tc q_th q_th_text q_th_saying q_th_signs q_th_sets q_th_told q_th_up q_th_down q_th_world q_th_tight q_th_sum q_th_now n_th_saying n_th_up n_th_down n_th_world n_th_tight n_th_sum n_th_now (0 : Int32) th_typed th_next th_token th_place th_value th_fault th_many th_signMany th_setMany th_corners th_isLoaded th_loaded th_widened th_wide th_boundUp th_boundDown th_saying th_up th_down th_world th_tight th_sum th_now) := hD
  refine lv_iload_n hx hb dX9_quarrel_5 rfl (lv_at hl 1 rfl) ?_
  obtain ⟨z13_0, hc13, h⟩ := bd_ok h
  refine st_callS (As := [.int x1]) (rest := []) (pos := []) ⟨hx, hb, hml, hown, hts⟩ (s_X9_isBit (l := l) (D := D) (tc := tc) hEok x1 z13_0 hc13) (va_cwS 1 hts gX9_quarrel_X9_isBit rfl rfl rfl (by decide +kernel) ⟨Nat.le_of_ble_eq_true rfl, Nat.le_of_ble_eq_true rfl⟩) hEok hE hK hN hP hD hS hA rfl rfl rfl rfl hl.1 rfl (Nat.le_of_ble_eq_true rfl) dX9_quarrel_6 ⟨Nat.zero_le _, Nat.zero_le _⟩ (fun H locs hP hD hS => ?_)
  have hP : va_P D vwCl (w_X9_quarrel tc q_th q_th_text q_th_saying q_th_signs q_th_sets q_th_told q_th_up q_th_down q_th_world q_th_tight q_th_sum q_th_now n_th_saying n_th_up n_th_down n_th_world n_th_tight n_th_sum n_th_now (0 : Int32) th_typed th_next th_token th_place th_value th_fault th_many th_signMany th_setMany th_corners th_isLoaded th_loaded th_widened th_wide th_boundUp th_boundDown th_saying th_up th_down th_world th_tight th_sum th_now) H := hP
  have hD : va_D A (w_X9_quarrel tc q_th q_th_text q_th_saying q_th_signs q_th_sets q_th_told q_th_up q_th_down q_th_world q_th_tight q_th_sum q_th_now n_th_saying n_th_up n_th_down n_th_world n_th_tight n_th_sum n_th_now (0 : Int32) th_typed th_next th_token th_place th_value th_fault th_many th_signMany th_setMany th_corners th_isLoaded th_loaded th_widened th_wide th_boundUp th_boundDown th_saying th_up th_down th_world th_tight th_sum th_now) := hD
  refine lv_if_ne (tgt := 14) hx hb dX9_quarrel_9 (by decide) (fun c14 => ?_) (fun c14 => ?_)
  · replace h := ifn c14 h
    refine lv_aload_n hx hb dX9_quarrel_14 rfl (lv_at hl 0 rfl) ?_
    refine lv_iconst (v := (0 : Int32)) hx hb dX9_quarrel_15 (by decide) ?_
    refine va_put (D := D) (ci := 9) (v := .int (0 : Int32)) (ty := .int) (C := RX9) (T := TX9) (N := 28) hx hb hts hinX9 tyX9 tyX9_ok nmX9 hown hK hP hD hS 0 rfl rfl 24 (by decide) (hts (.fieldLink RX9 130 "ChanceBoundsModel" "widened" "I") (by decide +kernel)) (fun _ h9 => h9) rfl (by decide +kernel) rfl rfl (Nat.le_of_ble_eq_true rfl) dX9_quarrel_16 (fun H locs hP hD hS => ?_)
    have hP : va_P D vwCl (w_X9_quarrel tc q_th q_th_text q_th_saying q_th_signs q_th_sets q_th_told q_th_up q_th_down q_th_world q_th_tight q_th_sum q_th_now n_th_saying n_th_up n_th_down n_th_world n_th_tight n_th_sum n_th_now (0 : Int32) th_typed th_next th_token th_place th_value th_fault th_many th_signMany th_setMany th_corners th_isLoaded th_loaded (0 : Int32) th_wide th_boundUp th_boundDown th_saying th_up th_down th_world th_tight th_sum th_now) H := hP
    have hD : va_D A (w_X9_quarrel tc q_th q_th_text q_th_saying q_th_signs q_th_sets q_th_told q_th_up q_th_down q_th_world q_th_tight q_th_sum q_th_now n_th_saying n_th_up n_th_down n_th_world n_th_tight n_th_sum n_th_now (0 : Int32) th_typed th_next th_token th_place th_value th_fault th_many th_signMany th_setMany th_corners th_isLoaded th_loaded (0 : Int32) th_wide th_boundUp th_boundDown th_saying th_up th_down th_world th_tight th_sum th_now) := hD
    refine lv_aload_n hx hb dX9_quarrel_19 rfl (lv_at hl 0 rfl) ?_
    obtain ⟨z15_0, hc15, h⟩ := bd_ok h
    refine st_callV (As := []) (rest := []) (pos := [0, 1]) ⟨hx, hb, hml, hown, hts⟩ (s_X9_ons (l := l) (D := D) (tc := tc) hEok q_th q_th_text q_th_saying q_th_signs q_th_sets q_th_told q_th_up q_th_down q_th_world q_th_tight q_th_sum q_th_now n_th_saying (0 : Int32) th_typed th_next th_token th_place th_value th_fault th_many th_signMany th_setMany th_corners th_isLoaded th_loaded (0 : Int32) th_wide th_boundUp th_boundDown th_saying K z15_0 hc15) (cwV 0 hts gX9_quarrel_X9_ons rfl rfl rfl (by decide +kernel) ⟨Nat.le_of_ble_eq_true rfl, Nat.le_of_ble_eq_true rfl⟩) (st_recv (ci := 9) (q0 := 0) hK hP rfl rfl) hEok hE hK hN hP hD hS hA rfl rfl rfl rfl hl.1 rfl (Nat.le_of_ble_eq_true rfl) dX9_quarrel_20 ⟨Nat.zero_le _, Nat.zero_le _⟩ (fun H locs hP hD hS => ?_)
    have hP : va_P D vwCl (w_X9_quarrel tc q_th q_th_text q_th_saying q_th_signs q_th_sets q_th_told q_th_up q_th_down q_th_world q_th_tight q_th_sum q_th_now n_th_saying n_th_up n_th_down n_th_world n_th_tight n_th_sum n_th_now (0 : Int32) th_typed th_next th_token th_place th_value th_fault th_many th_signMany th_setMany th_corners th_isLoaded th_loaded (0 : Int32) th_wide th_boundUp th_boundDown th_saying th_up th_down th_world th_tight th_sum th_now) H := hP
    have hD : va_D A (w_X9_quarrel tc q_th q_th_text q_th_saying q_th_signs q_th_sets q_th_told q_th_up q_th_down q_th_world q_th_tight q_th_sum q_th_now n_th_saying n_th_up n_th_down n_th_world n_th_tight n_th_sum n_th_now (0 : Int32) th_typed th_next th_token th_place th_value th_fault th_many th_signMany th_setMany th_corners th_isLoaded th_loaded (0 : Int32) th_wide th_boundUp th_boundDown th_saying th_up th_down th_world th_tight th_sum th_now) := hD
    refine lv_istore_n (lv' := [(2, .int z15_0), (0, .ref q_th), (1, .int x1)]) hx hb dX9_quarrel_23 rfl hl (by decide) rfl (fun ls hl => ?_)
    refine lv_bipush (v := (-9 : Int32)) hx hb dX9_quarrel_24 (by decide) ?_
    refine lv_istore_n (lv' := [(3, .int (-9 : Int32)), (2, .int z15_0), (0, .ref q_th), (1, .int x1)]) hx hb dX9_quarrel_26 rfl hl (by decide) rfl (fun ls hl => ?_)
    refine lv_iconst (v := (0 : Int32)) hx hb dX9_quarrel_27 (by decide) ?_
    refine lv_istore (lv' := [(4, .int (0 : Int32)), (3, .int (-9 : Int32)), (2, .int z15_0), (0, .ref q_th), (1, .int x1)]) hx hb dX9_quarrel_28 hl (by decide) rfl (fun ls hl => ?_)
    obtain ⟨⟨z16_0, z16_1, z16_2, z16_3, z16_4, z16_5, z16_6, z16_7, z16_8, z16_9⟩, hl16, h⟩ := bd_ok h
    refine L30 x1 z15_0 (0 : Int32) (0 : Int32) K _ _ hl16 ?_ _ _ _ hP hD hS (lv_sub hl [3, 4, 2, 1, 0] rfl)
    intro H locs ls hP hD hS hl
    refine lv_iload_n hx hb dX9_quarrel_98 rfl (lv_at hl 1 rfl) ?_
    refine lv_bipush (v := (-9 : Int32)) hx hb dX9_quarrel_99 (by decide) ?_
    refine lv_icmp_eq (tgt := 109) hx hb dX9_quarrel_101 (by decide) (fun c17 => ?_) (fun c17 => ?_)
    · replace h := ifp c17 h
      refine lv_iload_n hx hb dX9_quarrel_109 rfl (lv_at hl 1 rfl) ?_
      refine lv_goto (tgt := 117) hx hb dX9_quarrel_110 (by decide) ?_
      simp only [Option.some.injEq, Prod.mk.injEq] at h
      obtain ⟨rfl, rfl, rfl, rfl, rfl, rfl, rfl, rfl, rfl, rfl, rfl, rfl⟩ := h
      exact st_iret hx hb hr hlocks hP hD hS dX9_quarrel_117
    · replace h := ifn c17 h
      refine lv_iload_n hx hb dX9_quarrel_104 rfl (lv_at hl 0 rfl) ?_
      refine lv_iconst (v := (1 : Int32)) hx hb dX9_quarrel_105 (by decide) ?_
      refine lv_icmp_ne (tgt := 113) hx hb dX9_quarrel_106 (by decide) (fun c18 => ?_) (fun c18 => ?_)
      · replace h := ifn c18 h
        refine lv_iload_n hx hb dX9_quarrel_113 rfl (lv_at hl 1 rfl) ?_
        obtain ⟨z19_0, hc19, h⟩ := bd_ok h
        refine st_callS (As := [.int z16_0]) (rest := []) (pos := []) ⟨hx, hb, hml, hown, hts⟩ (s_X9_ones (l := l) (D := D) (tc := tc) hEok z16_0 K z19_0 hc19) (va_cwS 1 hts gX9_quarrel_X9_ones rfl rfl rfl (by decide +kernel) ⟨Nat.le_of_ble_eq_true rfl, Nat.le_of_ble_eq_true rfl⟩) hEok hE hK hN hP hD hS hA rfl rfl rfl rfl hl.1 rfl (Nat.le_of_ble_eq_true rfl) dX9_quarrel_114 ⟨Nat.zero_le _, Nat.zero_le _⟩ (fun H locs hP hD hS => ?_)
        have hP : va_P D vwCl (w_X9_quarrel tc q_th q_th_text q_th_saying q_th_signs q_th_sets q_th_told q_th_up q_th_down q_th_world q_th_tight q_th_sum q_th_now n_th_saying n_th_up n_th_down n_th_world n_th_tight n_th_sum n_th_now (0 : Int32) th_typed th_next th_token th_place th_value th_fault th_many th_signMany th_setMany z16_1 z16_2 z16_3 (0 : Int32) th_wide th_boundUp th_boundDown th_saying z16_4 z16_5 z16_6 z16_7 z16_8 z16_9) H := hP
        have hD : va_D A (w_X9_quarrel tc q_th q_th_text q_th_saying q_th_signs q_th_sets q_th_told q_th_up q_th_down q_th_world q_th_tight q_th_sum q_th_now n_th_saying n_th_up n_th_down n_th_world n_th_tight n_th_sum n_th_now (0 : Int32) th_typed th_next th_token th_place th_value th_fault th_many th_signMany th_setMany z16_1 z16_2 z16_3 (0 : Int32) th_wide th_boundUp th_boundDown th_saying z16_4 z16_5 z16_6 z16_7 z16_8 z16_9) := hD
        simp only [Option.some.injEq, Prod.mk.injEq] at h
        obtain ⟨rfl, rfl, rfl, rfl, rfl, rfl, rfl, rfl, rfl, rfl, rfl, rfl⟩ := h
        exact st_iret hx hb hr hlocks hP hD hS dX9_quarrel_117
      · replace h := ifp c18 h
        refine lv_iload_n hx hb dX9_quarrel_109 rfl (lv_at hl 1 rfl) ?_
        refine lv_goto (tgt := 117) hx hb dX9_quarrel_110 (by decide) ?_
        simp only [Option.some.injEq, Prod.mk.injEq] at h
        obtain ⟨rfl, rfl, rfl, rfl, rfl, rfl, rfl, rfl, rfl, rfl, rfl, rfl⟩ := h
        exact st_iret hx hb hr hlocks hP hD hS dX9_quarrel_117
  · replace h := ifp c14 h
    refine lv_iconst (v := (-1 : Int32)) hx hb dX9_quarrel_12 (by decide) ?_
    simp only [Option.some.injEq, Prod.mk.injEq] at h
    obtain ⟨rfl, rfl, rfl, rfl, rfl, rfl, rfl, rfl, rfl, rfl, rfl, rfl⟩ := h
    exact st_iret hx hb hr hlocks hP hD hS dX9_quarrel_13
def f_X9_follows_L37 (K : Nat) (n_th_saying : Nat) (n_th_up : Nat) (th_thrown : Int32) (th_corners : Int32) (th_isLoaded : Int32) (th_loaded : Int32) (th_widened : Int32) (th_wide : Int32) (th_saying : Nat → Int32) (th_up : Nat → Int64) (th_down : Nat → Int64) (th_world : Nat → Int32) (th_tight : Nat → Int32) (th_sum : Nat → Int64) (th_now : Nat → Int64) (x1 : Int32) (s37 : Int32) : Option (((Int32 × Int32 × Int32 × Int32 × Int32 × Int32 × (Nat → Int64) × (Nat → Int64) × (Nat → Int32) × (Nat → Int32) × (Nat → Int64) × (Nat → Int64)) ⊕ (Unit)) ⊕ (Int32)) :=
  (fun x2 => 
    if th_corners ≤ x2 then
      some (.inl (.inr ()))
    else
      (f_X9_isHeld K n_th_saying n_th_up th_widened th_wide th_saying th_up x1 ((8 : Int32) * x2)).bind fun z2_0 =>
      if z2_0 = (0 : Int32) then
        some (.inl (.inl ((0 : Int32), th_thrown, th_corners, th_isLoaded, th_loaded, th_widened, th_up, th_down, th_world, th_tight, th_sum, th_now)))
      else
        some (.inr (x2 + 1))
  ) s37
def f_X9_follows (K : Nat) (n_th_saying : Nat) (n_th_up : Nat) (n_th_down : Nat) (n_th_world : Nat) (n_th_tight : Nat) (n_th_sum : Nat) (n_th_now : Nat) (th_many : Int32) (th_corners : Int32) (th_isLoaded : Int32) (th_loaded : Int32) (th_widened : Int32) (th_wide : Int32) (th_saying : Nat → Int32) (th_up : Nat → Int64) (th_down : Nat → Int64) (th_world : Nat → Int32) (th_tight : Nat → Int32) (th_sum : Nat → Int64) (th_now : Nat → Int64) (x1 : Int32) : Option (Int32 × Int32 × Int32 × Int32 × Int32 × Int32 × (Nat → Int64) × (Nat → Int64) × (Nat → Int32) × (Nat → Int32) × (Nat → Int64) × (Nat → Int64)) :=
  (f_X9_isSaying th_many x1).bind fun z4_0 =>
  if z4_0 = (0 : Int32) then
    some ((-1 : Int32), (0 : Int32), th_corners, th_isLoaded, th_loaded, th_widened, th_up, th_down, th_world, th_tight, th_sum, th_now)
  else
    (f_X9_ons K n_th_saying th_many th_saying).bind fun z6_0 =>
    (f_X9_loads K n_th_saying n_th_up n_th_down n_th_world n_th_tight n_th_sum n_th_now th_many th_corners th_isLoaded th_loaded (0 : Int32) th_wide th_saying th_up th_down th_world th_tight th_sum th_now (z6_0 &&& (((1 : Int32) <<< (x1 &&& 31)) ^^^ (-1 : Int32)))).bind fun z7 => match z7 with
    | (z7_0, z7_1, z7_2, z7_3, z7_4, z7_5, z7_6, z7_7, z7_8, z7_9) =>
      (lp (f_X9_follows_L37 K n_th_saying n_th_up (0 : Int32) z7_1 z7_2 z7_3 (0 : Int32) th_wide th_saying z7_4 z7_5 z7_6 z7_7 z7_8 z7_9 x1) K (0 : Int32)).bind fun z8 => match z8 with
      | .inl r => some r
      | .inr _ =>
        some ((1 : Int32), (0 : Int32), z7_1, z7_2, z7_3, (0 : Int32), z7_4, z7_5, z7_6, z7_7, z7_8, z7_9)
abbrev w_X9_follows (tc : Nat → ClassId) (q_th : Nat) (q_th_text : Nat) (q_th_saying : Nat) (q_th_signs : Nat) (q_th_sets : Nat) (q_th_told : Nat) (q_th_up : Nat) (q_th_down : Nat) (q_th_world : Nat) (q_th_tight : Nat) (q_th_sum : Nat) (q_th_now : Nat) (n_th_saying : Nat) (n_th_up : Nat) (n_th_down : Nat) (n_th_world : Nat) (n_th_tight : Nat) (n_th_sum : Nat) (n_th_now : Nat) (th_thrown : Int32) (th_typed : Int32) (th_next : Int32) (th_token : Int32) (th_place : Int32) (th_value : Int32) (th_fault : Int32) (th_many : Int32) (th_signMany : Int32) (th_setMany : Int32) (th_corners : Int32) (th_isLoaded : Int32) (th_loaded : Int32) (th_widened : Int32) (th_wide : Int32) (th_boundUp : Int64) (th_boundDown : Int64) (th_saying : Nat → Int32) (th_up : Nat → Int64) (th_down : Nat → Int64) (th_world : Nat → Int32) (th_tight : Nat → Int32) (th_sum : Nat → Int64) (th_now : Nat → Int64) : va_W := [(q_th, .inr (9, [.int th_thrown, .ref q_th_text, .int th_typed, .int th_next, .int th_token, .int th_place, .int th_value, .int th_fault, .int th_many, .ref q_th_saying, .ref q_th_signs, .ref q_th_sets, .int th_signMany, .int th_setMany, .ref q_th_told, .int th_corners, .int th_isLoaded, .int th_loaded, .ref q_th_up, .ref q_th_down, .ref q_th_world, .ref q_th_tight, .ref q_th_sum, .ref q_th_now, .int th_widened, .int th_wide, .long th_boundUp, .long th_boundDown])), (q_th_saying, .inl (tc 0, n_th_saying, .inl th_saying)), (q_th_up, .inl (tc 1, n_th_up, .inr (.inl th_up))), (q_th_down, .inl (tc 1, n_th_down, .inr (.inl th_down))), (q_th_world, .inl (tc 0, n_th_world, .inl th_world)), (q_th_tight, .inl (tc 0, n_th_tight, .inl th_tight)), (q_th_sum, .inl (tc 1, n_th_sum, .inr (.inl th_sum))), (q_th_now, .inl (tc 1, n_th_now, .inr (.inl th_now)))]
theorem wa_X9_follows {tc : Nat → ClassId} {q_th : Nat} {q_th_text : Nat} {q_th_saying : Nat} {q_th_signs : Nat} {q_th_sets : Nat} {q_th_told : Nat} {q_th_up : Nat} {q_th_down : Nat} {q_th_world : Nat} {q_th_tight : Nat} {q_th_sum : Nat} {q_th_now : Nat} {n_th_saying : Nat} {n_th_up : Nat} {n_th_down : Nat} {n_th_world : Nat} {n_th_tight : Nat} {n_th_sum : Nat} {n_th_now : Nat} {th_thrown : Int32} {th_typed : Int32} {th_next : Int32} {th_token : Int32} {th_place : Int32} {th_value : Int32} {th_fault : Int32} {th_many : Int32} {th_signMany : Int32} {th_setMany : Int32} {th_corners : Int32} {th_isLoaded : Int32} {th_loaded : Int32} {th_widened : Int32} {th_wide : Int32} {th_boundUp : Int64} {th_boundDown : Int64} {th_saying : Nat → Int32} {th_up : Nat → Int64} {th_down : Nat → Int64} {th_world : Nat → Int32} {th_tight : Nat → Int32} {th_sum : Nat → Int64} {th_now : Nat → Int64} : (w_X9_follows tc q_th q_th_text q_th_saying q_th_signs q_th_sets q_th_told q_th_up q_th_down q_th_world q_th_tight q_th_sum q_th_now n_th_saying n_th_up n_th_down n_th_world n_th_tight n_th_sum n_th_now th_thrown th_typed th_next th_token th_place th_value th_fault th_many th_signMany th_setMany th_corners th_isLoaded th_loaded th_widened th_wide th_boundUp th_boundDown th_saying th_up th_down th_world th_tight th_sum th_now).map (fun q => q.1) = [q_th, q_th_saying, q_th_up, q_th_down, q_th_world, q_th_tight, q_th_sum, q_th_now] := rfl
set_option maxHeartbeats 4000000 in
set_option maxRecDepth 100000 in
theorem s_X9_follows {l : Launch} {E : (Nat → Prop) → State → Prop} (hEok : st_Eok E) {D : va_G} {tc : Nat → ClassId} (q_th : Nat) (q_th_text : Nat) (q_th_saying : Nat) (q_th_signs : Nat) (q_th_sets : Nat) (q_th_told : Nat) (q_th_up : Nat) (q_th_down : Nat) (q_th_world : Nat) (q_th_tight : Nat) (q_th_sum : Nat) (q_th_now : Nat) (n_th_saying : Nat) (n_th_up : Nat) (n_th_down : Nat) (n_th_world : Nat) (n_th_tight : Nat) (n_th_sum : Nat) (n_th_now : Nat) (th_thrown : Int32) (th_typed : Int32) (th_next : Int32) (th_token : Int32) (th_place : Int32) (th_value : Int32) (th_fault : Int32) (th_many : Int32) (th_signMany : Int32) (th_setMany : Int32) (th_corners : Int32) (th_isLoaded : Int32) (th_loaded : Int32) (th_widened : Int32) (th_wide : Int32) (th_boundUp : Int64) (th_boundDown : Int64) (th_saying : Nat → Int32) (th_up : Nat → Int64) (th_down : Nat → Int64) (th_world : Nat → Int32) (th_tight : Nat → Int32) (th_sum : Nat → Int64) (th_now : Nat → Int64) (x1 : Int32) (K : Nat) (r0 : Int32) (th_thrown' : Int32) (th_corners' : Int32) (th_isLoaded' : Int32) (th_loaded' : Int32) (th_widened' : Int32) (th_up' : Nat → Int64) (th_down' : Nat → Int64) (th_world' : Nat → Int32) (th_tight' : Nat → Int32) (th_sum' : Nat → Int64) (th_now' : Nat → Int64) (h : f_X9_follows K n_th_saying n_th_up n_th_down n_th_world n_th_tight n_th_sum n_th_now th_many th_corners th_isLoaded th_loaded th_widened th_wide th_saying th_up th_down th_world th_tight th_sum th_now x1 = some (r0, th_thrown', th_corners', th_isLoaded', th_loaded', th_widened', th_up', th_down', th_world', th_tight', th_sum', th_now')) : st l yX9_follows wsX9_follows ({ frames := 5, cells := 0, slots := 0, locals := 138 }) E D tc [.ref q_th, .int x1] (w_X9_follows tc q_th q_th_text q_th_saying q_th_signs q_th_sets q_th_told q_th_up q_th_down q_th_world q_th_tight q_th_sum q_th_now n_th_saying n_th_up n_th_down n_th_world n_th_tight n_th_sum n_th_now th_thrown th_typed th_next th_token th_place th_value th_fault th_many th_signMany th_setMany th_corners th_isLoaded th_loaded th_widened th_wide th_boundUp th_boundDown th_saying th_up th_down th_world th_tight th_sum th_now) (some (.int r0)) (w_X9_follows tc q_th q_th_text q_th_saying q_th_signs q_th_sets q_th_told q_th_up q_th_down q_th_world q_th_tight q_th_sum q_th_now n_th_saying n_th_up n_th_down n_th_world n_th_tight n_th_sum n_th_now th_thrown' th_typed th_next th_token th_place th_value th_fault th_many th_signMany th_setMany th_corners' th_isLoaded' th_loaded' th_widened' th_wide th_boundUp th_boundDown th_saying th_up' th_down' th_world' th_tight' th_sum' th_now') := by
  refine st_enter (cc := cX9_follows) (maxL := 3) (ret := (some .int)) (by decide) rfl (Nat.le_of_ble_eq_true rfl) ?_
  intro p e s m below meth c A ls hx hb hr hml hts hown hlocks hK hN hE hA hP hD hS hl
  have hl : lv_has ls 3 [(0, .ref q_th), (1, .int x1)] := hl
  have hinX9 : ∀ w ∈ wsX90, w ∈ wsX9_follows := by decide +kernel
  generalize hav : ([.ref q_th, .int x1] : List Value).toArray = av at hts ⊢
  have L37 : ∀ (x1 : Int32) (th_thrown : Int32) (th_corners : Int32) (th_isLoaded : Int32) (th_loaded : Int32) (th_widened : Int32) (th_up : Nat → Int64) (th_down : Nat → Int64) (th_world : Nat → Int32) (th_tight : Nat → Int32) (th_sum : Nat → Int64) (th_now : Nat → Int64), ∀ (k : Nat) (s37 : Int32) (r : (Int32 × Int32 × Int32 × Int32 × Int32 × Int32 × (Nat → Int64) × (Nat → Int64) × (Nat → Int32) × (Nat → Int32) × (Nat → Int64) × (Nat → Int64)) ⊕ (Unit)), lp (f_X9_follows_L37 K n_th_saying n_th_up th_thrown th_corners th_isLoaded th_loaded th_widened th_wide th_saying th_up th_down th_world th_tight th_sum th_now x1) k s37 = some r → (fun z : (Int32 × Int32 × Int32 × Int32 × Int32 × Int32 × (Nat → Int64) × (Nat → Int64) × (Nat → Int32) × (Nat → Int32) × (Nat → Int64) × (Nat → Int64)) ⊕ (Unit) => match z with | .inl r => r = (r0, th_thrown', th_corners', th_isLoaded', th_loaded', th_widened', th_up', th_down', th_world', th_tight', th_sum', th_now') | .inr y37 => ∀ (H : Heap) (locs : List Loc) (ls : Array Slot), va_P D vwCl (w_X9_follows tc q_th q_th_text q_th_saying q_th_signs q_th_sets q_th_told q_th_up q_th_down q_th_world q_th_tight q_th_sum q_th_now n_th_saying n_th_up n_th_down n_th_world n_th_tight n_th_sum n_th_now th_thrown th_typed th_next th_token th_place th_value th_fault th_many th_signMany th_setMany th_corners th_isLoaded th_loaded th_widened th_wide th_boundUp th_boundDown th_saying th_up th_down th_world th_tight th_sum th_now) H → va_D A (w_X9_follows tc q_th q_th_text q_th_saying q_th_signs q_th_sets q_th_told q_th_up q_th_down q_th_world q_th_tight q_th_sum q_th_now n_th_saying n_th_up n_th_down n_th_world n_th_tight n_th_sum n_th_now th_thrown th_typed th_next th_token th_place th_value th_fault th_many th_signMany th_setMany th_corners th_isLoaded th_loaded th_widened th_wide th_boundUp th_boundDown th_saying th_up th_down th_world th_tight th_sum th_now) → va_S A s.heap H locs → lv_has ls 3 [] → W p l e ({ frames := 5, cells := 0, slots := 0, locals := 138 } : Room) s m av below meth c H locs 0 0 (MQ below (st_Q D (w_X9_follows tc q_th q_th_text q_th_saying q_th_signs q_th_sets q_th_told q_th_up q_th_down q_th_world q_th_tight q_th_sum q_th_now n_th_saying n_th_up n_th_down n_th_world n_th_tight n_th_sum n_th_now th_thrown' th_typed th_next th_token th_place th_value th_fault th_many th_signMany th_setMany th_corners' th_isLoaded' th_loaded' th_widened' th_wide th_boundUp th_boundDown th_saying th_up' th_down' th_world' th_tight' th_sum' th_now') (some (.int r0)) A) av s 0 0 A) (F0 m 69 ls [])) r → (fun x2 : Int32 => ∀ (H : Heap) (locs : List Loc) (ls : Array Slot), va_P D vwCl (w_X9_follows tc q_th q_th_text q_th_saying q_th_signs q_th_sets q_th_told q_th_up q_th_down q_th_world q_th_tight q_th_sum q_th_now n_th_saying n_th_up n_th_down n_th_world n_th_tight n_th_sum n_th_now th_thrown th_typed th_next th_token th_place th_value th_fault th_many th_signMany th_setMany th_corners th_isLoaded th_loaded th_widened th_wide th_boundUp th_boundDown th_saying th_up th_down th_world th_tight th_sum th_now) H → va_D A (w_X9_follows tc q_th q_th_text q_th_saying q_th_signs q_th_sets q_th_told q_th_up q_th_down q_th_world q_th_tight q_th_sum q_th_now n_th_saying n_th_up n_th_down n_th_world n_th_tight n_th_sum n_th_now th_thrown th_typed th_next th_token th_place th_value th_fault th_many th_signMany th_setMany th_corners th_isLoaded th_loaded th_widened th_wide th_boundUp th_boundDown th_saying th_up th_down th_world th_tight th_sum th_now) → va_S A s.heap H locs → lv_has ls 3 [(0, .ref q_th), (1, .int x1), (2, .int x2)] → W p l e ({ frames := 5, cells := 0, slots := 0, locals := 138 } : Room) s m av below meth c H locs 0 0 (MQ below (st_Q D (w_X9_follows tc q_th q_th_text q_th_saying q_th_signs q_th_sets q_th_told q_th_up q_th_down q_th_world q_th_tight q_th_sum q_th_now n_th_saying n_th_up n_th_down n_th_world n_th_tight n_th_sum n_th_now th_thrown' th_typed th_next th_token th_place th_value th_fault th_many th_signMany th_setMany th_corners' th_isLoaded' th_loaded' th_widened' th_wide th_boundUp th_boundDown th_saying th_up' th_down' th_world' th_tight' th_sum' th_now') (some (.int r0)) A) av s 0 0 A) (F0 m 37 ls [])) s37 := by
    intro x1 th_thrown th_corners th_isLoaded th_loaded th_widened th_up th_down th_world th_tight th_sum th_now
    refine lp_W (f_X9_follows_L37 K n_th_saying n_th_up th_thrown th_corners th_isLoaded th_loaded th_widened th_wide th_saying th_up th_down th_world th_tight th_sum th_now x1) (fun x2 : Int32 => ∀ (H : Heap) (locs : List Loc) (ls : Array Slot), va_P D vwCl (w_X9_follows tc q_th q_th_text q_th_saying q_th_signs q_th_sets q_th_told q_th_up q_th_down q_th_world q_th_tight q_th_sum q_th_now n_th_saying n_th_up n_th_down n_th_world n_th_tight n_th_sum n_th_now th_thrown th_typed th_next th_token th_place th_value th_fault th_many th_signMany th_setMany th_corners th_isLoaded th_loaded th_widened th_wide th_boundUp th_boundDown th_saying th_up th_down th_world th_tight th_sum th_now) H → va_D A (w_X9_follows tc q_th q_th_text q_th_saying q_th_signs q_th_sets q_th_told q_th_up q_th_down q_th_world q_th_tight q_th_sum q_th_now n_th_saying n_th_up n_th_down n_th_world n_th_tight n_th_sum n_th_now th_thrown th_typed th_next th_token th_place th_value th_fault th_many th_signMany th_setMany th_corners th_isLoaded th_loaded th_widened th_wide th_boundUp th_boundDown th_saying th_up th_down th_world th_tight th_sum th_now) → va_S A s.heap H locs → lv_has ls 3 [(0, .ref q_th), (1, .int x1), (2, .int x2)] → W p l e ({ frames := 5, cells := 0, slots := 0, locals := 138 } : Room) s m av below meth c H locs 0 0 (MQ below (st_Q D (w_X9_follows tc q_th q_th_text q_th_saying q_th_signs q_th_sets q_th_told q_th_up q_th_down q_th_world q_th_tight q_th_sum q_th_now n_th_saying n_th_up n_th_down n_th_world n_th_tight n_th_sum n_th_now th_thrown' th_typed th_next th_token th_place th_value th_fault th_many th_signMany th_setMany th_corners' th_isLoaded' th_loaded' th_widened' th_wide th_boundUp th_boundDown th_saying th_up' th_down' th_world' th_tight' th_sum' th_now') (some (.int r0)) A) av s 0 0 A) (F0 m 37 ls [])) (fun z : (Int32 × Int32 × Int32 × Int32 × Int32 × Int32 × (Nat → Int64) × (Nat → Int64) × (Nat → Int32) × (Nat → Int32) × (Nat → Int64) × (Nat → Int64)) ⊕ (Unit) => match z with | .inl r => r = (r0, th_thrown', th_corners', th_isLoaded', th_loaded', th_widened', th_up', th_down', th_world', th_tight', th_sum', th_now') | .inr y37 => ∀ (H : Heap) (locs : List Loc) (ls : Array Slot), va_P D vwCl (w_X9_follows tc q_th q_th_text q_th_saying q_th_signs q_th_sets q_th_told q_th_up q_th_down q_th_world q_th_tight q_th_sum q_th_now n_th_saying n_th_up n_th_down n_th_world n_th_tight n_th_sum n_th_now th_thrown th_typed th_next th_token th_place th_value th_fault th_many th_signMany th_setMany th_corners th_isLoaded th_loaded th_widened th_wide th_boundUp th_boundDown th_saying th_up th_down th_world th_tight th_sum th_now) H → va_D A (w_X9_follows tc q_th q_th_text q_th_saying q_th_signs q_th_sets q_th_told q_th_up q_th_down q_th_world q_th_tight q_th_sum q_th_now n_th_saying n_th_up n_th_down n_th_world n_th_tight n_th_sum n_th_now th_thrown th_typed th_next th_token th_place th_value th_fault th_many th_signMany th_setMany th_corners th_isLoaded th_loaded th_widened th_wide th_boundUp th_boundDown th_saying th_up th_down th_world th_tight th_sum th_now) → va_S A s.heap H locs → lv_has ls 3 [] → W p l e ({ frames := 5, cells := 0, slots := 0, locals := 138 } : Room) s m av below meth c H locs 0 0 (MQ below (st_Q D (w_X9_follows tc q_th q_th_text q_th_saying q_th_signs q_th_sets q_th_told q_th_up q_th_down q_th_world q_th_tight q_th_sum q_th_now n_th_saying n_th_up n_th_down n_th_world n_th_tight n_th_sum n_th_now th_thrown' th_typed th_next th_token th_place th_value th_fault th_many th_signMany th_setMany th_corners' th_isLoaded' th_loaded' th_widened' th_wide th_boundUp th_boundDown th_saying th_up' th_down' th_world' th_tight' th_sum' th_now') (some (.int r0)) A) av s 0 0 A) (F0 m 69 ls [])) ?_
    rintro x2 o h ih hz H locs ls hP hD hS hl
    unfold f_X9_follows_L37 at h
    refine lv_iload_n hx hb dX9_follows_37 rfl (lv_at hl 2 rfl) ?_
    refine lv_aload_n hx hb dX9_follows_38 rfl (lv_at hl 0 rfl) ?_
    refine va_get (D := D) (ci := 9) (v := .int th_corners) (C := RX9) (T := TX9) (N := 28) hx hb hts hinX9 hown hK hP 0 rfl rfl 15 (by decide) (hts (.fieldLink RX9 150 "ChanceBoundsModel" "corners" "I") (by decide +kernel)) (fun _ h9 => h9) rfl dX9_follows_39 ?_
    refine lv_icmp_ge (tgt := 69) hx hb dX9_follows_42 (by decide) (fun c1 => ?_) (fun c1 => ?_)
    · replace h := ifp c1 h
      cases h
      exact hz _ rfl _ _ _ hP hD hS (lv_sub hl [] rfl)
    · replace h := ifn c1 h
      refine lv_aload_n hx hb dX9_follows_45 rfl (lv_at hl 0 rfl) ?_
      refine lv_iload_n hx hb dX9_follows_46 rfl (lv_at hl 1 rfl) ?_
      refine lv_aload_n hx hb dX9_follows_47 rfl (lv_at hl 0 rfl) ?_
      refine va_get (D := D) (ci := 9) (v := .ref q_th_up) (C := RX9) (T := TX9) (N := 28) hx hb hts hinX9 hown hK hP 0 rfl rfl 18 (by decide) (hts (.fieldLink RX9 26 "ChanceBoundsModel" "up" "[J") (by decide +kernel)) (fun _ h9 => h9) rfl dX9_follows_48 ?_
      refine lv_bipush (v := (8 : Int32)) hx hb dX9_follows_51 (by decide) ?_
      refine lv_iload_n hx hb dX9_follows_53 rfl (lv_at hl 2 rfl) ?_
      refine lv_imul hx hb dX9_follows_54 ?_
      obtain ⟨z2_0, hc2, h⟩ := bd_ok h
      refine st_callV (As := [.int x1, .ref q_th_up, .int ((8 : Int32) * x2)]) (rest := []) (pos := [0, 1, 2]) ⟨hx, hb, hml, hown, hts⟩ (s_X9_isHeld (l := l) (D := D) (tc := tc) hEok q_th q_th_text q_th_saying q_th_signs q_th_sets q_th_told q_th_up q_th_down q_th_world q_th_tight q_th_sum q_th_now q_th_up n_th_saying n_th_up th_thrown th_typed th_next th_token th_place th_value th_fault th_many th_signMany th_setMany th_corners th_isLoaded th_loaded th_widened th_wide th_boundUp th_boundDown th_saying th_up x1 ((8 : Int32) * x2) K z2_0 hc2) (cwV 3 hts gX9_follows_X9_isHeld rfl rfl rfl (by decide +kernel) ⟨Nat.le_of_ble_eq_true rfl, Nat.le_of_ble_eq_true rfl⟩) (st_recv (ci := 9) (q0 := 0) hK hP rfl rfl) hEok hE hK hN hP hD hS hA rfl rfl rfl rfl hl.1 rfl (Nat.le_of_ble_eq_true rfl) dX9_follows_55 ⟨Nat.zero_le _, Nat.zero_le _⟩ (fun H locs hP hD hS => ?_)
      have hP : va_P D vwCl (w_X9_follows tc q_th q_th_text q_th_saying q_th_signs q_th_sets q_th_told q_th_up q_th_down q_th_world q_th_tight q_th_sum q_th_now n_th_saying n_th_up n_th_down n_th_world n_th_tight n_th_sum n_th_now th_thrown th_typed th_next th_token th_place th_value th_fault th_many th_signMany th_setMany th_corners th_isLoaded th_loaded th_widened th_wide th_boundUp th_boundDown th_saying th_up th_down th_world th_tight th_sum th_now) H := hP
      have hD : va_D A (w_X9_follows tc q_th q_th_text q_th_saying q_th_signs q_th_sets q_th_told q_th_up q_th_down q_th_world q_th_tight q_th_sum q_th_now n_th_saying n_th_up n_th_down n_th_world n_th_tight n_th_sum n_th_now th_thrown th_typed th_next th_token th_place th_value th_fault th_many th_signMany th_setMany th_corners th_isLoaded th_loaded th_widened th_wide th_boundUp th_boundDown th_saying th_up th_down th_world th_tight th_sum th_now) := hD
      refine lv_if_ne (tgt := 63) hx hb dX9_follows_58 (by decide) (fun c3 => ?_) (fun c3 => ?_)
      · replace h := ifn c3 h
        refine lv_iinc (v := x2 + 1) (lv' := [(2, .int (x2 + 1)), (0, .ref q_th), (1, .int x1)]) hx hb dX9_follows_63 hl (k := 2) rfl rfl (by decide) rfl (fun ls hl => ?_)
        refine lv_goto (tgt := 37) hx hb dX9_follows_66 (by decide) ?_
        cases h
        exact ih _ rfl _ _ _ hP hD hS (lv_sub hl [1, 2, 0] rfl)
      · replace h := ifp c3 h
        refine lv_iconst (v := (0 : Int32)) hx hb dX9_follows_61 (by decide) ?_
        cases h
        have e8 := hz _ rfl
        cases e8
        exact st_iret hx hb hr hlocks hP hD hS dX9_follows_62
  unfold f_X9_follows at h
  refine lv_aload_n hx hb dX9_follows_0 rfl (lv_at hl 0 rfl) ?_
  refine lv_iconst (v := (0 : Int32)) hx hb dX9_follows_1 (by decide) ?_
  refine va_put (D := D) (ci := 9) (v := .int (0 : Int32)) (ty := .int) (C := RX9) (T := TX9) (N := 28) hx hb hts hinX9 tyX9 tyX9_ok nmX9 hown hK hP hD hS 0 rfl rfl 0 (by decide) (hts (.fieldLink RX9 45 "ChanceBoundsModel" "thrown" "I") (by decide +kernel)) (fun _ h9 => h9) rfl (by decide +kernel) rfl rfl (Nat.le_of_ble_eq_true rfl) dX9_follows_2 (fun H locs hP hD hS => ?_)
  have hP : va_P D vwCl (w_X9_follows tc q_th q_th_text q_th_saying q_th_signs q_th_sets q_th_told q_th_up q_th_down q_th_world q_th_tight q_th_sum q_th_now n_th_saying n_th_up n_th_down n_th_world n_th_tight n_th_sum n_th_now (0 : Int32) th_typed th_next th_token th_place th_value th_fault th_many th_signMany th_setMany th_corners th_isLoaded th_loaded th_widened th_wide th_boundUp th_boundDown th_saying th_up th_down th_world th_tight th_sum th_now) H := hP
  have hD : va_D A (w_X9_follows tc q_th q_th_text q_th_saying q_th_signs q_th_sets q_th_told q_th_up q_th_down q_th_world q_th_tight q_th_sum q_th_now n_th_saying n_th_up n_th_down n_th_world n_th_tight n_th_sum n_th_now (0 : Int32) th_typed th_next th_token th_place th_value th_fault th_many th_signMany th_setMany th_corners th_isLoaded th_loaded th_widened th_wide th_boundUp th_boundDown th_saying th_up th_down th_world th_tight th_sum th_now) := hD
  refine lv_aload_n hx hb dX9_follows_5 rfl (lv_at hl 0 rfl) ?_
  refine lv_iload_n hx hb dX9_follows_6 rfl (lv_at hl 1 rfl) ?_
  obtain ⟨z4_0, hc4, h⟩ := bd_ok h
  refine st_callV (As := [.int x1]) (rest := []) (pos := [0]) ⟨hx, hb, hml, hown, hts⟩ (s_X9_isSaying (l := l) (D := D) (tc := tc) hEok q_th q_th_text q_th_saying q_th_signs q_th_sets q_th_told q_th_up q_th_down q_th_world q_th_tight q_th_sum q_th_now (0 : Int32) th_typed th_next th_token th_place th_value th_fault th_many th_signMany th_setMany th_corners th_isLoaded th_loaded th_widened th_wide th_boundUp th_boundDown x1 z4_0 hc4) (cwV 1 hts gX9_follows_X9_isSaying rfl rfl rfl (by decide +kernel) ⟨Nat.le_of_ble_eq_true rfl, Nat.le_of_ble_eq_true rfl⟩) (st_recv (ci := 9) (q0 := 0) hK hP rfl rfl) hEok hE hK hN hP hD hS hA rfl rfl rfl rfl hl.1 rfl (Nat.le_of_ble_eq_true rfl) dX9_follows_7 ⟨Nat.zero_le _, Nat.zero_le _⟩ (fun H locs hP hD hS => ?_)
  have hP : va_P D vwCl (w_X9_follows tc q_th q_th_text q_th_saying q_th_signs q_th_sets q_th_told q_th_up q_th_down q_th_world q_th_tight q_th_sum q_th_now n_th_saying n_th_up n_th_down n_th_world n_th_tight n_th_sum n_th_now (0 : Int32) th_typed th_next th_token th_place th_value th_fault th_many th_signMany th_setMany th_corners th_isLoaded th_loaded th_widened th_wide th_boundUp th_boundDown th_saying th_up th_down th_world th_tight th_sum th_now) H := hP
  have hD : va_D A (w_X9_follows tc q_th q_th_text q_th_saying q_th_signs q_th_sets q_th_told q_th_up q_th_down q_th_world q_th_tight q_th_sum q_th_now n_th_saying n_th_up n_th_down n_th_world n_th_tight n_th_sum n_th_now (0 : Int32) th_typed th_next th_token th_place th_value th_fault th_many th_signMany th_setMany th_corners th_isLoaded th_loaded th_widened th_wide th_boundUp th_boundDown th_saying th_up th_down th_world th_tight th_sum th_now) := hD
  refine lv_if_ne (tgt := 15) hx hb dX9_follows_10 (by decide) (fun c5 => ?_) (fun c5 => ?_)
  · replace h := ifn c5 h
    refine lv_aload_n hx hb dX9_follows_15 rfl (lv_at hl 0 rfl) ?_
    refine lv_iconst (v := (0 : Int32)) hx hb dX9_follows_16 (by decide) ?_
    refine va_put (D := D) (ci := 9) (v := .int (0 : Int32)) (ty := .int) (C := RX9) (T := TX9) (N := 28) hx hb hts hinX9 tyX9 tyX9_ok nmX9 hown hK hP hD hS 0 rfl rfl 24 (by decide) (hts (.fieldLink RX9 130 "ChanceBoundsModel" "widened" "I") (by decide +kernel)) (fun _ h9 => h9) rfl (by decide +kernel) rfl rfl (Nat.le_of_ble_eq_true rfl) dX9_follows_17 (fun H locs hP hD hS => ?_)
    have hP : va_P D vwCl (w_X9_follows tc q_th q_th_text q_th_saying q_th_signs q_th_sets q_th_told q_th_up q_th_down q_th_world q_th_tight q_th_sum q_th_now n_th_saying n_th_up n_th_down n_th_world n_th_tight n_th_sum n_th_now (0 : Int32) th_typed th_next th_token th_place th_value th_fault th_many th_signMany th_setMany th_corners th_isLoaded th_loaded (0 : Int32) th_wide th_boundUp th_boundDown th_saying th_up th_down th_world th_tight th_sum th_now) H := hP
    have hD : va_D A (w_X9_follows tc q_th q_th_text q_th_saying q_th_signs q_th_sets q_th_told q_th_up q_th_down q_th_world q_th_tight q_th_sum q_th_now n_th_saying n_th_up n_th_down n_th_world n_th_tight n_th_sum n_th_now (0 : Int32) th_typed th_next th_token th_place th_value th_fault th_many th_signMany th_setMany th_corners th_isLoaded th_loaded (0 : Int32) th_wide th_boundUp th_boundDown th_saying th_up th_down th_world th_tight th_sum th_now) := hD
    refine lv_aload_n hx hb dX9_follows_20 rfl (lv_at hl 0 rfl) ?_
    refine lv_aload_n hx hb dX9_follows_21 rfl (lv_at hl 0 rfl) ?_
    obtain ⟨z6_0, hc6, h⟩ := bd_ok h
    refine st_callV (As := []) (rest := [.ref q_th]) (pos := [0, 1]) ⟨hx, hb, hml, hown, hts⟩ (s_X9_ons (l := l) (D := D) (tc := tc) hEok q_th q_th_text q_th_saying q_th_signs q_th_sets q_th_told q_th_up q_th_down q_th_world q_th_tight q_th_sum q_th_now n_th_saying (0 : Int32) th_typed th_next th_token th_place th_value th_fault th_many th_signMany th_setMany th_corners th_isLoaded th_loaded (0 : Int32) th_wide th_boundUp th_boundDown th_saying K z6_0 hc6) (cwV 0 hts gX9_follows_X9_ons rfl rfl rfl (by decide +kernel) ⟨Nat.le_of_ble_eq_true rfl, Nat.le_of_ble_eq_true rfl⟩) (st_recv (ci := 9) (q0 := 0) hK hP rfl rfl) hEok hE hK hN hP hD hS hA rfl rfl rfl rfl hl.1 rfl (Nat.le_of_ble_eq_true rfl) dX9_follows_22 ⟨Nat.zero_le _, Nat.zero_le _⟩ (fun H locs hP hD hS => ?_)
    have hP : va_P D vwCl (w_X9_follows tc q_th q_th_text q_th_saying q_th_signs q_th_sets q_th_told q_th_up q_th_down q_th_world q_th_tight q_th_sum q_th_now n_th_saying n_th_up n_th_down n_th_world n_th_tight n_th_sum n_th_now (0 : Int32) th_typed th_next th_token th_place th_value th_fault th_many th_signMany th_setMany th_corners th_isLoaded th_loaded (0 : Int32) th_wide th_boundUp th_boundDown th_saying th_up th_down th_world th_tight th_sum th_now) H := hP
    have hD : va_D A (w_X9_follows tc q_th q_th_text q_th_saying q_th_signs q_th_sets q_th_told q_th_up q_th_down q_th_world q_th_tight q_th_sum q_th_now n_th_saying n_th_up n_th_down n_th_world n_th_tight n_th_sum n_th_now (0 : Int32) th_typed th_next th_token th_place th_value th_fault th_many th_signMany th_setMany th_corners th_isLoaded th_loaded (0 : Int32) th_wide th_boundUp th_boundDown th_saying th_up th_down th_world th_tight th_sum th_now) := hD
    refine lv_iconst (v := (1 : Int32)) hx hb dX9_follows_25 (by decide) ?_
    refine lv_iload_n hx hb dX9_follows_26 rfl (lv_at hl 1 rfl) ?_
    refine lv_ishl hx hb dX9_follows_27 ?_
    refine lv_iconst (v := (-1 : Int32)) hx hb dX9_follows_28 (by decide) ?_
    refine lv_ixor hx hb dX9_follows_29 ?_
    refine lv_iand hx hb dX9_follows_30 ?_
    obtain ⟨⟨z7_0, z7_1, z7_2, z7_3, z7_4, z7_5, z7_6, z7_7, z7_8, z7_9⟩, hc7, h⟩ := bd_ok h
    refine st_callV (As := [.int (z6_0 &&& (((1 : Int32) <<< (x1 &&& 31)) ^^^ (-1 : Int32)))]) (rest := []) (pos := (List.range' 0 8)) ⟨hx, hb, hml, hown, hts⟩ (s_X9_loads (l := l) (D := D) (tc := tc) hEok q_th q_th_text q_th_saying q_th_signs q_th_sets q_th_told q_th_up q_th_down q_th_world q_th_tight q_th_sum q_th_now n_th_saying n_th_up n_th_down n_th_world n_th_tight n_th_sum n_th_now (0 : Int32) th_typed th_next th_token th_place th_value th_fault th_many th_signMany th_setMany th_corners th_isLoaded th_loaded (0 : Int32) th_wide th_boundUp th_boundDown th_saying th_up th_down th_world th_tight th_sum th_now (z6_0 &&& (((1 : Int32) <<< (x1 &&& 31)) ^^^ (-1 : Int32))) K z7_0 z7_1 z7_2 z7_3 z7_4 z7_5 z7_6 z7_7 z7_8 z7_9 hc7) (cwV 1 hts gX9_follows_X9_loads rfl rfl rfl (by decide +kernel) ⟨Nat.le_of_ble_eq_true rfl, Nat.le_of_ble_eq_true rfl⟩) (st_recv (ci := 9) (q0 := 0) hK hP rfl rfl) hEok hE hK hN hP hD hS hA (st_segpos (m := 8) (by rfl) (by rfl) (by rfl)) (st_seg_nd _ _) (wa_X9_loads.trans wa_X9_loads.symm) rfl hl.1 rfl (Nat.le_of_ble_eq_true rfl) dX9_follows_31 ⟨Nat.zero_le _, Nat.zero_le _⟩ (fun H locs hP hD hS => ?_)
    have hP : va_P D vwCl (w_X9_follows tc q_th q_th_text q_th_saying q_th_signs q_th_sets q_th_told q_th_up q_th_down q_th_world q_th_tight q_th_sum q_th_now n_th_saying n_th_up n_th_down n_th_world n_th_tight n_th_sum n_th_now (0 : Int32) th_typed th_next th_token th_place th_value th_fault th_many th_signMany th_setMany z7_1 z7_2 z7_3 (0 : Int32) th_wide th_boundUp th_boundDown th_saying z7_4 z7_5 z7_6 z7_7 z7_8 z7_9) H := st_segP (w0 := (w_X9_loads tc q_th q_th_text q_th_saying q_th_signs q_th_sets q_th_told q_th_up q_th_down q_th_world q_th_tight q_th_sum q_th_now n_th_saying n_th_up n_th_down n_th_world n_th_tight n_th_sum n_th_now (0 : Int32) th_typed th_next th_token th_place th_value th_fault th_many th_signMany th_setMany th_corners th_isLoaded th_loaded (0 : Int32) th_wide th_boundUp th_boundDown th_saying th_up th_down th_world th_tight th_sum th_now)) (m := 8) (by rfl) (by rfl) (by rfl) (by rfl) (by rfl) hP
    have hD : va_D A (w_X9_follows tc q_th q_th_text q_th_saying q_th_signs q_th_sets q_th_told q_th_up q_th_down q_th_world q_th_tight q_th_sum q_th_now n_th_saying n_th_up n_th_down n_th_world n_th_tight n_th_sum n_th_now (0 : Int32) th_typed th_next th_token th_place th_value th_fault th_many th_signMany th_setMany z7_1 z7_2 z7_3 (0 : Int32) th_wide th_boundUp th_boundDown th_saying z7_4 z7_5 z7_6 z7_7 z7_8 z7_9) := st_segD (w0 := (w_X9_loads tc q_th q_th_text q_th_saying q_th_signs q_th_sets q_th_told q_th_up q_th_down q_th_world q_th_tight q_th_sum q_th_now n_th_saying n_th_up n_th_down n_th_world n_th_tight n_th_sum n_th_now (0 : Int32) th_typed th_next th_token th_place th_value th_fault th_many th_signMany th_setMany th_corners th_isLoaded th_loaded (0 : Int32) th_wide th_boundUp th_boundDown th_saying th_up th_down th_world th_tight th_sum th_now)) (m := 8) (by rfl) (by rfl) (by rfl) (by rfl) (by rfl) hD
    refine lv_pop hx hb dX9_follows_34 rfl ?_
    refine lv_iconst (v := (0 : Int32)) hx hb dX9_follows_35 (by decide) ?_
    refine lv_istore_n (lv' := [(2, .int (0 : Int32)), (0, .ref q_th), (1, .int x1)]) hx hb dX9_follows_36 rfl hl (by decide) rfl (fun ls hl => ?_)
    obtain ⟨z8, hl8, h⟩ := bd_ok h
    refine L37 x1 (0 : Int32) z7_1 z7_2 z7_3 (0 : Int32) z7_4 z7_5 z7_6 z7_7 z7_8 z7_9 K _ z8 hl8 ?_ _ _ _ hP hD hS (lv_sub hl [1, 2, 0] rfl)
    rcases z8 with r | ⟨⟩
    · cases h
      exact rfl
    intro H locs ls hP hD hS hl
    refine lv_iconst (v := (1 : Int32)) hx hb dX9_follows_69 (by decide) ?_
    simp only [Option.some.injEq, Prod.mk.injEq] at h
    obtain ⟨rfl, rfl, rfl, rfl, rfl, rfl, rfl, rfl, rfl, rfl, rfl, rfl⟩ := h
    exact st_iret hx hb hr hlocks hP hD hS dX9_follows_70
  · replace h := ifp c5 h
    refine lv_iconst (v := (-1 : Int32)) hx hb dX9_follows_13 (by decide) ?_
    simp only [Option.some.injEq, Prod.mk.injEq] at h
    obtain ⟨rfl, rfl, rfl, rfl, rfl, rfl, rfl, rfl, rfl, rfl, rfl, rfl⟩ := h
    exact st_iret hx hb hr hlocks hP hD hS dX9_follows_14
def f_X9_needed_J222 (th_corners : Int32) (th_isLoaded : Int32) (th_loaded : Int32) (th_boundUp : Int64) (th_boundDown : Int64) (th_up : Nat → Int64) (th_down : Nat → Int64) (th_world : Nat → Int32) (th_tight : Nat → Int32) (th_sum : Nat → Int64) (th_now : Nat → Int64) (x14 : Int32) (x15 : Int32) : Option ((Int32 × Int32 × Int32 × Int32 × Int64 × Int64 × (Nat → Int64) × (Nat → Int64) × (Nat → Int32) × (Nat → Int32) × (Nat → Int64) × (Nat → Int64)) ⊕ (Int32 × Int32 × Int32 × Int32 × Int32 × Int64 × Int64 × (Nat → Int64) × (Nat → Int64) × (Nat → Int32) × (Nat → Int32) × (Nat → Int64) × (Nat → Int64))) :=
  if (0 : Int32) = (0 : Int32) then
    some (.inr (x14, x15 + 1, th_corners, th_isLoaded, th_loaded, th_boundUp, th_boundDown, th_up, th_down, th_world, th_tight, th_sum, th_now))
  else
    some (.inr (x15, x15 + 1, th_corners, th_isLoaded, th_loaded, th_boundUp, th_boundDown, th_up, th_down, th_world, th_tight, th_sum, th_now))
def f_X9_needed_J218 (th_corners : Int32) (th_isLoaded : Int32) (th_loaded : Int32) (th_boundUp : Int64) (th_boundDown : Int64) (th_up : Nat → Int64) (th_down : Nat → Int64) (th_world : Nat → Int32) (th_tight : Nat → Int32) (th_sum : Nat → Int64) (th_now : Nat → Int64) (x14 : Int32) (x15 : Int32) : Option ((Int32 × Int32 × Int32 × Int32 × Int64 × Int64 × (Nat → Int64) × (Nat → Int64) × (Nat → Int32) × (Nat → Int32) × (Nat → Int64) × (Nat → Int64)) ⊕ (Int32 × Int32 × Int32 × Int32 × Int32 × Int64 × Int64 × (Nat → Int64) × (Nat → Int64) × (Nat → Int32) × (Nat → Int32) × (Nat → Int64) × (Nat → Int64))) :=
  if (1 : Int32) = (0 : Int32) then
    some (.inr (x14, x15 + 1, th_corners, th_isLoaded, th_loaded, th_boundUp, th_boundDown, th_up, th_down, th_world, th_tight, th_sum, th_now))
  else
    some (.inr (x15, x15 + 1, th_corners, th_isLoaded, th_loaded, th_boundUp, th_boundDown, th_up, th_down, th_world, th_tight, th_sum, th_now))
def f_X9_needed_J178 (K : Nat) (n_th_up : Nat) (n_th_down : Nat) (th_corners : Int32) (th_isLoaded : Int32) (th_loaded : Int32) (th_boundUp : Int64) (th_up : Nat → Int64) (th_down : Nat → Int64) (th_world : Nat → Int32) (th_tight : Nat → Int32) (th_sum : Nat → Int64) (th_now : Nat → Int64) (x1 : Int32) (x2 : Int32) (x5 : Int32) (x10 : Int64) (x12 : Int64) (x14 : Int32) (x15 : Int32) : Option ((Int32 × Int32 × Int32 × Int32 × Int64 × Int64 × (Nat → Int64) × (Nat → Int64) × (Nat → Int32) × (Nat → Int32) × (Nat → Int64) × (Nat → Int64)) ⊕ (Int32 × Int32 × Int32 × Int32 × Int32 × Int64 × Int64 × (Nat → Int64) × (Nat → Int64) × (Nat → Int32) × (Nat → Int32) × (Nat → Int64) × (Nat → Int64))) :=
  (f_X9_bounds K n_th_up n_th_down th_corners th_boundUp th_up th_down x1 x2 (1 : Int32) (0 : Int32)).bind fun z3 => match z3 with
  | (z3_0, z3_1, z3_2) =>
    if (0 : Int32) = (0 : Int32) then
      f_X9_needed_J222 th_corners th_isLoaded th_loaded z3_1 z3_2 th_up th_down th_world th_tight th_sum th_now x14 x15
    else
      if x5 = (0 : Int32) then
        f_X9_needed_J218 th_corners th_isLoaded th_loaded z3_1 z3_2 th_up th_down th_world th_tight th_sum th_now x14 x15
      else
        if (lg_cmp (z3_1 * x12) (x10 * z3_2)) = (0 : Int32) then
          f_X9_needed_J218 th_corners th_isLoaded th_loaded z3_1 z3_2 th_up th_down th_world th_tight th_sum th_now x14 x15
        else
          f_X9_needed_J222 th_corners th_isLoaded th_loaded z3_1 z3_2 th_up th_down th_world th_tight th_sum th_now x14 x15
def f_X9_needed_J174 (K : Nat) (n_th_up : Nat) (n_th_down : Nat) (th_corners : Int32) (th_isLoaded : Int32) (th_loaded : Int32) (th_boundUp : Int64) (th_up : Nat → Int64) (th_down : Nat → Int64) (th_world : Nat → Int32) (th_tight : Nat → Int32) (th_sum : Nat → Int64) (th_now : Nat → Int64) (x1 : Int32) (x2 : Int32) (x5 : Int32) (x10 : Int64) (x12 : Int64) (x14 : Int32) (x15 : Int32) : Option ((Int32 × Int32 × Int32 × Int32 × Int64 × Int64 × (Nat → Int64) × (Nat → Int64) × (Nat → Int32) × (Nat → Int32) × (Nat → Int64) × (Nat → Int64)) ⊕ (Int32 × Int32 × Int32 × Int32 × Int32 × Int64 × Int64 × (Nat → Int64) × (Nat → Int64) × (Nat → Int32) × (Nat → Int32) × (Nat → Int64) × (Nat → Int64))) :=
  (f_X9_bounds K n_th_up n_th_down th_corners th_boundUp th_up th_down x1 x2 (1 : Int32) (0 : Int32)).bind fun z7 => match z7 with
  | (z7_0, z7_1, z7_2) =>
    if (1 : Int32) = (0 : Int32) then
      f_X9_needed_J222 th_corners th_isLoaded th_loaded z7_1 z7_2 th_up th_down th_world th_tight th_sum th_now x14 x15
    else
      if x5 = (0 : Int32) then
        f_X9_needed_J218 th_corners th_isLoaded th_loaded z7_1 z7_2 th_up th_down th_world th_tight th_sum th_now x14 x15
      else
        if (lg_cmp (z7_1 * x12) (x10 * z7_2)) = (0 : Int32) then
          f_X9_needed_J218 th_corners th_isLoaded th_loaded z7_1 z7_2 th_up th_down th_world th_tight th_sum th_now x14 x15
        else
          f_X9_needed_J222 th_corners th_isLoaded th_loaded z7_1 z7_2 th_up th_down th_world th_tight th_sum th_now x14 x15
def f_X9_needed_L89 (K : Nat) (n_th_saying : Nat) (n_th_up : Nat) (n_th_down : Nat) (n_th_world : Nat) (n_th_tight : Nat) (n_th_sum : Nat) (n_th_now : Nat) (th_many : Int32) (th_widened : Int32) (th_wide : Int32) (th_saying : Nat → Int32) (x1 : Int32) (x2 : Int32) (x4 : Int32) (x5 : Int32) (x6 : Int64) (x8 : Int64) (x10 : Int64) (x12 : Int64) (s89 : Int32 × Int32 × Int32 × Int32 × Int32 × Int64 × Int64 × (Nat → Int64) × (Nat → Int64) × (Nat → Int32) × (Nat → Int32) × (Nat → Int64) × (Nat → Int64)) : Option ((Int32 × Int32 × Int32 × Int32 × Int64 × Int64 × (Nat → Int64) × (Nat → Int64) × (Nat → Int32) × (Nat → Int32) × (Nat → Int64) × (Nat → Int64)) ⊕ (Int32 × Int32 × Int32 × Int32 × Int32 × Int64 × Int64 × (Nat → Int64) × (Nat → Int64) × (Nat → Int32) × (Nat → Int32) × (Nat → Int64) × (Nat → Int64))) :=
  match s89 with
  | (x14, x15, th_corners, th_isLoaded, th_loaded, th_boundUp, th_boundDown, th_up, th_down, th_world, th_tight, th_sum, th_now) =>
    if x4 ≤ x15 then
      some (.inl (x14, th_corners, th_isLoaded, th_loaded, th_boundUp, th_boundDown, th_up, th_down, th_world, th_tight, th_sum, th_now))
    else
      if (x15 &&& (x4 ^^^ (-1 : Int32))) = (0 : Int32) then
        (f_X9_ones K x15).bind fun z13_0 =>
        (f_X9_ones K x14).bind fun z14_0 =>
        if z14_0 ≤ z13_0 then
          some (.inr (x14, x15 + 1, th_corners, th_isLoaded, th_loaded, th_boundUp, th_boundDown, th_up, th_down, th_world, th_tight, th_sum, th_now))
        else
          (f_X9_loads K n_th_saying n_th_up n_th_down n_th_world n_th_tight n_th_sum n_th_now th_many th_corners th_isLoaded th_loaded th_widened th_wide th_saying th_up th_down th_world th_tight th_sum th_now x15).bind fun z16 => match z16 with
          | (z16_0, z16_1, z16_2, z16_3, z16_4, z16_5, z16_6, z16_7, z16_8, z16_9) =>
            (f_X9_bounds K n_th_up n_th_down z16_1 th_boundUp z16_4 z16_5 x1 x2 (0 : Int32) (0 : Int32)).bind fun z17 => match z17 with
            | (z17_0, z17_1, z17_2) =>
              if z17_0 = x5 then
                if (1 : Int32) = (0 : Int32) then
                  f_X9_needed_J178 K n_th_up n_th_down z16_1 z16_2 z16_3 z17_1 z16_4 z16_5 z16_6 z16_7 z16_8 z16_9 x1 x2 x5 x10 x12 x14 x15
                else
                  if x5 = (0 : Int32) then
                    f_X9_needed_J174 K n_th_up n_th_down z16_1 z16_2 z16_3 z17_1 z16_4 z16_5 z16_6 z16_7 z16_8 z16_9 x1 x2 x5 x10 x12 x14 x15
                  else
                    if (lg_cmp (z17_1 * x8) (x6 * z17_2)) = (0 : Int32) then
                      f_X9_needed_J174 K n_th_up n_th_down z16_1 z16_2 z16_3 z17_1 z16_4 z16_5 z16_6 z16_7 z16_8 z16_9 x1 x2 x5 x10 x12 x14 x15
                    else
                      f_X9_needed_J178 K n_th_up n_th_down z16_1 z16_2 z16_3 z17_1 z16_4 z16_5 z16_6 z16_7 z16_8 z16_9 x1 x2 x5 x10 x12 x14 x15
              else
                if (0 : Int32) = (0 : Int32) then
                  f_X9_needed_J178 K n_th_up n_th_down z16_1 z16_2 z16_3 z17_1 z16_4 z16_5 z16_6 z16_7 z16_8 z16_9 x1 x2 x5 x10 x12 x14 x15
                else
                  if x5 = (0 : Int32) then
                    f_X9_needed_J174 K n_th_up n_th_down z16_1 z16_2 z16_3 z17_1 z16_4 z16_5 z16_6 z16_7 z16_8 z16_9 x1 x2 x5 x10 x12 x14 x15
                  else
                    if (lg_cmp (z17_1 * x8) (x6 * z17_2)) = (0 : Int32) then
                      f_X9_needed_J174 K n_th_up n_th_down z16_1 z16_2 z16_3 z17_1 z16_4 z16_5 z16_6 z16_7 z16_8 z16_9 x1 x2 x5 x10 x12 x14 x15
                    else
                      f_X9_needed_J178 K n_th_up n_th_down z16_1 z16_2 z16_3 z17_1 z16_4 z16_5 z16_6 z16_7 z16_8 z16_9 x1 x2 x5 x10 x12 x14 x15
      else
        some (.inr (x14, x15 + 1, th_corners, th_isLoaded, th_loaded, th_boundUp, th_boundDown, th_up, th_down, th_world, th_tight, th_sum, th_now))
def f_X9_needed (K : Nat) (n_th_saying : Nat) (n_th_up : Nat) (n_th_down : Nat) (n_th_world : Nat) (n_th_tight : Nat) (n_th_sum : Nat) (n_th_now : Nat) (th_many : Int32) (th_corners : Int32) (th_isLoaded : Int32) (th_loaded : Int32) (th_widened : Int32) (th_wide : Int32) (th_boundUp : Int64) (th_boundDown : Int64) (th_saying : Nat → Int32) (th_up : Nat → Int64) (th_down : Nat → Int64) (th_world : Nat → Int32) (th_tight : Nat → Int32) (th_sum : Nat → Int64) (th_now : Nat → Int64) (x1 : Int32) (x2 : Int32) (x3 : Int32) : Option (Int32 × Int32 × Int32 × Int32 × Int32 × Int32 × Int64 × Int64 × (Nat → Int64) × (Nat → Int64) × (Nat → Int32) × (Nat → Int32) × (Nat → Int64) × (Nat → Int64)) :=
  (f_X9_isThing x1).bind fun z25_0 =>
  if z25_0 = (0 : Int32) then
    some ((-1 : Int32), (0 : Int32), th_corners, th_isLoaded, th_loaded, th_widened, th_boundUp, th_boundDown, th_up, th_down, th_world, th_tight, th_sum, th_now)
  else
    (f_X9_isThing x2).bind fun z27_0 =>
    if z27_0 = (0 : Int32) then
      some ((-1 : Int32), (0 : Int32), th_corners, th_isLoaded, th_loaded, th_widened, th_boundUp, th_boundDown, th_up, th_down, th_world, th_tight, th_sum, th_now)
    else
      (f_X9_isBit x3).bind fun z29_0 =>
      if z29_0 = (0 : Int32) then
        some ((-1 : Int32), (0 : Int32), th_corners, th_isLoaded, th_loaded, th_widened, th_boundUp, th_boundDown, th_up, th_down, th_world, th_tight, th_sum, th_now)
      else
        (f_X9_loadsOn K n_th_saying n_th_up n_th_down n_th_world n_th_tight n_th_sum n_th_now th_many th_corners th_isLoaded th_loaded th_wide th_saying th_up th_down th_world th_tight th_sum th_now).bind fun z31 => match z31 with
        | (z31_0, z31_1, z31_2, z31_3, z31_4, z31_5, z31_6, z31_7, z31_8, z31_9, z31_10) =>
          (f_X9_ons K n_th_saying th_many th_saying).bind fun z32_0 =>
          (f_X9_bounds K n_th_up n_th_down z31_1 th_boundUp z31_5 z31_6 x1 x2 (0 : Int32) (0 : Int32)).bind fun z33 => match z33 with
          | (z33_0, z33_1, z33_2) =>
            (f_X9_bounds K n_th_up n_th_down z31_1 z33_1 z31_5 z31_6 x1 x2 (1 : Int32) (0 : Int32)).bind fun z34 => match z34 with
            | (z34_0, z34_1, z34_2) =>
              (lp (f_X9_needed_L89 K n_th_saying n_th_up n_th_down n_th_world n_th_tight n_th_sum n_th_now th_many z31_4 th_wide th_saying x1 x2 z32_0 z33_0 z33_1 z33_2 z34_1 z34_2) K (z32_0, (0 : Int32), z31_1, z31_2, z31_3, z34_1, z34_2, z31_5, z31_6, z31_7, z31_8, z31_9, z31_10)).bind fun z35 => match z35 with
              | (z35_0, z35_1, z35_2, z35_3, z35_4, z35_5, z35_6, z35_7, z35_8, z35_9, z35_10, z35_11) =>
                if x3 = (0 : Int32) then
                  (f_X9_ones K z35_0).bind fun z37_0 =>
                  some (z37_0, (0 : Int32), z35_1, z35_2, z35_3, z31_4, z35_4, z35_5, z35_6, z35_7, z35_8, z35_9, z35_10, z35_11)
                else
                  some (z35_0, (0 : Int32), z35_1, z35_2, z35_3, z31_4, z35_4, z35_5, z35_6, z35_7, z35_8, z35_9, z35_10, z35_11)
abbrev w_X9_needed (tc : Nat → ClassId) (q_th : Nat) (q_th_text : Nat) (q_th_saying : Nat) (q_th_signs : Nat) (q_th_sets : Nat) (q_th_told : Nat) (q_th_up : Nat) (q_th_down : Nat) (q_th_world : Nat) (q_th_tight : Nat) (q_th_sum : Nat) (q_th_now : Nat) (n_th_saying : Nat) (n_th_up : Nat) (n_th_down : Nat) (n_th_world : Nat) (n_th_tight : Nat) (n_th_sum : Nat) (n_th_now : Nat) (th_thrown : Int32) (th_typed : Int32) (th_next : Int32) (th_token : Int32) (th_place : Int32) (th_value : Int32) (th_fault : Int32) (th_many : Int32) (th_signMany : Int32) (th_setMany : Int32) (th_corners : Int32) (th_isLoaded : Int32) (th_loaded : Int32) (th_widened : Int32) (th_wide : Int32) (th_boundUp : Int64) (th_boundDown : Int64) (th_saying : Nat → Int32) (th_up : Nat → Int64) (th_down : Nat → Int64) (th_world : Nat → Int32) (th_tight : Nat → Int32) (th_sum : Nat → Int64) (th_now : Nat → Int64) : va_W := [(q_th, .inr (9, [.int th_thrown, .ref q_th_text, .int th_typed, .int th_next, .int th_token, .int th_place, .int th_value, .int th_fault, .int th_many, .ref q_th_saying, .ref q_th_signs, .ref q_th_sets, .int th_signMany, .int th_setMany, .ref q_th_told, .int th_corners, .int th_isLoaded, .int th_loaded, .ref q_th_up, .ref q_th_down, .ref q_th_world, .ref q_th_tight, .ref q_th_sum, .ref q_th_now, .int th_widened, .int th_wide, .long th_boundUp, .long th_boundDown])), (q_th_saying, .inl (tc 0, n_th_saying, .inl th_saying)), (q_th_up, .inl (tc 1, n_th_up, .inr (.inl th_up))), (q_th_down, .inl (tc 1, n_th_down, .inr (.inl th_down))), (q_th_world, .inl (tc 0, n_th_world, .inl th_world)), (q_th_tight, .inl (tc 0, n_th_tight, .inl th_tight)), (q_th_sum, .inl (tc 1, n_th_sum, .inr (.inl th_sum))), (q_th_now, .inl (tc 1, n_th_now, .inr (.inl th_now)))]
theorem wa_X9_needed {tc : Nat → ClassId} {q_th : Nat} {q_th_text : Nat} {q_th_saying : Nat} {q_th_signs : Nat} {q_th_sets : Nat} {q_th_told : Nat} {q_th_up : Nat} {q_th_down : Nat} {q_th_world : Nat} {q_th_tight : Nat} {q_th_sum : Nat} {q_th_now : Nat} {n_th_saying : Nat} {n_th_up : Nat} {n_th_down : Nat} {n_th_world : Nat} {n_th_tight : Nat} {n_th_sum : Nat} {n_th_now : Nat} {th_thrown : Int32} {th_typed : Int32} {th_next : Int32} {th_token : Int32} {th_place : Int32} {th_value : Int32} {th_fault : Int32} {th_many : Int32} {th_signMany : Int32} {th_setMany : Int32} {th_corners : Int32} {th_isLoaded : Int32} {th_loaded : Int32} {th_widened : Int32} {th_wide : Int32} {th_boundUp : Int64} {th_boundDown : Int64} {th_saying : Nat → Int32} {th_up : Nat → Int64} {th_down : Nat → Int64} {th_world : Nat → Int32} {th_tight : Nat → Int32} {th_sum : Nat → Int64} {th_now : Nat → Int64} : (w_X9_needed tc q_th q_th_text q_th_saying q_th_signs q_th_sets q_th_told q_th_up q_th_down q_th_world q_th_tight q_th_sum q_th_now n_th_saying n_th_up n_th_down n_th_world n_th_tight n_th_sum n_th_now th_thrown th_typed th_next th_token th_place th_value th_fault th_many th_signMany th_setMany th_corners th_isLoaded th_loaded th_widened th_wide th_boundUp th_boundDown th_saying th_up th_down th_world th_tight th_sum th_now).map (fun q => q.1) = [q_th, q_th_saying, q_th_up, q_th_down, q_th_world, q_th_tight, q_th_sum, q_th_now] := rfl
set_option maxHeartbeats 4000000 in
set_option maxRecDepth 100000 in
theorem s_X9_needed {l : Launch} {E : (Nat → Prop) → State → Prop} (hEok : st_Eok E) {D : va_G} {tc : Nat → ClassId} (q_th : Nat) (q_th_text : Nat) (q_th_saying : Nat) (q_th_signs : Nat) (q_th_sets : Nat) (q_th_told : Nat) (q_th_up : Nat) (q_th_down : Nat) (q_th_world : Nat) (q_th_tight : Nat) (q_th_sum : Nat) (q_th_now : Nat) (n_th_saying : Nat) (n_th_up : Nat) (n_th_down : Nat) (n_th_world : Nat) (n_th_tight : Nat) (n_th_sum : Nat) (n_th_now : Nat) (th_thrown : Int32) (th_typed : Int32) (th_next : Int32) (th_token : Int32) (th_place : Int32) (th_value : Int32) (th_fault : Int32) (th_many : Int32) (th_signMany : Int32) (th_setMany : Int32) (th_corners : Int32) (th_isLoaded : Int32) (th_loaded : Int32) (th_widened : Int32) (th_wide : Int32) (th_boundUp : Int64) (th_boundDown : Int64) (th_saying : Nat → Int32) (th_up : Nat → Int64) (th_down : Nat → Int64) (th_world : Nat → Int32) (th_tight : Nat → Int32) (th_sum : Nat → Int64) (th_now : Nat → Int64) (x1 : Int32) (x2 : Int32) (x3 : Int32) (K : Nat) (r0 : Int32) (th_thrown' : Int32) (th_corners' : Int32) (th_isLoaded' : Int32) (th_loaded' : Int32) (th_widened' : Int32) (th_boundUp' : Int64) (th_boundDown' : Int64) (th_up' : Nat → Int64) (th_down' : Nat → Int64) (th_world' : Nat → Int32) (th_tight' : Nat → Int32) (th_sum' : Nat → Int64) (th_now' : Nat → Int64) (h : f_X9_needed K n_th_saying n_th_up n_th_down n_th_world n_th_tight n_th_sum n_th_now th_many th_corners th_isLoaded th_loaded th_widened th_wide th_boundUp th_boundDown th_saying th_up th_down th_world th_tight th_sum th_now x1 x2 x3 = some (r0, th_thrown', th_corners', th_isLoaded', th_loaded', th_widened', th_boundUp', th_boundDown', th_up', th_down', th_world', th_tight', th_sum', th_now')) : st l yX9_needed wsX9_needed ({ frames := 6, cells := 0, slots := 0, locals := 158 }) E D tc [.ref q_th, .int x1, .int x2, .int x3] (w_X9_needed tc q_th q_th_text q_th_saying q_th_signs q_th_sets q_th_told q_th_up q_th_down q_th_world q_th_tight q_th_sum q_th_now n_th_saying n_th_up n_th_down n_th_world n_th_tight n_th_sum n_th_now th_thrown th_typed th_next th_token th_place th_value th_fault th_many th_signMany th_setMany th_corners th_isLoaded th_loaded th_widened th_wide th_boundUp th_boundDown th_saying th_up th_down th_world th_tight th_sum th_now) (some (.int r0)) (w_X9_needed tc q_th q_th_text q_th_saying q_th_signs q_th_sets q_th_told q_th_up q_th_down q_th_world q_th_tight q_th_sum q_th_now n_th_saying n_th_up n_th_down n_th_world n_th_tight n_th_sum n_th_now th_thrown' th_typed th_next th_token th_place th_value th_fault th_many th_signMany th_setMany th_corners' th_isLoaded' th_loaded' th_widened' th_wide th_boundUp' th_boundDown' th_saying th_up' th_down' th_world' th_tight' th_sum' th_now') := by
  refine st_enter (cc := cX9_needed) (maxL := 17) (ret := (some .int)) (by decide) rfl (Nat.le_of_ble_eq_true rfl) ?_
  intro p e s m below meth c A ls hx hb hr hml hts hown hlocks hK hN hE hA hP hD hS hl
  have hl : lv_has ls 17 [(0, .ref q_th), (1, .int x1), (2, .int x2), (3, .int x3)] := hl
  have hinX9 : ∀ w ∈ wsX90, w ∈ wsX9_needed := by decide +kernel
  generalize hav : ([.ref q_th, .int x1, .int x2, .int x3] : List Value).toArray = av at hts ⊢
  have L89 : ∀ (x1 : Int32) (x2 : Int32) (x3 : Int32) (x4 : Int32) (x5 : Int32) (x6 : Int64) (x8 : Int64) (x10 : Int64) (x12 : Int64) (th_thrown : Int32) (th_widened : Int32), ∀ (k : Nat) (s89 : Int32 × Int32 × Int32 × Int32 × Int32 × Int64 × Int64 × (Nat → Int64) × (Nat → Int64) × (Nat → Int32) × (Nat → Int32) × (Nat → Int64) × (Nat → Int64)) (r : Int32 × Int32 × Int32 × Int32 × Int64 × Int64 × (Nat → Int64) × (Nat → Int64) × (Nat → Int32) × (Nat → Int32) × (Nat → Int64) × (Nat → Int64)), lp (f_X9_needed_L89 K n_th_saying n_th_up n_th_down n_th_world n_th_tight n_th_sum n_th_now th_many th_widened th_wide th_saying x1 x2 x4 x5 x6 x8 x10 x12) k s89 = some r → (fun y89 : Int32 × Int32 × Int32 × Int32 × Int64 × Int64 × (Nat → Int64) × (Nat → Int64) × (Nat → Int32) × (Nat → Int32) × (Nat → Int64) × (Nat → Int64) => match y89 with | (x14, th_corners, th_isLoaded, th_loaded, th_boundUp, th_boundDown, th_up, th_down, th_world, th_tight, th_sum, th_now) => ∀ (H : Heap) (locs : List Loc) (ls : Array Slot), va_P D vwCl (w_X9_needed tc q_th q_th_text q_th_saying q_th_signs q_th_sets q_th_told q_th_up q_th_down q_th_world q_th_tight q_th_sum q_th_now n_th_saying n_th_up n_th_down n_th_world n_th_tight n_th_sum n_th_now th_thrown th_typed th_next th_token th_place th_value th_fault th_many th_signMany th_setMany th_corners th_isLoaded th_loaded th_widened th_wide th_boundUp th_boundDown th_saying th_up th_down th_world th_tight th_sum th_now) H → va_D A (w_X9_needed tc q_th q_th_text q_th_saying q_th_signs q_th_sets q_th_told q_th_up q_th_down q_th_world q_th_tight q_th_sum q_th_now n_th_saying n_th_up n_th_down n_th_world n_th_tight n_th_sum n_th_now th_thrown th_typed th_next th_token th_place th_value th_fault th_many th_signMany th_setMany th_corners th_isLoaded th_loaded th_widened th_wide th_boundUp th_boundDown th_saying th_up th_down th_world th_tight th_sum th_now) → va_S A s.heap H locs → lv_has ls 17 [(3, .int x3), (14, .int x14)] → W p l e ({ frames := 6, cells := 0, slots := 0, locals := 158 } : Room) s m av below meth c H locs 0 0 (MQ below (st_Q D (w_X9_needed tc q_th q_th_text q_th_saying q_th_signs q_th_sets q_th_told q_th_up q_th_down q_th_world q_th_tight q_th_sum q_th_now n_th_saying n_th_up n_th_down n_th_world n_th_tight n_th_sum n_th_now th_thrown' th_typed th_next th_token th_place th_value th_fault th_many th_signMany th_setMany th_corners' th_isLoaded' th_loaded' th_widened' th_wide th_boundUp' th_boundDown' th_saying th_up' th_down' th_world' th_tight' th_sum' th_now') (some (.int r0)) A) av s 0 0 A) (F0 m 245 ls [])) r → (fun s89 : Int32 × Int32 × Int32 × Int32 × Int32 × Int64 × Int64 × (Nat → Int64) × (Nat → Int64) × (Nat → Int32) × (Nat → Int32) × (Nat → Int64) × (Nat → Int64) => match s89 with | (x14, x15, th_corners, th_isLoaded, th_loaded, th_boundUp, th_boundDown, th_up, th_down, th_world, th_tight, th_sum, th_now) => ∀ (H : Heap) (locs : List Loc) (ls : Array Slot), va_P D vwCl (w_X9_needed tc q_th q_th_text q_th_saying q_th_signs q_th_sets q_th_told q_th_up q_th_down q_th_world q_th_tight q_th_sum q_th_now n_th_saying n_th_up n_th_down n_th_world n_th_tight n_th_sum n_th_now th_thrown th_typed th_next th_token th_place th_value th_fault th_many th_signMany th_setMany th_corners th_isLoaded th_loaded th_widened th_wide th_boundUp th_boundDown th_saying th_up th_down th_world th_tight th_sum th_now) H → va_D A (w_X9_needed tc q_th q_th_text q_th_saying q_th_signs q_th_sets q_th_told q_th_up q_th_down q_th_world q_th_tight q_th_sum q_th_now n_th_saying n_th_up n_th_down n_th_world n_th_tight n_th_sum n_th_now th_thrown th_typed th_next th_token th_place th_value th_fault th_many th_signMany th_setMany th_corners th_isLoaded th_loaded th_widened th_wide th_boundUp th_boundDown th_saying th_up th_down th_world th_tight th_sum th_now) → va_S A s.heap H locs → lv_has ls 17 [(0, .ref q_th), (1, .int x1), (2, .int x2), (3, .int x3), (4, .int x4), (5, .int x5), (6, .long x6), (8, .long x8), (10, .long x10), (12, .long x12), (14, .int x14), (15, .int x15)] → W p l e ({ frames := 6, cells := 0, slots := 0, locals := 158 } : Room) s m av below meth c H locs 0 0 (MQ below (st_Q D (w_X9_needed tc q_th q_th_text q_th_saying q_th_signs q_th_sets q_th_told q_th_up q_th_down q_th_world q_th_tight q_th_sum q_th_now n_th_saying n_th_up n_th_down n_th_world n_th_tight n_th_sum n_th_now th_thrown' th_typed th_next th_token th_place th_value th_fault th_many th_signMany th_setMany th_corners' th_isLoaded' th_loaded' th_widened' th_wide th_boundUp' th_boundDown' th_saying th_up' th_down' th_world' th_tight' th_sum' th_now') (some (.int r0)) A) av s 0 0 A) (F0 m 89 ls [])) s89 := by
    intro x1 x2 x3 x4 x5 x6 x8 x10 x12 th_thrown th_widened
    refine lp_W (f_X9_needed_L89 K n_th_saying n_th_up n_th_down n_th_world n_th_tight n_th_sum n_th_now th_many th_widened th_wide th_saying x1 x2 x4 x5 x6 x8 x10 x12) (fun s89 : Int32 × Int32 × Int32 × Int32 × Int32 × Int64 × Int64 × (Nat → Int64) × (Nat → Int64) × (Nat → Int32) × (Nat → Int32) × (Nat → Int64) × (Nat → Int64) => match s89 with | (x14, x15, th_corners, th_isLoaded, th_loaded, th_boundUp, th_boundDown, th_up, th_down, th_world, th_tight, th_sum, th_now) => ∀ (H : Heap) (locs : List Loc) (ls : Array Slot), va_P D vwCl (w_X9_needed tc q_th q_th_text q_th_saying q_th_signs q_th_sets q_th_told q_th_up q_th_down q_th_world q_th_tight q_th_sum q_th_now n_th_saying n_th_up n_th_down n_th_world n_th_tight n_th_sum n_th_now th_thrown th_typed th_next th_token th_place th_value th_fault th_many th_signMany th_setMany th_corners th_isLoaded th_loaded th_widened th_wide th_boundUp th_boundDown th_saying th_up th_down th_world th_tight th_sum th_now) H → va_D A (w_X9_needed tc q_th q_th_text q_th_saying q_th_signs q_th_sets q_th_told q_th_up q_th_down q_th_world q_th_tight q_th_sum q_th_now n_th_saying n_th_up n_th_down n_th_world n_th_tight n_th_sum n_th_now th_thrown th_typed th_next th_token th_place th_value th_fault th_many th_signMany th_setMany th_corners th_isLoaded th_loaded th_widened th_wide th_boundUp th_boundDown th_saying th_up th_down th_world th_tight th_sum th_now) → va_S A s.heap H locs → lv_has ls 17 [(0, .ref q_th), (1, .int x1), (2, .int x2), (3, .int x3), (4, .int x4), (5, .int x5), (6, .long x6), (8, .long x8), (10, .long x10), (12, .long x12), (14, .int x14), (15, .int x15)] → W p l e ({ frames := 6, cells := 0, slots := 0, locals := 158 } : Room) s m av below meth c H locs 0 0 (MQ below (st_Q D (w_X9_needed tc q_th q_th_text q_th_saying q_th_signs q_th_sets q_th_told q_th_up q_th_down q_th_world q_th_tight q_th_sum q_th_now n_th_saying n_th_up n_th_down n_th_world n_th_tight n_th_sum n_th_now th_thrown' th_typed th_next th_token th_place th_value th_fault th_many th_signMany th_setMany th_corners' th_isLoaded' th_loaded' th_widened' th_wide th_boundUp' th_boundDown' th_saying th_up' th_down' th_world' th_tight' th_sum' th_now') (some (.int r0)) A) av s 0 0 A) (F0 m 89 ls [])) (fun y89 : Int32 × Int32 × Int32 × Int32 × Int64 × Int64 × (Nat → Int64) × (Nat → Int64) × (Nat → Int32) × (Nat → Int32) × (Nat → Int64) × (Nat → Int64) => match y89 with | (x14, th_corners, th_isLoaded, th_loaded, th_boundUp, th_boundDown, th_up, th_down, th_world, th_tight, th_sum, th_now) => ∀ (H : Heap) (locs : List Loc) (ls : Array Slot), va_P D vwCl (w_X9_needed tc q_th q_th_text q_th_saying q_th_signs q_th_sets q_th_told q_th_up q_th_down q_th_world q_th_tight q_th_sum q_th_now n_th_saying n_th_up n_th_down n_th_world n_th_tight n_th_sum n_th_now th_thrown th_typed th_next th_token th_place th_value th_fault th_many th_signMany th_setMany th_corners th_isLoaded th_loaded th_widened th_wide th_boundUp th_boundDown th_saying th_up th_down th_world th_tight th_sum th_now) H → va_D A (w_X9_needed tc q_th q_th_text q_th_saying q_th_signs q_th_sets q_th_told q_th_up q_th_down q_th_world q_th_tight q_th_sum q_th_now n_th_saying n_th_up n_th_down n_th_world n_th_tight n_th_sum n_th_now th_thrown th_typed th_next th_token th_place th_value th_fault th_many th_signMany th_setMany th_corners th_isLoaded th_loaded th_widened th_wide th_boundUp th_boundDown th_saying th_up th_down th_world th_tight th_sum th_now) → va_S A s.heap H locs → lv_has ls 17 [(3, .int x3), (14, .int x14)] → W p l e ({ frames := 6, cells := 0, slots := 0, locals := 158 } : Room) s m av below meth c H locs 0 0 (MQ below (st_Q D (w_X9_needed tc q_th q_th_text q_th_saying q_th_signs q_th_sets q_th_told q_th_up q_th_down q_th_world q_th_tight q_th_sum q_th_now n_th_saying n_th_up n_th_down n_th_world n_th_tight n_th_sum n_th_now th_thrown' th_typed th_next th_token th_place th_value th_fault th_many th_signMany th_setMany th_corners' th_isLoaded' th_loaded' th_widened' th_wide th_boundUp' th_boundDown' th_saying th_up' th_down' th_world' th_tight' th_sum' th_now') (some (.int r0)) A) av s 0 0 A) (F0 m 245 ls [])) ?_
    rintro ⟨x14, x15, th_corners, th_isLoaded, th_loaded, th_boundUp, th_boundDown, th_up, th_down, th_world, th_tight, th_sum, th_now⟩ o h ih hz H locs ls hP hD hS hl
    have J222 : ∀ (x14 : Int32) (x15 : Int32) (th_corners : Int32) (th_isLoaded : Int32) (th_loaded : Int32) (th_boundUp : Int64) (th_boundDown : Int64) (th_up : Nat → Int64) (th_down : Nat → Int64) (th_world : Nat → Int32) (th_tight : Nat → Int32) (th_sum : Nat → Int64) (th_now : Nat → Int64) (H : Heap) (locs : List Loc) (ls : Array Slot), f_X9_needed_J222 th_corners th_isLoaded th_loaded th_boundUp th_boundDown th_up th_down th_world th_tight th_sum th_now x14 x15 = some o → va_P D vwCl (w_X9_needed tc q_th q_th_text q_th_saying q_th_signs q_th_sets q_th_told q_th_up q_th_down q_th_world q_th_tight q_th_sum q_th_now n_th_saying n_th_up n_th_down n_th_world n_th_tight n_th_sum n_th_now th_thrown th_typed th_next th_token th_place th_value th_fault th_many th_signMany th_setMany th_corners th_isLoaded th_loaded th_widened th_wide th_boundUp th_boundDown th_saying th_up th_down th_world th_tight th_sum th_now) H → va_D A (w_X9_needed tc q_th q_th_text q_th_saying q_th_signs q_th_sets q_th_told q_th_up q_th_down q_th_world q_th_tight q_th_sum q_th_now n_th_saying n_th_up n_th_down n_th_world n_th_tight n_th_sum n_th_now th_thrown th_typed th_next th_token th_place th_value th_fault th_many th_signMany th_setMany th_corners th_isLoaded th_loaded th_widened th_wide th_boundUp th_boundDown th_saying th_up th_down th_world th_tight th_sum th_now) → va_S A s.heap H locs → lv_has ls 17 [(0, .ref q_th), (1, .int x1), (2, .int x2), (3, .int x3), (4, .int x4), (5, .int x5), (6, .long x6), (8, .long x8), (10, .long x10), (12, .long x12), (14, .int x14), (15, .int x15)] → W p l e ({ frames := 6, cells := 0, slots := 0, locals := 158 } : Room) s m av below meth c H locs 0 0 (MQ below (st_Q D (w_X9_needed tc q_th q_th_text q_th_saying q_th_signs q_th_sets q_th_told q_th_up q_th_down q_th_world q_th_tight q_th_sum q_th_now n_th_saying n_th_up n_th_down n_th_world n_th_tight n_th_sum n_th_now th_thrown' th_typed th_next th_token th_place th_value th_fault th_many th_signMany th_setMany th_corners' th_isLoaded' th_loaded' th_widened' th_wide th_boundUp' th_boundDown' th_saying th_up' th_down' th_world' th_tight' th_sum' th_now') (some (.int r0)) A) av s 0 0 A) (F0 m 222 ls []) := by
      intro x14 x15 th_corners th_isLoaded th_loaded th_boundUp th_boundDown th_up th_down th_world th_tight th_sum th_now H locs ls h hP hD hS hl
      unfold f_X9_needed_J222 at h
      refine lv_iconst (v := (0 : Int32)) hx hb dX9_needed_222 (by decide) ?_
      refine lv_istore (lv' := [(16, .int (0 : Int32)), (0, .ref q_th), (1, .int x1), (2, .int x2), (3, .int x3), (4, .int x4), (5, .int x5), (6, .long x6), (8, .long x8), (10, .long x10), (12, .long x12), (14, .int x14), (15, .int x15)]) hx hb dX9_needed_223 hl (by decide) rfl (fun ls hl => ?_)
      refine lv_iload hx hb dX9_needed_225 (lv_at hl 0 rfl) ?_
      refine lv_if_eq (tgt := 235) hx hb dX9_needed_227 (by decide) (fun c1 => ?_) (fun c1 => ?_)
      · replace h := ifp c1 h
        refine lv_iload hx hb dX9_needed_235 (lv_at hl 11 rfl) ?_
        refine lv_istore (lv' := [(14, .int x14), (16, .int (0 : Int32)), (0, .ref q_th), (1, .int x1), (2, .int x2), (3, .int x3), (4, .int x4), (5, .int x5), (6, .long x6), (8, .long x8), (10, .long x10), (12, .long x12), (15, .int x15)]) hx hb dX9_needed_237 hl (by decide) rfl (fun ls hl => ?_)
        refine lv_iinc (v := x15 + 1) (lv' := [(15, .int (x15 + 1)), (14, .int x14), (16, .int (0 : Int32)), (0, .ref q_th), (1, .int x1), (2, .int x2), (3, .int x3), (4, .int x4), (5, .int x5), (6, .long x6), (8, .long x8), (10, .long x10), (12, .long x12)]) hx hb dX9_needed_239 hl (k := 12) rfl rfl (by decide) rfl (fun ls hl => ?_)
        refine lv_goto (tgt := 89) hx hb dX9_needed_242 (by decide) ?_
        cases h
        exact ih _ rfl _ _ _ hP hD hS (lv_sub hl [3, 4, 5, 6, 7, 8, 9, 10, 11, 12, 1, 0] rfl)
      · replace h := ifn c1 h
        refine lv_iload hx hb dX9_needed_230 (lv_at hl 12 rfl) ?_
        refine lv_goto (tgt := 237) hx hb dX9_needed_232 (by decide) ?_
        refine lv_istore (lv' := [(14, .int x15), (16, .int (0 : Int32)), (0, .ref q_th), (1, .int x1), (2, .int x2), (3, .int x3), (4, .int x4), (5, .int x5), (6, .long x6), (8, .long x8), (10, .long x10), (12, .long x12), (15, .int x15)]) hx hb dX9_needed_237 hl (by decide) rfl (fun ls hl => ?_)
        refine lv_iinc (v := x15 + 1) (lv' := [(15, .int (x15 + 1)), (14, .int x15), (16, .int (0 : Int32)), (0, .ref q_th), (1, .int x1), (2, .int x2), (3, .int x3), (4, .int x4), (5, .int x5), (6, .long x6), (8, .long x8), (10, .long x10), (12, .long x12)]) hx hb dX9_needed_239 hl (k := 12) rfl rfl (by decide) rfl (fun ls hl => ?_)
        refine lv_goto (tgt := 89) hx hb dX9_needed_242 (by decide) ?_
        cases h
        exact ih _ rfl _ _ _ hP hD hS (lv_sub hl [3, 4, 5, 6, 7, 8, 9, 10, 11, 12, 1, 0] rfl)
    have J218 : ∀ (x14 : Int32) (x15 : Int32) (th_corners : Int32) (th_isLoaded : Int32) (th_loaded : Int32) (th_boundUp : Int64) (th_boundDown : Int64) (th_up : Nat → Int64) (th_down : Nat → Int64) (th_world : Nat → Int32) (th_tight : Nat → Int32) (th_sum : Nat → Int64) (th_now : Nat → Int64) (H : Heap) (locs : List Loc) (ls : Array Slot), f_X9_needed_J218 th_corners th_isLoaded th_loaded th_boundUp th_boundDown th_up th_down th_world th_tight th_sum th_now x14 x15 = some o → va_P D vwCl (w_X9_needed tc q_th q_th_text q_th_saying q_th_signs q_th_sets q_th_told q_th_up q_th_down q_th_world q_th_tight q_th_sum q_th_now n_th_saying n_th_up n_th_down n_th_world n_th_tight n_th_sum n_th_now th_thrown th_typed th_next th_token th_place th_value th_fault th_many th_signMany th_setMany th_corners th_isLoaded th_loaded th_widened th_wide th_boundUp th_boundDown th_saying th_up th_down th_world th_tight th_sum th_now) H → va_D A (w_X9_needed tc q_th q_th_text q_th_saying q_th_signs q_th_sets q_th_told q_th_up q_th_down q_th_world q_th_tight q_th_sum q_th_now n_th_saying n_th_up n_th_down n_th_world n_th_tight n_th_sum n_th_now th_thrown th_typed th_next th_token th_place th_value th_fault th_many th_signMany th_setMany th_corners th_isLoaded th_loaded th_widened th_wide th_boundUp th_boundDown th_saying th_up th_down th_world th_tight th_sum th_now) → va_S A s.heap H locs → lv_has ls 17 [(0, .ref q_th), (1, .int x1), (2, .int x2), (3, .int x3), (4, .int x4), (5, .int x5), (6, .long x6), (8, .long x8), (10, .long x10), (12, .long x12), (14, .int x14), (15, .int x15)] → W p l e ({ frames := 6, cells := 0, slots := 0, locals := 158 } : Room) s m av below meth c H locs 0 0 (MQ below (st_Q D (w_X9_needed tc q_th q_th_text q_th_saying q_th_signs q_th_sets q_th_told q_th_up q_th_down q_th_world q_th_tight q_th_sum q_th_now n_th_saying n_th_up n_th_down n_th_world n_th_tight n_th_sum n_th_now th_thrown' th_typed th_next th_token th_place th_value th_fault th_many th_signMany th_setMany th_corners' th_isLoaded' th_loaded' th_widened' th_wide th_boundUp' th_boundDown' th_saying th_up' th_down' th_world' th_tight' th_sum' th_now') (some (.int r0)) A) av s 0 0 A) (F0 m 218 ls []) := by
      intro x14 x15 th_corners th_isLoaded th_loaded th_boundUp th_boundDown th_up th_down th_world th_tight th_sum th_now H locs ls h hP hD hS hl
      unfold f_X9_needed_J218 at h
      refine lv_iconst (v := (1 : Int32)) hx hb dX9_needed_218 (by decide) ?_
      refine lv_goto (tgt := 223) hx hb dX9_needed_219 (by decide) ?_
      refine lv_istore (lv' := [(16, .int (1 : Int32)), (0, .ref q_th), (1, .int x1), (2, .int x2), (3, .int x3), (4, .int x4), (5, .int x5), (6, .long x6), (8, .long x8), (10, .long x10), (12, .long x12), (14, .int x14), (15, .int x15)]) hx hb dX9_needed_223 hl (by decide) rfl (fun ls hl => ?_)
      refine lv_iload hx hb dX9_needed_225 (lv_at hl 0 rfl) ?_
      refine lv_if_eq (tgt := 235) hx hb dX9_needed_227 (by decide) (fun c2 => ?_) (fun c2 => ?_)
      · replace h := ifp c2 h
        refine lv_iload hx hb dX9_needed_235 (lv_at hl 11 rfl) ?_
        refine lv_istore (lv' := [(14, .int x14), (16, .int (1 : Int32)), (0, .ref q_th), (1, .int x1), (2, .int x2), (3, .int x3), (4, .int x4), (5, .int x5), (6, .long x6), (8, .long x8), (10, .long x10), (12, .long x12), (15, .int x15)]) hx hb dX9_needed_237 hl (by decide) rfl (fun ls hl => ?_)
        refine lv_iinc (v := x15 + 1) (lv' := [(15, .int (x15 + 1)), (14, .int x14), (16, .int (1 : Int32)), (0, .ref q_th), (1, .int x1), (2, .int x2), (3, .int x3), (4, .int x4), (5, .int x5), (6, .long x6), (8, .long x8), (10, .long x10), (12, .long x12)]) hx hb dX9_needed_239 hl (k := 12) rfl rfl (by decide) rfl (fun ls hl => ?_)
        refine lv_goto (tgt := 89) hx hb dX9_needed_242 (by decide) ?_
        cases h
        exact ih _ rfl _ _ _ hP hD hS (lv_sub hl [3, 4, 5, 6, 7, 8, 9, 10, 11, 12, 1, 0] rfl)
      · replace h := ifn c2 h
        refine lv_iload hx hb dX9_needed_230 (lv_at hl 12 rfl) ?_
        refine lv_goto (tgt := 237) hx hb dX9_needed_232 (by decide) ?_
        refine lv_istore (lv' := [(14, .int x15), (16, .int (1 : Int32)), (0, .ref q_th), (1, .int x1), (2, .int x2), (3, .int x3), (4, .int x4), (5, .int x5), (6, .long x6), (8, .long x8), (10, .long x10), (12, .long x12), (15, .int x15)]) hx hb dX9_needed_237 hl (by decide) rfl (fun ls hl => ?_)
        refine lv_iinc (v := x15 + 1) (lv' := [(15, .int (x15 + 1)), (14, .int x15), (16, .int (1 : Int32)), (0, .ref q_th), (1, .int x1), (2, .int x2), (3, .int x3), (4, .int x4), (5, .int x5), (6, .long x6), (8, .long x8), (10, .long x10), (12, .long x12)]) hx hb dX9_needed_239 hl (k := 12) rfl rfl (by decide) rfl (fun ls hl => ?_)
        refine lv_goto (tgt := 89) hx hb dX9_needed_242 (by decide) ?_
        cases h
        exact ih _ rfl _ _ _ hP hD hS (lv_sub hl [3, 4, 5, 6, 7, 8, 9, 10, 11, 12, 1, 0] rfl)
    have J178 : ∀ (x14 : Int32) (x15 : Int32) (th_corners : Int32) (th_isLoaded : Int32) (th_loaded : Int32) (th_boundUp : Int64) (th_boundDown : Int64) (th_up : Nat → Int64) (th_down : Nat → Int64) (th_world : Nat → Int32) (th_tight : Nat → Int32) (th_sum : Nat → Int64) (th_now : Nat → Int64) (H : Heap) (locs : List Loc) (ls : Array Slot), f_X9_needed_J178 K n_th_up n_th_down th_corners th_isLoaded th_loaded th_boundUp th_up th_down th_world th_tight th_sum th_now x1 x2 x5 x10 x12 x14 x15 = some o → va_P D vwCl (w_X9_needed tc q_th q_th_text q_th_saying q_th_signs q_th_sets q_th_told q_th_up q_th_down q_th_world q_th_tight q_th_sum q_th_now n_th_saying n_th_up n_th_down n_th_world n_th_tight n_th_sum n_th_now th_thrown th_typed th_next th_token th_place th_value th_fault th_many th_signMany th_setMany th_corners th_isLoaded th_loaded th_widened th_wide th_boundUp th_boundDown th_saying th_up th_down th_world th_tight th_sum th_now) H → va_D A (w_X9_needed tc q_th q_th_text q_th_saying q_th_signs q_th_sets q_th_told q_th_up q_th_down q_th_world q_th_tight q_th_sum q_th_now n_th_saying n_th_up n_th_down n_th_world n_th_tight n_th_sum n_th_now th_thrown th_typed th_next th_token th_place th_value th_fault th_many th_signMany th_setMany th_corners th_isLoaded th_loaded th_widened th_wide th_boundUp th_boundDown th_saying th_up th_down th_world th_tight th_sum th_now) → va_S A s.heap H locs → lv_has ls 17 [(0, .ref q_th), (1, .int x1), (2, .int x2), (3, .int x3), (4, .int x4), (5, .int x5), (6, .long x6), (8, .long x8), (10, .long x10), (12, .long x12), (14, .int x14), (15, .int x15)] → W p l e ({ frames := 6, cells := 0, slots := 0, locals := 158 } : Room) s m av below meth c H locs 0 0 (MQ below (st_Q D (w_X9_needed tc q_th q_th_text q_th_saying q_th_signs q_th_sets q_th_told q_th_up q_th_down q_th_world q_th_tight q_th_sum q_th_now n_th_saying n_th_up n_th_down n_th_world n_th_tight n_th_sum n_th_now th_thrown' th_typed th_next th_token th_place th_value th_fault th_many th_signMany th_setMany th_corners' th_isLoaded' th_loaded' th_widened' th_wide th_boundUp' th_boundDown' th_saying th_up' th_down' th_world' th_tight' th_sum' th_now') (some (.int r0)) A) av s 0 0 A) (F0 m 178 ls []) := by
      intro x14 x15 th_corners th_isLoaded th_loaded th_boundUp th_boundDown th_up th_down th_world th_tight th_sum th_now H locs ls h hP hD hS hl
      unfold f_X9_needed_J178 at h
      refine lv_iconst (v := (0 : Int32)) hx hb dX9_needed_178 (by decide) ?_
      refine lv_istore (lv' := [(16, .int (0 : Int32)), (0, .ref q_th), (1, .int x1), (2, .int x2), (3, .int x3), (4, .int x4), (5, .int x5), (6, .long x6), (8, .long x8), (10, .long x10), (12, .long x12), (14, .int x14), (15, .int x15)]) hx hb dX9_needed_179 hl (by decide) rfl (fun ls hl => ?_)
      refine lv_aload_n hx hb dX9_needed_181 rfl (lv_at hl 1 rfl) ?_
      refine lv_iload_n hx hb dX9_needed_182 rfl (lv_at hl 2 rfl) ?_
      refine lv_iload_n hx hb dX9_needed_183 rfl (lv_at hl 3 rfl) ?_
      refine lv_iconst (v := (1 : Int32)) hx hb dX9_needed_184 (by decide) ?_
      refine lv_iconst (v := (0 : Int32)) hx hb dX9_needed_185 (by decide) ?_
      obtain ⟨⟨z3_0, z3_1, z3_2⟩, hc3, h⟩ := bd_ok h
      refine st_callV (As := [.int x1, .int x2, .int (1 : Int32), .int (0 : Int32)]) (rest := []) (pos := [0, 2, 3]) ⟨hx, hb, hml, hown, hts⟩ (s_X9_bounds (l := l) (D := D) (tc := tc) hEok q_th q_th_text q_th_saying q_th_signs q_th_sets q_th_told q_th_up q_th_down q_th_world q_th_tight q_th_sum q_th_now n_th_up n_th_down th_thrown th_typed th_next th_token th_place th_value th_fault th_many th_signMany th_setMany th_corners th_isLoaded th_loaded th_widened th_wide th_boundUp th_boundDown th_up th_down x1 x2 (1 : Int32) (0 : Int32) K z3_0 z3_1 z3_2 hc3) (cwV 4 hts gX9_needed_X9_bounds rfl rfl rfl (by decide +kernel) ⟨Nat.le_of_ble_eq_true rfl, Nat.le_of_ble_eq_true rfl⟩) (st_recv (ci := 9) (q0 := 0) hK hP rfl rfl) hEok hE hK hN hP hD hS hA rfl rfl rfl rfl hl.1 rfl (Nat.le_of_ble_eq_true rfl) dX9_needed_186 ⟨Nat.zero_le _, Nat.zero_le _⟩ (fun H locs hP hD hS => ?_)
      have hP : va_P D vwCl (w_X9_needed tc q_th q_th_text q_th_saying q_th_signs q_th_sets q_th_told q_th_up q_th_down q_th_world q_th_tight q_th_sum q_th_now n_th_saying n_th_up n_th_down n_th_world n_th_tight n_th_sum n_th_now th_thrown th_typed th_next th_token th_place th_value th_fault th_many th_signMany th_setMany th_corners th_isLoaded th_loaded th_widened th_wide z3_1 z3_2 th_saying th_up th_down th_world th_tight th_sum th_now) H := hP
      have hD : va_D A (w_X9_needed tc q_th q_th_text q_th_saying q_th_signs q_th_sets q_th_told q_th_up q_th_down q_th_world q_th_tight q_th_sum q_th_now n_th_saying n_th_up n_th_down n_th_world n_th_tight n_th_sum n_th_now th_thrown th_typed th_next th_token th_place th_value th_fault th_many th_signMany th_setMany th_corners th_isLoaded th_loaded th_widened th_wide z3_1 z3_2 th_saying th_up th_down th_world th_tight th_sum th_now) := hD
      refine lv_pop hx hb dX9_needed_189 rfl ?_
      refine lv_iload hx hb dX9_needed_190 (lv_at hl 0 rfl) ?_
      refine lv_if_eq (tgt := 222) hx hb dX9_needed_192 (by decide) (fun c4 => ?_) (fun c4 => ?_)
      · replace h := ifp c4 h
        exact J222 x14 x15 th_corners th_isLoaded th_loaded z3_1 z3_2 th_up th_down th_world th_tight th_sum th_now _ _ _ h hP hD hS (lv_sub hl [1, 2, 3, 4, 5, 6, 7, 8, 9, 10, 11, 12] rfl)
      · replace h := ifn c4 h
        refine lv_iload hx hb dX9_needed_195 (lv_at hl 6 rfl) ?_
        refine lv_if_eq (tgt := 218) hx hb dX9_needed_197 (by decide) (fun c5 => ?_) (fun c5 => ?_)
        · replace h := ifp c5 h
          exact J218 x14 x15 th_corners th_isLoaded th_loaded z3_1 z3_2 th_up th_down th_world th_tight th_sum th_now _ _ _ h hP hD hS (lv_sub hl [1, 2, 3, 4, 5, 6, 7, 8, 9, 10, 11, 12] rfl)
        · replace h := ifn c5 h
          refine lv_aload_n hx hb dX9_needed_200 rfl (lv_at hl 1 rfl) ?_
          refine va_get (D := D) (ci := 9) (v := .long z3_1) (C := RX9) (T := TX9) (N := 28) hx hb hts hinX9 hown hK hP 0 rfl rfl 26 (by decide) (hts (.fieldLink RX9 184 "ChanceBoundsModel" "boundUp" "J") (by decide +kernel)) (fun _ h9 => h9) rfl dX9_needed_201 ?_
          refine lv_lload hx hb dX9_needed_204 (lv_at hl 10 rfl) ?_
          refine lv_lmul hx hb dX9_needed_206 ?_
          refine lv_lload hx hb dX9_needed_207 (lv_at hl 9 rfl) ?_
          refine lv_aload_n hx hb dX9_needed_209 rfl (lv_at hl 1 rfl) ?_
          refine va_get (D := D) (ci := 9) (v := .long z3_2) (C := RX9) (T := TX9) (N := 28) hx hb hts hinX9 hown hK hP 0 rfl rfl 27 (by decide) (hts (.fieldLink RX9 176 "ChanceBoundsModel" "boundDown" "J") (by decide +kernel)) (fun _ h9 => h9) rfl dX9_needed_210 ?_
          refine lv_lmul hx hb dX9_needed_213 ?_
          refine W.lcmp hx hb dX9_needed_214 ?_
          refine lv_if_ne (tgt := 222) hx hb dX9_needed_215 (by decide) (fun c6 => ?_) (fun c6 => ?_)
          · replace h := ifn c6 h
            exact J222 x14 x15 th_corners th_isLoaded th_loaded z3_1 z3_2 th_up th_down th_world th_tight th_sum th_now _ _ _ h hP hD hS (lv_sub hl [1, 2, 3, 4, 5, 6, 7, 8, 9, 10, 11, 12] rfl)
          · replace h := ifp c6 h
            exact J218 x14 x15 th_corners th_isLoaded th_loaded z3_1 z3_2 th_up th_down th_world th_tight th_sum th_now _ _ _ h hP hD hS (lv_sub hl [1, 2, 3, 4, 5, 6, 7, 8, 9, 10, 11, 12] rfl)
    have J174 : ∀ (x14 : Int32) (x15 : Int32) (th_corners : Int32) (th_isLoaded : Int32) (th_loaded : Int32) (th_boundUp : Int64) (th_boundDown : Int64) (th_up : Nat → Int64) (th_down : Nat → Int64) (th_world : Nat → Int32) (th_tight : Nat → Int32) (th_sum : Nat → Int64) (th_now : Nat → Int64) (H : Heap) (locs : List Loc) (ls : Array Slot), f_X9_needed_J174 K n_th_up n_th_down th_corners th_isLoaded th_loaded th_boundUp th_up th_down th_world th_tight th_sum th_now x1 x2 x5 x10 x12 x14 x15 = some o → va_P D vwCl (w_X9_needed tc q_th q_th_text q_th_saying q_th_signs q_th_sets q_th_told q_th_up q_th_down q_th_world q_th_tight q_th_sum q_th_now n_th_saying n_th_up n_th_down n_th_world n_th_tight n_th_sum n_th_now th_thrown th_typed th_next th_token th_place th_value th_fault th_many th_signMany th_setMany th_corners th_isLoaded th_loaded th_widened th_wide th_boundUp th_boundDown th_saying th_up th_down th_world th_tight th_sum th_now) H → va_D A (w_X9_needed tc q_th q_th_text q_th_saying q_th_signs q_th_sets q_th_told q_th_up q_th_down q_th_world q_th_tight q_th_sum q_th_now n_th_saying n_th_up n_th_down n_th_world n_th_tight n_th_sum n_th_now th_thrown th_typed th_next th_token th_place th_value th_fault th_many th_signMany th_setMany th_corners th_isLoaded th_loaded th_widened th_wide th_boundUp th_boundDown th_saying th_up th_down th_world th_tight th_sum th_now) → va_S A s.heap H locs → lv_has ls 17 [(0, .ref q_th), (1, .int x1), (2, .int x2), (3, .int x3), (4, .int x4), (5, .int x5), (6, .long x6), (8, .long x8), (10, .long x10), (12, .long x12), (14, .int x14), (15, .int x15)] → W p l e ({ frames := 6, cells := 0, slots := 0, locals := 158 } : Room) s m av below meth c H locs 0 0 (MQ below (st_Q D (w_X9_needed tc q_th q_th_text q_th_saying q_th_signs q_th_sets q_th_told q_th_up q_th_down q_th_world q_th_tight q_th_sum q_th_now n_th_saying n_th_up n_th_down n_th_world n_th_tight n_th_sum n_th_now th_thrown' th_typed th_next th_token th_place th_value th_fault th_many th_signMany th_setMany th_corners' th_isLoaded' th_loaded' th_widened' th_wide th_boundUp' th_boundDown' th_saying th_up' th_down' th_world' th_tight' th_sum' th_now') (some (.int r0)) A) av s 0 0 A) (F0 m 174 ls []) := by
      intro x14 x15 th_corners th_isLoaded th_loaded th_boundUp th_boundDown th_up th_down th_world th_tight th_sum th_now H locs ls h hP hD hS hl
      unfold f_X9_needed_J174 at h
      refine lv_iconst (v := (1 : Int32)) hx hb dX9_needed_174 (by decide) ?_
      refine lv_goto (tgt := 179) hx hb dX9_needed_175 (by decide) ?_
      refine lv_istore (lv' := [(16, .int (1 : Int32)), (0, .ref q_th), (1, .int x1), (2, .int x2), (3, .int x3), (4, .int x4), (5, .int x5), (6, .long x6), (8, .long x8), (10, .long x10), (12, .long x12), (14, .int x14), (15, .int x15)]) hx hb dX9_needed_179 hl (by decide) rfl (fun ls hl => ?_)
      refine lv_aload_n hx hb dX9_needed_181 rfl (lv_at hl 1 rfl) ?_
      refine lv_iload_n hx hb dX9_needed_182 rfl (lv_at hl 2 rfl) ?_
      refine lv_iload_n hx hb dX9_needed_183 rfl (lv_at hl 3 rfl) ?_
      refine lv_iconst (v := (1 : Int32)) hx hb dX9_needed_184 (by decide) ?_
      refine lv_iconst (v := (0 : Int32)) hx hb dX9_needed_185 (by decide) ?_
      obtain ⟨⟨z7_0, z7_1, z7_2⟩, hc7, h⟩ := bd_ok h
      refine st_callV (As := [.int x1, .int x2, .int (1 : Int32), .int (0 : Int32)]) (rest := []) (pos := [0, 2, 3]) ⟨hx, hb, hml, hown, hts⟩ (s_X9_bounds (l := l) (D := D) (tc := tc) hEok q_th q_th_text q_th_saying q_th_signs q_th_sets q_th_told q_th_up q_th_down q_th_world q_th_tight q_th_sum q_th_now n_th_up n_th_down th_thrown th_typed th_next th_token th_place th_value th_fault th_many th_signMany th_setMany th_corners th_isLoaded th_loaded th_widened th_wide th_boundUp th_boundDown th_up th_down x1 x2 (1 : Int32) (0 : Int32) K z7_0 z7_1 z7_2 hc7) (cwV 4 hts gX9_needed_X9_bounds rfl rfl rfl (by decide +kernel) ⟨Nat.le_of_ble_eq_true rfl, Nat.le_of_ble_eq_true rfl⟩) (st_recv (ci := 9) (q0 := 0) hK hP rfl rfl) hEok hE hK hN hP hD hS hA rfl rfl rfl rfl hl.1 rfl (Nat.le_of_ble_eq_true rfl) dX9_needed_186 ⟨Nat.zero_le _, Nat.zero_le _⟩ (fun H locs hP hD hS => ?_)
      have hP : va_P D vwCl (w_X9_needed tc q_th q_th_text q_th_saying q_th_signs q_th_sets q_th_told q_th_up q_th_down q_th_world q_th_tight q_th_sum q_th_now n_th_saying n_th_up n_th_down n_th_world n_th_tight n_th_sum n_th_now th_thrown th_typed th_next th_token th_place th_value th_fault th_many th_signMany th_setMany th_corners th_isLoaded th_loaded th_widened th_wide z7_1 z7_2 th_saying th_up th_down th_world th_tight th_sum th_now) H := hP
      have hD : va_D A (w_X9_needed tc q_th q_th_text q_th_saying q_th_signs q_th_sets q_th_told q_th_up q_th_down q_th_world q_th_tight q_th_sum q_th_now n_th_saying n_th_up n_th_down n_th_world n_th_tight n_th_sum n_th_now th_thrown th_typed th_next th_token th_place th_value th_fault th_many th_signMany th_setMany th_corners th_isLoaded th_loaded th_widened th_wide z7_1 z7_2 th_saying th_up th_down th_world th_tight th_sum th_now) := hD
      refine lv_pop hx hb dX9_needed_189 rfl ?_
      refine lv_iload hx hb dX9_needed_190 (lv_at hl 0 rfl) ?_
      refine lv_if_eq (tgt := 222) hx hb dX9_needed_192 (by decide) (fun c8 => ?_) (fun c8 => ?_)
      · replace h := ifp c8 h
        exact J222 x14 x15 th_corners th_isLoaded th_loaded z7_1 z7_2 th_up th_down th_world th_tight th_sum th_now _ _ _ h hP hD hS (lv_sub hl [1, 2, 3, 4, 5, 6, 7, 8, 9, 10, 11, 12] rfl)
      · replace h := ifn c8 h
        refine lv_iload hx hb dX9_needed_195 (lv_at hl 6 rfl) ?_
        refine lv_if_eq (tgt := 218) hx hb dX9_needed_197 (by decide) (fun c9 => ?_) (fun c9 => ?_)
        · replace h := ifp c9 h
          exact J218 x14 x15 th_corners th_isLoaded th_loaded z7_1 z7_2 th_up th_down th_world th_tight th_sum th_now _ _ _ h hP hD hS (lv_sub hl [1, 2, 3, 4, 5, 6, 7, 8, 9, 10, 11, 12] rfl)
        · replace h := ifn c9 h
          refine lv_aload_n hx hb dX9_needed_200 rfl (lv_at hl 1 rfl) ?_
          refine va_get (D := D) (ci := 9) (v := .long z7_1) (C := RX9) (T := TX9) (N := 28) hx hb hts hinX9 hown hK hP 0 rfl rfl 26 (by decide) (hts (.fieldLink RX9 184 "ChanceBoundsModel" "boundUp" "J") (by decide +kernel)) (fun _ h9 => h9) rfl dX9_needed_201 ?_
          refine lv_lload hx hb dX9_needed_204 (lv_at hl 10 rfl) ?_
          refine lv_lmul hx hb dX9_needed_206 ?_
          refine lv_lload hx hb dX9_needed_207 (lv_at hl 9 rfl) ?_
          refine lv_aload_n hx hb dX9_needed_209 rfl (lv_at hl 1 rfl) ?_
          refine va_get (D := D) (ci := 9) (v := .long z7_2) (C := RX9) (T := TX9) (N := 28) hx hb hts hinX9 hown hK hP 0 rfl rfl 27 (by decide) (hts (.fieldLink RX9 176 "ChanceBoundsModel" "boundDown" "J") (by decide +kernel)) (fun _ h9 => h9) rfl dX9_needed_210 ?_
          refine lv_lmul hx hb dX9_needed_213 ?_
          refine W.lcmp hx hb dX9_needed_214 ?_
          refine lv_if_ne (tgt := 222) hx hb dX9_needed_215 (by decide) (fun c10 => ?_) (fun c10 => ?_)
          · replace h := ifn c10 h
            exact J222 x14 x15 th_corners th_isLoaded th_loaded z7_1 z7_2 th_up th_down th_world th_tight th_sum th_now _ _ _ h hP hD hS (lv_sub hl [1, 2, 3, 4, 5, 6, 7, 8, 9, 10, 11, 12] rfl)
          · replace h := ifp c10 h
            exact J218 x14 x15 th_corners th_isLoaded th_loaded z7_1 z7_2 th_up th_down th_world th_tight th_sum th_now _ _ _ h hP hD hS (lv_sub hl [1, 2, 3, 4, 5, 6, 7, 8, 9, 10, 11, 12] rfl)
    unfold f_X9_needed_L89 at h
    refine lv_iload hx hb dX9_needed_89 (lv_at hl 11 rfl) ?_
    refine lv_iload hx hb dX9_needed_91 (lv_at hl 4 rfl) ?_
    refine lv_icmp_ge (tgt := 245) hx hb dX9_needed_93 (by decide) (fun c11 => ?_) (fun c11 => ?_)
    · replace h := ifp c11 h
      cases h
      exact hz _ rfl _ _ _ hP hD hS (lv_sub hl [3, 10] rfl)
    · replace h := ifn c11 h
      refine lv_iload hx hb dX9_needed_96 (lv_at hl 11 rfl) ?_
      refine lv_iload hx hb dX9_needed_98 (lv_at hl 4 rfl) ?_
      refine lv_iconst (v := (-1 : Int32)) hx hb dX9_needed_100 (by decide) ?_
      refine lv_ixor hx hb dX9_needed_101 ?_
      refine lv_iand hx hb dX9_needed_102 ?_
      refine lv_if_ne (tgt := 239) hx hb dX9_needed_103 (by decide) (fun c12 => ?_) (fun c12 => ?_)
      · replace h := ifn c12 h
        refine lv_iinc (v := x15 + 1) (lv' := [(15, .int (x15 + 1)), (0, .ref q_th), (1, .int x1), (2, .int x2), (3, .int x3), (4, .int x4), (5, .int x5), (6, .long x6), (8, .long x8), (10, .long x10), (12, .long x12), (14, .int x14)]) hx hb dX9_needed_239 hl (k := 11) rfl rfl (by decide) rfl (fun ls hl => ?_)
        refine lv_goto (tgt := 89) hx hb dX9_needed_242 (by decide) ?_
        cases h
        exact ih _ rfl _ _ _ hP hD hS (lv_sub hl [1, 2, 3, 4, 5, 6, 7, 8, 9, 10, 11, 0] rfl)
      · replace h := ifp c12 h
        refine lv_iload hx hb dX9_needed_106 (lv_at hl 11 rfl) ?_
        obtain ⟨z13_0, hc13, h⟩ := bd_ok h
        refine st_callS (As := [.int x15]) (rest := []) (pos := []) ⟨hx, hb, hml, hown, hts⟩ (s_X9_ones (l := l) (D := D) (tc := tc) hEok x15 K z13_0 hc13) (va_cwS 1 hts gX9_needed_X9_ones rfl rfl rfl (by decide +kernel) ⟨Nat.le_of_ble_eq_true rfl, Nat.le_of_ble_eq_true rfl⟩) hEok hE hK hN hP hD hS hA rfl rfl rfl rfl hl.1 rfl (Nat.le_of_ble_eq_true rfl) dX9_needed_108 ⟨Nat.zero_le _, Nat.zero_le _⟩ (fun H locs hP hD hS => ?_)
        have hP : va_P D vwCl (w_X9_needed tc q_th q_th_text q_th_saying q_th_signs q_th_sets q_th_told q_th_up q_th_down q_th_world q_th_tight q_th_sum q_th_now n_th_saying n_th_up n_th_down n_th_world n_th_tight n_th_sum n_th_now th_thrown th_typed th_next th_token th_place th_value th_fault th_many th_signMany th_setMany th_corners th_isLoaded th_loaded th_widened th_wide th_boundUp th_boundDown th_saying th_up th_down th_world th_tight th_sum th_now) H := hP
        have hD : va_D A (w_X9_needed tc q_th q_th_text q_th_saying q_th_signs q_th_sets q_th_told q_th_up q_th_down q_th_world q_th_tight q_th_sum q_th_now n_th_saying n_th_up n_th_down n_th_world n_th_tight n_th_sum n_th_now th_thrown th_typed th_next th_token th_place th_value th_fault th_many th_signMany th_setMany th_corners th_isLoaded th_loaded th_widened th_wide th_boundUp th_boundDown th_saying th_up th_down th_world th_tight th_sum th_now) := hD
        refine lv_iload hx hb dX9_needed_111 (lv_at hl 10 rfl) ?_
        obtain ⟨z14_0, hc14, h⟩ := bd_ok h
        refine st_callS (As := [.int x14]) (rest := [.int z13_0]) (pos := []) ⟨hx, hb, hml, hown, hts⟩ (s_X9_ones (l := l) (D := D) (tc := tc) hEok x14 K z14_0 hc14) (va_cwS 1 hts gX9_needed_X9_ones rfl rfl rfl (by decide +kernel) ⟨Nat.le_of_ble_eq_true rfl, Nat.le_of_ble_eq_true rfl⟩) hEok hE hK hN hP hD hS hA rfl rfl rfl rfl hl.1 rfl (Nat.le_of_ble_eq_true rfl) dX9_needed_113 ⟨Nat.zero_le _, Nat.zero_le _⟩ (fun H locs hP hD hS => ?_)
        have hP : va_P D vwCl (w_X9_needed tc q_th q_th_text q_th_saying q_th_signs q_th_sets q_th_told q_th_up q_th_down q_th_world q_th_tight q_th_sum q_th_now n_th_saying n_th_up n_th_down n_th_world n_th_tight n_th_sum n_th_now th_thrown th_typed th_next th_token th_place th_value th_fault th_many th_signMany th_setMany th_corners th_isLoaded th_loaded th_widened th_wide th_boundUp th_boundDown th_saying th_up th_down th_world th_tight th_sum th_now) H := hP
        have hD : va_D A (w_X9_needed tc q_th q_th_text q_th_saying q_th_signs q_th_sets q_th_told q_th_up q_th_down q_th_world q_th_tight q_th_sum q_th_now n_th_saying n_th_up n_th_down n_th_world n_th_tight n_th_sum n_th_now th_thrown th_typed th_next th_token th_place th_value th_fault th_many th_signMany th_setMany th_corners th_isLoaded th_loaded th_widened th_wide th_boundUp th_boundDown th_saying th_up th_down th_world th_tight th_sum th_now) := hD
        refine lv_icmp_ge (tgt := 239) hx hb dX9_needed_116 (by decide) (fun c15 => ?_) (fun c15 => ?_)
        · replace h := ifp c15 h
          refine lv_iinc (v := x15 + 1) (lv' := [(15, .int (x15 + 1)), (0, .ref q_th), (1, .int x1), (2, .int x2), (3, .int x3), (4, .int x4), (5, .int x5), (6, .long x6), (8, .long x8), (10, .long x10), (12, .long x12), (14, .int x14)]) hx hb dX9_needed_239 hl (k := 11) rfl rfl (by decide) rfl (fun ls hl => ?_)
          refine lv_goto (tgt := 89) hx hb dX9_needed_242 (by decide) ?_
          cases h
          exact ih _ rfl _ _ _ hP hD hS (lv_sub hl [1, 2, 3, 4, 5, 6, 7, 8, 9, 10, 11, 0] rfl)
        · replace h := ifn c15 h
          refine lv_aload_n hx hb dX9_needed_119 rfl (lv_at hl 0 rfl) ?_
          refine lv_iload hx hb dX9_needed_120 (lv_at hl 11 rfl) ?_
          obtain ⟨⟨z16_0, z16_1, z16_2, z16_3, z16_4, z16_5, z16_6, z16_7, z16_8, z16_9⟩, hc16, h⟩ := bd_ok h
          refine st_callV (As := [.int x15]) (rest := []) (pos := (List.range' 0 8)) ⟨hx, hb, hml, hown, hts⟩ (s_X9_loads (l := l) (D := D) (tc := tc) hEok q_th q_th_text q_th_saying q_th_signs q_th_sets q_th_told q_th_up q_th_down q_th_world q_th_tight q_th_sum q_th_now n_th_saying n_th_up n_th_down n_th_world n_th_tight n_th_sum n_th_now th_thrown th_typed th_next th_token th_place th_value th_fault th_many th_signMany th_setMany th_corners th_isLoaded th_loaded th_widened th_wide th_boundUp th_boundDown th_saying th_up th_down th_world th_tight th_sum th_now x15 K z16_0 z16_1 z16_2 z16_3 z16_4 z16_5 z16_6 z16_7 z16_8 z16_9 hc16) (cwV 1 hts gX9_needed_X9_loads rfl rfl rfl (by decide +kernel) ⟨Nat.le_of_ble_eq_true rfl, Nat.le_of_ble_eq_true rfl⟩) (st_recv (ci := 9) (q0 := 0) hK hP rfl rfl) hEok hE hK hN hP hD hS hA (st_segpos (m := 8) (by rfl) (by rfl) (by rfl)) (st_seg_nd _ _) (wa_X9_loads.trans wa_X9_loads.symm) rfl hl.1 rfl (Nat.le_of_ble_eq_true rfl) dX9_needed_122 ⟨Nat.zero_le _, Nat.zero_le _⟩ (fun H locs hP hD hS => ?_)
          have hP : va_P D vwCl (w_X9_needed tc q_th q_th_text q_th_saying q_th_signs q_th_sets q_th_told q_th_up q_th_down q_th_world q_th_tight q_th_sum q_th_now n_th_saying n_th_up n_th_down n_th_world n_th_tight n_th_sum n_th_now th_thrown th_typed th_next th_token th_place th_value th_fault th_many th_signMany th_setMany z16_1 z16_2 z16_3 th_widened th_wide th_boundUp th_boundDown th_saying z16_4 z16_5 z16_6 z16_7 z16_8 z16_9) H := st_segP (w0 := (w_X9_loads tc q_th q_th_text q_th_saying q_th_signs q_th_sets q_th_told q_th_up q_th_down q_th_world q_th_tight q_th_sum q_th_now n_th_saying n_th_up n_th_down n_th_world n_th_tight n_th_sum n_th_now th_thrown th_typed th_next th_token th_place th_value th_fault th_many th_signMany th_setMany th_corners th_isLoaded th_loaded th_widened th_wide th_boundUp th_boundDown th_saying th_up th_down th_world th_tight th_sum th_now)) (m := 8) (by rfl) (by rfl) (by rfl) (by rfl) (by rfl) hP
          have hD : va_D A (w_X9_needed tc q_th q_th_text q_th_saying q_th_signs q_th_sets q_th_told q_th_up q_th_down q_th_world q_th_tight q_th_sum q_th_now n_th_saying n_th_up n_th_down n_th_world n_th_tight n_th_sum n_th_now th_thrown th_typed th_next th_token th_place th_value th_fault th_many th_signMany th_setMany z16_1 z16_2 z16_3 th_widened th_wide th_boundUp th_boundDown th_saying z16_4 z16_5 z16_6 z16_7 z16_8 z16_9) := st_segD (w0 := (w_X9_loads tc q_th q_th_text q_th_saying q_th_signs q_th_sets q_th_told q_th_up q_th_down q_th_world q_th_tight q_th_sum q_th_now n_th_saying n_th_up n_th_down n_th_world n_th_tight n_th_sum n_th_now th_thrown th_typed th_next th_token th_place th_value th_fault th_many th_signMany th_setMany th_corners th_isLoaded th_loaded th_widened th_wide th_boundUp th_boundDown th_saying th_up th_down th_world th_tight th_sum th_now)) (m := 8) (by rfl) (by rfl) (by rfl) (by rfl) (by rfl) hD
          refine lv_pop hx hb dX9_needed_125 rfl ?_
          refine lv_aload_n hx hb dX9_needed_126 rfl (lv_at hl 0 rfl) ?_
          refine lv_iload_n hx hb dX9_needed_127 rfl (lv_at hl 1 rfl) ?_
          refine lv_iload_n hx hb dX9_needed_128 rfl (lv_at hl 2 rfl) ?_
          refine lv_iconst (v := (0 : Int32)) hx hb dX9_needed_129 (by decide) ?_
          refine lv_iconst (v := (0 : Int32)) hx hb dX9_needed_130 (by decide) ?_
          obtain ⟨⟨z17_0, z17_1, z17_2⟩, hc17, h⟩ := bd_ok h
          refine st_callV (As := [.int x1, .int x2, .int (0 : Int32), .int (0 : Int32)]) (rest := []) (pos := [0, 2, 3]) ⟨hx, hb, hml, hown, hts⟩ (s_X9_bounds (l := l) (D := D) (tc := tc) hEok q_th q_th_text q_th_saying q_th_signs q_th_sets q_th_told q_th_up q_th_down q_th_world q_th_tight q_th_sum q_th_now n_th_up n_th_down th_thrown th_typed th_next th_token th_place th_value th_fault th_many th_signMany th_setMany z16_1 z16_2 z16_3 th_widened th_wide th_boundUp th_boundDown z16_4 z16_5 x1 x2 (0 : Int32) (0 : Int32) K z17_0 z17_1 z17_2 hc17) (cwV 4 hts gX9_needed_X9_bounds rfl rfl rfl (by decide +kernel) ⟨Nat.le_of_ble_eq_true rfl, Nat.le_of_ble_eq_true rfl⟩) (st_recv (ci := 9) (q0 := 0) hK hP rfl rfl) hEok hE hK hN hP hD hS hA rfl rfl rfl rfl hl.1 rfl (Nat.le_of_ble_eq_true rfl) dX9_needed_131 ⟨Nat.zero_le _, Nat.zero_le _⟩ (fun H locs hP hD hS => ?_)
          have hP : va_P D vwCl (w_X9_needed tc q_th q_th_text q_th_saying q_th_signs q_th_sets q_th_told q_th_up q_th_down q_th_world q_th_tight q_th_sum q_th_now n_th_saying n_th_up n_th_down n_th_world n_th_tight n_th_sum n_th_now th_thrown th_typed th_next th_token th_place th_value th_fault th_many th_signMany th_setMany z16_1 z16_2 z16_3 th_widened th_wide z17_1 z17_2 th_saying z16_4 z16_5 z16_6 z16_7 z16_8 z16_9) H := hP
          have hD : va_D A (w_X9_needed tc q_th q_th_text q_th_saying q_th_signs q_th_sets q_th_told q_th_up q_th_down q_th_world q_th_tight q_th_sum q_th_now n_th_saying n_th_up n_th_down n_th_world n_th_tight n_th_sum n_th_now th_thrown th_typed th_next th_token th_place th_value th_fault th_many th_signMany th_setMany z16_1 z16_2 z16_3 th_widened th_wide z17_1 z17_2 th_saying z16_4 z16_5 z16_6 z16_7 z16_8 z16_9) := hD
          refine lv_iload hx hb dX9_needed_134 (lv_at hl 5 rfl) ?_
          refine lv_icmp_ne (tgt := 143) hx hb dX9_needed_136 (by decide) (fun c18 => ?_) (fun c18 => ?_)
          · replace h := ifn c18 h
            refine lv_iconst (v := (0 : Int32)) hx hb dX9_needed_143 (by decide) ?_
            refine lv_istore (lv' := [(16, .int (0 : Int32)), (0, .ref q_th), (1, .int x1), (2, .int x2), (3, .int x3), (4, .int x4), (5, .int x5), (6, .long x6), (8, .long x8), (10, .long x10), (12, .long x12), (14, .int x14), (15, .int x15)]) hx hb dX9_needed_144 hl (by decide) rfl (fun ls hl => ?_)
            refine lv_iload hx hb dX9_needed_146 (lv_at hl 0 rfl) ?_
            refine lv_if_eq (tgt := 178) hx hb dX9_needed_148 (by decide) (fun c19 => ?_) (fun c19 => ?_)
            · replace h := ifp c19 h
              exact J178 x14 x15 z16_1 z16_2 z16_3 z17_1 z17_2 z16_4 z16_5 z16_6 z16_7 z16_8 z16_9 _ _ _ h hP hD hS (lv_sub hl [1, 2, 3, 4, 5, 6, 7, 8, 9, 10, 11, 12] rfl)
            · replace h := ifn c19 h
              refine lv_iload hx hb dX9_needed_151 (lv_at hl 6 rfl) ?_
              refine lv_if_eq (tgt := 174) hx hb dX9_needed_153 (by decide) (fun c20 => ?_) (fun c20 => ?_)
              · replace h := ifp c20 h
                exact J174 x14 x15 z16_1 z16_2 z16_3 z17_1 z17_2 z16_4 z16_5 z16_6 z16_7 z16_8 z16_9 _ _ _ h hP hD hS (lv_sub hl [1, 2, 3, 4, 5, 6, 7, 8, 9, 10, 11, 12] rfl)
              · replace h := ifn c20 h
                refine lv_aload_n hx hb dX9_needed_156 rfl (lv_at hl 1 rfl) ?_
                refine va_get (D := D) (ci := 9) (v := .long z17_1) (C := RX9) (T := TX9) (N := 28) hx hb hts hinX9 hown hK hP 0 rfl rfl 26 (by decide) (hts (.fieldLink RX9 184 "ChanceBoundsModel" "boundUp" "J") (by decide +kernel)) (fun _ h9 => h9) rfl dX9_needed_157 ?_
                refine lv_lload hx hb dX9_needed_160 (lv_at hl 8 rfl) ?_
                refine lv_lmul hx hb dX9_needed_162 ?_
                refine lv_lload hx hb dX9_needed_163 (lv_at hl 7 rfl) ?_
                refine lv_aload_n hx hb dX9_needed_165 rfl (lv_at hl 1 rfl) ?_
                refine va_get (D := D) (ci := 9) (v := .long z17_2) (C := RX9) (T := TX9) (N := 28) hx hb hts hinX9 hown hK hP 0 rfl rfl 27 (by decide) (hts (.fieldLink RX9 176 "ChanceBoundsModel" "boundDown" "J") (by decide +kernel)) (fun _ h9 => h9) rfl dX9_needed_166 ?_
                refine lv_lmul hx hb dX9_needed_169 ?_
                refine W.lcmp hx hb dX9_needed_170 ?_
                refine lv_if_ne (tgt := 178) hx hb dX9_needed_171 (by decide) (fun c21 => ?_) (fun c21 => ?_)
                · replace h := ifn c21 h
                  exact J178 x14 x15 z16_1 z16_2 z16_3 z17_1 z17_2 z16_4 z16_5 z16_6 z16_7 z16_8 z16_9 _ _ _ h hP hD hS (lv_sub hl [1, 2, 3, 4, 5, 6, 7, 8, 9, 10, 11, 12] rfl)
                · replace h := ifp c21 h
                  exact J174 x14 x15 z16_1 z16_2 z16_3 z17_1 z17_2 z16_4 z16_5 z16_6 z16_7 z16_8 z16_9 _ _ _ h hP hD hS (lv_sub hl [1, 2, 3, 4, 5, 6, 7, 8, 9, 10, 11, 12] rfl)
          · replace h := ifp c18 h
            refine lv_iconst (v := (1 : Int32)) hx hb dX9_needed_139 (by decide) ?_
            refine lv_goto (tgt := 144) hx hb dX9_needed_140 (by decide) ?_
            refine lv_istore (lv' := [(16, .int (1 : Int32)), (0, .ref q_th), (1, .int x1), (2, .int x2), (3, .int x3), (4, .int x4), (5, .int x5), (6, .long x6), (8, .long x8), (10, .long x10), (12, .long x12), (14, .int x14), (15, .int x15)]) hx hb dX9_needed_144 hl (by decide) rfl (fun ls hl => ?_)
            refine lv_iload hx hb dX9_needed_146 (lv_at hl 0 rfl) ?_
            refine lv_if_eq (tgt := 178) hx hb dX9_needed_148 (by decide) (fun c22 => ?_) (fun c22 => ?_)
            · replace h := ifp c22 h
              exact J178 x14 x15 z16_1 z16_2 z16_3 z17_1 z17_2 z16_4 z16_5 z16_6 z16_7 z16_8 z16_9 _ _ _ h hP hD hS (lv_sub hl [1, 2, 3, 4, 5, 6, 7, 8, 9, 10, 11, 12] rfl)
            · replace h := ifn c22 h
              refine lv_iload hx hb dX9_needed_151 (lv_at hl 6 rfl) ?_
              refine lv_if_eq (tgt := 174) hx hb dX9_needed_153 (by decide) (fun c23 => ?_) (fun c23 => ?_)
              · replace h := ifp c23 h
                exact J174 x14 x15 z16_1 z16_2 z16_3 z17_1 z17_2 z16_4 z16_5 z16_6 z16_7 z16_8 z16_9 _ _ _ h hP hD hS (lv_sub hl [1, 2, 3, 4, 5, 6, 7, 8, 9, 10, 11, 12] rfl)
              · replace h := ifn c23 h
                refine lv_aload_n hx hb dX9_needed_156 rfl (lv_at hl 1 rfl) ?_
                refine va_get (D := D) (ci := 9) (v := .long z17_1) (C := RX9) (T := TX9) (N := 28) hx hb hts hinX9 hown hK hP 0 rfl rfl 26 (by decide) (hts (.fieldLink RX9 184 "ChanceBoundsModel" "boundUp" "J") (by decide +kernel)) (fun _ h9 => h9) rfl dX9_needed_157 ?_
                refine lv_lload hx hb dX9_needed_160 (lv_at hl 8 rfl) ?_
                refine lv_lmul hx hb dX9_needed_162 ?_
                refine lv_lload hx hb dX9_needed_163 (lv_at hl 7 rfl) ?_
                refine lv_aload_n hx hb dX9_needed_165 rfl (lv_at hl 1 rfl) ?_
                refine va_get (D := D) (ci := 9) (v := .long z17_2) (C := RX9) (T := TX9) (N := 28) hx hb hts hinX9 hown hK hP 0 rfl rfl 27 (by decide) (hts (.fieldLink RX9 176 "ChanceBoundsModel" "boundDown" "J") (by decide +kernel)) (fun _ h9 => h9) rfl dX9_needed_166 ?_
                refine lv_lmul hx hb dX9_needed_169 ?_
                refine W.lcmp hx hb dX9_needed_170 ?_
                refine lv_if_ne (tgt := 178) hx hb dX9_needed_171 (by decide) (fun c24 => ?_) (fun c24 => ?_)
                · replace h := ifn c24 h
                  exact J178 x14 x15 z16_1 z16_2 z16_3 z17_1 z17_2 z16_4 z16_5 z16_6 z16_7 z16_8 z16_9 _ _ _ h hP hD hS (lv_sub hl [1, 2, 3, 4, 5, 6, 7, 8, 9, 10, 11, 12] rfl)
                · replace h := ifp c24 h
                  exact J174 x14 x15 z16_1 z16_2 z16_3 z17_1 z17_2 z16_4 z16_5 z16_6 z16_7 z16_8 z16_9 _ _ _ h hP hD hS (lv_sub hl [1, 2, 3, 4, 5, 6, 7, 8, 9, 10, 11, 12] rfl)
  unfold f_X9_needed at h
  refine lv_aload_n hx hb dX9_needed_0 rfl (lv_at hl 0 rfl) ?_
  refine lv_iconst (v := (0 : Int32)) hx hb dX9_needed_1 (by decide) ?_
  refine va_put (D := D) (ci := 9) (v := .int (0 : Int32)) (ty := .int) (C := RX9) (T := TX9) (N := 28) hx hb hts hinX9 tyX9 tyX9_ok nmX9 hown hK hP hD hS 0 rfl rfl 0 (by decide) (hts (.fieldLink RX9 45 "ChanceBoundsModel" "thrown" "I") (by decide +kernel)) (fun _ h9 => h9) rfl (by decide +kernel) rfl rfl (Nat.le_of_ble_eq_true rfl) dX9_needed_2 (fun H locs hP hD hS => ?_)
  have hP : va_P D vwCl (w_X9_needed tc q_th q_th_text q_th_saying q_th_signs q_th_sets q_th_told q_th_up q_th_down q_th_world q_th_tight q_th_sum q_th_now n_th_saying n_th_up n_th_down n_th_world n_th_tight n_th_sum n_th_now (0 : Int32) th_typed th_next th_token th_place th_value th_fault th_many th_signMany th_setMany th_corners th_isLoaded th_loaded th_widened th_wide th_boundUp th_boundDown th_saying th_up th_down th_world th_tight th_sum th_now) H := hP
  have hD : va_D A (w_X9_needed tc q_th q_th_text q_th_saying q_th_signs q_th_sets q_th_told q_th_up q_th_down q_th_world q_th_tight q_th_sum q_th_now n_th_saying n_th_up n_th_down n_th_world n_th_tight n_th_sum n_th_now (0 : Int32) th_typed th_next th_token th_place th_value th_fault th_many th_signMany th_setMany th_corners th_isLoaded th_loaded th_widened th_wide th_boundUp th_boundDown th_saying th_up th_down th_world th_tight th_sum th_now) := hD
  refine lv_iload_n hx hb dX9_needed_5 rfl (lv_at hl 1 rfl) ?_
  obtain ⟨z25_0, hc25, h⟩ := bd_ok h
  refine st_callS (As := [.int x1]) (rest := []) (pos := []) ⟨hx, hb, hml, hown, hts⟩ (s_X9_isThing (l := l) (D := D) (tc := tc) hEok x1 z25_0 hc25) (va_cwS 1 hts gX9_needed_X9_isThing rfl rfl rfl (by decide +kernel) ⟨Nat.le_of_ble_eq_true rfl, Nat.le_of_ble_eq_true rfl⟩) hEok hE hK hN hP hD hS hA rfl rfl rfl rfl hl.1 rfl (Nat.le_of_ble_eq_true rfl) dX9_needed_6 ⟨Nat.zero_le _, Nat.zero_le _⟩ (fun H locs hP hD hS => ?_)
  have hP : va_P D vwCl (w_X9_needed tc q_th q_th_text q_th_saying q_th_signs q_th_sets q_th_told q_th_up q_th_down q_th_world q_th_tight q_th_sum q_th_now n_th_saying n_th_up n_th_down n_th_world n_th_tight n_th_sum n_th_now (0 : Int32) th_typed th_next th_token th_place th_value th_fault th_many th_signMany th_setMany th_corners th_isLoaded th_loaded th_widened th_wide th_boundUp th_boundDown th_saying th_up th_down th_world th_tight th_sum th_now) H := hP
  have hD : va_D A (w_X9_needed tc q_th q_th_text q_th_saying q_th_signs q_th_sets q_th_told q_th_up q_th_down q_th_world q_th_tight q_th_sum q_th_now n_th_saying n_th_up n_th_down n_th_world n_th_tight n_th_sum n_th_now (0 : Int32) th_typed th_next th_token th_place th_value th_fault th_many th_signMany th_setMany th_corners th_isLoaded th_loaded th_widened th_wide th_boundUp th_boundDown th_saying th_up th_down th_world th_tight th_sum th_now) := hD
  refine lv_if_eq (tgt := 26) hx hb dX9_needed_9 (by decide) (fun c26 => ?_) (fun c26 => ?_)
  · replace h := ifp c26 h
    refine lv_iconst (v := (-1 : Int32)) hx hb dX9_needed_26 (by decide) ?_
    simp only [Option.some.injEq, Prod.mk.injEq] at h
    obtain ⟨rfl, rfl, rfl, rfl, rfl, rfl, rfl, rfl, rfl, rfl, rfl, rfl, rfl, rfl⟩ := h
    exact st_iret hx hb hr hlocks hP hD hS dX9_needed_27
  · replace h := ifn c26 h
    refine lv_iload_n hx hb dX9_needed_12 rfl (lv_at hl 2 rfl) ?_
    obtain ⟨z27_0, hc27, h⟩ := bd_ok h
    refine st_callS (As := [.int x2]) (rest := []) (pos := []) ⟨hx, hb, hml, hown, hts⟩ (s_X9_isThing (l := l) (D := D) (tc := tc) hEok x2 z27_0 hc27) (va_cwS 1 hts gX9_needed_X9_isThing rfl rfl rfl (by decide +kernel) ⟨Nat.le_of_ble_eq_true rfl, Nat.le_of_ble_eq_true rfl⟩) hEok hE hK hN hP hD hS hA rfl rfl rfl rfl hl.1 rfl (Nat.le_of_ble_eq_true rfl) dX9_needed_13 ⟨Nat.zero_le _, Nat.zero_le _⟩ (fun H locs hP hD hS => ?_)
    have hP : va_P D vwCl (w_X9_needed tc q_th q_th_text q_th_saying q_th_signs q_th_sets q_th_told q_th_up q_th_down q_th_world q_th_tight q_th_sum q_th_now n_th_saying n_th_up n_th_down n_th_world n_th_tight n_th_sum n_th_now (0 : Int32) th_typed th_next th_token th_place th_value th_fault th_many th_signMany th_setMany th_corners th_isLoaded th_loaded th_widened th_wide th_boundUp th_boundDown th_saying th_up th_down th_world th_tight th_sum th_now) H := hP
    have hD : va_D A (w_X9_needed tc q_th q_th_text q_th_saying q_th_signs q_th_sets q_th_told q_th_up q_th_down q_th_world q_th_tight q_th_sum q_th_now n_th_saying n_th_up n_th_down n_th_world n_th_tight n_th_sum n_th_now (0 : Int32) th_typed th_next th_token th_place th_value th_fault th_many th_signMany th_setMany th_corners th_isLoaded th_loaded th_widened th_wide th_boundUp th_boundDown th_saying th_up th_down th_world th_tight th_sum th_now) := hD
    refine lv_if_eq (tgt := 26) hx hb dX9_needed_16 (by decide) (fun c28 => ?_) (fun c28 => ?_)
    · replace h := ifp c28 h
      refine lv_iconst (v := (-1 : Int32)) hx hb dX9_needed_26 (by decide) ?_
      simp only [Option.some.injEq, Prod.mk.injEq] at h
      obtain ⟨rfl, rfl, rfl, rfl, rfl, rfl, rfl, rfl, rfl, rfl, rfl, rfl, rfl, rfl⟩ := h
      exact st_iret hx hb hr hlocks hP hD hS dX9_needed_27
    · replace h := ifn c28 h
      refine lv_iload_n hx hb dX9_needed_19 rfl (lv_at hl 3 rfl) ?_
      obtain ⟨z29_0, hc29, h⟩ := bd_ok h
      refine st_callS (As := [.int x3]) (rest := []) (pos := []) ⟨hx, hb, hml, hown, hts⟩ (s_X9_isBit (l := l) (D := D) (tc := tc) hEok x3 z29_0 hc29) (va_cwS 1 hts gX9_needed_X9_isBit rfl rfl rfl (by decide +kernel) ⟨Nat.le_of_ble_eq_true rfl, Nat.le_of_ble_eq_true rfl⟩) hEok hE hK hN hP hD hS hA rfl rfl rfl rfl hl.1 rfl (Nat.le_of_ble_eq_true rfl) dX9_needed_20 ⟨Nat.zero_le _, Nat.zero_le _⟩ (fun H locs hP hD hS => ?_)
      have hP : va_P D vwCl (w_X9_needed tc q_th q_th_text q_th_saying q_th_signs q_th_sets q_th_told q_th_up q_th_down q_th_world q_th_tight q_th_sum q_th_now n_th_saying n_th_up n_th_down n_th_world n_th_tight n_th_sum n_th_now (0 : Int32) th_typed th_next th_token th_place th_value th_fault th_many th_signMany th_setMany th_corners th_isLoaded th_loaded th_widened th_wide th_boundUp th_boundDown th_saying th_up th_down th_world th_tight th_sum th_now) H := hP
      have hD : va_D A (w_X9_needed tc q_th q_th_text q_th_saying q_th_signs q_th_sets q_th_told q_th_up q_th_down q_th_world q_th_tight q_th_sum q_th_now n_th_saying n_th_up n_th_down n_th_world n_th_tight n_th_sum n_th_now (0 : Int32) th_typed th_next th_token th_place th_value th_fault th_many th_signMany th_setMany th_corners th_isLoaded th_loaded th_widened th_wide th_boundUp th_boundDown th_saying th_up th_down th_world th_tight th_sum th_now) := hD
      refine lv_if_ne (tgt := 28) hx hb dX9_needed_23 (by decide) (fun c30 => ?_) (fun c30 => ?_)
      · replace h := ifn c30 h
        refine lv_aload_n hx hb dX9_needed_28 rfl (lv_at hl 0 rfl) ?_
        obtain ⟨⟨z31_0, z31_1, z31_2, z31_3, z31_4, z31_5, z31_6, z31_7, z31_8, z31_9, z31_10⟩, hc31, h⟩ := bd_ok h
        refine st_callV (As := []) (rest := []) (pos := (List.range' 0 8)) ⟨hx, hb, hml, hown, hts⟩ (s_X9_loadsOn (l := l) (D := D) (tc := tc) hEok q_th q_th_text q_th_saying q_th_signs q_th_sets q_th_told q_th_up q_th_down q_th_world q_th_tight q_th_sum q_th_now n_th_saying n_th_up n_th_down n_th_world n_th_tight n_th_sum n_th_now (0 : Int32) th_typed th_next th_token th_place th_value th_fault th_many th_signMany th_setMany th_corners th_isLoaded th_loaded th_widened th_wide th_boundUp th_boundDown th_saying th_up th_down th_world th_tight th_sum th_now K z31_0 z31_1 z31_2 z31_3 z31_4 z31_5 z31_6 z31_7 z31_8 z31_9 z31_10 hc31) (cwV 0 hts gX9_needed_X9_loadsOn rfl rfl rfl (by decide +kernel) ⟨Nat.le_of_ble_eq_true rfl, Nat.le_of_ble_eq_true rfl⟩) (st_recv (ci := 9) (q0 := 0) hK hP rfl rfl) hEok hE hK hN hP hD hS hA (st_segpos (m := 8) (by rfl) (by rfl) (by rfl)) (st_seg_nd _ _) (wa_X9_loadsOn.trans wa_X9_loadsOn.symm) rfl hl.1 rfl (Nat.le_of_ble_eq_true rfl) dX9_needed_29 ⟨Nat.zero_le _, Nat.zero_le _⟩ (fun H locs hP hD hS => ?_)
        have hP : va_P D vwCl (w_X9_needed tc q_th q_th_text q_th_saying q_th_signs q_th_sets q_th_told q_th_up q_th_down q_th_world q_th_tight q_th_sum q_th_now n_th_saying n_th_up n_th_down n_th_world n_th_tight n_th_sum n_th_now (0 : Int32) th_typed th_next th_token th_place th_value th_fault th_many th_signMany th_setMany z31_1 z31_2 z31_3 z31_4 th_wide th_boundUp th_boundDown th_saying z31_5 z31_6 z31_7 z31_8 z31_9 z31_10) H := st_segP (w0 := (w_X9_loadsOn tc q_th q_th_text q_th_saying q_th_signs q_th_sets q_th_told q_th_up q_th_down q_th_world q_th_tight q_th_sum q_th_now n_th_saying n_th_up n_th_down n_th_world n_th_tight n_th_sum n_th_now (0 : Int32) th_typed th_next th_token th_place th_value th_fault th_many th_signMany th_setMany th_corners th_isLoaded th_loaded th_widened th_wide th_boundUp th_boundDown th_saying th_up th_down th_world th_tight th_sum th_now)) (m := 8) (by rfl) (by rfl) (by rfl) (by rfl) (by rfl) hP
        have hD : va_D A (w_X9_needed tc q_th q_th_text q_th_saying q_th_signs q_th_sets q_th_told q_th_up q_th_down q_th_world q_th_tight q_th_sum q_th_now n_th_saying n_th_up n_th_down n_th_world n_th_tight n_th_sum n_th_now (0 : Int32) th_typed th_next th_token th_place th_value th_fault th_many th_signMany th_setMany z31_1 z31_2 z31_3 z31_4 th_wide th_boundUp th_boundDown th_saying z31_5 z31_6 z31_7 z31_8 z31_9 z31_10) := st_segD (w0 := (w_X9_loadsOn tc q_th q_th_text q_th_saying q_th_signs q_th_sets q_th_told q_th_up q_th_down q_th_world q_th_tight q_th_sum q_th_now n_th_saying n_th_up n_th_down n_th_world n_th_tight n_th_sum n_th_now (0 : Int32) th_typed th_next th_token th_place th_value th_fault th_many th_signMany th_setMany th_corners th_isLoaded th_loaded th_widened th_wide th_boundUp th_boundDown th_saying th_up th_down th_world th_tight th_sum th_now)) (m := 8) (by rfl) (by rfl) (by rfl) (by rfl) (by rfl) hD
        refine lv_pop hx hb dX9_needed_32 rfl ?_
        refine lv_aload_n hx hb dX9_needed_33 rfl (lv_at hl 0 rfl) ?_
        obtain ⟨z32_0, hc32, h⟩ := bd_ok h
        refine st_callV (As := []) (rest := []) (pos := [0, 1]) ⟨hx, hb, hml, hown, hts⟩ (s_X9_ons (l := l) (D := D) (tc := tc) hEok q_th q_th_text q_th_saying q_th_signs q_th_sets q_th_told q_th_up q_th_down q_th_world q_th_tight q_th_sum q_th_now n_th_saying (0 : Int32) th_typed th_next th_token th_place th_value th_fault th_many th_signMany th_setMany z31_1 z31_2 z31_3 z31_4 th_wide th_boundUp th_boundDown th_saying K z32_0 hc32) (cwV 0 hts gX9_needed_X9_ons rfl rfl rfl (by decide +kernel) ⟨Nat.le_of_ble_eq_true rfl, Nat.le_of_ble_eq_true rfl⟩) (st_recv (ci := 9) (q0 := 0) hK hP rfl rfl) hEok hE hK hN hP hD hS hA rfl rfl rfl rfl hl.1 rfl (Nat.le_of_ble_eq_true rfl) dX9_needed_34 ⟨Nat.zero_le _, Nat.zero_le _⟩ (fun H locs hP hD hS => ?_)
        have hP : va_P D vwCl (w_X9_needed tc q_th q_th_text q_th_saying q_th_signs q_th_sets q_th_told q_th_up q_th_down q_th_world q_th_tight q_th_sum q_th_now n_th_saying n_th_up n_th_down n_th_world n_th_tight n_th_sum n_th_now (0 : Int32) th_typed th_next th_token th_place th_value th_fault th_many th_signMany th_setMany z31_1 z31_2 z31_3 z31_4 th_wide th_boundUp th_boundDown th_saying z31_5 z31_6 z31_7 z31_8 z31_9 z31_10) H := hP
        have hD : va_D A (w_X9_needed tc q_th q_th_text q_th_saying q_th_signs q_th_sets q_th_told q_th_up q_th_down q_th_world q_th_tight q_th_sum q_th_now n_th_saying n_th_up n_th_down n_th_world n_th_tight n_th_sum n_th_now (0 : Int32) th_typed th_next th_token th_place th_value th_fault th_many th_signMany th_setMany z31_1 z31_2 z31_3 z31_4 th_wide th_boundUp th_boundDown th_saying z31_5 z31_6 z31_7 z31_8 z31_9 z31_10) := hD
        refine lv_istore (lv' := [(4, .int z32_0), (0, .ref q_th), (1, .int x1), (2, .int x2), (3, .int x3)]) hx hb dX9_needed_37 hl (by decide) rfl (fun ls hl => ?_)
        refine lv_aload_n hx hb dX9_needed_39 rfl (lv_at hl 1 rfl) ?_
        refine lv_iload_n hx hb dX9_needed_40 rfl (lv_at hl 2 rfl) ?_
        refine lv_iload_n hx hb dX9_needed_41 rfl (lv_at hl 3 rfl) ?_
        refine lv_iconst (v := (0 : Int32)) hx hb dX9_needed_42 (by decide) ?_
        refine lv_iconst (v := (0 : Int32)) hx hb dX9_needed_43 (by decide) ?_
        obtain ⟨⟨z33_0, z33_1, z33_2⟩, hc33, h⟩ := bd_ok h
        refine st_callV (As := [.int x1, .int x2, .int (0 : Int32), .int (0 : Int32)]) (rest := []) (pos := [0, 2, 3]) ⟨hx, hb, hml, hown, hts⟩ (s_X9_bounds (l := l) (D := D) (tc := tc) hEok q_th q_th_text q_th_saying q_th_signs q_th_sets q_th_told q_th_up q_th_down q_th_world q_th_tight q_th_sum q_th_now n_th_up n_th_down (0 : Int32) th_typed th_next th_token th_place th_value th_fault th_many th_signMany th_setMany z31_1 z31_2 z31_3 z31_4 th_wide th_boundUp th_boundDown z31_5 z31_6 x1 x2 (0 : Int32) (0 : Int32) K z33_0 z33_1 z33_2 hc33) (cwV 4 hts gX9_needed_X9_bounds rfl rfl rfl (by decide +kernel) ⟨Nat.le_of_ble_eq_true rfl, Nat.le_of_ble_eq_true rfl⟩) (st_recv (ci := 9) (q0 := 0) hK hP rfl rfl) hEok hE hK hN hP hD hS hA rfl rfl rfl rfl hl.1 rfl (Nat.le_of_ble_eq_true rfl) dX9_needed_44 ⟨Nat.zero_le _, Nat.zero_le _⟩ (fun H locs hP hD hS => ?_)
        have hP : va_P D vwCl (w_X9_needed tc q_th q_th_text q_th_saying q_th_signs q_th_sets q_th_told q_th_up q_th_down q_th_world q_th_tight q_th_sum q_th_now n_th_saying n_th_up n_th_down n_th_world n_th_tight n_th_sum n_th_now (0 : Int32) th_typed th_next th_token th_place th_value th_fault th_many th_signMany th_setMany z31_1 z31_2 z31_3 z31_4 th_wide z33_1 z33_2 th_saying z31_5 z31_6 z31_7 z31_8 z31_9 z31_10) H := hP
        have hD : va_D A (w_X9_needed tc q_th q_th_text q_th_saying q_th_signs q_th_sets q_th_told q_th_up q_th_down q_th_world q_th_tight q_th_sum q_th_now n_th_saying n_th_up n_th_down n_th_world n_th_tight n_th_sum n_th_now (0 : Int32) th_typed th_next th_token th_place th_value th_fault th_many th_signMany th_setMany z31_1 z31_2 z31_3 z31_4 th_wide z33_1 z33_2 th_saying z31_5 z31_6 z31_7 z31_8 z31_9 z31_10) := hD
        refine lv_istore (lv' := [(5, .int z33_0), (4, .int z32_0), (0, .ref q_th), (1, .int x1), (2, .int x2), (3, .int x3)]) hx hb dX9_needed_47 hl (by decide) rfl (fun ls hl => ?_)
        refine lv_aload_n hx hb dX9_needed_49 rfl (lv_at hl 2 rfl) ?_
        refine va_get (D := D) (ci := 9) (v := .long z33_1) (C := RX9) (T := TX9) (N := 28) hx hb hts hinX9 hown hK hP 0 rfl rfl 26 (by decide) (hts (.fieldLink RX9 184 "ChanceBoundsModel" "boundUp" "J") (by decide +kernel)) (fun _ h9 => h9) rfl dX9_needed_50 ?_
        refine lv_lstore (lv' := [(6, .long z33_1), (5, .int z33_0), (4, .int z32_0), (0, .ref q_th), (1, .int x1), (2, .int x2), (3, .int x3)]) hx hb dX9_needed_53 hl (by decide) rfl (fun ls hl => ?_)
        refine lv_aload_n hx hb dX9_needed_55 rfl (lv_at hl 3 rfl) ?_
        refine va_get (D := D) (ci := 9) (v := .long z33_2) (C := RX9) (T := TX9) (N := 28) hx hb hts hinX9 hown hK hP 0 rfl rfl 27 (by decide) (hts (.fieldLink RX9 176 "ChanceBoundsModel" "boundDown" "J") (by decide +kernel)) (fun _ h9 => h9) rfl dX9_needed_56 ?_
        refine lv_lstore (lv' := [(8, .long z33_2), (6, .long z33_1), (5, .int z33_0), (4, .int z32_0), (0, .ref q_th), (1, .int x1), (2, .int x2), (3, .int x3)]) hx hb dX9_needed_59 hl (by decide) rfl (fun ls hl => ?_)
        refine lv_aload_n hx hb dX9_needed_61 rfl (lv_at hl 4 rfl) ?_
        refine lv_iload_n hx hb dX9_needed_62 rfl (lv_at hl 5 rfl) ?_
        refine lv_iload_n hx hb dX9_needed_63 rfl (lv_at hl 6 rfl) ?_
        refine lv_iconst (v := (1 : Int32)) hx hb dX9_needed_64 (by decide) ?_
        refine lv_iconst (v := (0 : Int32)) hx hb dX9_needed_65 (by decide) ?_
        obtain ⟨⟨z34_0, z34_1, z34_2⟩, hc34, h⟩ := bd_ok h
        refine st_callV (As := [.int x1, .int x2, .int (1 : Int32), .int (0 : Int32)]) (rest := []) (pos := [0, 2, 3]) ⟨hx, hb, hml, hown, hts⟩ (s_X9_bounds (l := l) (D := D) (tc := tc) hEok q_th q_th_text q_th_saying q_th_signs q_th_sets q_th_told q_th_up q_th_down q_th_world q_th_tight q_th_sum q_th_now n_th_up n_th_down (0 : Int32) th_typed th_next th_token th_place th_value th_fault th_many th_signMany th_setMany z31_1 z31_2 z31_3 z31_4 th_wide z33_1 z33_2 z31_5 z31_6 x1 x2 (1 : Int32) (0 : Int32) K z34_0 z34_1 z34_2 hc34) (cwV 4 hts gX9_needed_X9_bounds rfl rfl rfl (by decide +kernel) ⟨Nat.le_of_ble_eq_true rfl, Nat.le_of_ble_eq_true rfl⟩) (st_recv (ci := 9) (q0 := 0) hK hP rfl rfl) hEok hE hK hN hP hD hS hA rfl rfl rfl rfl hl.1 rfl (Nat.le_of_ble_eq_true rfl) dX9_needed_66 ⟨Nat.zero_le _, Nat.zero_le _⟩ (fun H locs hP hD hS => ?_)
        have hP : va_P D vwCl (w_X9_needed tc q_th q_th_text q_th_saying q_th_signs q_th_sets q_th_told q_th_up q_th_down q_th_world q_th_tight q_th_sum q_th_now n_th_saying n_th_up n_th_down n_th_world n_th_tight n_th_sum n_th_now (0 : Int32) th_typed th_next th_token th_place th_value th_fault th_many th_signMany th_setMany z31_1 z31_2 z31_3 z31_4 th_wide z34_1 z34_2 th_saying z31_5 z31_6 z31_7 z31_8 z31_9 z31_10) H := hP
        have hD : va_D A (w_X9_needed tc q_th q_th_text q_th_saying q_th_signs q_th_sets q_th_told q_th_up q_th_down q_th_world q_th_tight q_th_sum q_th_now n_th_saying n_th_up n_th_down n_th_world n_th_tight n_th_sum n_th_now (0 : Int32) th_typed th_next th_token th_place th_value th_fault th_many th_signMany th_setMany z31_1 z31_2 z31_3 z31_4 th_wide z34_1 z34_2 th_saying z31_5 z31_6 z31_7 z31_8 z31_9 z31_10) := hD
        refine lv_pop hx hb dX9_needed_69 rfl ?_
        refine lv_aload_n hx hb dX9_needed_70 rfl (lv_at hl 4 rfl) ?_
        refine va_get (D := D) (ci := 9) (v := .long z34_1) (C := RX9) (T := TX9) (N := 28) hx hb hts hinX9 hown hK hP 0 rfl rfl 26 (by decide) (hts (.fieldLink RX9 184 "ChanceBoundsModel" "boundUp" "J") (by decide +kernel)) (fun _ h9 => h9) rfl dX9_needed_71 ?_
        refine lv_lstore (lv' := [(10, .long z34_1), (8, .long z33_2), (6, .long z33_1), (5, .int z33_0), (4, .int z32_0), (0, .ref q_th), (1, .int x1), (2, .int x2), (3, .int x3)]) hx hb dX9_needed_74 hl (by decide) rfl (fun ls hl => ?_)
        refine lv_aload_n hx hb dX9_needed_76 rfl (lv_at hl 5 rfl) ?_
        refine va_get (D := D) (ci := 9) (v := .long z34_2) (C := RX9) (T := TX9) (N := 28) hx hb hts hinX9 hown hK hP 0 rfl rfl 27 (by decide) (hts (.fieldLink RX9 176 "ChanceBoundsModel" "boundDown" "J") (by decide +kernel)) (fun _ h9 => h9) rfl dX9_needed_77 ?_
        refine lv_lstore (lv' := [(12, .long z34_2), (10, .long z34_1), (8, .long z33_2), (6, .long z33_1), (5, .int z33_0), (4, .int z32_0), (0, .ref q_th), (1, .int x1), (2, .int x2), (3, .int x3)]) hx hb dX9_needed_80 hl (by decide) rfl (fun ls hl => ?_)
        refine lv_iload hx hb dX9_needed_82 (lv_at hl 5 rfl) ?_
        refine lv_istore (lv' := [(14, .int z32_0), (12, .long z34_2), (10, .long z34_1), (8, .long z33_2), (6, .long z33_1), (5, .int z33_0), (4, .int z32_0), (0, .ref q_th), (1, .int x1), (2, .int x2), (3, .int x3)]) hx hb dX9_needed_84 hl (by decide) rfl (fun ls hl => ?_)
        refine lv_iconst (v := (0 : Int32)) hx hb dX9_needed_86 (by decide) ?_
        refine lv_istore (lv' := [(15, .int (0 : Int32)), (14, .int z32_0), (12, .long z34_2), (10, .long z34_1), (8, .long z33_2), (6, .long z33_1), (5, .int z33_0), (4, .int z32_0), (0, .ref q_th), (1, .int x1), (2, .int x2), (3, .int x3)]) hx hb dX9_needed_87 hl (by decide) rfl (fun ls hl => ?_)
        obtain ⟨⟨z35_0, z35_1, z35_2, z35_3, z35_4, z35_5, z35_6, z35_7, z35_8, z35_9, z35_10, z35_11⟩, hl35, h⟩ := bd_ok h
        refine L89 x1 x2 x3 z32_0 z33_0 z33_1 z33_2 z34_1 z34_2 (0 : Int32) z31_4 K _ _ hl35 ?_ _ _ _ hP hD hS (lv_sub hl [8, 9, 10, 11, 7, 6, 5, 4, 3, 2, 1, 0] rfl)
        intro H locs ls hP hD hS hl
        refine lv_iload_n hx hb dX9_needed_245 rfl (lv_at hl 0 rfl) ?_
        refine lv_if_ne (tgt := 257) hx hb dX9_needed_246 (by decide) (fun c36 => ?_) (fun c36 => ?_)
        · replace h := ifn c36 h
          refine lv_iload hx hb dX9_needed_257 (lv_at hl 1 rfl) ?_
          simp only [Option.some.injEq, Prod.mk.injEq] at h
          obtain ⟨rfl, rfl, rfl, rfl, rfl, rfl, rfl, rfl, rfl, rfl, rfl, rfl, rfl, rfl⟩ := h
          exact st_iret hx hb hr hlocks hP hD hS dX9_needed_259
        · replace h := ifp c36 h
          refine lv_iload hx hb dX9_needed_249 (lv_at hl 1 rfl) ?_
          obtain ⟨z37_0, hc37, h⟩ := bd_ok h
          refine st_callS (As := [.int z35_0]) (rest := []) (pos := []) ⟨hx, hb, hml, hown, hts⟩ (s_X9_ones (l := l) (D := D) (tc := tc) hEok z35_0 K z37_0 hc37) (va_cwS 1 hts gX9_needed_X9_ones rfl rfl rfl (by decide +kernel) ⟨Nat.le_of_ble_eq_true rfl, Nat.le_of_ble_eq_true rfl⟩) hEok hE hK hN hP hD hS hA rfl rfl rfl rfl hl.1 rfl (Nat.le_of_ble_eq_true rfl) dX9_needed_251 ⟨Nat.zero_le _, Nat.zero_le _⟩ (fun H locs hP hD hS => ?_)
          have hP : va_P D vwCl (w_X9_needed tc q_th q_th_text q_th_saying q_th_signs q_th_sets q_th_told q_th_up q_th_down q_th_world q_th_tight q_th_sum q_th_now n_th_saying n_th_up n_th_down n_th_world n_th_tight n_th_sum n_th_now (0 : Int32) th_typed th_next th_token th_place th_value th_fault th_many th_signMany th_setMany z35_1 z35_2 z35_3 z31_4 th_wide z35_4 z35_5 th_saying z35_6 z35_7 z35_8 z35_9 z35_10 z35_11) H := hP
          have hD : va_D A (w_X9_needed tc q_th q_th_text q_th_saying q_th_signs q_th_sets q_th_told q_th_up q_th_down q_th_world q_th_tight q_th_sum q_th_now n_th_saying n_th_up n_th_down n_th_world n_th_tight n_th_sum n_th_now (0 : Int32) th_typed th_next th_token th_place th_value th_fault th_many th_signMany th_setMany z35_1 z35_2 z35_3 z31_4 th_wide z35_4 z35_5 th_saying z35_6 z35_7 z35_8 z35_9 z35_10 z35_11) := hD
          refine lv_goto (tgt := 259) hx hb dX9_needed_254 (by decide) ?_
          simp only [Option.some.injEq, Prod.mk.injEq] at h
          obtain ⟨rfl, rfl, rfl, rfl, rfl, rfl, rfl, rfl, rfl, rfl, rfl, rfl, rfl, rfl⟩ := h
          exact st_iret hx hb hr hlocks hP hD hS dX9_needed_259
      · replace h := ifp c30 h
        refine lv_iconst (v := (-1 : Int32)) hx hb dX9_needed_26 (by decide) ?_
        simp only [Option.some.injEq, Prod.mk.injEq] at h
        obtain ⟨rfl, rfl, rfl, rfl, rfl, rfl, rfl, rfl, rfl, rfl, rfl, rfl, rfl, rfl⟩ := h
        exact st_iret hx hb hr hlocks hP hD hS dX9_needed_27
def f_X9_gives_L63 (K : Nat) (n_th_saying : Nat) (n_th_up : Nat) (n_th_down : Nat) (n_th_world : Nat) (n_th_tight : Nat) (n_th_sum : Nat) (n_th_now : Nat) (th_many : Int32) (th_widened : Int32) (th_saying : Nat → Int32) (x2 : Int32) (s63 : Int32 × Int32 × Int32 × Int32 × Int32 × Int32 × (Nat → Int64) × (Nat → Int64) × (Nat → Int32) × (Nat → Int32) × (Nat → Int64) × (Nat → Int64)) : Option ((Int32 × Int32 × Int32 × Int32 × Int32 × (Nat → Int64) × (Nat → Int64) × (Nat → Int32) × (Nat → Int32) × (Nat → Int64) × (Nat → Int64)) ⊕ (Int32 × Int32 × Int32 × Int32 × Int32 × Int32 × (Nat → Int64) × (Nat → Int64) × (Nat → Int32) × (Nat → Int32) × (Nat → Int64) × (Nat → Int64))) :=
  match s63 with
  | (x3, x4, th_corners, th_isLoaded, th_loaded, th_wide, th_up, th_down, th_world, th_tight, th_sum, th_now) =>
    if (100 : Int32) < x4 then
      some (.inl (x3, th_corners, th_isLoaded, th_loaded, th_wide, th_up, th_down, th_world, th_tight, th_sum, th_now))
    else
      if x3 = (-9 : Int32) then
        (f_X9_loads K n_th_saying n_th_up n_th_down n_th_world n_th_tight n_th_sum n_th_now th_many th_corners th_isLoaded th_loaded th_widened x4 th_saying th_up th_down th_world th_tight th_sum th_now x2).bind fun z3 => match z3 with
        | (z3_0, z3_1, z3_2, z3_3, z3_4, z3_5, z3_6, z3_7, z3_8, z3_9) =>
          if z3_0 = (0 : Int32) then
            some (.inr ((-9 : Int32), x4 + 1, z3_1, z3_2, z3_3, x4, z3_4, z3_5, z3_6, z3_7, z3_8, z3_9))
          else
            some (.inr (x4, x4 + 1, z3_1, z3_2, z3_3, x4, z3_4, z3_5, z3_6, z3_7, z3_8, z3_9))
      else
        some (.inl (x3, th_corners, th_isLoaded, th_loaded, th_wide, th_up, th_down, th_world, th_tight, th_sum, th_now))
def f_X9_gives_J41 (K : Nat) (n_th_saying : Nat) (n_th_up : Nat) (n_th_down : Nat) (n_th_world : Nat) (n_th_tight : Nat) (n_th_sum : Nat) (n_th_now : Nat) (th_thrown : Int32) (th_many : Int32) (th_corners : Int32) (th_isLoaded : Int32) (th_loaded : Int32) (th_wide : Int32) (th_saying : Nat → Int32) (th_up : Nat → Int64) (th_down : Nat → Int64) (th_world : Nat → Int32) (th_tight : Nat → Int32) (th_sum : Nat → Int64) (th_now : Nat → Int64) (x1 : Int32) (x2 : Int32) : Option (Int32 × Int32 × Int32 × Int32 × Int32 × Int32 × Int32 × (Nat → Int64) × (Nat → Int64) × (Nat → Int32) × (Nat → Int32) × (Nat → Int64) × (Nat → Int64)) :=
  if x1 = (-1 : Int32) then
    (lp (f_X9_gives_L63 K n_th_saying n_th_up n_th_down n_th_world n_th_tight n_th_sum n_th_now th_many x2 th_saying x2) K ((-9 : Int32), (0 : Int32), th_corners, th_isLoaded, th_loaded, th_wide, th_up, th_down, th_world, th_tight, th_sum, th_now)).bind fun z7 => match z7 with
    | (z7_0, z7_1, z7_2, z7_3, z7_4, z7_5, z7_6, z7_7, z7_8, z7_9, z7_10) =>
      some (z7_0, th_thrown, z7_1, z7_2, z7_3, (0 : Int32), z7_4, z7_5, z7_6, z7_7, z7_8, z7_9, z7_10)
  else
    (lp (f_X9_gives_L63 K n_th_saying n_th_up n_th_down n_th_world n_th_tight n_th_sum n_th_now th_many ((1 : Int32) <<< (x1 &&& 31)) th_saying x2) K ((-9 : Int32), (0 : Int32), th_corners, th_isLoaded, th_loaded, th_wide, th_up, th_down, th_world, th_tight, th_sum, th_now)).bind fun z6 => match z6 with
    | (z6_0, z6_1, z6_2, z6_3, z6_4, z6_5, z6_6, z6_7, z6_8, z6_9, z6_10) =>
      some (z6_0, th_thrown, z6_1, z6_2, z6_3, (0 : Int32), z6_4, z6_5, z6_6, z6_7, z6_8, z6_9, z6_10)
def f_X9_gives_J20 (K : Nat) (n_th_saying : Nat) (n_th_up : Nat) (n_th_down : Nat) (n_th_world : Nat) (n_th_tight : Nat) (n_th_sum : Nat) (n_th_now : Nat) (th_thrown : Int32) (th_many : Int32) (th_corners : Int32) (th_isLoaded : Int32) (th_loaded : Int32) (th_widened : Int32) (th_wide : Int32) (th_saying : Nat → Int32) (th_up : Nat → Int64) (th_down : Nat → Int64) (th_world : Nat → Int32) (th_tight : Nat → Int32) (th_sum : Nat → Int64) (th_now : Nat → Int64) (x1 : Int32) : Option (Int32 × Int32 × Int32 × Int32 × Int32 × Int32 × Int32 × (Nat → Int64) × (Nat → Int64) × (Nat → Int32) × (Nat → Int32) × (Nat → Int64) × (Nat → Int64)) :=
  (f_X9_ons K n_th_saying th_many th_saying).bind fun z8_0 =>
  if x1 = (-1 : Int32) then
    f_X9_gives_J41 K n_th_saying n_th_up n_th_down n_th_world n_th_tight n_th_sum n_th_now th_thrown th_many th_corners th_isLoaded th_loaded th_wide th_saying th_up th_down th_world th_tight th_sum th_now x1 z8_0
  else
    if ((z8_0 >>> (x1 &&& 31)) &&& (1 : Int32)) = (0 : Int32) then
      some ((-9 : Int32), th_thrown, th_corners, th_isLoaded, th_loaded, th_widened, th_wide, th_up, th_down, th_world, th_tight, th_sum, th_now)
    else
      f_X9_gives_J41 K n_th_saying n_th_up n_th_down n_th_world n_th_tight n_th_sum n_th_now th_thrown th_many th_corners th_isLoaded th_loaded th_wide th_saying th_up th_down th_world th_tight th_sum th_now x1 z8_0
def f_X9_gives (K : Nat) (n_th_saying : Nat) (n_th_up : Nat) (n_th_down : Nat) (n_th_world : Nat) (n_th_tight : Nat) (n_th_sum : Nat) (n_th_now : Nat) (th_many : Int32) (th_corners : Int32) (th_isLoaded : Int32) (th_loaded : Int32) (th_widened : Int32) (th_wide : Int32) (th_saying : Nat → Int32) (th_up : Nat → Int64) (th_down : Nat → Int64) (th_world : Nat → Int32) (th_tight : Nat → Int32) (th_sum : Nat → Int64) (th_now : Nat → Int64) (x1 : Int32) : Option (Int32 × Int32 × Int32 × Int32 × Int32 × Int32 × Int32 × (Nat → Int64) × (Nat → Int64) × (Nat → Int32) × (Nat → Int32) × (Nat → Int64) × (Nat → Int64)) :=
  if x1 = (-1 : Int32) then
    f_X9_gives_J20 K n_th_saying n_th_up n_th_down n_th_world n_th_tight n_th_sum n_th_now (0 : Int32) th_many th_corners th_isLoaded th_loaded th_widened th_wide th_saying th_up th_down th_world th_tight th_sum th_now x1
  else
    (f_X9_isSaying th_many x1).bind fun z12_0 =>
    if z12_0 = (0 : Int32) then
      some ((-1 : Int32), (0 : Int32), th_corners, th_isLoaded, th_loaded, th_widened, th_wide, th_up, th_down, th_world, th_tight, th_sum, th_now)
    else
      f_X9_gives_J20 K n_th_saying n_th_up n_th_down n_th_world n_th_tight n_th_sum n_th_now (0 : Int32) th_many th_corners th_isLoaded th_loaded th_widened th_wide th_saying th_up th_down th_world th_tight th_sum th_now x1
abbrev w_X9_gives (tc : Nat → ClassId) (q_th : Nat) (q_th_text : Nat) (q_th_saying : Nat) (q_th_signs : Nat) (q_th_sets : Nat) (q_th_told : Nat) (q_th_up : Nat) (q_th_down : Nat) (q_th_world : Nat) (q_th_tight : Nat) (q_th_sum : Nat) (q_th_now : Nat) (n_th_saying : Nat) (n_th_up : Nat) (n_th_down : Nat) (n_th_world : Nat) (n_th_tight : Nat) (n_th_sum : Nat) (n_th_now : Nat) (th_thrown : Int32) (th_typed : Int32) (th_next : Int32) (th_token : Int32) (th_place : Int32) (th_value : Int32) (th_fault : Int32) (th_many : Int32) (th_signMany : Int32) (th_setMany : Int32) (th_corners : Int32) (th_isLoaded : Int32) (th_loaded : Int32) (th_widened : Int32) (th_wide : Int32) (th_boundUp : Int64) (th_boundDown : Int64) (th_saying : Nat → Int32) (th_up : Nat → Int64) (th_down : Nat → Int64) (th_world : Nat → Int32) (th_tight : Nat → Int32) (th_sum : Nat → Int64) (th_now : Nat → Int64) : va_W := [(q_th, .inr (9, [.int th_thrown, .ref q_th_text, .int th_typed, .int th_next, .int th_token, .int th_place, .int th_value, .int th_fault, .int th_many, .ref q_th_saying, .ref q_th_signs, .ref q_th_sets, .int th_signMany, .int th_setMany, .ref q_th_told, .int th_corners, .int th_isLoaded, .int th_loaded, .ref q_th_up, .ref q_th_down, .ref q_th_world, .ref q_th_tight, .ref q_th_sum, .ref q_th_now, .int th_widened, .int th_wide, .long th_boundUp, .long th_boundDown])), (q_th_saying, .inl (tc 0, n_th_saying, .inl th_saying)), (q_th_up, .inl (tc 1, n_th_up, .inr (.inl th_up))), (q_th_down, .inl (tc 1, n_th_down, .inr (.inl th_down))), (q_th_world, .inl (tc 0, n_th_world, .inl th_world)), (q_th_tight, .inl (tc 0, n_th_tight, .inl th_tight)), (q_th_sum, .inl (tc 1, n_th_sum, .inr (.inl th_sum))), (q_th_now, .inl (tc 1, n_th_now, .inr (.inl th_now)))]
theorem wa_X9_gives {tc : Nat → ClassId} {q_th : Nat} {q_th_text : Nat} {q_th_saying : Nat} {q_th_signs : Nat} {q_th_sets : Nat} {q_th_told : Nat} {q_th_up : Nat} {q_th_down : Nat} {q_th_world : Nat} {q_th_tight : Nat} {q_th_sum : Nat} {q_th_now : Nat} {n_th_saying : Nat} {n_th_up : Nat} {n_th_down : Nat} {n_th_world : Nat} {n_th_tight : Nat} {n_th_sum : Nat} {n_th_now : Nat} {th_thrown : Int32} {th_typed : Int32} {th_next : Int32} {th_token : Int32} {th_place : Int32} {th_value : Int32} {th_fault : Int32} {th_many : Int32} {th_signMany : Int32} {th_setMany : Int32} {th_corners : Int32} {th_isLoaded : Int32} {th_loaded : Int32} {th_widened : Int32} {th_wide : Int32} {th_boundUp : Int64} {th_boundDown : Int64} {th_saying : Nat → Int32} {th_up : Nat → Int64} {th_down : Nat → Int64} {th_world : Nat → Int32} {th_tight : Nat → Int32} {th_sum : Nat → Int64} {th_now : Nat → Int64} : (w_X9_gives tc q_th q_th_text q_th_saying q_th_signs q_th_sets q_th_told q_th_up q_th_down q_th_world q_th_tight q_th_sum q_th_now n_th_saying n_th_up n_th_down n_th_world n_th_tight n_th_sum n_th_now th_thrown th_typed th_next th_token th_place th_value th_fault th_many th_signMany th_setMany th_corners th_isLoaded th_loaded th_widened th_wide th_boundUp th_boundDown th_saying th_up th_down th_world th_tight th_sum th_now).map (fun q => q.1) = [q_th, q_th_saying, q_th_up, q_th_down, q_th_world, q_th_tight, q_th_sum, q_th_now] := rfl
set_option maxHeartbeats 4000000 in
set_option maxRecDepth 100000 in
theorem s_X9_gives {l : Launch} {E : (Nat → Prop) → State → Prop} (hEok : st_Eok E) {D : va_G} {tc : Nat → ClassId} (q_th : Nat) (q_th_text : Nat) (q_th_saying : Nat) (q_th_signs : Nat) (q_th_sets : Nat) (q_th_told : Nat) (q_th_up : Nat) (q_th_down : Nat) (q_th_world : Nat) (q_th_tight : Nat) (q_th_sum : Nat) (q_th_now : Nat) (n_th_saying : Nat) (n_th_up : Nat) (n_th_down : Nat) (n_th_world : Nat) (n_th_tight : Nat) (n_th_sum : Nat) (n_th_now : Nat) (th_thrown : Int32) (th_typed : Int32) (th_next : Int32) (th_token : Int32) (th_place : Int32) (th_value : Int32) (th_fault : Int32) (th_many : Int32) (th_signMany : Int32) (th_setMany : Int32) (th_corners : Int32) (th_isLoaded : Int32) (th_loaded : Int32) (th_widened : Int32) (th_wide : Int32) (th_boundUp : Int64) (th_boundDown : Int64) (th_saying : Nat → Int32) (th_up : Nat → Int64) (th_down : Nat → Int64) (th_world : Nat → Int32) (th_tight : Nat → Int32) (th_sum : Nat → Int64) (th_now : Nat → Int64) (x1 : Int32) (K : Nat) (r0 : Int32) (th_thrown' : Int32) (th_corners' : Int32) (th_isLoaded' : Int32) (th_loaded' : Int32) (th_widened' : Int32) (th_wide' : Int32) (th_up' : Nat → Int64) (th_down' : Nat → Int64) (th_world' : Nat → Int32) (th_tight' : Nat → Int32) (th_sum' : Nat → Int64) (th_now' : Nat → Int64) (h : f_X9_gives K n_th_saying n_th_up n_th_down n_th_world n_th_tight n_th_sum n_th_now th_many th_corners th_isLoaded th_loaded th_widened th_wide th_saying th_up th_down th_world th_tight th_sum th_now x1 = some (r0, th_thrown', th_corners', th_isLoaded', th_loaded', th_widened', th_wide', th_up', th_down', th_world', th_tight', th_sum', th_now')) : st l yX9_gives wsX9_gives ({ frames := 5, cells := 0, slots := 0, locals := 138 }) E D tc [.ref q_th, .int x1] (w_X9_gives tc q_th q_th_text q_th_saying q_th_signs q_th_sets q_th_told q_th_up q_th_down q_th_world q_th_tight q_th_sum q_th_now n_th_saying n_th_up n_th_down n_th_world n_th_tight n_th_sum n_th_now th_thrown th_typed th_next th_token th_place th_value th_fault th_many th_signMany th_setMany th_corners th_isLoaded th_loaded th_widened th_wide th_boundUp th_boundDown th_saying th_up th_down th_world th_tight th_sum th_now) (some (.int r0)) (w_X9_gives tc q_th q_th_text q_th_saying q_th_signs q_th_sets q_th_told q_th_up q_th_down q_th_world q_th_tight q_th_sum q_th_now n_th_saying n_th_up n_th_down n_th_world n_th_tight n_th_sum n_th_now th_thrown' th_typed th_next th_token th_place th_value th_fault th_many th_signMany th_setMany th_corners' th_isLoaded' th_loaded' th_widened' th_wide' th_boundUp th_boundDown th_saying th_up' th_down' th_world' th_tight' th_sum' th_now') := by
  refine st_enter (cc := cX9_gives) (maxL := 5) (ret := (some .int)) (by decide) rfl (Nat.le_of_ble_eq_true rfl) ?_
  intro p e s m below meth c A ls hx hb hr hml hts hown hlocks hK hN hE hA hP hD hS hl
  have hl : lv_has ls 5 [(0, .ref q_th), (1, .int x1)] := hl
  have hinX9 : ∀ w ∈ wsX90, w ∈ wsX9_gives := by decide +kernel
  generalize hav : ([.ref q_th, .int x1] : List Value).toArray = av at hts ⊢
  have L63 : ∀ (x2 : Int32) (th_thrown : Int32) (th_widened : Int32), ∀ (k : Nat) (s63 : Int32 × Int32 × Int32 × Int32 × Int32 × Int32 × (Nat → Int64) × (Nat → Int64) × (Nat → Int32) × (Nat → Int32) × (Nat → Int64) × (Nat → Int64)) (r : Int32 × Int32 × Int32 × Int32 × Int32 × (Nat → Int64) × (Nat → Int64) × (Nat → Int32) × (Nat → Int32) × (Nat → Int64) × (Nat → Int64)), lp (f_X9_gives_L63 K n_th_saying n_th_up n_th_down n_th_world n_th_tight n_th_sum n_th_now th_many th_widened th_saying x2) k s63 = some r → (fun y63 : Int32 × Int32 × Int32 × Int32 × Int32 × (Nat → Int64) × (Nat → Int64) × (Nat → Int32) × (Nat → Int32) × (Nat → Int64) × (Nat → Int64) => match y63 with | (x3, th_corners, th_isLoaded, th_loaded, th_wide, th_up, th_down, th_world, th_tight, th_sum, th_now) => ∀ (H : Heap) (locs : List Loc) (ls : Array Slot), va_P D vwCl (w_X9_gives tc q_th q_th_text q_th_saying q_th_signs q_th_sets q_th_told q_th_up q_th_down q_th_world q_th_tight q_th_sum q_th_now n_th_saying n_th_up n_th_down n_th_world n_th_tight n_th_sum n_th_now th_thrown th_typed th_next th_token th_place th_value th_fault th_many th_signMany th_setMany th_corners th_isLoaded th_loaded th_widened th_wide th_boundUp th_boundDown th_saying th_up th_down th_world th_tight th_sum th_now) H → va_D A (w_X9_gives tc q_th q_th_text q_th_saying q_th_signs q_th_sets q_th_told q_th_up q_th_down q_th_world q_th_tight q_th_sum q_th_now n_th_saying n_th_up n_th_down n_th_world n_th_tight n_th_sum n_th_now th_thrown th_typed th_next th_token th_place th_value th_fault th_many th_signMany th_setMany th_corners th_isLoaded th_loaded th_widened th_wide th_boundUp th_boundDown th_saying th_up th_down th_world th_tight th_sum th_now) → va_S A s.heap H locs → lv_has ls 5 [(0, .ref q_th), (3, .int x3)] → W p l e ({ frames := 5, cells := 0, slots := 0, locals := 138 } : Room) s m av below meth c H locs 0 0 (MQ below (st_Q D (w_X9_gives tc q_th q_th_text q_th_saying q_th_signs q_th_sets q_th_told q_th_up q_th_down q_th_world q_th_tight q_th_sum q_th_now n_th_saying n_th_up n_th_down n_th_world n_th_tight n_th_sum n_th_now th_thrown' th_typed th_next th_token th_place th_value th_fault th_many th_signMany th_setMany th_corners' th_isLoaded' th_loaded' th_widened' th_wide' th_boundUp th_boundDown th_saying th_up' th_down' th_world' th_tight' th_sum' th_now') (some (.int r0)) A) av s 0 0 A) (F0 m 104 ls [])) r → (fun s63 : Int32 × Int32 × Int32 × Int32 × Int32 × Int32 × (Nat → Int64) × (Nat → Int64) × (Nat → Int32) × (Nat → Int32) × (Nat → Int64) × (Nat → Int64) => match s63 with | (x3, x4, th_corners, th_isLoaded, th_loaded, th_wide, th_up, th_down, th_world, th_tight, th_sum, th_now) => ∀ (H : Heap) (locs : List Loc) (ls : Array Slot), va_P D vwCl (w_X9_gives tc q_th q_th_text q_th_saying q_th_signs q_th_sets q_th_told q_th_up q_th_down q_th_world q_th_tight q_th_sum q_th_now n_th_saying n_th_up n_th_down n_th_world n_th_tight n_th_sum n_th_now th_thrown th_typed th_next th_token th_place th_value th_fault th_many th_signMany th_setMany th_corners th_isLoaded th_loaded th_widened th_wide th_boundUp th_boundDown th_saying th_up th_down th_world th_tight th_sum th_now) H → va_D A (w_X9_gives tc q_th q_th_text q_th_saying q_th_signs q_th_sets q_th_told q_th_up q_th_down q_th_world q_th_tight q_th_sum q_th_now n_th_saying n_th_up n_th_down n_th_world n_th_tight n_th_sum n_th_now th_thrown th_typed th_next th_token th_place th_value th_fault th_many th_signMany th_setMany th_corners th_isLoaded th_loaded th_widened th_wide th_boundUp th_boundDown th_saying th_up th_down th_world th_tight th_sum th_now) → va_S A s.heap H locs → lv_has ls 5 [(0, .ref q_th), (2, .int x2), (3, .int x3), (4, .int x4)] → W p l e ({ frames := 5, cells := 0, slots := 0, locals := 138 } : Room) s m av below meth c H locs 0 0 (MQ below (st_Q D (w_X9_gives tc q_th q_th_text q_th_saying q_th_signs q_th_sets q_th_told q_th_up q_th_down q_th_world q_th_tight q_th_sum q_th_now n_th_saying n_th_up n_th_down n_th_world n_th_tight n_th_sum n_th_now th_thrown' th_typed th_next th_token th_place th_value th_fault th_many th_signMany th_setMany th_corners' th_isLoaded' th_loaded' th_widened' th_wide' th_boundUp th_boundDown th_saying th_up' th_down' th_world' th_tight' th_sum' th_now') (some (.int r0)) A) av s 0 0 A) (F0 m 63 ls [])) s63 := by
    intro x2 th_thrown th_widened
    refine lp_W (f_X9_gives_L63 K n_th_saying n_th_up n_th_down n_th_world n_th_tight n_th_sum n_th_now th_many th_widened th_saying x2) (fun s63 : Int32 × Int32 × Int32 × Int32 × Int32 × Int32 × (Nat → Int64) × (Nat → Int64) × (Nat → Int32) × (Nat → Int32) × (Nat → Int64) × (Nat → Int64) => match s63 with | (x3, x4, th_corners, th_isLoaded, th_loaded, th_wide, th_up, th_down, th_world, th_tight, th_sum, th_now) => ∀ (H : Heap) (locs : List Loc) (ls : Array Slot), va_P D vwCl (w_X9_gives tc q_th q_th_text q_th_saying q_th_signs q_th_sets q_th_told q_th_up q_th_down q_th_world q_th_tight q_th_sum q_th_now n_th_saying n_th_up n_th_down n_th_world n_th_tight n_th_sum n_th_now th_thrown th_typed th_next th_token th_place th_value th_fault th_many th_signMany th_setMany th_corners th_isLoaded th_loaded th_widened th_wide th_boundUp th_boundDown th_saying th_up th_down th_world th_tight th_sum th_now) H → va_D A (w_X9_gives tc q_th q_th_text q_th_saying q_th_signs q_th_sets q_th_told q_th_up q_th_down q_th_world q_th_tight q_th_sum q_th_now n_th_saying n_th_up n_th_down n_th_world n_th_tight n_th_sum n_th_now th_thrown th_typed th_next th_token th_place th_value th_fault th_many th_signMany th_setMany th_corners th_isLoaded th_loaded th_widened th_wide th_boundUp th_boundDown th_saying th_up th_down th_world th_tight th_sum th_now) → va_S A s.heap H locs → lv_has ls 5 [(0, .ref q_th), (2, .int x2), (3, .int x3), (4, .int x4)] → W p l e ({ frames := 5, cells := 0, slots := 0, locals := 138 } : Room) s m av below meth c H locs 0 0 (MQ below (st_Q D (w_X9_gives tc q_th q_th_text q_th_saying q_th_signs q_th_sets q_th_told q_th_up q_th_down q_th_world q_th_tight q_th_sum q_th_now n_th_saying n_th_up n_th_down n_th_world n_th_tight n_th_sum n_th_now th_thrown' th_typed th_next th_token th_place th_value th_fault th_many th_signMany th_setMany th_corners' th_isLoaded' th_loaded' th_widened' th_wide' th_boundUp th_boundDown th_saying th_up' th_down' th_world' th_tight' th_sum' th_now') (some (.int r0)) A) av s 0 0 A) (F0 m 63 ls [])) (fun y63 : Int32 × Int32 × Int32 × Int32 × Int32 × (Nat → Int64) × (Nat → Int64) × (Nat → Int32) × (Nat → Int32) × (Nat → Int64) × (Nat → Int64) => match y63 with | (x3, th_corners, th_isLoaded, th_loaded, th_wide, th_up, th_down, th_world, th_tight, th_sum, th_now) => ∀ (H : Heap) (locs : List Loc) (ls : Array Slot), va_P D vwCl (w_X9_gives tc q_th q_th_text q_th_saying q_th_signs q_th_sets q_th_told q_th_up q_th_down q_th_world q_th_tight q_th_sum q_th_now n_th_saying n_th_up n_th_down n_th_world n_th_tight n_th_sum n_th_now th_thrown th_typed th_next th_token th_place th_value th_fault th_many th_signMany th_setMany th_corners th_isLoaded th_loaded th_widened th_wide th_boundUp th_boundDown th_saying th_up th_down th_world th_tight th_sum th_now) H → va_D A (w_X9_gives tc q_th q_th_text q_th_saying q_th_signs q_th_sets q_th_told q_th_up q_th_down q_th_world q_th_tight q_th_sum q_th_now n_th_saying n_th_up n_th_down n_th_world n_th_tight n_th_sum n_th_now th_thrown th_typed th_next th_token th_place th_value th_fault th_many th_signMany th_setMany th_corners th_isLoaded th_loaded th_widened th_wide th_boundUp th_boundDown th_saying th_up th_down th_world th_tight th_sum th_now) → va_S A s.heap H locs → lv_has ls 5 [(0, .ref q_th), (3, .int x3)] → W p l e ({ frames := 5, cells := 0, slots := 0, locals := 138 } : Room) s m av below meth c H locs 0 0 (MQ below (st_Q D (w_X9_gives tc q_th q_th_text q_th_saying q_th_signs q_th_sets q_th_told q_th_up q_th_down q_th_world q_th_tight q_th_sum q_th_now n_th_saying n_th_up n_th_down n_th_world n_th_tight n_th_sum n_th_now th_thrown' th_typed th_next th_token th_place th_value th_fault th_many th_signMany th_setMany th_corners' th_isLoaded' th_loaded' th_widened' th_wide' th_boundUp th_boundDown th_saying th_up' th_down' th_world' th_tight' th_sum' th_now') (some (.int r0)) A) av s 0 0 A) (F0 m 104 ls [])) ?_
    rintro ⟨x3, x4, th_corners, th_isLoaded, th_loaded, th_wide, th_up, th_down, th_world, th_tight, th_sum, th_now⟩ o h ih hz H locs ls hP hD hS hl
    unfold f_X9_gives_L63 at h
    refine lv_iload hx hb dX9_gives_63 (lv_at hl 3 rfl) ?_
    refine lv_bipush (v := (100 : Int32)) hx hb dX9_gives_65 (by decide) ?_
    refine lv_icmp_gt (tgt := 104) hx hb dX9_gives_67 (by decide) (fun c1 => ?_) (fun c1 => ?_)
    · replace h := ifp c1 h
      cases h
      exact hz _ rfl _ _ _ hP hD hS (lv_sub hl [0, 2] rfl)
    · replace h := ifn c1 h
      refine lv_iload_n hx hb dX9_gives_70 rfl (lv_at hl 2 rfl) ?_
      refine lv_bipush (v := (-9 : Int32)) hx hb dX9_gives_71 (by decide) ?_
      refine lv_icmp_ne (tgt := 104) hx hb dX9_gives_73 (by decide) (fun c2 => ?_) (fun c2 => ?_)
      · replace h := ifn c2 h
        cases h
        exact hz _ rfl _ _ _ hP hD hS (lv_sub hl [0, 2] rfl)
      · replace h := ifp c2 h
        refine lv_aload_n hx hb dX9_gives_76 rfl (lv_at hl 0 rfl) ?_
        refine lv_iload hx hb dX9_gives_77 (lv_at hl 3 rfl) ?_
        refine va_put (D := D) (ci := 9) (v := .int x4) (ty := .int) (C := RX9) (T := TX9) (N := 28) hx hb hts hinX9 tyX9 tyX9_ok nmX9 hown hK hP hD hS 0 rfl rfl 25 (by decide) (hts (.fieldLink RX9 133 "ChanceBoundsModel" "wide" "I") (by decide +kernel)) (fun _ h9 => h9) rfl (by decide +kernel) rfl rfl (Nat.le_of_ble_eq_true rfl) dX9_gives_79 (fun H locs hP hD hS => ?_)
        have hP : va_P D vwCl (w_X9_gives tc q_th q_th_text q_th_saying q_th_signs q_th_sets q_th_told q_th_up q_th_down q_th_world q_th_tight q_th_sum q_th_now n_th_saying n_th_up n_th_down n_th_world n_th_tight n_th_sum n_th_now th_thrown th_typed th_next th_token th_place th_value th_fault th_many th_signMany th_setMany th_corners th_isLoaded th_loaded th_widened x4 th_boundUp th_boundDown th_saying th_up th_down th_world th_tight th_sum th_now) H := hP
        have hD : va_D A (w_X9_gives tc q_th q_th_text q_th_saying q_th_signs q_th_sets q_th_told q_th_up q_th_down q_th_world q_th_tight q_th_sum q_th_now n_th_saying n_th_up n_th_down n_th_world n_th_tight n_th_sum n_th_now th_thrown th_typed th_next th_token th_place th_value th_fault th_many th_signMany th_setMany th_corners th_isLoaded th_loaded th_widened x4 th_boundUp th_boundDown th_saying th_up th_down th_world th_tight th_sum th_now) := hD
        refine lv_aload_n hx hb dX9_gives_82 rfl (lv_at hl 0 rfl) ?_
        refine lv_iload_n hx hb dX9_gives_83 rfl (lv_at hl 1 rfl) ?_
        obtain ⟨⟨z3_0, z3_1, z3_2, z3_3, z3_4, z3_5, z3_6, z3_7, z3_8, z3_9⟩, hc3, h⟩ := bd_ok h
        refine st_callV (As := [.int x2]) (rest := []) (pos := (List.range' 0 8)) ⟨hx, hb, hml, hown, hts⟩ (s_X9_loads (l := l) (D := D) (tc := tc) hEok q_th q_th_text q_th_saying q_th_signs q_th_sets q_th_told q_th_up q_th_down q_th_world q_th_tight q_th_sum q_th_now n_th_saying n_th_up n_th_down n_th_world n_th_tight n_th_sum n_th_now th_thrown th_typed th_next th_token th_place th_value th_fault th_many th_signMany th_setMany th_corners th_isLoaded th_loaded th_widened x4 th_boundUp th_boundDown th_saying th_up th_down th_world th_tight th_sum th_now x2 K z3_0 z3_1 z3_2 z3_3 z3_4 z3_5 z3_6 z3_7 z3_8 z3_9 hc3) (cwV 1 hts gX9_gives_X9_loads rfl rfl rfl (by decide +kernel) ⟨Nat.le_of_ble_eq_true rfl, Nat.le_of_ble_eq_true rfl⟩) (st_recv (ci := 9) (q0 := 0) hK hP rfl rfl) hEok hE hK hN hP hD hS hA (st_segpos (m := 8) (by rfl) (by rfl) (by rfl)) (st_seg_nd _ _) (wa_X9_loads.trans wa_X9_loads.symm) rfl hl.1 rfl (Nat.le_of_ble_eq_true rfl) dX9_gives_84 ⟨Nat.zero_le _, Nat.zero_le _⟩ (fun H locs hP hD hS => ?_)
        have hP : va_P D vwCl (w_X9_gives tc q_th q_th_text q_th_saying q_th_signs q_th_sets q_th_told q_th_up q_th_down q_th_world q_th_tight q_th_sum q_th_now n_th_saying n_th_up n_th_down n_th_world n_th_tight n_th_sum n_th_now th_thrown th_typed th_next th_token th_place th_value th_fault th_many th_signMany th_setMany z3_1 z3_2 z3_3 th_widened x4 th_boundUp th_boundDown th_saying z3_4 z3_5 z3_6 z3_7 z3_8 z3_9) H := st_segP (w0 := (w_X9_loads tc q_th q_th_text q_th_saying q_th_signs q_th_sets q_th_told q_th_up q_th_down q_th_world q_th_tight q_th_sum q_th_now n_th_saying n_th_up n_th_down n_th_world n_th_tight n_th_sum n_th_now th_thrown th_typed th_next th_token th_place th_value th_fault th_many th_signMany th_setMany th_corners th_isLoaded th_loaded th_widened x4 th_boundUp th_boundDown th_saying th_up th_down th_world th_tight th_sum th_now)) (m := 8) (by rfl) (by rfl) (by rfl) (by rfl) (by rfl) hP
        have hD : va_D A (w_X9_gives tc q_th q_th_text q_th_saying q_th_signs q_th_sets q_th_told q_th_up q_th_down q_th_world q_th_tight q_th_sum q_th_now n_th_saying n_th_up n_th_down n_th_world n_th_tight n_th_sum n_th_now th_thrown th_typed th_next th_token th_place th_value th_fault th_many th_signMany th_setMany z3_1 z3_2 z3_3 th_widened x4 th_boundUp th_boundDown th_saying z3_4 z3_5 z3_6 z3_7 z3_8 z3_9) := st_segD (w0 := (w_X9_loads tc q_th q_th_text q_th_saying q_th_signs q_th_sets q_th_told q_th_up q_th_down q_th_world q_th_tight q_th_sum q_th_now n_th_saying n_th_up n_th_down n_th_world n_th_tight n_th_sum n_th_now th_thrown th_typed th_next th_token th_place th_value th_fault th_many th_signMany th_setMany th_corners th_isLoaded th_loaded th_widened x4 th_boundUp th_boundDown th_saying th_up th_down th_world th_tight th_sum th_now)) (m := 8) (by rfl) (by rfl) (by rfl) (by rfl) (by rfl) hD
        refine lv_if_eq (tgt := 95) hx hb dX9_gives_87 (by decide) (fun c4 => ?_) (fun c4 => ?_)
        · replace h := ifp c4 h
          refine lv_bipush (v := (-9 : Int32)) hx hb dX9_gives_95 (by decide) ?_
          refine lv_istore_n (lv' := [(3, .int (-9 : Int32)), (0, .ref q_th), (2, .int x2), (4, .int x4)]) hx hb dX9_gives_97 rfl hl (by decide) rfl (fun ls hl => ?_)
          refine lv_iinc (v := x4 + 1) (lv' := [(4, .int (x4 + 1)), (3, .int (-9 : Int32)), (0, .ref q_th), (2, .int x2)]) hx hb dX9_gives_98 hl (k := 3) rfl rfl (by decide) rfl (fun ls hl => ?_)
          refine lv_goto (tgt := 63) hx hb dX9_gives_101 (by decide) ?_
          cases h
          exact ih _ rfl _ _ _ hP hD hS (lv_sub hl [2, 3, 1, 0] rfl)
        · replace h := ifn c4 h
          refine lv_iload hx hb dX9_gives_90 (lv_at hl 3 rfl) ?_
          refine lv_goto (tgt := 97) hx hb dX9_gives_92 (by decide) ?_
          refine lv_istore_n (lv' := [(3, .int x4), (0, .ref q_th), (2, .int x2), (4, .int x4)]) hx hb dX9_gives_97 rfl hl (by decide) rfl (fun ls hl => ?_)
          refine lv_iinc (v := x4 + 1) (lv' := [(4, .int (x4 + 1)), (3, .int x4), (0, .ref q_th), (2, .int x2)]) hx hb dX9_gives_98 hl (k := 3) rfl rfl (by decide) rfl (fun ls hl => ?_)
          refine lv_goto (tgt := 63) hx hb dX9_gives_101 (by decide) ?_
          cases h
          exact ih _ rfl _ _ _ hP hD hS (lv_sub hl [2, 3, 1, 0] rfl)
  have J41 : ∀ (x1 : Int32) (x2 : Int32) (th_thrown : Int32) (th_corners : Int32) (th_isLoaded : Int32) (th_loaded : Int32) (th_widened : Int32) (th_wide : Int32) (th_up : Nat → Int64) (th_down : Nat → Int64) (th_world : Nat → Int32) (th_tight : Nat → Int32) (th_sum : Nat → Int64) (th_now : Nat → Int64) (H : Heap) (locs : List Loc) (ls : Array Slot), f_X9_gives_J41 K n_th_saying n_th_up n_th_down n_th_world n_th_tight n_th_sum n_th_now th_thrown th_many th_corners th_isLoaded th_loaded th_wide th_saying th_up th_down th_world th_tight th_sum th_now x1 x2 = some (r0, th_thrown', th_corners', th_isLoaded', th_loaded', th_widened', th_wide', th_up', th_down', th_world', th_tight', th_sum', th_now') → va_P D vwCl (w_X9_gives tc q_th q_th_text q_th_saying q_th_signs q_th_sets q_th_told q_th_up q_th_down q_th_world q_th_tight q_th_sum q_th_now n_th_saying n_th_up n_th_down n_th_world n_th_tight n_th_sum n_th_now th_thrown th_typed th_next th_token th_place th_value th_fault th_many th_signMany th_setMany th_corners th_isLoaded th_loaded th_widened th_wide th_boundUp th_boundDown th_saying th_up th_down th_world th_tight th_sum th_now) H → va_D A (w_X9_gives tc q_th q_th_text q_th_saying q_th_signs q_th_sets q_th_told q_th_up q_th_down q_th_world q_th_tight q_th_sum q_th_now n_th_saying n_th_up n_th_down n_th_world n_th_tight n_th_sum n_th_now th_thrown th_typed th_next th_token th_place th_value th_fault th_many th_signMany th_setMany th_corners th_isLoaded th_loaded th_widened th_wide th_boundUp th_boundDown th_saying th_up th_down th_world th_tight th_sum th_now) → va_S A s.heap H locs → lv_has ls 5 [(0, .ref q_th), (1, .int x1), (2, .int x2)] → W p l e ({ frames := 5, cells := 0, slots := 0, locals := 138 } : Room) s m av below meth c H locs 0 0 (MQ below (st_Q D (w_X9_gives tc q_th q_th_text q_th_saying q_th_signs q_th_sets q_th_told q_th_up q_th_down q_th_world q_th_tight q_th_sum q_th_now n_th_saying n_th_up n_th_down n_th_world n_th_tight n_th_sum n_th_now th_thrown' th_typed th_next th_token th_place th_value th_fault th_many th_signMany th_setMany th_corners' th_isLoaded' th_loaded' th_widened' th_wide' th_boundUp th_boundDown th_saying th_up' th_down' th_world' th_tight' th_sum' th_now') (some (.int r0)) A) av s 0 0 A) (F0 m 41 ls []) := by
    intro x1 x2 th_thrown th_corners th_isLoaded th_loaded th_widened th_wide th_up th_down th_world th_tight th_sum th_now H locs ls h hP hD hS hl
    unfold f_X9_gives_J41 at h
    refine lv_aload_n hx hb dX9_gives_41 rfl (lv_at hl 0 rfl) ?_
    refine lv_iload_n hx hb dX9_gives_42 rfl (lv_at hl 1 rfl) ?_
    refine lv_iconst (v := (-1 : Int32)) hx hb dX9_gives_43 (by decide) ?_
    refine lv_icmp_ne (tgt := 51) hx hb dX9_gives_44 (by decide) (fun c5 => ?_) (fun c5 => ?_)
    · replace h := ifn c5 h
      refine lv_iconst (v := (1 : Int32)) hx hb dX9_gives_51 (by decide) ?_
      refine lv_iload_n hx hb dX9_gives_52 rfl (lv_at hl 1 rfl) ?_
      refine lv_ishl hx hb dX9_gives_53 ?_
      refine va_put (D := D) (ci := 9) (v := .int ((1 : Int32) <<< (x1 &&& 31))) (ty := .int) (C := RX9) (T := TX9) (N := 28) hx hb hts hinX9 tyX9 tyX9_ok nmX9 hown hK hP hD hS 0 rfl rfl 24 (by decide) (hts (.fieldLink RX9 130 "ChanceBoundsModel" "widened" "I") (by decide +kernel)) (fun _ h9 => h9) rfl (by decide +kernel) rfl rfl (Nat.le_of_ble_eq_true rfl) dX9_gives_54 (fun H locs hP hD hS => ?_)
      have hP : va_P D vwCl (w_X9_gives tc q_th q_th_text q_th_saying q_th_signs q_th_sets q_th_told q_th_up q_th_down q_th_world q_th_tight q_th_sum q_th_now n_th_saying n_th_up n_th_down n_th_world n_th_tight n_th_sum n_th_now th_thrown th_typed th_next th_token th_place th_value th_fault th_many th_signMany th_setMany th_corners th_isLoaded th_loaded ((1 : Int32) <<< (x1 &&& 31)) th_wide th_boundUp th_boundDown th_saying th_up th_down th_world th_tight th_sum th_now) H := hP
      have hD : va_D A (w_X9_gives tc q_th q_th_text q_th_saying q_th_signs q_th_sets q_th_told q_th_up q_th_down q_th_world q_th_tight q_th_sum q_th_now n_th_saying n_th_up n_th_down n_th_world n_th_tight n_th_sum n_th_now th_thrown th_typed th_next th_token th_place th_value th_fault th_many th_signMany th_setMany th_corners th_isLoaded th_loaded ((1 : Int32) <<< (x1 &&& 31)) th_wide th_boundUp th_boundDown th_saying th_up th_down th_world th_tight th_sum th_now) := hD
      refine lv_bipush (v := (-9 : Int32)) hx hb dX9_gives_57 (by decide) ?_
      refine lv_istore_n (lv' := [(3, .int (-9 : Int32)), (0, .ref q_th), (1, .int x1), (2, .int x2)]) hx hb dX9_gives_59 rfl hl (by decide) rfl (fun ls hl => ?_)
      refine lv_iconst (v := (0 : Int32)) hx hb dX9_gives_60 (by decide) ?_
      refine lv_istore (lv' := [(4, .int (0 : Int32)), (3, .int (-9 : Int32)), (0, .ref q_th), (1, .int x1), (2, .int x2)]) hx hb dX9_gives_61 hl (by decide) rfl (fun ls hl => ?_)
      obtain ⟨⟨z6_0, z6_1, z6_2, z6_3, z6_4, z6_5, z6_6, z6_7, z6_8, z6_9, z6_10⟩, hl6, h⟩ := bd_ok h
      refine L63 x2 th_thrown ((1 : Int32) <<< (x1 &&& 31)) K _ _ hl6 ?_ _ _ _ hP hD hS (lv_sub hl [2, 4, 1, 0] rfl)
      intro H locs ls hP hD hS hl
      refine lv_aload_n hx hb dX9_gives_104 rfl (lv_at hl 0 rfl) ?_
      refine lv_iconst (v := (0 : Int32)) hx hb dX9_gives_105 (by decide) ?_
      refine va_put (D := D) (ci := 9) (v := .int (0 : Int32)) (ty := .int) (C := RX9) (T := TX9) (N := 28) hx hb hts hinX9 tyX9 tyX9_ok nmX9 hown hK hP hD hS 0 rfl rfl 24 (by decide) (hts (.fieldLink RX9 130 "ChanceBoundsModel" "widened" "I") (by decide +kernel)) (fun _ h9 => h9) rfl (by decide +kernel) rfl rfl (Nat.le_of_ble_eq_true rfl) dX9_gives_106 (fun H locs hP hD hS => ?_)
      have hP : va_P D vwCl (w_X9_gives tc q_th q_th_text q_th_saying q_th_signs q_th_sets q_th_told q_th_up q_th_down q_th_world q_th_tight q_th_sum q_th_now n_th_saying n_th_up n_th_down n_th_world n_th_tight n_th_sum n_th_now th_thrown th_typed th_next th_token th_place th_value th_fault th_many th_signMany th_setMany z6_1 z6_2 z6_3 (0 : Int32) z6_4 th_boundUp th_boundDown th_saying z6_5 z6_6 z6_7 z6_8 z6_9 z6_10) H := hP
      have hD : va_D A (w_X9_gives tc q_th q_th_text q_th_saying q_th_signs q_th_sets q_th_told q_th_up q_th_down q_th_world q_th_tight q_th_sum q_th_now n_th_saying n_th_up n_th_down n_th_world n_th_tight n_th_sum n_th_now th_thrown th_typed th_next th_token th_place th_value th_fault th_many th_signMany th_setMany z6_1 z6_2 z6_3 (0 : Int32) z6_4 th_boundUp th_boundDown th_saying z6_5 z6_6 z6_7 z6_8 z6_9 z6_10) := hD
      refine lv_iload_n hx hb dX9_gives_109 rfl (lv_at hl 1 rfl) ?_
      simp only [Option.some.injEq, Prod.mk.injEq] at h
      obtain ⟨rfl, rfl, rfl, rfl, rfl, rfl, rfl, rfl, rfl, rfl, rfl, rfl, rfl⟩ := h
      exact st_iret hx hb hr hlocks hP hD hS dX9_gives_110
    · replace h := ifp c5 h
      refine lv_iload_n hx hb dX9_gives_47 rfl (lv_at hl 2 rfl) ?_
      refine lv_goto (tgt := 54) hx hb dX9_gives_48 (by decide) ?_
      refine va_put (D := D) (ci := 9) (v := .int x2) (ty := .int) (C := RX9) (T := TX9) (N := 28) hx hb hts hinX9 tyX9 tyX9_ok nmX9 hown hK hP hD hS 0 rfl rfl 24 (by decide) (hts (.fieldLink RX9 130 "ChanceBoundsModel" "widened" "I") (by decide +kernel)) (fun _ h9 => h9) rfl (by decide +kernel) rfl rfl (Nat.le_of_ble_eq_true rfl) dX9_gives_54 (fun H locs hP hD hS => ?_)
      have hP : va_P D vwCl (w_X9_gives tc q_th q_th_text q_th_saying q_th_signs q_th_sets q_th_told q_th_up q_th_down q_th_world q_th_tight q_th_sum q_th_now n_th_saying n_th_up n_th_down n_th_world n_th_tight n_th_sum n_th_now th_thrown th_typed th_next th_token th_place th_value th_fault th_many th_signMany th_setMany th_corners th_isLoaded th_loaded x2 th_wide th_boundUp th_boundDown th_saying th_up th_down th_world th_tight th_sum th_now) H := hP
      have hD : va_D A (w_X9_gives tc q_th q_th_text q_th_saying q_th_signs q_th_sets q_th_told q_th_up q_th_down q_th_world q_th_tight q_th_sum q_th_now n_th_saying n_th_up n_th_down n_th_world n_th_tight n_th_sum n_th_now th_thrown th_typed th_next th_token th_place th_value th_fault th_many th_signMany th_setMany th_corners th_isLoaded th_loaded x2 th_wide th_boundUp th_boundDown th_saying th_up th_down th_world th_tight th_sum th_now) := hD
      refine lv_bipush (v := (-9 : Int32)) hx hb dX9_gives_57 (by decide) ?_
      refine lv_istore_n (lv' := [(3, .int (-9 : Int32)), (0, .ref q_th), (1, .int x1), (2, .int x2)]) hx hb dX9_gives_59 rfl hl (by decide) rfl (fun ls hl => ?_)
      refine lv_iconst (v := (0 : Int32)) hx hb dX9_gives_60 (by decide) ?_
      refine lv_istore (lv' := [(4, .int (0 : Int32)), (3, .int (-9 : Int32)), (0, .ref q_th), (1, .int x1), (2, .int x2)]) hx hb dX9_gives_61 hl (by decide) rfl (fun ls hl => ?_)
      obtain ⟨⟨z7_0, z7_1, z7_2, z7_3, z7_4, z7_5, z7_6, z7_7, z7_8, z7_9, z7_10⟩, hl7, h⟩ := bd_ok h
      refine L63 x2 th_thrown x2 K _ _ hl7 ?_ _ _ _ hP hD hS (lv_sub hl [2, 4, 1, 0] rfl)
      intro H locs ls hP hD hS hl
      refine lv_aload_n hx hb dX9_gives_104 rfl (lv_at hl 0 rfl) ?_
      refine lv_iconst (v := (0 : Int32)) hx hb dX9_gives_105 (by decide) ?_
      refine va_put (D := D) (ci := 9) (v := .int (0 : Int32)) (ty := .int) (C := RX9) (T := TX9) (N := 28) hx hb hts hinX9 tyX9 tyX9_ok nmX9 hown hK hP hD hS 0 rfl rfl 24 (by decide) (hts (.fieldLink RX9 130 "ChanceBoundsModel" "widened" "I") (by decide +kernel)) (fun _ h9 => h9) rfl (by decide +kernel) rfl rfl (Nat.le_of_ble_eq_true rfl) dX9_gives_106 (fun H locs hP hD hS => ?_)
      have hP : va_P D vwCl (w_X9_gives tc q_th q_th_text q_th_saying q_th_signs q_th_sets q_th_told q_th_up q_th_down q_th_world q_th_tight q_th_sum q_th_now n_th_saying n_th_up n_th_down n_th_world n_th_tight n_th_sum n_th_now th_thrown th_typed th_next th_token th_place th_value th_fault th_many th_signMany th_setMany z7_1 z7_2 z7_3 (0 : Int32) z7_4 th_boundUp th_boundDown th_saying z7_5 z7_6 z7_7 z7_8 z7_9 z7_10) H := hP
      have hD : va_D A (w_X9_gives tc q_th q_th_text q_th_saying q_th_signs q_th_sets q_th_told q_th_up q_th_down q_th_world q_th_tight q_th_sum q_th_now n_th_saying n_th_up n_th_down n_th_world n_th_tight n_th_sum n_th_now th_thrown th_typed th_next th_token th_place th_value th_fault th_many th_signMany th_setMany z7_1 z7_2 z7_3 (0 : Int32) z7_4 th_boundUp th_boundDown th_saying z7_5 z7_6 z7_7 z7_8 z7_9 z7_10) := hD
      refine lv_iload_n hx hb dX9_gives_109 rfl (lv_at hl 1 rfl) ?_
      simp only [Option.some.injEq, Prod.mk.injEq] at h
      obtain ⟨rfl, rfl, rfl, rfl, rfl, rfl, rfl, rfl, rfl, rfl, rfl, rfl, rfl⟩ := h
      exact st_iret hx hb hr hlocks hP hD hS dX9_gives_110
  have J20 : ∀ (x1 : Int32) (th_thrown : Int32) (th_corners : Int32) (th_isLoaded : Int32) (th_loaded : Int32) (th_widened : Int32) (th_wide : Int32) (th_up : Nat → Int64) (th_down : Nat → Int64) (th_world : Nat → Int32) (th_tight : Nat → Int32) (th_sum : Nat → Int64) (th_now : Nat → Int64) (H : Heap) (locs : List Loc) (ls : Array Slot), f_X9_gives_J20 K n_th_saying n_th_up n_th_down n_th_world n_th_tight n_th_sum n_th_now th_thrown th_many th_corners th_isLoaded th_loaded th_widened th_wide th_saying th_up th_down th_world th_tight th_sum th_now x1 = some (r0, th_thrown', th_corners', th_isLoaded', th_loaded', th_widened', th_wide', th_up', th_down', th_world', th_tight', th_sum', th_now') → va_P D vwCl (w_X9_gives tc q_th q_th_text q_th_saying q_th_signs q_th_sets q_th_told q_th_up q_th_down q_th_world q_th_tight q_th_sum q_th_now n_th_saying n_th_up n_th_down n_th_world n_th_tight n_th_sum n_th_now th_thrown th_typed th_next th_token th_place th_value th_fault th_many th_signMany th_setMany th_corners th_isLoaded th_loaded th_widened th_wide th_boundUp th_boundDown th_saying th_up th_down th_world th_tight th_sum th_now) H → va_D A (w_X9_gives tc q_th q_th_text q_th_saying q_th_signs q_th_sets q_th_told q_th_up q_th_down q_th_world q_th_tight q_th_sum q_th_now n_th_saying n_th_up n_th_down n_th_world n_th_tight n_th_sum n_th_now th_thrown th_typed th_next th_token th_place th_value th_fault th_many th_signMany th_setMany th_corners th_isLoaded th_loaded th_widened th_wide th_boundUp th_boundDown th_saying th_up th_down th_world th_tight th_sum th_now) → va_S A s.heap H locs → lv_has ls 5 [(0, .ref q_th), (1, .int x1)] → W p l e ({ frames := 5, cells := 0, slots := 0, locals := 138 } : Room) s m av below meth c H locs 0 0 (MQ below (st_Q D (w_X9_gives tc q_th q_th_text q_th_saying q_th_signs q_th_sets q_th_told q_th_up q_th_down q_th_world q_th_tight q_th_sum q_th_now n_th_saying n_th_up n_th_down n_th_world n_th_tight n_th_sum n_th_now th_thrown' th_typed th_next th_token th_place th_value th_fault th_many th_signMany th_setMany th_corners' th_isLoaded' th_loaded' th_widened' th_wide' th_boundUp th_boundDown th_saying th_up' th_down' th_world' th_tight' th_sum' th_now') (some (.int r0)) A) av s 0 0 A) (F0 m 20 ls []) := by
    intro x1 th_thrown th_corners th_isLoaded th_loaded th_widened th_wide th_up th_down th_world th_tight th_sum th_now H locs ls h hP hD hS hl
    unfold f_X9_gives_J20 at h
    refine lv_aload_n hx hb dX9_gives_20 rfl (lv_at hl 0 rfl) ?_
    obtain ⟨z8_0, hc8, h⟩ := bd_ok h
    refine st_callV (As := []) (rest := []) (pos := [0, 1]) ⟨hx, hb, hml, hown, hts⟩ (s_X9_ons (l := l) (D := D) (tc := tc) hEok q_th q_th_text q_th_saying q_th_signs q_th_sets q_th_told q_th_up q_th_down q_th_world q_th_tight q_th_sum q_th_now n_th_saying th_thrown th_typed th_next th_token th_place th_value th_fault th_many th_signMany th_setMany th_corners th_isLoaded th_loaded th_widened th_wide th_boundUp th_boundDown th_saying K z8_0 hc8) (cwV 0 hts gX9_gives_X9_ons rfl rfl rfl (by decide +kernel) ⟨Nat.le_of_ble_eq_true rfl, Nat.le_of_ble_eq_true rfl⟩) (st_recv (ci := 9) (q0 := 0) hK hP rfl rfl) hEok hE hK hN hP hD hS hA rfl rfl rfl rfl hl.1 rfl (Nat.le_of_ble_eq_true rfl) dX9_gives_21 ⟨Nat.zero_le _, Nat.zero_le _⟩ (fun H locs hP hD hS => ?_)
    have hP : va_P D vwCl (w_X9_gives tc q_th q_th_text q_th_saying q_th_signs q_th_sets q_th_told q_th_up q_th_down q_th_world q_th_tight q_th_sum q_th_now n_th_saying n_th_up n_th_down n_th_world n_th_tight n_th_sum n_th_now th_thrown th_typed th_next th_token th_place th_value th_fault th_many th_signMany th_setMany th_corners th_isLoaded th_loaded th_widened th_wide th_boundUp th_boundDown th_saying th_up th_down th_world th_tight th_sum th_now) H := hP
    have hD : va_D A (w_X9_gives tc q_th q_th_text q_th_saying q_th_signs q_th_sets q_th_told q_th_up q_th_down q_th_world q_th_tight q_th_sum q_th_now n_th_saying n_th_up n_th_down n_th_world n_th_tight n_th_sum n_th_now th_thrown th_typed th_next th_token th_place th_value th_fault th_many th_signMany th_setMany th_corners th_isLoaded th_loaded th_widened th_wide th_boundUp th_boundDown th_saying th_up th_down th_world th_tight th_sum th_now) := hD
    refine lv_istore_n (lv' := [(2, .int z8_0), (0, .ref q_th), (1, .int x1)]) hx hb dX9_gives_24 rfl hl (by decide) rfl (fun ls hl => ?_)
    refine lv_iload_n hx hb dX9_gives_25 rfl (lv_at hl 2 rfl) ?_
    refine lv_iconst (v := (-1 : Int32)) hx hb dX9_gives_26 (by decide) ?_
    refine lv_icmp_eq (tgt := 41) hx hb dX9_gives_27 (by decide) (fun c9 => ?_) (fun c9 => ?_)
    · replace h := ifp c9 h
      exact J41 x1 z8_0 th_thrown th_corners th_isLoaded th_loaded th_widened th_wide th_up th_down th_world th_tight th_sum th_now _ _ _ h hP hD hS (lv_sub hl [1, 2, 0] rfl)
    · replace h := ifn c9 h
      refine lv_iload_n hx hb dX9_gives_30 rfl (lv_at hl 0 rfl) ?_
      refine lv_iload_n hx hb dX9_gives_31 rfl (lv_at hl 2 rfl) ?_
      refine lv_ishr hx hb dX9_gives_32 ?_
      refine lv_iconst (v := (1 : Int32)) hx hb dX9_gives_33 (by decide) ?_
      refine lv_iand hx hb dX9_gives_34 ?_
      refine lv_if_ne (tgt := 41) hx hb dX9_gives_35 (by decide) (fun c10 => ?_) (fun c10 => ?_)
      · replace h := ifn c10 h
        exact J41 x1 z8_0 th_thrown th_corners th_isLoaded th_loaded th_widened th_wide th_up th_down th_world th_tight th_sum th_now _ _ _ h hP hD hS (lv_sub hl [1, 2, 0] rfl)
      · replace h := ifp c10 h
        refine lv_bipush (v := (-9 : Int32)) hx hb dX9_gives_38 (by decide) ?_
        simp only [Option.some.injEq, Prod.mk.injEq] at h
        obtain ⟨rfl, rfl, rfl, rfl, rfl, rfl, rfl, rfl, rfl, rfl, rfl, rfl, rfl⟩ := h
        exact st_iret hx hb hr hlocks hP hD hS dX9_gives_40
  unfold f_X9_gives at h
  refine lv_aload_n hx hb dX9_gives_0 rfl (lv_at hl 0 rfl) ?_
  refine lv_iconst (v := (0 : Int32)) hx hb dX9_gives_1 (by decide) ?_
  refine va_put (D := D) (ci := 9) (v := .int (0 : Int32)) (ty := .int) (C := RX9) (T := TX9) (N := 28) hx hb hts hinX9 tyX9 tyX9_ok nmX9 hown hK hP hD hS 0 rfl rfl 0 (by decide) (hts (.fieldLink RX9 45 "ChanceBoundsModel" "thrown" "I") (by decide +kernel)) (fun _ h9 => h9) rfl (by decide +kernel) rfl rfl (Nat.le_of_ble_eq_true rfl) dX9_gives_2 (fun H locs hP hD hS => ?_)
  have hP : va_P D vwCl (w_X9_gives tc q_th q_th_text q_th_saying q_th_signs q_th_sets q_th_told q_th_up q_th_down q_th_world q_th_tight q_th_sum q_th_now n_th_saying n_th_up n_th_down n_th_world n_th_tight n_th_sum n_th_now (0 : Int32) th_typed th_next th_token th_place th_value th_fault th_many th_signMany th_setMany th_corners th_isLoaded th_loaded th_widened th_wide th_boundUp th_boundDown th_saying th_up th_down th_world th_tight th_sum th_now) H := hP
  have hD : va_D A (w_X9_gives tc q_th q_th_text q_th_saying q_th_signs q_th_sets q_th_told q_th_up q_th_down q_th_world q_th_tight q_th_sum q_th_now n_th_saying n_th_up n_th_down n_th_world n_th_tight n_th_sum n_th_now (0 : Int32) th_typed th_next th_token th_place th_value th_fault th_many th_signMany th_setMany th_corners th_isLoaded th_loaded th_widened th_wide th_boundUp th_boundDown th_saying th_up th_down th_world th_tight th_sum th_now) := hD
  refine lv_iload_n hx hb dX9_gives_5 rfl (lv_at hl 1 rfl) ?_
  refine lv_iconst (v := (-1 : Int32)) hx hb dX9_gives_6 (by decide) ?_
  refine lv_icmp_eq (tgt := 20) hx hb dX9_gives_7 (by decide) (fun c11 => ?_) (fun c11 => ?_)
  · replace h := ifp c11 h
    exact J20 x1 (0 : Int32) th_corners th_isLoaded th_loaded th_widened th_wide th_up th_down th_world th_tight th_sum th_now _ _ _ h hP hD hS (lv_sub hl [0, 1] rfl)
  · replace h := ifn c11 h
    refine lv_aload_n hx hb dX9_gives_10 rfl (lv_at hl 0 rfl) ?_
    refine lv_iload_n hx hb dX9_gives_11 rfl (lv_at hl 1 rfl) ?_
    obtain ⟨z12_0, hc12, h⟩ := bd_ok h
    refine st_callV (As := [.int x1]) (rest := []) (pos := [0]) ⟨hx, hb, hml, hown, hts⟩ (s_X9_isSaying (l := l) (D := D) (tc := tc) hEok q_th q_th_text q_th_saying q_th_signs q_th_sets q_th_told q_th_up q_th_down q_th_world q_th_tight q_th_sum q_th_now (0 : Int32) th_typed th_next th_token th_place th_value th_fault th_many th_signMany th_setMany th_corners th_isLoaded th_loaded th_widened th_wide th_boundUp th_boundDown x1 z12_0 hc12) (cwV 1 hts gX9_gives_X9_isSaying rfl rfl rfl (by decide +kernel) ⟨Nat.le_of_ble_eq_true rfl, Nat.le_of_ble_eq_true rfl⟩) (st_recv (ci := 9) (q0 := 0) hK hP rfl rfl) hEok hE hK hN hP hD hS hA rfl rfl rfl rfl hl.1 rfl (Nat.le_of_ble_eq_true rfl) dX9_gives_12 ⟨Nat.zero_le _, Nat.zero_le _⟩ (fun H locs hP hD hS => ?_)
    have hP : va_P D vwCl (w_X9_gives tc q_th q_th_text q_th_saying q_th_signs q_th_sets q_th_told q_th_up q_th_down q_th_world q_th_tight q_th_sum q_th_now n_th_saying n_th_up n_th_down n_th_world n_th_tight n_th_sum n_th_now (0 : Int32) th_typed th_next th_token th_place th_value th_fault th_many th_signMany th_setMany th_corners th_isLoaded th_loaded th_widened th_wide th_boundUp th_boundDown th_saying th_up th_down th_world th_tight th_sum th_now) H := hP
    have hD : va_D A (w_X9_gives tc q_th q_th_text q_th_saying q_th_signs q_th_sets q_th_told q_th_up q_th_down q_th_world q_th_tight q_th_sum q_th_now n_th_saying n_th_up n_th_down n_th_world n_th_tight n_th_sum n_th_now (0 : Int32) th_typed th_next th_token th_place th_value th_fault th_many th_signMany th_setMany th_corners th_isLoaded th_loaded th_widened th_wide th_boundUp th_boundDown th_saying th_up th_down th_world th_tight th_sum th_now) := hD
    refine lv_if_ne (tgt := 20) hx hb dX9_gives_15 (by decide) (fun c13 => ?_) (fun c13 => ?_)
    · replace h := ifn c13 h
      exact J20 x1 (0 : Int32) th_corners th_isLoaded th_loaded th_widened th_wide th_up th_down th_world th_tight th_sum th_now _ _ _ h hP hD hS (lv_sub hl [0, 1] rfl)
    · replace h := ifp c13 h
      refine lv_iconst (v := (-1 : Int32)) hx hb dX9_gives_18 (by decide) ?_
      simp only [Option.some.injEq, Prod.mk.injEq] at h
      obtain ⟨rfl, rfl, rfl, rfl, rfl, rfl, rfl, rfl, rfl, rfl, rfl, rfl, rfl⟩ := h
      exact st_iret hx hb hr hlocks hP hD hS dX9_gives_19
def f_X9_tell (n_th_told : Nat) (th_told : Nat → Int32) (x1 : Int32) (x2 : Int32) : Option (Int32 × Int32 × (Nat → Int32)) :=
  (f_X9_in x1 (0 : Int32) (7 : Int32)).bind fun z1_0 =>
  if z1_0 = (0 : Int32) then
    some ((-1 : Int32), (0 : Int32), th_told)
  else
    (f_X9_in x2 (0 : Int32) (1000 : Int32)).bind fun z3_0 =>
    if z3_0 = (0 : Int32) then
      some ((-1 : Int32), (0 : Int32), th_told)
    else
      if x1 < 0 ∨ n_th_told ≤ x1.toNatClampNeg then none else
      if x1 < 0 ∨ n_th_told ≤ x1.toNatClampNeg then none else
      some (th_told x1.toNatClampNeg, (0 : Int32), upd th_told x1.toNatClampNeg x2)
abbrev w_X9_tell (tc : Nat → ClassId) (q_th : Nat) (q_th_text : Nat) (q_th_saying : Nat) (q_th_signs : Nat) (q_th_sets : Nat) (q_th_told : Nat) (q_th_up : Nat) (q_th_down : Nat) (q_th_world : Nat) (q_th_tight : Nat) (q_th_sum : Nat) (q_th_now : Nat) (n_th_told : Nat) (th_thrown : Int32) (th_typed : Int32) (th_next : Int32) (th_token : Int32) (th_place : Int32) (th_value : Int32) (th_fault : Int32) (th_many : Int32) (th_signMany : Int32) (th_setMany : Int32) (th_corners : Int32) (th_isLoaded : Int32) (th_loaded : Int32) (th_widened : Int32) (th_wide : Int32) (th_boundUp : Int64) (th_boundDown : Int64) (th_told : Nat → Int32) : va_W := [(q_th, .inr (9, [.int th_thrown, .ref q_th_text, .int th_typed, .int th_next, .int th_token, .int th_place, .int th_value, .int th_fault, .int th_many, .ref q_th_saying, .ref q_th_signs, .ref q_th_sets, .int th_signMany, .int th_setMany, .ref q_th_told, .int th_corners, .int th_isLoaded, .int th_loaded, .ref q_th_up, .ref q_th_down, .ref q_th_world, .ref q_th_tight, .ref q_th_sum, .ref q_th_now, .int th_widened, .int th_wide, .long th_boundUp, .long th_boundDown])), (q_th_told, .inl (tc 0, n_th_told, .inl th_told))]
set_option maxHeartbeats 4000000 in
set_option maxRecDepth 100000 in
theorem s_X9_tell {l : Launch} {E : (Nat → Prop) → State → Prop} (hEok : st_Eok E) {D : va_G} {tc : Nat → ClassId} (q_th : Nat) (q_th_text : Nat) (q_th_saying : Nat) (q_th_signs : Nat) (q_th_sets : Nat) (q_th_told : Nat) (q_th_up : Nat) (q_th_down : Nat) (q_th_world : Nat) (q_th_tight : Nat) (q_th_sum : Nat) (q_th_now : Nat) (n_th_told : Nat) (th_thrown : Int32) (th_typed : Int32) (th_next : Int32) (th_token : Int32) (th_place : Int32) (th_value : Int32) (th_fault : Int32) (th_many : Int32) (th_signMany : Int32) (th_setMany : Int32) (th_corners : Int32) (th_isLoaded : Int32) (th_loaded : Int32) (th_widened : Int32) (th_wide : Int32) (th_boundUp : Int64) (th_boundDown : Int64) (th_told : Nat → Int32) (x1 : Int32) (x2 : Int32) (r0 : Int32) (th_thrown' : Int32) (th_told' : Nat → Int32) (h : f_X9_tell n_th_told th_told x1 x2 = some (r0, th_thrown', th_told')) : st l yX9_tell wsX9_tell ({ frames := 1, cells := 0, slots := 0, locals := 22 }) E D tc [.ref q_th, .int x1, .int x2] (w_X9_tell tc q_th q_th_text q_th_saying q_th_signs q_th_sets q_th_told q_th_up q_th_down q_th_world q_th_tight q_th_sum q_th_now n_th_told th_thrown th_typed th_next th_token th_place th_value th_fault th_many th_signMany th_setMany th_corners th_isLoaded th_loaded th_widened th_wide th_boundUp th_boundDown th_told) (some (.int r0)) (w_X9_tell tc q_th q_th_text q_th_saying q_th_signs q_th_sets q_th_told q_th_up q_th_down q_th_world q_th_tight q_th_sum q_th_now n_th_told th_thrown' th_typed th_next th_token th_place th_value th_fault th_many th_signMany th_setMany th_corners th_isLoaded th_loaded th_widened th_wide th_boundUp th_boundDown th_told') := by
  refine st_enter (cc := cX9_tell) (maxL := 4) (ret := (some .int)) (by decide) rfl (Nat.le_of_ble_eq_true rfl) ?_
  intro p e s m below meth c A ls hx hb hr hml hts hown hlocks hK hN hE hA hP hD hS hl
  have hl : lv_has ls 4 [(0, .ref q_th), (1, .int x1), (2, .int x2)] := hl
  have hinX9 : ∀ w ∈ wsX90, w ∈ wsX9_tell := by decide +kernel
  generalize hav : ([.ref q_th, .int x1, .int x2] : List Value).toArray = av at hts ⊢
  unfold f_X9_tell at h
  refine lv_aload_n hx hb dX9_tell_0 rfl (lv_at hl 0 rfl) ?_
  refine lv_iconst (v := (0 : Int32)) hx hb dX9_tell_1 (by decide) ?_
  refine va_put (D := D) (ci := 9) (v := .int (0 : Int32)) (ty := .int) (C := RX9) (T := TX9) (N := 28) hx hb hts hinX9 tyX9 tyX9_ok nmX9 hown hK hP hD hS 0 rfl rfl 0 (by decide) (hts (.fieldLink RX9 45 "ChanceBoundsModel" "thrown" "I") (by decide +kernel)) (fun _ h9 => h9) rfl (by decide +kernel) rfl rfl (Nat.le_of_ble_eq_true rfl) dX9_tell_2 (fun H locs hP hD hS => ?_)
  have hP : va_P D vwCl (w_X9_tell tc q_th q_th_text q_th_saying q_th_signs q_th_sets q_th_told q_th_up q_th_down q_th_world q_th_tight q_th_sum q_th_now n_th_told (0 : Int32) th_typed th_next th_token th_place th_value th_fault th_many th_signMany th_setMany th_corners th_isLoaded th_loaded th_widened th_wide th_boundUp th_boundDown th_told) H := hP
  have hD : va_D A (w_X9_tell tc q_th q_th_text q_th_saying q_th_signs q_th_sets q_th_told q_th_up q_th_down q_th_world q_th_tight q_th_sum q_th_now n_th_told (0 : Int32) th_typed th_next th_token th_place th_value th_fault th_many th_signMany th_setMany th_corners th_isLoaded th_loaded th_widened th_wide th_boundUp th_boundDown th_told) := hD
  refine lv_iload_n hx hb dX9_tell_5 rfl (lv_at hl 1 rfl) ?_
  refine lv_iconst (v := (0 : Int32)) hx hb dX9_tell_6 (by decide) ?_
  refine lv_bipush (v := (7 : Int32)) hx hb dX9_tell_7 (by decide) ?_
  obtain ⟨z1_0, hc1, h⟩ := bd_ok h
  refine st_callS (As := [.int x1, .int (0 : Int32), .int (7 : Int32)]) (rest := []) (pos := []) ⟨hx, hb, hml, hown, hts⟩ (s_X9_in (l := l) (D := D) (tc := tc) hEok x1 (0 : Int32) (7 : Int32) z1_0 hc1) (va_cwS 3 hts gX9_tell_X9_in rfl rfl rfl (by decide +kernel) ⟨Nat.le_of_ble_eq_true rfl, Nat.le_of_ble_eq_true rfl⟩) hEok hE hK hN hP hD hS hA rfl rfl rfl rfl hl.1 rfl (Nat.le_of_ble_eq_true rfl) dX9_tell_9 ⟨Nat.zero_le _, Nat.zero_le _⟩ (fun H locs hP hD hS => ?_)
  have hP : va_P D vwCl (w_X9_tell tc q_th q_th_text q_th_saying q_th_signs q_th_sets q_th_told q_th_up q_th_down q_th_world q_th_tight q_th_sum q_th_now n_th_told (0 : Int32) th_typed th_next th_token th_place th_value th_fault th_many th_signMany th_setMany th_corners th_isLoaded th_loaded th_widened th_wide th_boundUp th_boundDown th_told) H := hP
  have hD : va_D A (w_X9_tell tc q_th q_th_text q_th_saying q_th_signs q_th_sets q_th_told q_th_up q_th_down q_th_world q_th_tight q_th_sum q_th_now n_th_told (0 : Int32) th_typed th_next th_token th_place th_value th_fault th_many th_signMany th_setMany th_corners th_isLoaded th_loaded th_widened th_wide th_boundUp th_boundDown th_told) := hD
  refine lv_if_eq (tgt := 26) hx hb dX9_tell_12 (by decide) (fun c2 => ?_) (fun c2 => ?_)
  · replace h := ifp c2 h
    refine lv_iconst (v := (-1 : Int32)) hx hb dX9_tell_26 (by decide) ?_
    cases h
    exact st_iret hx hb hr hlocks hP hD hS dX9_tell_27
  · replace h := ifn c2 h
    refine lv_iload_n hx hb dX9_tell_15 rfl (lv_at hl 2 rfl) ?_
    refine lv_iconst (v := (0 : Int32)) hx hb dX9_tell_16 (by decide) ?_
    refine lv_sipush (v := (1000 : Int32)) hx hb dX9_tell_17 (by decide) ?_
    obtain ⟨z3_0, hc3, h⟩ := bd_ok h
    refine st_callS (As := [.int x2, .int (0 : Int32), .int (1000 : Int32)]) (rest := []) (pos := []) ⟨hx, hb, hml, hown, hts⟩ (s_X9_in (l := l) (D := D) (tc := tc) hEok x2 (0 : Int32) (1000 : Int32) z3_0 hc3) (va_cwS 3 hts gX9_tell_X9_in rfl rfl rfl (by decide +kernel) ⟨Nat.le_of_ble_eq_true rfl, Nat.le_of_ble_eq_true rfl⟩) hEok hE hK hN hP hD hS hA rfl rfl rfl rfl hl.1 rfl (Nat.le_of_ble_eq_true rfl) dX9_tell_20 ⟨Nat.zero_le _, Nat.zero_le _⟩ (fun H locs hP hD hS => ?_)
    have hP : va_P D vwCl (w_X9_tell tc q_th q_th_text q_th_saying q_th_signs q_th_sets q_th_told q_th_up q_th_down q_th_world q_th_tight q_th_sum q_th_now n_th_told (0 : Int32) th_typed th_next th_token th_place th_value th_fault th_many th_signMany th_setMany th_corners th_isLoaded th_loaded th_widened th_wide th_boundUp th_boundDown th_told) H := hP
    have hD : va_D A (w_X9_tell tc q_th q_th_text q_th_saying q_th_signs q_th_sets q_th_told q_th_up q_th_down q_th_world q_th_tight q_th_sum q_th_now n_th_told (0 : Int32) th_typed th_next th_token th_place th_value th_fault th_many th_signMany th_setMany th_corners th_isLoaded th_loaded th_widened th_wide th_boundUp th_boundDown th_told) := hD
    refine lv_if_ne (tgt := 28) hx hb dX9_tell_23 (by decide) (fun c4 => ?_) (fun c4 => ?_)
    · replace h := ifn c4 h
      refine lv_aload_n hx hb dX9_tell_28 rfl (lv_at hl 0 rfl) ?_
      refine va_get (D := D) (ci := 9) (v := .ref q_th_told) (C := RX9) (T := TX9) (N := 28) hx hb hts hinX9 hown hK hP 0 rfl rfl 14 (by decide) (hts (.fieldLink RX9 22 "ChanceBoundsModel" "told" "[I") (by decide +kernel)) (fun _ h9 => h9) rfl dX9_tell_29 ?_
      refine lv_iload_n hx hb dX9_tell_32 rfl (lv_at hl 1 rfl) ?_
      obtain ⟨g5, h⟩ := gd_ok h
      refine va_iald hx hb hK hP 1 0 rfl rfl g5 dX9_tell_33 ?_
      refine lv_istore_n (lv' := [(3, .int (th_told x1.toNatClampNeg)), (0, .ref q_th), (1, .int x1), (2, .int x2)]) hx hb dX9_tell_34 rfl hl (by decide) rfl (fun ls hl => ?_)
      refine lv_aload_n hx hb dX9_tell_35 rfl (lv_at hl 1 rfl) ?_
      refine va_get (D := D) (ci := 9) (v := .ref q_th_told) (C := RX9) (T := TX9) (N := 28) hx hb hts hinX9 hown hK hP 0 rfl rfl 14 (by decide) (hts (.fieldLink RX9 22 "ChanceBoundsModel" "told" "[I") (by decide +kernel)) (fun _ h9 => h9) rfl dX9_tell_36 ?_
      refine lv_iload_n hx hb dX9_tell_39 rfl (lv_at hl 2 rfl) ?_
      refine lv_iload_n hx hb dX9_tell_40 rfl (lv_at hl 3 rfl) ?_
      obtain ⟨g6, h⟩ := gd_ok h
      refine va_iast hx hb hK hP hD hS 1 0 rfl rfl g6 dX9_tell_41 (fun H locs hP hD hS => ?_)
      have hP : va_P D vwCl (w_X9_tell tc q_th q_th_text q_th_saying q_th_signs q_th_sets q_th_told q_th_up q_th_down q_th_world q_th_tight q_th_sum q_th_now n_th_told (0 : Int32) th_typed th_next th_token th_place th_value th_fault th_many th_signMany th_setMany th_corners th_isLoaded th_loaded th_widened th_wide th_boundUp th_boundDown (upd th_told x1.toNatClampNeg x2)) H := hP
      have hD : va_D A (w_X9_tell tc q_th q_th_text q_th_saying q_th_signs q_th_sets q_th_told q_th_up q_th_down q_th_world q_th_tight q_th_sum q_th_now n_th_told (0 : Int32) th_typed th_next th_token th_place th_value th_fault th_many th_signMany th_setMany th_corners th_isLoaded th_loaded th_widened th_wide th_boundUp th_boundDown (upd th_told x1.toNatClampNeg x2)) := hD
      refine lv_iload_n hx hb dX9_tell_42 rfl (lv_at hl 0 rfl) ?_
      cases h
      exact st_iret hx hb hr hlocks hP hD hS dX9_tell_43
    · replace h := ifp c4 h
      refine lv_iconst (v := (-1 : Int32)) hx hb dX9_tell_26 (by decide) ?_
      cases h
      exact st_iret hx hb hr hlocks hP hD hS dX9_tell_27
def f_X9_toldOf_L4 (n_th_told : Nat) (th_told : Nat → Int32) (x1 : Int32) (s4 : Int32 × Int32) : Option ((Int32) ⊕ (Int32 × Int32)) :=
  match s4 with
  | (x2, x3) =>
    if (8 : Int32) ≤ x3 then
      some (.inl x2)
    else
      if ((x1 >>> (x3 &&& 31)) &&& (1 : Int32)) = (1 : Int32) then
        if x3 < 0 ∨ n_th_told ≤ x3.toNatClampNeg then none else
        some (.inr (x2 + (th_told x3.toNatClampNeg), x3 + 1))
      else
        some (.inr (x2 + (0 : Int32), x3 + 1))
def f_X9_toldOf (K : Nat) (n_th_told : Nat) (th_told : Nat → Int32) (x1 : Int32) : Option (Int32) :=
  (lp (f_X9_toldOf_L4 n_th_told th_told x1) K ((0 : Int32), (0 : Int32))).bind fun z4_0 =>
  some z4_0
abbrev w_X9_toldOf (tc : Nat → ClassId) (q_th : Nat) (q_th_text : Nat) (q_th_saying : Nat) (q_th_signs : Nat) (q_th_sets : Nat) (q_th_told : Nat) (q_th_up : Nat) (q_th_down : Nat) (q_th_world : Nat) (q_th_tight : Nat) (q_th_sum : Nat) (q_th_now : Nat) (n_th_told : Nat) (th_thrown : Int32) (th_typed : Int32) (th_next : Int32) (th_token : Int32) (th_place : Int32) (th_value : Int32) (th_fault : Int32) (th_many : Int32) (th_signMany : Int32) (th_setMany : Int32) (th_corners : Int32) (th_isLoaded : Int32) (th_loaded : Int32) (th_widened : Int32) (th_wide : Int32) (th_boundUp : Int64) (th_boundDown : Int64) (th_told : Nat → Int32) : va_W := [(q_th, .inr (9, [.int th_thrown, .ref q_th_text, .int th_typed, .int th_next, .int th_token, .int th_place, .int th_value, .int th_fault, .int th_many, .ref q_th_saying, .ref q_th_signs, .ref q_th_sets, .int th_signMany, .int th_setMany, .ref q_th_told, .int th_corners, .int th_isLoaded, .int th_loaded, .ref q_th_up, .ref q_th_down, .ref q_th_world, .ref q_th_tight, .ref q_th_sum, .ref q_th_now, .int th_widened, .int th_wide, .long th_boundUp, .long th_boundDown])), (q_th_told, .inl (tc 0, n_th_told, .inl th_told))]
set_option maxHeartbeats 4000000 in
set_option maxRecDepth 100000 in
theorem s_X9_toldOf {l : Launch} {E : (Nat → Prop) → State → Prop} (hEok : st_Eok E) {D : va_G} {tc : Nat → ClassId} (q_th : Nat) (q_th_text : Nat) (q_th_saying : Nat) (q_th_signs : Nat) (q_th_sets : Nat) (q_th_told : Nat) (q_th_up : Nat) (q_th_down : Nat) (q_th_world : Nat) (q_th_tight : Nat) (q_th_sum : Nat) (q_th_now : Nat) (n_th_told : Nat) (th_thrown : Int32) (th_typed : Int32) (th_next : Int32) (th_token : Int32) (th_place : Int32) (th_value : Int32) (th_fault : Int32) (th_many : Int32) (th_signMany : Int32) (th_setMany : Int32) (th_corners : Int32) (th_isLoaded : Int32) (th_loaded : Int32) (th_widened : Int32) (th_wide : Int32) (th_boundUp : Int64) (th_boundDown : Int64) (th_told : Nat → Int32) (x1 : Int32) (K : Nat) (r0 : Int32) (h : f_X9_toldOf K n_th_told th_told x1 = some r0) : st l yX9_toldOf wsX9_toldOf ({ frames := 0, cells := 0, slots := 0, locals := 0 }) E D tc [.ref q_th, .int x1] (w_X9_toldOf tc q_th q_th_text q_th_saying q_th_signs q_th_sets q_th_told q_th_up q_th_down q_th_world q_th_tight q_th_sum q_th_now n_th_told th_thrown th_typed th_next th_token th_place th_value th_fault th_many th_signMany th_setMany th_corners th_isLoaded th_loaded th_widened th_wide th_boundUp th_boundDown th_told) (some (.int r0)) (w_X9_toldOf tc q_th q_th_text q_th_saying q_th_signs q_th_sets q_th_told q_th_up q_th_down q_th_world q_th_tight q_th_sum q_th_now n_th_told th_thrown th_typed th_next th_token th_place th_value th_fault th_many th_signMany th_setMany th_corners th_isLoaded th_loaded th_widened th_wide th_boundUp th_boundDown th_told) := by
  refine st_enter (cc := cX9_toldOf) (maxL := 4) (ret := (some .int)) (by decide) rfl (Nat.le_of_ble_eq_true rfl) ?_
  intro p e s m below meth c A ls hx hb hr hml hts hown hlocks hK hN hE hA hP hD hS hl
  have hl : lv_has ls 4 [(0, .ref q_th), (1, .int x1)] := hl
  have hinX9 : ∀ w ∈ wsX90, w ∈ wsX9_toldOf := by decide +kernel
  generalize hav : ([.ref q_th, .int x1] : List Value).toArray = av at hts ⊢
  have L4 : ∀ (x1 : Int32), ∀ (k : Nat) (s4 : Int32 × Int32) (r : Int32), lp (f_X9_toldOf_L4 n_th_told th_told x1) k s4 = some r → (fun x2 : Int32 => ∀ (H : Heap) (locs : List Loc) (ls : Array Slot), va_P D vwCl (w_X9_toldOf tc q_th q_th_text q_th_saying q_th_signs q_th_sets q_th_told q_th_up q_th_down q_th_world q_th_tight q_th_sum q_th_now n_th_told th_thrown th_typed th_next th_token th_place th_value th_fault th_many th_signMany th_setMany th_corners th_isLoaded th_loaded th_widened th_wide th_boundUp th_boundDown th_told) H → va_D A (w_X9_toldOf tc q_th q_th_text q_th_saying q_th_signs q_th_sets q_th_told q_th_up q_th_down q_th_world q_th_tight q_th_sum q_th_now n_th_told th_thrown th_typed th_next th_token th_place th_value th_fault th_many th_signMany th_setMany th_corners th_isLoaded th_loaded th_widened th_wide th_boundUp th_boundDown th_told) → va_S A s.heap H locs → lv_has ls 4 [(2, .int x2)] → W p l e ({ frames := 0, cells := 0, slots := 0, locals := 0 } : Room) s m av below meth c H locs 0 0 (MQ below (st_Q D (w_X9_toldOf tc q_th q_th_text q_th_saying q_th_signs q_th_sets q_th_told q_th_up q_th_down q_th_world q_th_tight q_th_sum q_th_now n_th_told th_thrown th_typed th_next th_token th_place th_value th_fault th_many th_signMany th_setMany th_corners th_isLoaded th_loaded th_widened th_wide th_boundUp th_boundDown th_told) (some (.int r0)) A) av s 0 0 A) (F0 m 38 ls [])) r → (fun s4 : Int32 × Int32 => match s4 with | (x2, x3) => ∀ (H : Heap) (locs : List Loc) (ls : Array Slot), va_P D vwCl (w_X9_toldOf tc q_th q_th_text q_th_saying q_th_signs q_th_sets q_th_told q_th_up q_th_down q_th_world q_th_tight q_th_sum q_th_now n_th_told th_thrown th_typed th_next th_token th_place th_value th_fault th_many th_signMany th_setMany th_corners th_isLoaded th_loaded th_widened th_wide th_boundUp th_boundDown th_told) H → va_D A (w_X9_toldOf tc q_th q_th_text q_th_saying q_th_signs q_th_sets q_th_told q_th_up q_th_down q_th_world q_th_tight q_th_sum q_th_now n_th_told th_thrown th_typed th_next th_token th_place th_value th_fault th_many th_signMany th_setMany th_corners th_isLoaded th_loaded th_widened th_wide th_boundUp th_boundDown th_told) → va_S A s.heap H locs → lv_has ls 4 [(0, .ref q_th), (1, .int x1), (2, .int x2), (3, .int x3)] → W p l e ({ frames := 0, cells := 0, slots := 0, locals := 0 } : Room) s m av below meth c H locs 0 0 (MQ below (st_Q D (w_X9_toldOf tc q_th q_th_text q_th_saying q_th_signs q_th_sets q_th_told q_th_up q_th_down q_th_world q_th_tight q_th_sum q_th_now n_th_told th_thrown th_typed th_next th_token th_place th_value th_fault th_many th_signMany th_setMany th_corners th_isLoaded th_loaded th_widened th_wide th_boundUp th_boundDown th_told) (some (.int r0)) A) av s 0 0 A) (F0 m 4 ls [])) s4 := by
    intro x1
    refine lp_W (f_X9_toldOf_L4 n_th_told th_told x1) (fun s4 : Int32 × Int32 => match s4 with | (x2, x3) => ∀ (H : Heap) (locs : List Loc) (ls : Array Slot), va_P D vwCl (w_X9_toldOf tc q_th q_th_text q_th_saying q_th_signs q_th_sets q_th_told q_th_up q_th_down q_th_world q_th_tight q_th_sum q_th_now n_th_told th_thrown th_typed th_next th_token th_place th_value th_fault th_many th_signMany th_setMany th_corners th_isLoaded th_loaded th_widened th_wide th_boundUp th_boundDown th_told) H → va_D A (w_X9_toldOf tc q_th q_th_text q_th_saying q_th_signs q_th_sets q_th_told q_th_up q_th_down q_th_world q_th_tight q_th_sum q_th_now n_th_told th_thrown th_typed th_next th_token th_place th_value th_fault th_many th_signMany th_setMany th_corners th_isLoaded th_loaded th_widened th_wide th_boundUp th_boundDown th_told) → va_S A s.heap H locs → lv_has ls 4 [(0, .ref q_th), (1, .int x1), (2, .int x2), (3, .int x3)] → W p l e ({ frames := 0, cells := 0, slots := 0, locals := 0 } : Room) s m av below meth c H locs 0 0 (MQ below (st_Q D (w_X9_toldOf tc q_th q_th_text q_th_saying q_th_signs q_th_sets q_th_told q_th_up q_th_down q_th_world q_th_tight q_th_sum q_th_now n_th_told th_thrown th_typed th_next th_token th_place th_value th_fault th_many th_signMany th_setMany th_corners th_isLoaded th_loaded th_widened th_wide th_boundUp th_boundDown th_told) (some (.int r0)) A) av s 0 0 A) (F0 m 4 ls [])) (fun x2 : Int32 => ∀ (H : Heap) (locs : List Loc) (ls : Array Slot), va_P D vwCl (w_X9_toldOf tc q_th q_th_text q_th_saying q_th_signs q_th_sets q_th_told q_th_up q_th_down q_th_world q_th_tight q_th_sum q_th_now n_th_told th_thrown th_typed th_next th_token th_place th_value th_fault th_many th_signMany th_setMany th_corners th_isLoaded th_loaded th_widened th_wide th_boundUp th_boundDown th_told) H → va_D A (w_X9_toldOf tc q_th q_th_text q_th_saying q_th_signs q_th_sets q_th_told q_th_up q_th_down q_th_world q_th_tight q_th_sum q_th_now n_th_told th_thrown th_typed th_next th_token th_place th_value th_fault th_many th_signMany th_setMany th_corners th_isLoaded th_loaded th_widened th_wide th_boundUp th_boundDown th_told) → va_S A s.heap H locs → lv_has ls 4 [(2, .int x2)] → W p l e ({ frames := 0, cells := 0, slots := 0, locals := 0 } : Room) s m av below meth c H locs 0 0 (MQ below (st_Q D (w_X9_toldOf tc q_th q_th_text q_th_saying q_th_signs q_th_sets q_th_told q_th_up q_th_down q_th_world q_th_tight q_th_sum q_th_now n_th_told th_thrown th_typed th_next th_token th_place th_value th_fault th_many th_signMany th_setMany th_corners th_isLoaded th_loaded th_widened th_wide th_boundUp th_boundDown th_told) (some (.int r0)) A) av s 0 0 A) (F0 m 38 ls [])) ?_
    rintro ⟨x2, x3⟩ o h ih hz H locs ls hP hD hS hl
    unfold f_X9_toldOf_L4 at h
    refine lv_iload_n hx hb dX9_toldOf_4 rfl (lv_at hl 3 rfl) ?_
    refine lv_bipush (v := (8 : Int32)) hx hb dX9_toldOf_5 (by decide) ?_
    refine lv_icmp_ge (tgt := 38) hx hb dX9_toldOf_7 (by decide) (fun c1 => ?_) (fun c1 => ?_)
    · replace h := ifp c1 h
      cases h
      exact hz _ rfl _ _ _ hP hD hS (lv_sub hl [2] rfl)
    · replace h := ifn c1 h
      refine lv_iload_n hx hb dX9_toldOf_10 rfl (lv_at hl 2 rfl) ?_
      refine lv_iload_n hx hb dX9_toldOf_11 rfl (lv_at hl 1 rfl) ?_
      refine lv_iload_n hx hb dX9_toldOf_12 rfl (lv_at hl 3 rfl) ?_
      refine lv_ishr hx hb dX9_toldOf_13 ?_
      refine lv_iconst (v := (1 : Int32)) hx hb dX9_toldOf_14 (by decide) ?_
      refine lv_iand hx hb dX9_toldOf_15 ?_
      refine lv_iconst (v := (1 : Int32)) hx hb dX9_toldOf_16 (by decide) ?_
      refine lv_icmp_ne (tgt := 29) hx hb dX9_toldOf_17 (by decide) (fun c2 => ?_) (fun c2 => ?_)
      · replace h := ifn c2 h
        refine lv_iconst (v := (0 : Int32)) hx hb dX9_toldOf_29 (by decide) ?_
        refine lv_iadd hx hb dX9_toldOf_30 ?_
        refine lv_istore_n (lv' := [(2, .int (x2 + (0 : Int32))), (0, .ref q_th), (1, .int x1), (3, .int x3)]) hx hb dX9_toldOf_31 rfl hl (by decide) rfl (fun ls hl => ?_)
        refine lv_iinc (v := x3 + 1) (lv' := [(3, .int (x3 + 1)), (2, .int (x2 + (0 : Int32))), (0, .ref q_th), (1, .int x1)]) hx hb dX9_toldOf_32 hl (k := 3) rfl rfl (by decide) rfl (fun ls hl => ?_)
        refine lv_goto (tgt := 4) hx hb dX9_toldOf_35 (by decide) ?_
        cases h
        exact ih _ rfl _ _ _ hP hD hS (lv_sub hl [2, 3, 1, 0] rfl)
      · replace h := ifp c2 h
        refine lv_aload_n hx hb dX9_toldOf_20 rfl (lv_at hl 0 rfl) ?_
        refine va_get (D := D) (ci := 9) (v := .ref q_th_told) (C := RX9) (T := TX9) (N := 28) hx hb hts hinX9 hown hK hP 0 rfl rfl 14 (by decide) (hts (.fieldLink RX9 22 "ChanceBoundsModel" "told" "[I") (by decide +kernel)) (fun _ h9 => h9) rfl dX9_toldOf_21 ?_
        refine lv_iload_n hx hb dX9_toldOf_24 rfl (lv_at hl 3 rfl) ?_
        obtain ⟨g3, h⟩ := gd_ok h
        refine va_iald hx hb hK hP 1 0 rfl rfl g3 dX9_toldOf_25 ?_
        refine lv_goto (tgt := 30) hx hb dX9_toldOf_26 (by decide) ?_
        refine lv_iadd hx hb dX9_toldOf_30 ?_
        refine lv_istore_n (lv' := [(2, .int (x2 + (th_told x3.toNatClampNeg))), (0, .ref q_th), (1, .int x1), (3, .int x3)]) hx hb dX9_toldOf_31 rfl hl (by decide) rfl (fun ls hl => ?_)
        refine lv_iinc (v := x3 + 1) (lv' := [(3, .int (x3 + 1)), (2, .int (x2 + (th_told x3.toNatClampNeg))), (0, .ref q_th), (1, .int x1)]) hx hb dX9_toldOf_32 hl (k := 3) rfl rfl (by decide) rfl (fun ls hl => ?_)
        refine lv_goto (tgt := 4) hx hb dX9_toldOf_35 (by decide) ?_
        cases h
        exact ih _ rfl _ _ _ hP hD hS (lv_sub hl [2, 3, 1, 0] rfl)
  unfold f_X9_toldOf at h
  refine lv_iconst (v := (0 : Int32)) hx hb dX9_toldOf_0 (by decide) ?_
  refine lv_istore_n (lv' := [(2, .int (0 : Int32)), (0, .ref q_th), (1, .int x1)]) hx hb dX9_toldOf_1 rfl hl (by decide) rfl (fun ls hl => ?_)
  refine lv_iconst (v := (0 : Int32)) hx hb dX9_toldOf_2 (by decide) ?_
  refine lv_istore_n (lv' := [(3, .int (0 : Int32)), (2, .int (0 : Int32)), (0, .ref q_th), (1, .int x1)]) hx hb dX9_toldOf_3 rfl hl (by decide) rfl (fun ls hl => ?_)
  obtain ⟨z4_0, hl4, h⟩ := bd_ok h
  refine L4 x1 K _ _ hl4 ?_ _ _ _ hP hD hS (lv_sub hl [2, 3, 1, 0] rfl)
  intro H locs ls hP hD hS hl
  refine lv_iload_n hx hb dX9_toldOf_38 rfl (lv_at hl 0 rfl) ?_
  cases h
  exact st_iret hx hb hr hlocks hP hD hS dX9_toldOf_39
def f_X9_check_J113 (n_th_saying : Nat) (th_saying : Nat → Int32) (x1 : Int32) (x2 : Int32) : Option ((Int32) ⊕ (Int32 × Int32)) :=
  if (((5 : Int32) * x2) + (4 : Int32)) < 0 ∨ n_th_saying ≤ (((5 : Int32) * x2) + (4 : Int32)).toNatClampNeg then none else
  if (th_saying (((5 : Int32) * x2) + (4 : Int32)).toNatClampNeg) = (1 : Int32) then
    if (0 : Int32) = (0 : Int32) then
      some (.inr (x1 + (1 : Int32), x2 + 1))
    else
      some (.inr (x1 + (0 : Int32), x2 + 1))
  else
    some (.inr (x1 + (0 : Int32), x2 + 1))
def f_X9_check_L24 (K : Nat) (n_th_saying : Nat) (n_th_told : Nat) (th_many : Int32) (th_saying : Nat → Int32) (th_told : Nat → Int32) (s24 : Int32 × Int32) : Option ((Int32) ⊕ (Int32 × Int32)) :=
  match s24 with
  | (x1, x2) =>
    if th_many ≤ x2 then
      some (.inl x1)
    else
      if (((5 : Int32) * x2) + (1 : Int32)) < 0 ∨ n_th_saying ≤ (((5 : Int32) * x2) + (1 : Int32)).toNatClampNeg then none else
      (f_X9_toldOf K n_th_told th_told (th_saying (((5 : Int32) * x2) + (1 : Int32)).toNatClampNeg)).bind fun z6_0 =>
      if (((5 : Int32) * x2) + (1 : Int32)) < 0 ∨ n_th_saying ≤ (((5 : Int32) * x2) + (1 : Int32)).toNatClampNeg then none else
      if ((5 : Int32) * x2) < 0 ∨ n_th_saying ≤ ((5 : Int32) * x2).toNatClampNeg then none else
      (f_X9_toldOf K n_th_told th_told ((th_saying (((5 : Int32) * x2) + (1 : Int32)).toNatClampNeg) &&& (th_saying ((5 : Int32) * x2).toNatClampNeg))).bind fun z9_0 =>
      if (((5 : Int32) * x2) + (2 : Int32)) < 0 ∨ n_th_saying ≤ (((5 : Int32) * x2) + (2 : Int32)).toNatClampNeg then none else
      if ((100 : Int32) * z9_0) < ((th_saying (((5 : Int32) * x2) + (2 : Int32)).toNatClampNeg) * z6_0) then
        f_X9_check_J113 n_th_saying th_saying x1 x2
      else
        if (((5 : Int32) * x2) + (3 : Int32)) < 0 ∨ n_th_saying ≤ (((5 : Int32) * x2) + (3 : Int32)).toNatClampNeg then none else
        if ((th_saying (((5 : Int32) * x2) + (3 : Int32)).toNatClampNeg) * z6_0) < ((100 : Int32) * z9_0) then
          f_X9_check_J113 n_th_saying th_saying x1 x2
        else
          if (((5 : Int32) * x2) + (4 : Int32)) < 0 ∨ n_th_saying ≤ (((5 : Int32) * x2) + (4 : Int32)).toNatClampNeg then none else
          if (th_saying (((5 : Int32) * x2) + (4 : Int32)).toNatClampNeg) = (1 : Int32) then
            if (1 : Int32) = (0 : Int32) then
              some (.inr (x1 + (1 : Int32), x2 + 1))
            else
              some (.inr (x1 + (0 : Int32), x2 + 1))
          else
            some (.inr (x1 + (0 : Int32), x2 + 1))
def f_X9_check (K : Nat) (n_th_saying : Nat) (n_th_told : Nat) (th_many : Int32) (th_saying : Nat → Int32) (th_told : Nat → Int32) : Option (Int32 × Int32) :=
  (f_X9_toldOf K n_th_told th_told (255 : Int32)).bind fun z17_0 =>
  if z17_0 = (1000 : Int32) then
    (lp (f_X9_check_L24 K n_th_saying n_th_told th_many th_saying th_told) K ((0 : Int32), (0 : Int32))).bind fun z19_0 =>
    some (z19_0, (0 : Int32))
  else
    some ((-1 : Int32), (0 : Int32))
abbrev w_X9_check (tc : Nat → ClassId) (q_th : Nat) (q_th_text : Nat) (q_th_saying : Nat) (q_th_signs : Nat) (q_th_sets : Nat) (q_th_told : Nat) (q_th_up : Nat) (q_th_down : Nat) (q_th_world : Nat) (q_th_tight : Nat) (q_th_sum : Nat) (q_th_now : Nat) (n_th_saying : Nat) (n_th_told : Nat) (th_thrown : Int32) (th_typed : Int32) (th_next : Int32) (th_token : Int32) (th_place : Int32) (th_value : Int32) (th_fault : Int32) (th_many : Int32) (th_signMany : Int32) (th_setMany : Int32) (th_corners : Int32) (th_isLoaded : Int32) (th_loaded : Int32) (th_widened : Int32) (th_wide : Int32) (th_boundUp : Int64) (th_boundDown : Int64) (th_saying : Nat → Int32) (th_told : Nat → Int32) : va_W := [(q_th, .inr (9, [.int th_thrown, .ref q_th_text, .int th_typed, .int th_next, .int th_token, .int th_place, .int th_value, .int th_fault, .int th_many, .ref q_th_saying, .ref q_th_signs, .ref q_th_sets, .int th_signMany, .int th_setMany, .ref q_th_told, .int th_corners, .int th_isLoaded, .int th_loaded, .ref q_th_up, .ref q_th_down, .ref q_th_world, .ref q_th_tight, .ref q_th_sum, .ref q_th_now, .int th_widened, .int th_wide, .long th_boundUp, .long th_boundDown])), (q_th_saying, .inl (tc 0, n_th_saying, .inl th_saying)), (q_th_told, .inl (tc 0, n_th_told, .inl th_told))]
set_option maxHeartbeats 4000000 in
set_option maxRecDepth 100000 in
theorem s_X9_check {l : Launch} {E : (Nat → Prop) → State → Prop} (hEok : st_Eok E) {D : va_G} {tc : Nat → ClassId} (q_th : Nat) (q_th_text : Nat) (q_th_saying : Nat) (q_th_signs : Nat) (q_th_sets : Nat) (q_th_told : Nat) (q_th_up : Nat) (q_th_down : Nat) (q_th_world : Nat) (q_th_tight : Nat) (q_th_sum : Nat) (q_th_now : Nat) (n_th_saying : Nat) (n_th_told : Nat) (th_thrown : Int32) (th_typed : Int32) (th_next : Int32) (th_token : Int32) (th_place : Int32) (th_value : Int32) (th_fault : Int32) (th_many : Int32) (th_signMany : Int32) (th_setMany : Int32) (th_corners : Int32) (th_isLoaded : Int32) (th_loaded : Int32) (th_widened : Int32) (th_wide : Int32) (th_boundUp : Int64) (th_boundDown : Int64) (th_saying : Nat → Int32) (th_told : Nat → Int32) (K : Nat) (r0 : Int32) (th_thrown' : Int32) (h : f_X9_check K n_th_saying n_th_told th_many th_saying th_told = some (r0, th_thrown')) : st l yX9_check wsX9_check ({ frames := 1, cells := 0, slots := 0, locals := 23 }) E D tc [.ref q_th] (w_X9_check tc q_th q_th_text q_th_saying q_th_signs q_th_sets q_th_told q_th_up q_th_down q_th_world q_th_tight q_th_sum q_th_now n_th_saying n_th_told th_thrown th_typed th_next th_token th_place th_value th_fault th_many th_signMany th_setMany th_corners th_isLoaded th_loaded th_widened th_wide th_boundUp th_boundDown th_saying th_told) (some (.int r0)) (w_X9_check tc q_th q_th_text q_th_saying q_th_signs q_th_sets q_th_told q_th_up q_th_down q_th_world q_th_tight q_th_sum q_th_now n_th_saying n_th_told th_thrown' th_typed th_next th_token th_place th_value th_fault th_many th_signMany th_setMany th_corners th_isLoaded th_loaded th_widened th_wide th_boundUp th_boundDown th_saying th_told) := by
  refine st_enter (cc := cX9_check) (maxL := 6) (ret := (some .int)) (by decide) rfl (Nat.le_of_ble_eq_true rfl) ?_
  intro p e s m below meth c A ls hx hb hr hml hts hown hlocks hK hN hE hA hP hD hS hl
  have hl : lv_has ls 6 [(0, .ref q_th)] := hl
  have hinX9 : ∀ w ∈ wsX90, w ∈ wsX9_check := by decide +kernel
  generalize hav : ([.ref q_th] : List Value).toArray = av at hts ⊢
  have L24 : ∀ (th_thrown : Int32), ∀ (k : Nat) (s24 : Int32 × Int32) (r : Int32), lp (f_X9_check_L24 K n_th_saying n_th_told th_many th_saying th_told) k s24 = some r → (fun x1 : Int32 => ∀ (H : Heap) (locs : List Loc) (ls : Array Slot), va_P D vwCl (w_X9_check tc q_th q_th_text q_th_saying q_th_signs q_th_sets q_th_told q_th_up q_th_down q_th_world q_th_tight q_th_sum q_th_now n_th_saying n_th_told th_thrown th_typed th_next th_token th_place th_value th_fault th_many th_signMany th_setMany th_corners th_isLoaded th_loaded th_widened th_wide th_boundUp th_boundDown th_saying th_told) H → va_D A (w_X9_check tc q_th q_th_text q_th_saying q_th_signs q_th_sets q_th_told q_th_up q_th_down q_th_world q_th_tight q_th_sum q_th_now n_th_saying n_th_told th_thrown th_typed th_next th_token th_place th_value th_fault th_many th_signMany th_setMany th_corners th_isLoaded th_loaded th_widened th_wide th_boundUp th_boundDown th_saying th_told) → va_S A s.heap H locs → lv_has ls 6 [(1, .int x1)] → W p l e ({ frames := 1, cells := 0, slots := 0, locals := 23 } : Room) s m av below meth c H locs 0 0 (MQ below (st_Q D (w_X9_check tc q_th q_th_text q_th_saying q_th_signs q_th_sets q_th_told q_th_up q_th_down q_th_world q_th_tight q_th_sum q_th_now n_th_saying n_th_told th_thrown' th_typed th_next th_token th_place th_value th_fault th_many th_signMany th_setMany th_corners th_isLoaded th_loaded th_widened th_wide th_boundUp th_boundDown th_saying th_told) (some (.int r0)) A) av s 0 0 A) (F0 m 149 ls [])) r → (fun s24 : Int32 × Int32 => match s24 with | (x1, x2) => ∀ (H : Heap) (locs : List Loc) (ls : Array Slot), va_P D vwCl (w_X9_check tc q_th q_th_text q_th_saying q_th_signs q_th_sets q_th_told q_th_up q_th_down q_th_world q_th_tight q_th_sum q_th_now n_th_saying n_th_told th_thrown th_typed th_next th_token th_place th_value th_fault th_many th_signMany th_setMany th_corners th_isLoaded th_loaded th_widened th_wide th_boundUp th_boundDown th_saying th_told) H → va_D A (w_X9_check tc q_th q_th_text q_th_saying q_th_signs q_th_sets q_th_told q_th_up q_th_down q_th_world q_th_tight q_th_sum q_th_now n_th_saying n_th_told th_thrown th_typed th_next th_token th_place th_value th_fault th_many th_signMany th_setMany th_corners th_isLoaded th_loaded th_widened th_wide th_boundUp th_boundDown th_saying th_told) → va_S A s.heap H locs → lv_has ls 6 [(0, .ref q_th), (1, .int x1), (2, .int x2)] → W p l e ({ frames := 1, cells := 0, slots := 0, locals := 23 } : Room) s m av below meth c H locs 0 0 (MQ below (st_Q D (w_X9_check tc q_th q_th_text q_th_saying q_th_signs q_th_sets q_th_told q_th_up q_th_down q_th_world q_th_tight q_th_sum q_th_now n_th_saying n_th_told th_thrown' th_typed th_next th_token th_place th_value th_fault th_many th_signMany th_setMany th_corners th_isLoaded th_loaded th_widened th_wide th_boundUp th_boundDown th_saying th_told) (some (.int r0)) A) av s 0 0 A) (F0 m 24 ls [])) s24 := by
    intro th_thrown
    refine lp_W (f_X9_check_L24 K n_th_saying n_th_told th_many th_saying th_told) (fun s24 : Int32 × Int32 => match s24 with | (x1, x2) => ∀ (H : Heap) (locs : List Loc) (ls : Array Slot), va_P D vwCl (w_X9_check tc q_th q_th_text q_th_saying q_th_signs q_th_sets q_th_told q_th_up q_th_down q_th_world q_th_tight q_th_sum q_th_now n_th_saying n_th_told th_thrown th_typed th_next th_token th_place th_value th_fault th_many th_signMany th_setMany th_corners th_isLoaded th_loaded th_widened th_wide th_boundUp th_boundDown th_saying th_told) H → va_D A (w_X9_check tc q_th q_th_text q_th_saying q_th_signs q_th_sets q_th_told q_th_up q_th_down q_th_world q_th_tight q_th_sum q_th_now n_th_saying n_th_told th_thrown th_typed th_next th_token th_place th_value th_fault th_many th_signMany th_setMany th_corners th_isLoaded th_loaded th_widened th_wide th_boundUp th_boundDown th_saying th_told) → va_S A s.heap H locs → lv_has ls 6 [(0, .ref q_th), (1, .int x1), (2, .int x2)] → W p l e ({ frames := 1, cells := 0, slots := 0, locals := 23 } : Room) s m av below meth c H locs 0 0 (MQ below (st_Q D (w_X9_check tc q_th q_th_text q_th_saying q_th_signs q_th_sets q_th_told q_th_up q_th_down q_th_world q_th_tight q_th_sum q_th_now n_th_saying n_th_told th_thrown' th_typed th_next th_token th_place th_value th_fault th_many th_signMany th_setMany th_corners th_isLoaded th_loaded th_widened th_wide th_boundUp th_boundDown th_saying th_told) (some (.int r0)) A) av s 0 0 A) (F0 m 24 ls [])) (fun x1 : Int32 => ∀ (H : Heap) (locs : List Loc) (ls : Array Slot), va_P D vwCl (w_X9_check tc q_th q_th_text q_th_saying q_th_signs q_th_sets q_th_told q_th_up q_th_down q_th_world q_th_tight q_th_sum q_th_now n_th_saying n_th_told th_thrown th_typed th_next th_token th_place th_value th_fault th_many th_signMany th_setMany th_corners th_isLoaded th_loaded th_widened th_wide th_boundUp th_boundDown th_saying th_told) H → va_D A (w_X9_check tc q_th q_th_text q_th_saying q_th_signs q_th_sets q_th_told q_th_up q_th_down q_th_world q_th_tight q_th_sum q_th_now n_th_saying n_th_told th_thrown th_typed th_next th_token th_place th_value th_fault th_many th_signMany th_setMany th_corners th_isLoaded th_loaded th_widened th_wide th_boundUp th_boundDown th_saying th_told) → va_S A s.heap H locs → lv_has ls 6 [(1, .int x1)] → W p l e ({ frames := 1, cells := 0, slots := 0, locals := 23 } : Room) s m av below meth c H locs 0 0 (MQ below (st_Q D (w_X9_check tc q_th q_th_text q_th_saying q_th_signs q_th_sets q_th_told q_th_up q_th_down q_th_world q_th_tight q_th_sum q_th_now n_th_saying n_th_told th_thrown' th_typed th_next th_token th_place th_value th_fault th_many th_signMany th_setMany th_corners th_isLoaded th_loaded th_widened th_wide th_boundUp th_boundDown th_saying th_told) (some (.int r0)) A) av s 0 0 A) (F0 m 149 ls [])) ?_
    rintro ⟨x1, x2⟩ o h ih hz H locs ls hP hD hS hl
    have J113 : ∀ (x1 : Int32) (x2 : Int32) (H : Heap) (locs : List Loc) (ls : Array Slot), f_X9_check_J113 n_th_saying th_saying x1 x2 = some o → va_P D vwCl (w_X9_check tc q_th q_th_text q_th_saying q_th_signs q_th_sets q_th_told q_th_up q_th_down q_th_world q_th_tight q_th_sum q_th_now n_th_saying n_th_told th_thrown th_typed th_next th_token th_place th_value th_fault th_many th_signMany th_setMany th_corners th_isLoaded th_loaded th_widened th_wide th_boundUp th_boundDown th_saying th_told) H → va_D A (w_X9_check tc q_th q_th_text q_th_saying q_th_signs q_th_sets q_th_told q_th_up q_th_down q_th_world q_th_tight q_th_sum q_th_now n_th_saying n_th_told th_thrown th_typed th_next th_token th_place th_value th_fault th_many th_signMany th_setMany th_corners th_isLoaded th_loaded th_widened th_wide th_boundUp th_boundDown th_saying th_told) → va_S A s.heap H locs → lv_has ls 6 [(0, .ref q_th), (1, .int x1), (2, .int x2)] → W p l e ({ frames := 1, cells := 0, slots := 0, locals := 23 } : Room) s m av below meth c H locs 0 0 (MQ below (st_Q D (w_X9_check tc q_th q_th_text q_th_saying q_th_signs q_th_sets q_th_told q_th_up q_th_down q_th_world q_th_tight q_th_sum q_th_now n_th_saying n_th_told th_thrown' th_typed th_next th_token th_place th_value th_fault th_many th_signMany th_setMany th_corners th_isLoaded th_loaded th_widened th_wide th_boundUp th_boundDown th_saying th_told) (some (.int r0)) A) av s 0 0 A) (F0 m 113 ls []) := by
      intro x1 x2 H locs ls h hP hD hS hl
      unfold f_X9_check_J113 at h
      refine lv_iconst (v := (0 : Int32)) hx hb dX9_check_113 (by decide) ?_
      refine lv_istore (lv' := [(5, .int (0 : Int32)), (0, .ref q_th), (1, .int x1), (2, .int x2)]) hx hb dX9_check_114 hl (by decide) rfl (fun ls hl => ?_)
      refine lv_iload_n hx hb dX9_check_116 rfl (lv_at hl 2 rfl) ?_
      refine lv_aload_n hx hb dX9_check_117 rfl (lv_at hl 1 rfl) ?_
      refine va_get (D := D) (ci := 9) (v := .ref q_th_saying) (C := RX9) (T := TX9) (N := 28) hx hb hts hinX9 hown hK hP 0 rfl rfl 9 (by decide) (hts (.fieldLink RX9 13 "ChanceBoundsModel" "saying" "[I") (by decide +kernel)) (fun _ h9 => h9) rfl dX9_check_118 ?_
      refine lv_iconst (v := (5 : Int32)) hx hb dX9_check_121 (by decide) ?_
      refine lv_iload_n hx hb dX9_check_122 rfl (lv_at hl 3 rfl) ?_
      refine lv_imul hx hb dX9_check_123 ?_
      refine lv_iconst (v := (4 : Int32)) hx hb dX9_check_124 (by decide) ?_
      refine lv_iadd hx hb dX9_check_125 ?_
      obtain ⟨g1, h⟩ := gd_ok h
      refine va_iald hx hb hK hP 1 0 rfl rfl g1 dX9_check_126 ?_
      refine lv_iconst (v := (1 : Int32)) hx hb dX9_check_127 (by decide) ?_
      refine lv_icmp_ne (tgt := 140) hx hb dX9_check_128 (by decide) (fun c2 => ?_) (fun c2 => ?_)
      · replace h := ifn c2 h
        refine lv_iconst (v := (0 : Int32)) hx hb dX9_check_140 (by decide) ?_
        refine lv_iadd hx hb dX9_check_141 ?_
        refine lv_istore_n (lv' := [(1, .int (x1 + (0 : Int32))), (5, .int (0 : Int32)), (0, .ref q_th), (2, .int x2)]) hx hb dX9_check_142 rfl hl (by decide) rfl (fun ls hl => ?_)
        refine lv_iinc (v := x2 + 1) (lv' := [(2, .int (x2 + 1)), (1, .int (x1 + (0 : Int32))), (5, .int (0 : Int32)), (0, .ref q_th)]) hx hb dX9_check_143 hl (k := 3) rfl rfl (by decide) rfl (fun ls hl => ?_)
        refine lv_goto (tgt := 24) hx hb dX9_check_146 (by decide) ?_
        cases h
        exact ih _ rfl _ _ _ hP hD hS (lv_sub hl [3, 1, 0] rfl)
      · replace h := ifp c2 h
        refine lv_iload hx hb dX9_check_131 (lv_at hl 0 rfl) ?_
        refine lv_if_ne (tgt := 140) hx hb dX9_check_133 (by decide) (fun c3 => ?_) (fun c3 => ?_)
        · replace h := ifn c3 h
          refine lv_iconst (v := (0 : Int32)) hx hb dX9_check_140 (by decide) ?_
          refine lv_iadd hx hb dX9_check_141 ?_
          refine lv_istore_n (lv' := [(1, .int (x1 + (0 : Int32))), (5, .int (0 : Int32)), (0, .ref q_th), (2, .int x2)]) hx hb dX9_check_142 rfl hl (by decide) rfl (fun ls hl => ?_)
          refine lv_iinc (v := x2 + 1) (lv' := [(2, .int (x2 + 1)), (1, .int (x1 + (0 : Int32))), (5, .int (0 : Int32)), (0, .ref q_th)]) hx hb dX9_check_143 hl (k := 3) rfl rfl (by decide) rfl (fun ls hl => ?_)
          refine lv_goto (tgt := 24) hx hb dX9_check_146 (by decide) ?_
          cases h
          exact ih _ rfl _ _ _ hP hD hS (lv_sub hl [3, 1, 0] rfl)
        · replace h := ifp c3 h
          refine lv_iconst (v := (1 : Int32)) hx hb dX9_check_136 (by decide) ?_
          refine lv_goto (tgt := 141) hx hb dX9_check_137 (by decide) ?_
          refine lv_iadd hx hb dX9_check_141 ?_
          refine lv_istore_n (lv' := [(1, .int (x1 + (1 : Int32))), (5, .int (0 : Int32)), (0, .ref q_th), (2, .int x2)]) hx hb dX9_check_142 rfl hl (by decide) rfl (fun ls hl => ?_)
          refine lv_iinc (v := x2 + 1) (lv' := [(2, .int (x2 + 1)), (1, .int (x1 + (1 : Int32))), (5, .int (0 : Int32)), (0, .ref q_th)]) hx hb dX9_check_143 hl (k := 3) rfl rfl (by decide) rfl (fun ls hl => ?_)
          refine lv_goto (tgt := 24) hx hb dX9_check_146 (by decide) ?_
          cases h
          exact ih _ rfl _ _ _ hP hD hS (lv_sub hl [3, 1, 0] rfl)
    unfold f_X9_check_L24 at h
    refine lv_iload_n hx hb dX9_check_24 rfl (lv_at hl 2 rfl) ?_
    refine lv_aload_n hx hb dX9_check_25 rfl (lv_at hl 0 rfl) ?_
    refine va_get (D := D) (ci := 9) (v := .int th_many) (C := RX9) (T := TX9) (N := 28) hx hb hts hinX9 hown hK hP 0 rfl rfl 8 (by decide) (hts (.fieldLink RX9 49 "ChanceBoundsModel" "many" "I") (by decide +kernel)) (fun _ h9 => h9) rfl dX9_check_26 ?_
    refine lv_icmp_ge (tgt := 149) hx hb dX9_check_29 (by decide) (fun c4 => ?_) (fun c4 => ?_)
    · replace h := ifp c4 h
      cases h
      exact hz _ rfl _ _ _ hP hD hS (lv_sub hl [1] rfl)
    · replace h := ifn c4 h
      refine lv_aload_n hx hb dX9_check_32 rfl (lv_at hl 0 rfl) ?_
      refine lv_aload_n hx hb dX9_check_33 rfl (lv_at hl 0 rfl) ?_
      refine va_get (D := D) (ci := 9) (v := .ref q_th_saying) (C := RX9) (T := TX9) (N := 28) hx hb hts hinX9 hown hK hP 0 rfl rfl 9 (by decide) (hts (.fieldLink RX9 13 "ChanceBoundsModel" "saying" "[I") (by decide +kernel)) (fun _ h9 => h9) rfl dX9_check_34 ?_
      refine lv_iconst (v := (5 : Int32)) hx hb dX9_check_37 (by decide) ?_
      refine lv_iload_n hx hb dX9_check_38 rfl (lv_at hl 2 rfl) ?_
      refine lv_imul hx hb dX9_check_39 ?_
      refine lv_iconst (v := (1 : Int32)) hx hb dX9_check_40 (by decide) ?_
      refine lv_iadd hx hb dX9_check_41 ?_
      obtain ⟨g5, h⟩ := gd_ok h
      refine va_iald hx hb hK hP 1 0 rfl rfl g5 dX9_check_42 ?_
      obtain ⟨z6_0, hc6, h⟩ := bd_ok h
      refine st_callV (As := [.int (th_saying (((5 : Int32) * x2) + (1 : Int32)).toNatClampNeg)]) (rest := []) (pos := [0, 2]) ⟨hx, hb, hml, hown, hts⟩ (s_X9_toldOf (l := l) (D := D) (tc := tc) hEok q_th q_th_text q_th_saying q_th_signs q_th_sets q_th_told q_th_up q_th_down q_th_world q_th_tight q_th_sum q_th_now n_th_told th_thrown th_typed th_next th_token th_place th_value th_fault th_many th_signMany th_setMany th_corners th_isLoaded th_loaded th_widened th_wide th_boundUp th_boundDown th_told (th_saying (((5 : Int32) * x2) + (1 : Int32)).toNatClampNeg) K z6_0 hc6) (cwV 1 hts gX9_check_X9_toldOf rfl rfl rfl (by decide +kernel) ⟨Nat.le_of_ble_eq_true rfl, Nat.le_of_ble_eq_true rfl⟩) (st_recv (ci := 9) (q0 := 0) hK hP rfl rfl) hEok hE hK hN hP hD hS hA rfl rfl rfl rfl hl.1 rfl (Nat.le_of_ble_eq_true rfl) dX9_check_43 ⟨Nat.zero_le _, Nat.zero_le _⟩ (fun H locs hP hD hS => ?_)
      have hP : va_P D vwCl (w_X9_check tc q_th q_th_text q_th_saying q_th_signs q_th_sets q_th_told q_th_up q_th_down q_th_world q_th_tight q_th_sum q_th_now n_th_saying n_th_told th_thrown th_typed th_next th_token th_place th_value th_fault th_many th_signMany th_setMany th_corners th_isLoaded th_loaded th_widened th_wide th_boundUp th_boundDown th_saying th_told) H := hP
      have hD : va_D A (w_X9_check tc q_th q_th_text q_th_saying q_th_signs q_th_sets q_th_told q_th_up q_th_down q_th_world q_th_tight q_th_sum q_th_now n_th_saying n_th_told th_thrown th_typed th_next th_token th_place th_value th_fault th_many th_signMany th_setMany th_corners th_isLoaded th_loaded th_widened th_wide th_boundUp th_boundDown th_saying th_told) := hD
      refine lv_istore_n (lv' := [(3, .int z6_0), (0, .ref q_th), (1, .int x1), (2, .int x2)]) hx hb dX9_check_46 rfl hl (by decide) rfl (fun ls hl => ?_)
      refine lv_bipush (v := (100 : Int32)) hx hb dX9_check_47 (by decide) ?_
      refine lv_aload_n hx hb dX9_check_49 rfl (lv_at hl 1 rfl) ?_
      refine lv_aload_n hx hb dX9_check_50 rfl (lv_at hl 1 rfl) ?_
      refine va_get (D := D) (ci := 9) (v := .ref q_th_saying) (C := RX9) (T := TX9) (N := 28) hx hb hts hinX9 hown hK hP 0 rfl rfl 9 (by decide) (hts (.fieldLink RX9 13 "ChanceBoundsModel" "saying" "[I") (by decide +kernel)) (fun _ h9 => h9) rfl dX9_check_51 ?_
      refine lv_iconst (v := (5 : Int32)) hx hb dX9_check_54 (by decide) ?_
      refine lv_iload_n hx hb dX9_check_55 rfl (lv_at hl 3 rfl) ?_
      refine lv_imul hx hb dX9_check_56 ?_
      refine lv_iconst (v := (1 : Int32)) hx hb dX9_check_57 (by decide) ?_
      refine lv_iadd hx hb dX9_check_58 ?_
      obtain ⟨g7, h⟩ := gd_ok h
      refine va_iald hx hb hK hP 1 0 rfl rfl g7 dX9_check_59 ?_
      refine lv_aload_n hx hb dX9_check_60 rfl (lv_at hl 1 rfl) ?_
      refine va_get (D := D) (ci := 9) (v := .ref q_th_saying) (C := RX9) (T := TX9) (N := 28) hx hb hts hinX9 hown hK hP 0 rfl rfl 9 (by decide) (hts (.fieldLink RX9 13 "ChanceBoundsModel" "saying" "[I") (by decide +kernel)) (fun _ h9 => h9) rfl dX9_check_61 ?_
      refine lv_iconst (v := (5 : Int32)) hx hb dX9_check_64 (by decide) ?_
      refine lv_iload_n hx hb dX9_check_65 rfl (lv_at hl 3 rfl) ?_
      refine lv_imul hx hb dX9_check_66 ?_
      obtain ⟨g8, h⟩ := gd_ok h
      refine va_iald hx hb hK hP 1 0 rfl rfl g8 dX9_check_67 ?_
      refine lv_iand hx hb dX9_check_68 ?_
      obtain ⟨z9_0, hc9, h⟩ := bd_ok h
      refine st_callV (As := [.int ((th_saying (((5 : Int32) * x2) + (1 : Int32)).toNatClampNeg) &&& (th_saying ((5 : Int32) * x2).toNatClampNeg))]) (rest := [.int (100 : Int32)]) (pos := [0, 2]) ⟨hx, hb, hml, hown, hts⟩ (s_X9_toldOf (l := l) (D := D) (tc := tc) hEok q_th q_th_text q_th_saying q_th_signs q_th_sets q_th_told q_th_up q_th_down q_th_world q_th_tight q_th_sum q_th_now n_th_told th_thrown th_typed th_next th_token th_place th_value th_fault th_many th_signMany th_setMany th_corners th_isLoaded th_loaded th_widened th_wide th_boundUp th_boundDown th_told ((th_saying (((5 : Int32) * x2) + (1 : Int32)).toNatClampNeg) &&& (th_saying ((5 : Int32) * x2).toNatClampNeg)) K z9_0 hc9) (cwV 1 hts gX9_check_X9_toldOf rfl rfl rfl (by decide +kernel) ⟨Nat.le_of_ble_eq_true rfl, Nat.le_of_ble_eq_true rfl⟩) (st_recv (ci := 9) (q0 := 0) hK hP rfl rfl) hEok hE hK hN hP hD hS hA rfl rfl rfl rfl hl.1 rfl (Nat.le_of_ble_eq_true rfl) dX9_check_69 ⟨Nat.zero_le _, Nat.zero_le _⟩ (fun H locs hP hD hS => ?_)
      have hP : va_P D vwCl (w_X9_check tc q_th q_th_text q_th_saying q_th_signs q_th_sets q_th_told q_th_up q_th_down q_th_world q_th_tight q_th_sum q_th_now n_th_saying n_th_told th_thrown th_typed th_next th_token th_place th_value th_fault th_many th_signMany th_setMany th_corners th_isLoaded th_loaded th_widened th_wide th_boundUp th_boundDown th_saying th_told) H := hP
      have hD : va_D A (w_X9_check tc q_th q_th_text q_th_saying q_th_signs q_th_sets q_th_told q_th_up q_th_down q_th_world q_th_tight q_th_sum q_th_now n_th_saying n_th_told th_thrown th_typed th_next th_token th_place th_value th_fault th_many th_signMany th_setMany th_corners th_isLoaded th_loaded th_widened th_wide th_boundUp th_boundDown th_saying th_told) := hD
      refine lv_imul hx hb dX9_check_72 ?_
      refine lv_istore (lv' := [(4, .int ((100 : Int32) * z9_0)), (3, .int z6_0), (0, .ref q_th), (1, .int x1), (2, .int x2)]) hx hb dX9_check_73 hl (by decide) rfl (fun ls hl => ?_)
      refine lv_iload hx hb dX9_check_75 (lv_at hl 0 rfl) ?_
      refine lv_aload_n hx hb dX9_check_77 rfl (lv_at hl 2 rfl) ?_
      refine va_get (D := D) (ci := 9) (v := .ref q_th_saying) (C := RX9) (T := TX9) (N := 28) hx hb hts hinX9 hown hK hP 0 rfl rfl 9 (by decide) (hts (.fieldLink RX9 13 "ChanceBoundsModel" "saying" "[I") (by decide +kernel)) (fun _ h9 => h9) rfl dX9_check_78 ?_
      refine lv_iconst (v := (5 : Int32)) hx hb dX9_check_81 (by decide) ?_
      refine lv_iload_n hx hb dX9_check_82 rfl (lv_at hl 4 rfl) ?_
      refine lv_imul hx hb dX9_check_83 ?_
      refine lv_iconst (v := (2 : Int32)) hx hb dX9_check_84 (by decide) ?_
      refine lv_iadd hx hb dX9_check_85 ?_
      obtain ⟨g10, h⟩ := gd_ok h
      refine va_iald hx hb hK hP 1 0 rfl rfl g10 dX9_check_86 ?_
      refine lv_iload_n hx hb dX9_check_87 rfl (lv_at hl 1 rfl) ?_
      refine lv_imul hx hb dX9_check_88 ?_
      refine lv_icmp_lt (tgt := 113) hx hb dX9_check_89 (by decide) (fun c11 => ?_) (fun c11 => ?_)
      · replace h := ifp c11 h
        exact J113 x1 x2 _ _ _ h hP hD hS (lv_sub hl [2, 3, 4] rfl)
      · replace h := ifn c11 h
        refine lv_iload hx hb dX9_check_92 (lv_at hl 0 rfl) ?_
        refine lv_aload_n hx hb dX9_check_94 rfl (lv_at hl 2 rfl) ?_
        refine va_get (D := D) (ci := 9) (v := .ref q_th_saying) (C := RX9) (T := TX9) (N := 28) hx hb hts hinX9 hown hK hP 0 rfl rfl 9 (by decide) (hts (.fieldLink RX9 13 "ChanceBoundsModel" "saying" "[I") (by decide +kernel)) (fun _ h9 => h9) rfl dX9_check_95 ?_
        refine lv_iconst (v := (5 : Int32)) hx hb dX9_check_98 (by decide) ?_
        refine lv_iload_n hx hb dX9_check_99 rfl (lv_at hl 4 rfl) ?_
        refine lv_imul hx hb dX9_check_100 ?_
        refine lv_iconst (v := (3 : Int32)) hx hb dX9_check_101 (by decide) ?_
        refine lv_iadd hx hb dX9_check_102 ?_
        obtain ⟨g12, h⟩ := gd_ok h
        refine va_iald hx hb hK hP 1 0 rfl rfl g12 dX9_check_103 ?_
        refine lv_iload_n hx hb dX9_check_104 rfl (lv_at hl 1 rfl) ?_
        refine lv_imul hx hb dX9_check_105 ?_
        refine lv_icmp_gt (tgt := 113) hx hb dX9_check_106 (by decide) (fun c13 => ?_) (fun c13 => ?_)
        · replace h := ifp c13 h
          exact J113 x1 x2 _ _ _ h hP hD hS (lv_sub hl [2, 3, 4] rfl)
        · replace h := ifn c13 h
          refine lv_iconst (v := (1 : Int32)) hx hb dX9_check_109 (by decide) ?_
          refine lv_goto (tgt := 114) hx hb dX9_check_110 (by decide) ?_
          refine lv_istore (lv' := [(5, .int (1 : Int32)), (4, .int ((100 : Int32) * z9_0)), (3, .int z6_0), (0, .ref q_th), (1, .int x1), (2, .int x2)]) hx hb dX9_check_114 hl (by decide) rfl (fun ls hl => ?_)
          refine lv_iload_n hx hb dX9_check_116 rfl (lv_at hl 4 rfl) ?_
          refine lv_aload_n hx hb dX9_check_117 rfl (lv_at hl 3 rfl) ?_
          refine va_get (D := D) (ci := 9) (v := .ref q_th_saying) (C := RX9) (T := TX9) (N := 28) hx hb hts hinX9 hown hK hP 0 rfl rfl 9 (by decide) (hts (.fieldLink RX9 13 "ChanceBoundsModel" "saying" "[I") (by decide +kernel)) (fun _ h9 => h9) rfl dX9_check_118 ?_
          refine lv_iconst (v := (5 : Int32)) hx hb dX9_check_121 (by decide) ?_
          refine lv_iload_n hx hb dX9_check_122 rfl (lv_at hl 5 rfl) ?_
          refine lv_imul hx hb dX9_check_123 ?_
          refine lv_iconst (v := (4 : Int32)) hx hb dX9_check_124 (by decide) ?_
          refine lv_iadd hx hb dX9_check_125 ?_
          obtain ⟨g14, h⟩ := gd_ok h
          refine va_iald hx hb hK hP 1 0 rfl rfl g14 dX9_check_126 ?_
          refine lv_iconst (v := (1 : Int32)) hx hb dX9_check_127 (by decide) ?_
          refine lv_icmp_ne (tgt := 140) hx hb dX9_check_128 (by decide) (fun c15 => ?_) (fun c15 => ?_)
          · replace h := ifn c15 h
            refine lv_iconst (v := (0 : Int32)) hx hb dX9_check_140 (by decide) ?_
            refine lv_iadd hx hb dX9_check_141 ?_
            refine lv_istore_n (lv' := [(1, .int (x1 + (0 : Int32))), (5, .int (1 : Int32)), (4, .int ((100 : Int32) * z9_0)), (3, .int z6_0), (0, .ref q_th), (2, .int x2)]) hx hb dX9_check_142 rfl hl (by decide) rfl (fun ls hl => ?_)
            refine lv_iinc (v := x2 + 1) (lv' := [(2, .int (x2 + 1)), (1, .int (x1 + (0 : Int32))), (5, .int (1 : Int32)), (4, .int ((100 : Int32) * z9_0)), (3, .int z6_0), (0, .ref q_th)]) hx hb dX9_check_143 hl (k := 5) rfl rfl (by decide) rfl (fun ls hl => ?_)
            refine lv_goto (tgt := 24) hx hb dX9_check_146 (by decide) ?_
            cases h
            exact ih _ rfl _ _ _ hP hD hS (lv_sub hl [5, 1, 0] rfl)
          · replace h := ifp c15 h
            refine lv_iload hx hb dX9_check_131 (lv_at hl 0 rfl) ?_
            refine lv_if_ne (tgt := 140) hx hb dX9_check_133 (by decide) (fun c16 => ?_) (fun c16 => ?_)
            · replace h := ifn c16 h
              refine lv_iconst (v := (0 : Int32)) hx hb dX9_check_140 (by decide) ?_
              refine lv_iadd hx hb dX9_check_141 ?_
              refine lv_istore_n (lv' := [(1, .int (x1 + (0 : Int32))), (5, .int (1 : Int32)), (4, .int ((100 : Int32) * z9_0)), (3, .int z6_0), (0, .ref q_th), (2, .int x2)]) hx hb dX9_check_142 rfl hl (by decide) rfl (fun ls hl => ?_)
              refine lv_iinc (v := x2 + 1) (lv' := [(2, .int (x2 + 1)), (1, .int (x1 + (0 : Int32))), (5, .int (1 : Int32)), (4, .int ((100 : Int32) * z9_0)), (3, .int z6_0), (0, .ref q_th)]) hx hb dX9_check_143 hl (k := 5) rfl rfl (by decide) rfl (fun ls hl => ?_)
              refine lv_goto (tgt := 24) hx hb dX9_check_146 (by decide) ?_
              cases h
              exact ih _ rfl _ _ _ hP hD hS (lv_sub hl [5, 1, 0] rfl)
            · replace h := ifp c16 h
              refine lv_iconst (v := (1 : Int32)) hx hb dX9_check_136 (by decide) ?_
              refine lv_goto (tgt := 141) hx hb dX9_check_137 (by decide) ?_
              refine lv_iadd hx hb dX9_check_141 ?_
              refine lv_istore_n (lv' := [(1, .int (x1 + (1 : Int32))), (5, .int (1 : Int32)), (4, .int ((100 : Int32) * z9_0)), (3, .int z6_0), (0, .ref q_th), (2, .int x2)]) hx hb dX9_check_142 rfl hl (by decide) rfl (fun ls hl => ?_)
              refine lv_iinc (v := x2 + 1) (lv' := [(2, .int (x2 + 1)), (1, .int (x1 + (1 : Int32))), (5, .int (1 : Int32)), (4, .int ((100 : Int32) * z9_0)), (3, .int z6_0), (0, .ref q_th)]) hx hb dX9_check_143 hl (k := 5) rfl rfl (by decide) rfl (fun ls hl => ?_)
              refine lv_goto (tgt := 24) hx hb dX9_check_146 (by decide) ?_
              cases h
              exact ih _ rfl _ _ _ hP hD hS (lv_sub hl [5, 1, 0] rfl)
  unfold f_X9_check at h
  refine lv_aload_n hx hb dX9_check_0 rfl (lv_at hl 0 rfl) ?_
  refine lv_iconst (v := (0 : Int32)) hx hb dX9_check_1 (by decide) ?_
  refine va_put (D := D) (ci := 9) (v := .int (0 : Int32)) (ty := .int) (C := RX9) (T := TX9) (N := 28) hx hb hts hinX9 tyX9 tyX9_ok nmX9 hown hK hP hD hS 0 rfl rfl 0 (by decide) (hts (.fieldLink RX9 45 "ChanceBoundsModel" "thrown" "I") (by decide +kernel)) (fun _ h9 => h9) rfl (by decide +kernel) rfl rfl (Nat.le_of_ble_eq_true rfl) dX9_check_2 (fun H locs hP hD hS => ?_)
  have hP : va_P D vwCl (w_X9_check tc q_th q_th_text q_th_saying q_th_signs q_th_sets q_th_told q_th_up q_th_down q_th_world q_th_tight q_th_sum q_th_now n_th_saying n_th_told (0 : Int32) th_typed th_next th_token th_place th_value th_fault th_many th_signMany th_setMany th_corners th_isLoaded th_loaded th_widened th_wide th_boundUp th_boundDown th_saying th_told) H := hP
  have hD : va_D A (w_X9_check tc q_th q_th_text q_th_saying q_th_signs q_th_sets q_th_told q_th_up q_th_down q_th_world q_th_tight q_th_sum q_th_now n_th_saying n_th_told (0 : Int32) th_typed th_next th_token th_place th_value th_fault th_many th_signMany th_setMany th_corners th_isLoaded th_loaded th_widened th_wide th_boundUp th_boundDown th_saying th_told) := hD
  refine lv_aload_n hx hb dX9_check_5 rfl (lv_at hl 0 rfl) ?_
  refine lv_sipush (v := (255 : Int32)) hx hb dX9_check_6 (by decide) ?_
  obtain ⟨z17_0, hc17, h⟩ := bd_ok h
  refine st_callV (As := [.int (255 : Int32)]) (rest := []) (pos := [0, 2]) ⟨hx, hb, hml, hown, hts⟩ (s_X9_toldOf (l := l) (D := D) (tc := tc) hEok q_th q_th_text q_th_saying q_th_signs q_th_sets q_th_told q_th_up q_th_down q_th_world q_th_tight q_th_sum q_th_now n_th_told (0 : Int32) th_typed th_next th_token th_place th_value th_fault th_many th_signMany th_setMany th_corners th_isLoaded th_loaded th_widened th_wide th_boundUp th_boundDown th_told (255 : Int32) K z17_0 hc17) (cwV 1 hts gX9_check_X9_toldOf rfl rfl rfl (by decide +kernel) ⟨Nat.le_of_ble_eq_true rfl, Nat.le_of_ble_eq_true rfl⟩) (st_recv (ci := 9) (q0 := 0) hK hP rfl rfl) hEok hE hK hN hP hD hS hA rfl rfl rfl rfl hl.1 rfl (Nat.le_of_ble_eq_true rfl) dX9_check_9 ⟨Nat.zero_le _, Nat.zero_le _⟩ (fun H locs hP hD hS => ?_)
  have hP : va_P D vwCl (w_X9_check tc q_th q_th_text q_th_saying q_th_signs q_th_sets q_th_told q_th_up q_th_down q_th_world q_th_tight q_th_sum q_th_now n_th_saying n_th_told (0 : Int32) th_typed th_next th_token th_place th_value th_fault th_many th_signMany th_setMany th_corners th_isLoaded th_loaded th_widened th_wide th_boundUp th_boundDown th_saying th_told) H := hP
  have hD : va_D A (w_X9_check tc q_th q_th_text q_th_saying q_th_signs q_th_sets q_th_told q_th_up q_th_down q_th_world q_th_tight q_th_sum q_th_now n_th_saying n_th_told (0 : Int32) th_typed th_next th_token th_place th_value th_fault th_many th_signMany th_setMany th_corners th_isLoaded th_loaded th_widened th_wide th_boundUp th_boundDown th_saying th_told) := hD
  refine lv_sipush (v := (1000 : Int32)) hx hb dX9_check_12 (by decide) ?_
  refine lv_icmp_eq (tgt := 20) hx hb dX9_check_15 (by decide) (fun c18 => ?_) (fun c18 => ?_)
  · replace h := ifp c18 h
    refine lv_iconst (v := (0 : Int32)) hx hb dX9_check_20 (by decide) ?_
    refine lv_istore_n (lv' := [(1, .int (0 : Int32)), (0, .ref q_th)]) hx hb dX9_check_21 rfl hl (by decide) rfl (fun ls hl => ?_)
    refine lv_iconst (v := (0 : Int32)) hx hb dX9_check_22 (by decide) ?_
    refine lv_istore_n (lv' := [(2, .int (0 : Int32)), (1, .int (0 : Int32)), (0, .ref q_th)]) hx hb dX9_check_23 rfl hl (by decide) rfl (fun ls hl => ?_)
    obtain ⟨z19_0, hl19, h⟩ := bd_ok h
    refine L24 (0 : Int32) K _ _ hl19 ?_ _ _ _ hP hD hS (lv_sub hl [2, 1, 0] rfl)
    intro H locs ls hP hD hS hl
    refine lv_iload_n hx hb dX9_check_149 rfl (lv_at hl 0 rfl) ?_
    cases h
    exact st_iret hx hb hr hlocks hP hD hS dX9_check_150
  · replace h := ifn c18 h
    refine lv_iconst (v := (-1 : Int32)) hx hb dX9_check_18 (by decide) ?_
    cases h
    exact st_iret hx hb hr hlocks hP hD hS dX9_check_19
def f_X9_pull (K : Nat) (n_th_told : Nat) (th_told : Nat → Int32) (x1 : Int32) (x2 : Int32) (x3 : Int32) : Option (Int64 × Int32) :=
  (f_X9_isThing x1).bind fun z1_0 =>
  if z1_0 = (0 : Int32) then
    some ((-1000000000000000000 : Int64), (0 : Int32))
  else
    (f_X9_in x2 (0 : Int32) (7 : Int32)).bind fun z3_0 =>
    if z3_0 = (0 : Int32) then
      some ((-1000000000000000000 : Int64), (0 : Int32))
    else
      (f_X9_isBit x3).bind fun z5_0 =>
      if z5_0 = (0 : Int32) then
        some ((-1000000000000000000 : Int64), (0 : Int32))
      else
        (f_X9_toldOf K n_th_told th_told (255 : Int32)).bind fun z7_0 =>
        if z7_0 = (1000 : Int32) then
          (f_X9_toldOf K n_th_told th_told x1).bind fun z9_0 =>
          if z9_0 = (0 : Int32) then
            some ((-1000000000000000000 : Int64), (0 : Int32))
          else
            if ((x1 >>> (x2 &&& 31)) &&& (1 : Int32)) = (1 : Int32) then
              if x2 < 0 ∨ n_th_told ≤ x2.toNatClampNeg then none else
              (f_X9_toldOf K n_th_told th_told x1).bind fun z15_0 =>
              (f_X9_tells K ((th_told x2.toNatClampNeg).toInt64) z15_0.toInt64 x3).bind fun z16_0 =>
              some (z16_0, (0 : Int32))
            else
              (f_X9_toldOf K n_th_told th_told x1).bind fun z12_0 =>
              (f_X9_tells K (0 : Int64) z12_0.toInt64 x3).bind fun z13_0 =>
              some (z13_0, (0 : Int32))
        else
          some ((-1000000000000000000 : Int64), (0 : Int32))
abbrev w_X9_pull (tc : Nat → ClassId) (q_th : Nat) (q_th_text : Nat) (q_th_saying : Nat) (q_th_signs : Nat) (q_th_sets : Nat) (q_th_told : Nat) (q_th_up : Nat) (q_th_down : Nat) (q_th_world : Nat) (q_th_tight : Nat) (q_th_sum : Nat) (q_th_now : Nat) (n_th_told : Nat) (th_thrown : Int32) (th_typed : Int32) (th_next : Int32) (th_token : Int32) (th_place : Int32) (th_value : Int32) (th_fault : Int32) (th_many : Int32) (th_signMany : Int32) (th_setMany : Int32) (th_corners : Int32) (th_isLoaded : Int32) (th_loaded : Int32) (th_widened : Int32) (th_wide : Int32) (th_boundUp : Int64) (th_boundDown : Int64) (th_told : Nat → Int32) : va_W := [(q_th, .inr (9, [.int th_thrown, .ref q_th_text, .int th_typed, .int th_next, .int th_token, .int th_place, .int th_value, .int th_fault, .int th_many, .ref q_th_saying, .ref q_th_signs, .ref q_th_sets, .int th_signMany, .int th_setMany, .ref q_th_told, .int th_corners, .int th_isLoaded, .int th_loaded, .ref q_th_up, .ref q_th_down, .ref q_th_world, .ref q_th_tight, .ref q_th_sum, .ref q_th_now, .int th_widened, .int th_wide, .long th_boundUp, .long th_boundDown])), (q_th_told, .inl (tc 0, n_th_told, .inl th_told))]
set_option maxHeartbeats 4000000 in
set_option maxRecDepth 100000 in
theorem s_X9_pull {l : Launch} {E : (Nat → Prop) → State → Prop} (hEok : st_Eok E) {D : va_G} {tc : Nat → ClassId} (q_th : Nat) (q_th_text : Nat) (q_th_saying : Nat) (q_th_signs : Nat) (q_th_sets : Nat) (q_th_told : Nat) (q_th_up : Nat) (q_th_down : Nat) (q_th_world : Nat) (q_th_tight : Nat) (q_th_sum : Nat) (q_th_now : Nat) (n_th_told : Nat) (th_thrown : Int32) (th_typed : Int32) (th_next : Int32) (th_token : Int32) (th_place : Int32) (th_value : Int32) (th_fault : Int32) (th_many : Int32) (th_signMany : Int32) (th_setMany : Int32) (th_corners : Int32) (th_isLoaded : Int32) (th_loaded : Int32) (th_widened : Int32) (th_wide : Int32) (th_boundUp : Int64) (th_boundDown : Int64) (th_told : Nat → Int32) (x1 : Int32) (x2 : Int32) (x3 : Int32) (K : Nat) (r0 : Int64) (th_thrown' : Int32) (h : f_X9_pull K n_th_told th_told x1 x2 x3 = some (r0, th_thrown')) : st l yX9_pull wsX9_pull ({ frames := 2, cells := 0, slots := 0, locals := 55 }) E D tc [.ref q_th, .int x1, .int x2, .int x3] (w_X9_pull tc q_th q_th_text q_th_saying q_th_signs q_th_sets q_th_told q_th_up q_th_down q_th_world q_th_tight q_th_sum q_th_now n_th_told th_thrown th_typed th_next th_token th_place th_value th_fault th_many th_signMany th_setMany th_corners th_isLoaded th_loaded th_widened th_wide th_boundUp th_boundDown th_told) (some (.long r0)) (w_X9_pull tc q_th q_th_text q_th_saying q_th_signs q_th_sets q_th_told q_th_up q_th_down q_th_world q_th_tight q_th_sum q_th_now n_th_told th_thrown' th_typed th_next th_token th_place th_value th_fault th_many th_signMany th_setMany th_corners th_isLoaded th_loaded th_widened th_wide th_boundUp th_boundDown th_told) := by
  refine st_enter (cc := cX9_pull) (maxL := 4) (ret := (some .long)) (by decide) rfl (Nat.le_of_ble_eq_true rfl) ?_
  intro p e s m below meth c A ls hx hb hr hml hts hown hlocks hK hN hE hA hP hD hS hl
  have hl : lv_has ls 4 [(0, .ref q_th), (1, .int x1), (2, .int x2), (3, .int x3)] := hl
  have hinX9 : ∀ w ∈ wsX90, w ∈ wsX9_pull := by decide +kernel
  generalize hav : ([.ref q_th, .int x1, .int x2, .int x3] : List Value).toArray = av at hts ⊢
  unfold f_X9_pull at h
  refine lv_aload_n hx hb dX9_pull_0 rfl (lv_at hl 0 rfl) ?_
  refine lv_iconst (v := (0 : Int32)) hx hb dX9_pull_1 (by decide) ?_
  refine va_put (D := D) (ci := 9) (v := .int (0 : Int32)) (ty := .int) (C := RX9) (T := TX9) (N := 28) hx hb hts hinX9 tyX9 tyX9_ok nmX9 hown hK hP hD hS 0 rfl rfl 0 (by decide) (hts (.fieldLink RX9 45 "ChanceBoundsModel" "thrown" "I") (by decide +kernel)) (fun _ h9 => h9) rfl (by decide +kernel) rfl rfl (Nat.le_of_ble_eq_true rfl) dX9_pull_2 (fun H locs hP hD hS => ?_)
  have hP : va_P D vwCl (w_X9_pull tc q_th q_th_text q_th_saying q_th_signs q_th_sets q_th_told q_th_up q_th_down q_th_world q_th_tight q_th_sum q_th_now n_th_told (0 : Int32) th_typed th_next th_token th_place th_value th_fault th_many th_signMany th_setMany th_corners th_isLoaded th_loaded th_widened th_wide th_boundUp th_boundDown th_told) H := hP
  have hD : va_D A (w_X9_pull tc q_th q_th_text q_th_saying q_th_signs q_th_sets q_th_told q_th_up q_th_down q_th_world q_th_tight q_th_sum q_th_now n_th_told (0 : Int32) th_typed th_next th_token th_place th_value th_fault th_many th_signMany th_setMany th_corners th_isLoaded th_loaded th_widened th_wide th_boundUp th_boundDown th_told) := hD
  refine lv_iload_n hx hb dX9_pull_5 rfl (lv_at hl 1 rfl) ?_
  obtain ⟨z1_0, hc1, h⟩ := bd_ok h
  refine st_callS (As := [.int x1]) (rest := []) (pos := []) ⟨hx, hb, hml, hown, hts⟩ (s_X9_isThing (l := l) (D := D) (tc := tc) hEok x1 z1_0 hc1) (va_cwS 1 hts gX9_pull_X9_isThing rfl rfl rfl (by decide +kernel) ⟨Nat.le_of_ble_eq_true rfl, Nat.le_of_ble_eq_true rfl⟩) hEok hE hK hN hP hD hS hA rfl rfl rfl rfl hl.1 rfl (Nat.le_of_ble_eq_true rfl) dX9_pull_6 ⟨Nat.zero_le _, Nat.zero_le _⟩ (fun H locs hP hD hS => ?_)
  have hP : va_P D vwCl (w_X9_pull tc q_th q_th_text q_th_saying q_th_signs q_th_sets q_th_told q_th_up q_th_down q_th_world q_th_tight q_th_sum q_th_now n_th_told (0 : Int32) th_typed th_next th_token th_place th_value th_fault th_many th_signMany th_setMany th_corners th_isLoaded th_loaded th_widened th_wide th_boundUp th_boundDown th_told) H := hP
  have hD : va_D A (w_X9_pull tc q_th q_th_text q_th_saying q_th_signs q_th_sets q_th_told q_th_up q_th_down q_th_world q_th_tight q_th_sum q_th_now n_th_told (0 : Int32) th_typed th_next th_token th_place th_value th_fault th_many th_signMany th_setMany th_corners th_isLoaded th_loaded th_widened th_wide th_boundUp th_boundDown th_told) := hD
  refine lv_if_eq (tgt := 50) hx hb dX9_pull_9 (by decide) (fun c2 => ?_) (fun c2 => ?_)
  · replace h := ifp c2 h
    refine lv_ldc2 (v := (-1000000000000000000 : Int64)) hx hb hown (hts (.constantLong RX9 190 (-1000000000000000000)) (by decide +kernel)) dX9_pull_50 ?_
    cases h
    exact st_lret hx hb hr hlocks hP hD hS dX9_pull_53
  · replace h := ifn c2 h
    refine lv_iload_n hx hb dX9_pull_12 rfl (lv_at hl 2 rfl) ?_
    refine lv_iconst (v := (0 : Int32)) hx hb dX9_pull_13 (by decide) ?_
    refine lv_bipush (v := (7 : Int32)) hx hb dX9_pull_14 (by decide) ?_
    obtain ⟨z3_0, hc3, h⟩ := bd_ok h
    refine st_callS (As := [.int x2, .int (0 : Int32), .int (7 : Int32)]) (rest := []) (pos := []) ⟨hx, hb, hml, hown, hts⟩ (s_X9_in (l := l) (D := D) (tc := tc) hEok x2 (0 : Int32) (7 : Int32) z3_0 hc3) (va_cwS 3 hts gX9_pull_X9_in rfl rfl rfl (by decide +kernel) ⟨Nat.le_of_ble_eq_true rfl, Nat.le_of_ble_eq_true rfl⟩) hEok hE hK hN hP hD hS hA rfl rfl rfl rfl hl.1 rfl (Nat.le_of_ble_eq_true rfl) dX9_pull_16 ⟨Nat.zero_le _, Nat.zero_le _⟩ (fun H locs hP hD hS => ?_)
    have hP : va_P D vwCl (w_X9_pull tc q_th q_th_text q_th_saying q_th_signs q_th_sets q_th_told q_th_up q_th_down q_th_world q_th_tight q_th_sum q_th_now n_th_told (0 : Int32) th_typed th_next th_token th_place th_value th_fault th_many th_signMany th_setMany th_corners th_isLoaded th_loaded th_widened th_wide th_boundUp th_boundDown th_told) H := hP
    have hD : va_D A (w_X9_pull tc q_th q_th_text q_th_saying q_th_signs q_th_sets q_th_told q_th_up q_th_down q_th_world q_th_tight q_th_sum q_th_now n_th_told (0 : Int32) th_typed th_next th_token th_place th_value th_fault th_many th_signMany th_setMany th_corners th_isLoaded th_loaded th_widened th_wide th_boundUp th_boundDown th_told) := hD
    refine lv_if_eq (tgt := 50) hx hb dX9_pull_19 (by decide) (fun c4 => ?_) (fun c4 => ?_)
    · replace h := ifp c4 h
      refine lv_ldc2 (v := (-1000000000000000000 : Int64)) hx hb hown (hts (.constantLong RX9 190 (-1000000000000000000)) (by decide +kernel)) dX9_pull_50 ?_
      cases h
      exact st_lret hx hb hr hlocks hP hD hS dX9_pull_53
    · replace h := ifn c4 h
      refine lv_iload_n hx hb dX9_pull_22 rfl (lv_at hl 3 rfl) ?_
      obtain ⟨z5_0, hc5, h⟩ := bd_ok h
      refine st_callS (As := [.int x3]) (rest := []) (pos := []) ⟨hx, hb, hml, hown, hts⟩ (s_X9_isBit (l := l) (D := D) (tc := tc) hEok x3 z5_0 hc5) (va_cwS 1 hts gX9_pull_X9_isBit rfl rfl rfl (by decide +kernel) ⟨Nat.le_of_ble_eq_true rfl, Nat.le_of_ble_eq_true rfl⟩) hEok hE hK hN hP hD hS hA rfl rfl rfl rfl hl.1 rfl (Nat.le_of_ble_eq_true rfl) dX9_pull_23 ⟨Nat.zero_le _, Nat.zero_le _⟩ (fun H locs hP hD hS => ?_)
      have hP : va_P D vwCl (w_X9_pull tc q_th q_th_text q_th_saying q_th_signs q_th_sets q_th_told q_th_up q_th_down q_th_world q_th_tight q_th_sum q_th_now n_th_told (0 : Int32) th_typed th_next th_token th_place th_value th_fault th_many th_signMany th_setMany th_corners th_isLoaded th_loaded th_widened th_wide th_boundUp th_boundDown th_told) H := hP
      have hD : va_D A (w_X9_pull tc q_th q_th_text q_th_saying q_th_signs q_th_sets q_th_told q_th_up q_th_down q_th_world q_th_tight q_th_sum q_th_now n_th_told (0 : Int32) th_typed th_next th_token th_place th_value th_fault th_many th_signMany th_setMany th_corners th_isLoaded th_loaded th_widened th_wide th_boundUp th_boundDown th_told) := hD
      refine lv_if_eq (tgt := 50) hx hb dX9_pull_26 (by decide) (fun c6 => ?_) (fun c6 => ?_)
      · replace h := ifp c6 h
        refine lv_ldc2 (v := (-1000000000000000000 : Int64)) hx hb hown (hts (.constantLong RX9 190 (-1000000000000000000)) (by decide +kernel)) dX9_pull_50 ?_
        cases h
        exact st_lret hx hb hr hlocks hP hD hS dX9_pull_53
      · replace h := ifn c6 h
        refine lv_aload_n hx hb dX9_pull_29 rfl (lv_at hl 0 rfl) ?_
        refine lv_sipush (v := (255 : Int32)) hx hb dX9_pull_30 (by decide) ?_
        obtain ⟨z7_0, hc7, h⟩ := bd_ok h
        refine st_callV (As := [.int (255 : Int32)]) (rest := []) (pos := [0, 1]) ⟨hx, hb, hml, hown, hts⟩ (s_X9_toldOf (l := l) (D := D) (tc := tc) hEok q_th q_th_text q_th_saying q_th_signs q_th_sets q_th_told q_th_up q_th_down q_th_world q_th_tight q_th_sum q_th_now n_th_told (0 : Int32) th_typed th_next th_token th_place th_value th_fault th_many th_signMany th_setMany th_corners th_isLoaded th_loaded th_widened th_wide th_boundUp th_boundDown th_told (255 : Int32) K z7_0 hc7) (cwV 1 hts gX9_pull_X9_toldOf rfl rfl rfl (by decide +kernel) ⟨Nat.le_of_ble_eq_true rfl, Nat.le_of_ble_eq_true rfl⟩) (st_recv (ci := 9) (q0 := 0) hK hP rfl rfl) hEok hE hK hN hP hD hS hA rfl rfl rfl rfl hl.1 rfl (Nat.le_of_ble_eq_true rfl) dX9_pull_33 ⟨Nat.zero_le _, Nat.zero_le _⟩ (fun H locs hP hD hS => ?_)
        have hP : va_P D vwCl (w_X9_pull tc q_th q_th_text q_th_saying q_th_signs q_th_sets q_th_told q_th_up q_th_down q_th_world q_th_tight q_th_sum q_th_now n_th_told (0 : Int32) th_typed th_next th_token th_place th_value th_fault th_many th_signMany th_setMany th_corners th_isLoaded th_loaded th_widened th_wide th_boundUp th_boundDown th_told) H := hP
        have hD : va_D A (w_X9_pull tc q_th q_th_text q_th_saying q_th_signs q_th_sets q_th_told q_th_up q_th_down q_th_world q_th_tight q_th_sum q_th_now n_th_told (0 : Int32) th_typed th_next th_token th_place th_value th_fault th_many th_signMany th_setMany th_corners th_isLoaded th_loaded th_widened th_wide th_boundUp th_boundDown th_told) := hD
        refine lv_sipush (v := (1000 : Int32)) hx hb dX9_pull_36 (by decide) ?_
        refine lv_icmp_ne (tgt := 50) hx hb dX9_pull_39 (by decide) (fun c8 => ?_) (fun c8 => ?_)
        · replace h := ifn c8 h
          refine lv_ldc2 (v := (-1000000000000000000 : Int64)) hx hb hown (hts (.constantLong RX9 190 (-1000000000000000000)) (by decide +kernel)) dX9_pull_50 ?_
          cases h
          exact st_lret hx hb hr hlocks hP hD hS dX9_pull_53
        · replace h := ifp c8 h
          refine lv_aload_n hx hb dX9_pull_42 rfl (lv_at hl 0 rfl) ?_
          refine lv_iload_n hx hb dX9_pull_43 rfl (lv_at hl 1 rfl) ?_
          obtain ⟨z9_0, hc9, h⟩ := bd_ok h
          refine st_callV (As := [.int x1]) (rest := []) (pos := [0, 1]) ⟨hx, hb, hml, hown, hts⟩ (s_X9_toldOf (l := l) (D := D) (tc := tc) hEok q_th q_th_text q_th_saying q_th_signs q_th_sets q_th_told q_th_up q_th_down q_th_world q_th_tight q_th_sum q_th_now n_th_told (0 : Int32) th_typed th_next th_token th_place th_value th_fault th_many th_signMany th_setMany th_corners th_isLoaded th_loaded th_widened th_wide th_boundUp th_boundDown th_told x1 K z9_0 hc9) (cwV 1 hts gX9_pull_X9_toldOf rfl rfl rfl (by decide +kernel) ⟨Nat.le_of_ble_eq_true rfl, Nat.le_of_ble_eq_true rfl⟩) (st_recv (ci := 9) (q0 := 0) hK hP rfl rfl) hEok hE hK hN hP hD hS hA rfl rfl rfl rfl hl.1 rfl (Nat.le_of_ble_eq_true rfl) dX9_pull_44 ⟨Nat.zero_le _, Nat.zero_le _⟩ (fun H locs hP hD hS => ?_)
          have hP : va_P D vwCl (w_X9_pull tc q_th q_th_text q_th_saying q_th_signs q_th_sets q_th_told q_th_up q_th_down q_th_world q_th_tight q_th_sum q_th_now n_th_told (0 : Int32) th_typed th_next th_token th_place th_value th_fault th_many th_signMany th_setMany th_corners th_isLoaded th_loaded th_widened th_wide th_boundUp th_boundDown th_told) H := hP
          have hD : va_D A (w_X9_pull tc q_th q_th_text q_th_saying q_th_signs q_th_sets q_th_told q_th_up q_th_down q_th_world q_th_tight q_th_sum q_th_now n_th_told (0 : Int32) th_typed th_next th_token th_place th_value th_fault th_many th_signMany th_setMany th_corners th_isLoaded th_loaded th_widened th_wide th_boundUp th_boundDown th_told) := hD
          refine lv_if_ne (tgt := 54) hx hb dX9_pull_47 (by decide) (fun c10 => ?_) (fun c10 => ?_)
          · replace h := ifn c10 h
            refine lv_iload_n hx hb dX9_pull_54 rfl (lv_at hl 1 rfl) ?_
            refine lv_iload_n hx hb dX9_pull_55 rfl (lv_at hl 2 rfl) ?_
            refine lv_ishr hx hb dX9_pull_56 ?_
            refine lv_iconst (v := (1 : Int32)) hx hb dX9_pull_57 (by decide) ?_
            refine lv_iand hx hb dX9_pull_58 ?_
            refine lv_iconst (v := (1 : Int32)) hx hb dX9_pull_59 (by decide) ?_
            refine lv_icmp_ne (tgt := 73) hx hb dX9_pull_60 (by decide) (fun c11 => ?_) (fun c11 => ?_)
            · replace h := ifn c11 h
              refine lv_lconst (v := (0 : Int64)) hx hb dX9_pull_73 (by decide) ?_
              refine lv_aload_n hx hb dX9_pull_74 rfl (lv_at hl 0 rfl) ?_
              refine lv_iload_n hx hb dX9_pull_75 rfl (lv_at hl 1 rfl) ?_
              obtain ⟨z12_0, hc12, h⟩ := bd_ok h
              refine st_callV (As := [.int x1]) (rest := [.long (0 : Int64)]) (pos := [0, 1]) ⟨hx, hb, hml, hown, hts⟩ (s_X9_toldOf (l := l) (D := D) (tc := tc) hEok q_th q_th_text q_th_saying q_th_signs q_th_sets q_th_told q_th_up q_th_down q_th_world q_th_tight q_th_sum q_th_now n_th_told (0 : Int32) th_typed th_next th_token th_place th_value th_fault th_many th_signMany th_setMany th_corners th_isLoaded th_loaded th_widened th_wide th_boundUp th_boundDown th_told x1 K z12_0 hc12) (cwV 1 hts gX9_pull_X9_toldOf rfl rfl rfl (by decide +kernel) ⟨Nat.le_of_ble_eq_true rfl, Nat.le_of_ble_eq_true rfl⟩) (st_recv (ci := 9) (q0 := 0) hK hP rfl rfl) hEok hE hK hN hP hD hS hA rfl rfl rfl rfl hl.1 rfl (Nat.le_of_ble_eq_true rfl) dX9_pull_76 ⟨Nat.zero_le _, Nat.zero_le _⟩ (fun H locs hP hD hS => ?_)
              have hP : va_P D vwCl (w_X9_pull tc q_th q_th_text q_th_saying q_th_signs q_th_sets q_th_told q_th_up q_th_down q_th_world q_th_tight q_th_sum q_th_now n_th_told (0 : Int32) th_typed th_next th_token th_place th_value th_fault th_many th_signMany th_setMany th_corners th_isLoaded th_loaded th_widened th_wide th_boundUp th_boundDown th_told) H := hP
              have hD : va_D A (w_X9_pull tc q_th q_th_text q_th_saying q_th_signs q_th_sets q_th_told q_th_up q_th_down q_th_world q_th_tight q_th_sum q_th_now n_th_told (0 : Int32) th_typed th_next th_token th_place th_value th_fault th_many th_signMany th_setMany th_corners th_isLoaded th_loaded th_widened th_wide th_boundUp th_boundDown th_told) := hD
              refine lv_i2l (v := z12_0.toInt64) hx hb dX9_pull_79 rfl ?_
              refine lv_iload_n hx hb dX9_pull_80 rfl (lv_at hl 3 rfl) ?_
              obtain ⟨z13_0, hc13, h⟩ := bd_ok h
              refine st_callS (As := [.long (0 : Int64), .long z12_0.toInt64, .int x3]) (rest := []) (pos := []) ⟨hx, hb, hml, hown, hts⟩ (s_X9_tells (l := l) (D := D) (tc := tc) hEok (0 : Int64) z12_0.toInt64 x3 K z13_0 hc13) (va_cwS 3 hts gX9_pull_X9_tells rfl rfl rfl (by decide +kernel) ⟨Nat.le_of_ble_eq_true rfl, Nat.le_of_ble_eq_true rfl⟩) hEok hE hK hN hP hD hS hA rfl rfl rfl rfl hl.1 rfl (Nat.le_of_ble_eq_true rfl) dX9_pull_81 ⟨Nat.zero_le _, Nat.zero_le _⟩ (fun H locs hP hD hS => ?_)
              have hP : va_P D vwCl (w_X9_pull tc q_th q_th_text q_th_saying q_th_signs q_th_sets q_th_told q_th_up q_th_down q_th_world q_th_tight q_th_sum q_th_now n_th_told (0 : Int32) th_typed th_next th_token th_place th_value th_fault th_many th_signMany th_setMany th_corners th_isLoaded th_loaded th_widened th_wide th_boundUp th_boundDown th_told) H := hP
              have hD : va_D A (w_X9_pull tc q_th q_th_text q_th_saying q_th_signs q_th_sets q_th_told q_th_up q_th_down q_th_world q_th_tight q_th_sum q_th_now n_th_told (0 : Int32) th_typed th_next th_token th_place th_value th_fault th_many th_signMany th_setMany th_corners th_isLoaded th_loaded th_widened th_wide th_boundUp th_boundDown th_told) := hD
              cases h
              exact st_lret hx hb hr hlocks hP hD hS dX9_pull_84
            · replace h := ifp c11 h
              refine lv_aload_n hx hb dX9_pull_63 rfl (lv_at hl 0 rfl) ?_
              refine va_get (D := D) (ci := 9) (v := .ref q_th_told) (C := RX9) (T := TX9) (N := 28) hx hb hts hinX9 hown hK hP 0 rfl rfl 14 (by decide) (hts (.fieldLink RX9 22 "ChanceBoundsModel" "told" "[I") (by decide +kernel)) (fun _ h9 => h9) rfl dX9_pull_64 ?_
              refine lv_iload_n hx hb dX9_pull_67 rfl (lv_at hl 2 rfl) ?_
              obtain ⟨g14, h⟩ := gd_ok h
              refine va_iald hx hb hK hP 1 0 rfl rfl g14 dX9_pull_68 ?_
              refine lv_i2l (v := (th_told x2.toNatClampNeg).toInt64) hx hb dX9_pull_69 rfl ?_
              refine lv_goto (tgt := 74) hx hb dX9_pull_70 (by decide) ?_
              refine lv_aload_n hx hb dX9_pull_74 rfl (lv_at hl 0 rfl) ?_
              refine lv_iload_n hx hb dX9_pull_75 rfl (lv_at hl 1 rfl) ?_
              obtain ⟨z15_0, hc15, h⟩ := bd_ok h
              refine st_callV (As := [.int x1]) (rest := [.long ((th_told x2.toNatClampNeg).toInt64)]) (pos := [0, 1]) ⟨hx, hb, hml, hown, hts⟩ (s_X9_toldOf (l := l) (D := D) (tc := tc) hEok q_th q_th_text q_th_saying q_th_signs q_th_sets q_th_told q_th_up q_th_down q_th_world q_th_tight q_th_sum q_th_now n_th_told (0 : Int32) th_typed th_next th_token th_place th_value th_fault th_many th_signMany th_setMany th_corners th_isLoaded th_loaded th_widened th_wide th_boundUp th_boundDown th_told x1 K z15_0 hc15) (cwV 1 hts gX9_pull_X9_toldOf rfl rfl rfl (by decide +kernel) ⟨Nat.le_of_ble_eq_true rfl, Nat.le_of_ble_eq_true rfl⟩) (st_recv (ci := 9) (q0 := 0) hK hP rfl rfl) hEok hE hK hN hP hD hS hA rfl rfl rfl rfl hl.1 rfl (Nat.le_of_ble_eq_true rfl) dX9_pull_76 ⟨Nat.zero_le _, Nat.zero_le _⟩ (fun H locs hP hD hS => ?_)
              have hP : va_P D vwCl (w_X9_pull tc q_th q_th_text q_th_saying q_th_signs q_th_sets q_th_told q_th_up q_th_down q_th_world q_th_tight q_th_sum q_th_now n_th_told (0 : Int32) th_typed th_next th_token th_place th_value th_fault th_many th_signMany th_setMany th_corners th_isLoaded th_loaded th_widened th_wide th_boundUp th_boundDown th_told) H := hP
              have hD : va_D A (w_X9_pull tc q_th q_th_text q_th_saying q_th_signs q_th_sets q_th_told q_th_up q_th_down q_th_world q_th_tight q_th_sum q_th_now n_th_told (0 : Int32) th_typed th_next th_token th_place th_value th_fault th_many th_signMany th_setMany th_corners th_isLoaded th_loaded th_widened th_wide th_boundUp th_boundDown th_told) := hD
              refine lv_i2l (v := z15_0.toInt64) hx hb dX9_pull_79 rfl ?_
              refine lv_iload_n hx hb dX9_pull_80 rfl (lv_at hl 3 rfl) ?_
              obtain ⟨z16_0, hc16, h⟩ := bd_ok h
              refine st_callS (As := [.long ((th_told x2.toNatClampNeg).toInt64), .long z15_0.toInt64, .int x3]) (rest := []) (pos := []) ⟨hx, hb, hml, hown, hts⟩ (s_X9_tells (l := l) (D := D) (tc := tc) hEok ((th_told x2.toNatClampNeg).toInt64) z15_0.toInt64 x3 K z16_0 hc16) (va_cwS 3 hts gX9_pull_X9_tells rfl rfl rfl (by decide +kernel) ⟨Nat.le_of_ble_eq_true rfl, Nat.le_of_ble_eq_true rfl⟩) hEok hE hK hN hP hD hS hA rfl rfl rfl rfl hl.1 rfl (Nat.le_of_ble_eq_true rfl) dX9_pull_81 ⟨Nat.zero_le _, Nat.zero_le _⟩ (fun H locs hP hD hS => ?_)
              have hP : va_P D vwCl (w_X9_pull tc q_th q_th_text q_th_saying q_th_signs q_th_sets q_th_told q_th_up q_th_down q_th_world q_th_tight q_th_sum q_th_now n_th_told (0 : Int32) th_typed th_next th_token th_place th_value th_fault th_many th_signMany th_setMany th_corners th_isLoaded th_loaded th_widened th_wide th_boundUp th_boundDown th_told) H := hP
              have hD : va_D A (w_X9_pull tc q_th q_th_text q_th_saying q_th_signs q_th_sets q_th_told q_th_up q_th_down q_th_world q_th_tight q_th_sum q_th_now n_th_told (0 : Int32) th_typed th_next th_token th_place th_value th_fault th_many th_signMany th_setMany th_corners th_isLoaded th_loaded th_widened th_wide th_boundUp th_boundDown th_told) := hD
              cases h
              exact st_lret hx hb hr hlocks hP hD hS dX9_pull_84
          · replace h := ifp c10 h
            refine lv_ldc2 (v := (-1000000000000000000 : Int64)) hx hb hown (hts (.constantLong RX9 190 (-1000000000000000000)) (by decide +kernel)) dX9_pull_50 ?_
            cases h
            exact st_lret hx hb hr hlocks hP hD hS dX9_pull_53
def f_X9_count (K : Nat) (n_th_saying : Nat) (n_th_told : Nat) (th_typed : Int32) (th_many : Int32) (th_saying : Nat → Int32) (th_told : Nat → Int32) (x1 : Int32) : Option (Int32 × Int32) :=
  if x1 = (0 : Int32) then
    some (th_many, (0 : Int32))
  else
    if x1 = (1 : Int32) then
      (f_X9_ons K n_th_saying th_many th_saying).bind fun z6_0 =>
      (f_X9_ones K z6_0).bind fun z7_0 =>
      some (z7_0, (0 : Int32))
    else
      if x1 = (2 : Int32) then
        some (th_typed, (0 : Int32))
      else
        if x1 = (3 : Int32) then
          (f_X9_toldOf K n_th_told th_told (255 : Int32)).bind fun z5_0 =>
          some (z5_0, (0 : Int32))
        else
          some ((-1 : Int32), (0 : Int32))
abbrev w_X9_count (tc : Nat → ClassId) (q_th : Nat) (q_th_text : Nat) (q_th_saying : Nat) (q_th_signs : Nat) (q_th_sets : Nat) (q_th_told : Nat) (q_th_up : Nat) (q_th_down : Nat) (q_th_world : Nat) (q_th_tight : Nat) (q_th_sum : Nat) (q_th_now : Nat) (n_th_saying : Nat) (n_th_told : Nat) (th_thrown : Int32) (th_typed : Int32) (th_next : Int32) (th_token : Int32) (th_place : Int32) (th_value : Int32) (th_fault : Int32) (th_many : Int32) (th_signMany : Int32) (th_setMany : Int32) (th_corners : Int32) (th_isLoaded : Int32) (th_loaded : Int32) (th_widened : Int32) (th_wide : Int32) (th_boundUp : Int64) (th_boundDown : Int64) (th_saying : Nat → Int32) (th_told : Nat → Int32) : va_W := [(q_th, .inr (9, [.int th_thrown, .ref q_th_text, .int th_typed, .int th_next, .int th_token, .int th_place, .int th_value, .int th_fault, .int th_many, .ref q_th_saying, .ref q_th_signs, .ref q_th_sets, .int th_signMany, .int th_setMany, .ref q_th_told, .int th_corners, .int th_isLoaded, .int th_loaded, .ref q_th_up, .ref q_th_down, .ref q_th_world, .ref q_th_tight, .ref q_th_sum, .ref q_th_now, .int th_widened, .int th_wide, .long th_boundUp, .long th_boundDown])), (q_th_saying, .inl (tc 0, n_th_saying, .inl th_saying)), (q_th_told, .inl (tc 0, n_th_told, .inl th_told))]
set_option maxHeartbeats 4000000 in
set_option maxRecDepth 100000 in
theorem s_X9_count {l : Launch} {E : (Nat → Prop) → State → Prop} (hEok : st_Eok E) {D : va_G} {tc : Nat → ClassId} (q_th : Nat) (q_th_text : Nat) (q_th_saying : Nat) (q_th_signs : Nat) (q_th_sets : Nat) (q_th_told : Nat) (q_th_up : Nat) (q_th_down : Nat) (q_th_world : Nat) (q_th_tight : Nat) (q_th_sum : Nat) (q_th_now : Nat) (n_th_saying : Nat) (n_th_told : Nat) (th_thrown : Int32) (th_typed : Int32) (th_next : Int32) (th_token : Int32) (th_place : Int32) (th_value : Int32) (th_fault : Int32) (th_many : Int32) (th_signMany : Int32) (th_setMany : Int32) (th_corners : Int32) (th_isLoaded : Int32) (th_loaded : Int32) (th_widened : Int32) (th_wide : Int32) (th_boundUp : Int64) (th_boundDown : Int64) (th_saying : Nat → Int32) (th_told : Nat → Int32) (x1 : Int32) (K : Nat) (r0 : Int32) (th_thrown' : Int32) (h : f_X9_count K n_th_saying n_th_told th_typed th_many th_saying th_told x1 = some (r0, th_thrown')) : st l yX9_count wsX9_count ({ frames := 1, cells := 0, slots := 0, locals := 23 }) E D tc [.ref q_th, .int x1] (w_X9_count tc q_th q_th_text q_th_saying q_th_signs q_th_sets q_th_told q_th_up q_th_down q_th_world q_th_tight q_th_sum q_th_now n_th_saying n_th_told th_thrown th_typed th_next th_token th_place th_value th_fault th_many th_signMany th_setMany th_corners th_isLoaded th_loaded th_widened th_wide th_boundUp th_boundDown th_saying th_told) (some (.int r0)) (w_X9_count tc q_th q_th_text q_th_saying q_th_signs q_th_sets q_th_told q_th_up q_th_down q_th_world q_th_tight q_th_sum q_th_now n_th_saying n_th_told th_thrown' th_typed th_next th_token th_place th_value th_fault th_many th_signMany th_setMany th_corners th_isLoaded th_loaded th_widened th_wide th_boundUp th_boundDown th_saying th_told) := by
  refine st_enter (cc := cX9_count) (maxL := 2) (ret := (some .int)) (by decide) rfl (Nat.le_of_ble_eq_true rfl) ?_
  intro p e s m below meth c A ls hx hb hr hml hts hown hlocks hK hN hE hA hP hD hS hl
  have hl : lv_has ls 2 [(0, .ref q_th), (1, .int x1)] := hl
  have hinX9 : ∀ w ∈ wsX90, w ∈ wsX9_count := by decide +kernel
  generalize hav : ([.ref q_th, .int x1] : List Value).toArray = av at hts ⊢
  unfold f_X9_count at h
  refine lv_aload_n hx hb dX9_count_0 rfl (lv_at hl 0 rfl) ?_
  refine lv_iconst (v := (0 : Int32)) hx hb dX9_count_1 (by decide) ?_
  refine va_put (D := D) (ci := 9) (v := .int (0 : Int32)) (ty := .int) (C := RX9) (T := TX9) (N := 28) hx hb hts hinX9 tyX9 tyX9_ok nmX9 hown hK hP hD hS 0 rfl rfl 0 (by decide) (hts (.fieldLink RX9 45 "ChanceBoundsModel" "thrown" "I") (by decide +kernel)) (fun _ h9 => h9) rfl (by decide +kernel) rfl rfl (Nat.le_of_ble_eq_true rfl) dX9_count_2 (fun H locs hP hD hS => ?_)
  have hP : va_P D vwCl (w_X9_count tc q_th q_th_text q_th_saying q_th_signs q_th_sets q_th_told q_th_up q_th_down q_th_world q_th_tight q_th_sum q_th_now n_th_saying n_th_told (0 : Int32) th_typed th_next th_token th_place th_value th_fault th_many th_signMany th_setMany th_corners th_isLoaded th_loaded th_widened th_wide th_boundUp th_boundDown th_saying th_told) H := hP
  have hD : va_D A (w_X9_count tc q_th q_th_text q_th_saying q_th_signs q_th_sets q_th_told q_th_up q_th_down q_th_world q_th_tight q_th_sum q_th_now n_th_saying n_th_told (0 : Int32) th_typed th_next th_token th_place th_value th_fault th_many th_signMany th_setMany th_corners th_isLoaded th_loaded th_widened th_wide th_boundUp th_boundDown th_saying th_told) := hD
  refine lv_iload_n hx hb dX9_count_5 rfl (lv_at hl 1 rfl) ?_
  refine lv_if_ne (tgt := 16) hx hb dX9_count_6 (by decide) (fun c1 => ?_) (fun c1 => ?_)
  · replace h := ifn c1 h
    refine lv_iload_n hx hb dX9_count_16 rfl (lv_at hl 1 rfl) ?_
    refine lv_iconst (v := (1 : Int32)) hx hb dX9_count_17 (by decide) ?_
    refine lv_icmp_ne (tgt := 31) hx hb dX9_count_18 (by decide) (fun c2 => ?_) (fun c2 => ?_)
    · replace h := ifn c2 h
      refine lv_iload_n hx hb dX9_count_31 rfl (lv_at hl 1 rfl) ?_
      refine lv_iconst (v := (2 : Int32)) hx hb dX9_count_32 (by decide) ?_
      refine lv_icmp_ne (tgt := 43) hx hb dX9_count_33 (by decide) (fun c3 => ?_) (fun c3 => ?_)
      · replace h := ifn c3 h
        refine lv_iload_n hx hb dX9_count_43 rfl (lv_at hl 1 rfl) ?_
        refine lv_iconst (v := (3 : Int32)) hx hb dX9_count_44 (by decide) ?_
        refine lv_icmp_ne (tgt := 58) hx hb dX9_count_45 (by decide) (fun c4 => ?_) (fun c4 => ?_)
        · replace h := ifn c4 h
          refine lv_iconst (v := (-1 : Int32)) hx hb dX9_count_58 (by decide) ?_
          cases h
          exact st_iret hx hb hr hlocks hP hD hS dX9_count_59
        · replace h := ifp c4 h
          refine lv_aload_n hx hb dX9_count_48 rfl (lv_at hl 0 rfl) ?_
          refine lv_sipush (v := (255 : Int32)) hx hb dX9_count_49 (by decide) ?_
          obtain ⟨z5_0, hc5, h⟩ := bd_ok h
          refine st_callV (As := [.int (255 : Int32)]) (rest := []) (pos := [0, 2]) ⟨hx, hb, hml, hown, hts⟩ (s_X9_toldOf (l := l) (D := D) (tc := tc) hEok q_th q_th_text q_th_saying q_th_signs q_th_sets q_th_told q_th_up q_th_down q_th_world q_th_tight q_th_sum q_th_now n_th_told (0 : Int32) th_typed th_next th_token th_place th_value th_fault th_many th_signMany th_setMany th_corners th_isLoaded th_loaded th_widened th_wide th_boundUp th_boundDown th_told (255 : Int32) K z5_0 hc5) (cwV 1 hts gX9_count_X9_toldOf rfl rfl rfl (by decide +kernel) ⟨Nat.le_of_ble_eq_true rfl, Nat.le_of_ble_eq_true rfl⟩) (st_recv (ci := 9) (q0 := 0) hK hP rfl rfl) hEok hE hK hN hP hD hS hA rfl rfl rfl rfl hl.1 rfl (Nat.le_of_ble_eq_true rfl) dX9_count_52 ⟨Nat.zero_le _, Nat.zero_le _⟩ (fun H locs hP hD hS => ?_)
          have hP : va_P D vwCl (w_X9_count tc q_th q_th_text q_th_saying q_th_signs q_th_sets q_th_told q_th_up q_th_down q_th_world q_th_tight q_th_sum q_th_now n_th_saying n_th_told (0 : Int32) th_typed th_next th_token th_place th_value th_fault th_many th_signMany th_setMany th_corners th_isLoaded th_loaded th_widened th_wide th_boundUp th_boundDown th_saying th_told) H := hP
          have hD : va_D A (w_X9_count tc q_th q_th_text q_th_saying q_th_signs q_th_sets q_th_told q_th_up q_th_down q_th_world q_th_tight q_th_sum q_th_now n_th_saying n_th_told (0 : Int32) th_typed th_next th_token th_place th_value th_fault th_many th_signMany th_setMany th_corners th_isLoaded th_loaded th_widened th_wide th_boundUp th_boundDown th_saying th_told) := hD
          refine lv_goto (tgt := 59) hx hb dX9_count_55 (by decide) ?_
          cases h
          exact st_iret hx hb hr hlocks hP hD hS dX9_count_59
      · replace h := ifp c3 h
        refine lv_aload_n hx hb dX9_count_36 rfl (lv_at hl 0 rfl) ?_
        refine va_get (D := D) (ci := 9) (v := .int th_typed) (C := RX9) (T := TX9) (N := 28) hx hb hts hinX9 hown hK hP 0 rfl rfl 2 (by decide) (hts (.fieldLink RX9 56 "ChanceBoundsModel" "typed" "I") (by decide +kernel)) (fun _ h9 => h9) rfl dX9_count_37 ?_
        refine lv_goto (tgt := 59) hx hb dX9_count_40 (by decide) ?_
        cases h
        exact st_iret hx hb hr hlocks hP hD hS dX9_count_59
    · replace h := ifp c2 h
      refine lv_aload_n hx hb dX9_count_21 rfl (lv_at hl 0 rfl) ?_
      obtain ⟨z6_0, hc6, h⟩ := bd_ok h
      refine st_callV (As := []) (rest := []) (pos := [0, 1]) ⟨hx, hb, hml, hown, hts⟩ (s_X9_ons (l := l) (D := D) (tc := tc) hEok q_th q_th_text q_th_saying q_th_signs q_th_sets q_th_told q_th_up q_th_down q_th_world q_th_tight q_th_sum q_th_now n_th_saying (0 : Int32) th_typed th_next th_token th_place th_value th_fault th_many th_signMany th_setMany th_corners th_isLoaded th_loaded th_widened th_wide th_boundUp th_boundDown th_saying K z6_0 hc6) (cwV 0 hts gX9_count_X9_ons rfl rfl rfl (by decide +kernel) ⟨Nat.le_of_ble_eq_true rfl, Nat.le_of_ble_eq_true rfl⟩) (st_recv (ci := 9) (q0 := 0) hK hP rfl rfl) hEok hE hK hN hP hD hS hA rfl rfl rfl rfl hl.1 rfl (Nat.le_of_ble_eq_true rfl) dX9_count_22 ⟨Nat.zero_le _, Nat.zero_le _⟩ (fun H locs hP hD hS => ?_)
      have hP : va_P D vwCl (w_X9_count tc q_th q_th_text q_th_saying q_th_signs q_th_sets q_th_told q_th_up q_th_down q_th_world q_th_tight q_th_sum q_th_now n_th_saying n_th_told (0 : Int32) th_typed th_next th_token th_place th_value th_fault th_many th_signMany th_setMany th_corners th_isLoaded th_loaded th_widened th_wide th_boundUp th_boundDown th_saying th_told) H := hP
      have hD : va_D A (w_X9_count tc q_th q_th_text q_th_saying q_th_signs q_th_sets q_th_told q_th_up q_th_down q_th_world q_th_tight q_th_sum q_th_now n_th_saying n_th_told (0 : Int32) th_typed th_next th_token th_place th_value th_fault th_many th_signMany th_setMany th_corners th_isLoaded th_loaded th_widened th_wide th_boundUp th_boundDown th_saying th_told) := hD
      obtain ⟨z7_0, hc7, h⟩ := bd_ok h
      refine st_callS (As := [.int z6_0]) (rest := []) (pos := []) ⟨hx, hb, hml, hown, hts⟩ (s_X9_ones (l := l) (D := D) (tc := tc) hEok z6_0 K z7_0 hc7) (va_cwS 1 hts gX9_count_X9_ones rfl rfl rfl (by decide +kernel) ⟨Nat.le_of_ble_eq_true rfl, Nat.le_of_ble_eq_true rfl⟩) hEok hE hK hN hP hD hS hA rfl rfl rfl rfl hl.1 rfl (Nat.le_of_ble_eq_true rfl) dX9_count_25 ⟨Nat.zero_le _, Nat.zero_le _⟩ (fun H locs hP hD hS => ?_)
      have hP : va_P D vwCl (w_X9_count tc q_th q_th_text q_th_saying q_th_signs q_th_sets q_th_told q_th_up q_th_down q_th_world q_th_tight q_th_sum q_th_now n_th_saying n_th_told (0 : Int32) th_typed th_next th_token th_place th_value th_fault th_many th_signMany th_setMany th_corners th_isLoaded th_loaded th_widened th_wide th_boundUp th_boundDown th_saying th_told) H := hP
      have hD : va_D A (w_X9_count tc q_th q_th_text q_th_saying q_th_signs q_th_sets q_th_told q_th_up q_th_down q_th_world q_th_tight q_th_sum q_th_now n_th_saying n_th_told (0 : Int32) th_typed th_next th_token th_place th_value th_fault th_many th_signMany th_setMany th_corners th_isLoaded th_loaded th_widened th_wide th_boundUp th_boundDown th_saying th_told) := hD
      refine lv_goto (tgt := 59) hx hb dX9_count_28 (by decide) ?_
      cases h
      exact st_iret hx hb hr hlocks hP hD hS dX9_count_59
  · replace h := ifp c1 h
    refine lv_aload_n hx hb dX9_count_9 rfl (lv_at hl 0 rfl) ?_
    refine va_get (D := D) (ci := 9) (v := .int th_many) (C := RX9) (T := TX9) (N := 28) hx hb hts hinX9 hown hK hP 0 rfl rfl 8 (by decide) (hts (.fieldLink RX9 49 "ChanceBoundsModel" "many" "I") (by decide +kernel)) (fun _ h9 => h9) rfl dX9_count_10 ?_
    refine lv_goto (tgt := 59) hx hb dX9_count_13 (by decide) ?_
    cases h
    exact st_iret hx hb hr hlocks hP hD hS dX9_count_59

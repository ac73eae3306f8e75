def f_X9_loads_L81 (n_th_world : Nat) (x2 : Int32) (x3 : Int32) (s81 : Int32 × Int32 × (Nat → Int32)) : Option (((Nat → Int32)) ⊕ (Int32 × Int32 × (Nat → Int32))) :=
  match s81 with
  | (x4, x5, th_world) =>
    if (8 : Int32) ≤ x5 then
      some (.inl th_world)
    else
      if (6 : Int32) ≤ x3 then
        some (.inl th_world)
      else
        if ((x2 >>> (x5 &&& 31)) &&& (1 : Int32)) = (1 : Int32) then
          if x4 < 0 ∨ n_th_world ≤ x4.toNatClampNeg then none else
          some (.inr (x4 + 1, x5 + 1, upd th_world x4.toNatClampNeg x5))
        else
          some (.inr (x4, x5 + 1, th_world))
def f_X9_loads_L168 (n_th_tight : Nat) (th_many : Int32) (x5 : Int32) (s168 : Int32 × Int32 × (Nat → Int32)) : Option (((Nat → Int32)) ⊕ (Int32 × Int32 × (Nat → Int32))) :=
  match s168 with
  | (x6, x7, th_tight) =>
    if th_many ≤ x7 then
      some (.inl th_tight)
    else
      if ((x5 >>> (x7 &&& 31)) &&& (1 : Int32)) = (1 : Int32) then
        if x6 < 0 ∨ n_th_tight ≤ x6.toNatClampNeg then none else
        some (.inr (x6 + 1, x7 + 1, upd th_tight x6.toNatClampNeg x7))
      else
        some (.inr (x6, x7 + 1, th_tight))
def f_X9_loads_L209 (K : Nat) (n_th_saying : Nat) (n_th_up : Nat) (n_th_down : Nat) (n_th_world : Nat) (n_th_tight : Nat) (n_th_sum : Nat) (n_th_now : Nat) (th_many : Int32) (th_widened : Int32) (th_wide : Int32) (th_saying : Nat → Int32) (th_world : Nat → Int32) (th_tight : Nat → Int32) (x1 : Int32) (x3 : Int32) (s209 : Int32 × Int32 × (Nat → Int64) × (Nat → Int64) × (Nat → Int64) × (Nat → Int64)) : Option ((Int32 × (Nat → Int64) × (Nat → Int64) × (Nat → Int64) × (Nat → Int64)) ⊕ (Int32 × Int32 × (Nat → Int64) × (Nat → Int64) × (Nat → Int64) × (Nat → Int64))) :=
  match s209 with
  | (x7, th_corners, th_up, th_down, th_sum, th_now) =>
    if ((1 : Int32) <<< ((x3 - (1 : Int32)) &&& 31)) ≤ x7 then
      some (.inl (th_corners, th_up, th_down, th_sum, th_now))
    else
      (f_X9_corner K n_th_saying n_th_up n_th_down n_th_world n_th_tight n_th_sum n_th_now th_many th_corners th_widened th_wide th_saying th_up th_down th_world th_tight th_sum th_now x3 x7 x1).bind fun z9 => match z9 with
      | (z9_0, z9_1, z9_2, z9_3, z9_4) =>
        some (.inr (x7 + 1, z9_0, z9_1, z9_2, z9_3, z9_4))
def f_X9_loads_L125 (K : Nat) (n_th_saying : Nat) (n_th_up : Nat) (n_th_down : Nat) (n_th_world : Nat) (n_th_tight : Nat) (n_th_sum : Nat) (n_th_now : Nat) (th_many : Int32) (th_widened : Int32) (th_wide : Int32) (th_saying : Nat → Int32) (th_world : Nat → Int32) (x1 : Int32) (x3 : Int32) (s125 : Int32 × Int32 × (Nat → Int64) × (Nat → Int64) × (Nat → Int32) × (Nat → Int64) × (Nat → Int64)) : Option ((Int32 × (Nat → Int64) × (Nat → Int64) × (Nat → Int32) × (Nat → Int64) × (Nat → Int64)) ⊕ (Int32 × Int32 × (Nat → Int64) × (Nat → Int64) × (Nat → Int32) × (Nat → Int64) × (Nat → Int64))) :=
  match s125 with
  | (x5, th_corners, th_up, th_down, th_tight, th_sum, th_now) =>
    if ((1 : Int32) <<< (th_many &&& 31)) ≤ x5 then
      some (.inl (th_corners, th_up, th_down, th_tight, th_sum, th_now))
    else
      if (6 : Int32) ≤ x3 then
        some (.inl (th_corners, th_up, th_down, th_tight, th_sum, th_now))
      else
        if (x5 &&& (x1 ^^^ (-1 : Int32))) = (0 : Int32) then
          (f_X9_ones K x5).bind fun z13_0 =>
          if z13_0 = (x3 - (1 : Int32)) then
            (lp (f_X9_loads_L168 n_th_tight th_many x5) K ((0 : Int32), (0 : Int32), th_tight)).bind fun z15_0 =>
            (lp (f_X9_loads_L209 K n_th_saying n_th_up n_th_down n_th_world n_th_tight n_th_sum n_th_now th_many th_widened th_wide th_saying th_world z15_0 x1 x3) K ((0 : Int32), th_corners, th_up, th_down, th_sum, th_now)).bind fun z16 => match z16 with
            | (z16_0, z16_1, z16_2, z16_3, z16_4) =>
              some (.inr (x5 + 1, z16_0, z16_1, z16_2, z15_0, z16_3, z16_4))
          else
            some (.inr (x5 + 1, th_corners, th_up, th_down, th_tight, th_sum, th_now))
        else
          some (.inr (x5 + 1, th_corners, th_up, th_down, th_tight, th_sum, th_now))
def f_X9_loads_L63 (K : Nat) (n_th_saying : Nat) (n_th_up : Nat) (n_th_down : Nat) (n_th_world : Nat) (n_th_tight : Nat) (n_th_sum : Nat) (n_th_now : Nat) (th_many : Int32) (th_widened : Int32) (th_wide : Int32) (th_saying : Nat → Int32) (x1 : Int32) (s63 : Int32 × Int32 × (Nat → Int64) × (Nat → Int64) × (Nat → Int32) × (Nat → Int32) × (Nat → Int64) × (Nat → Int64)) : Option ((Int32 × (Nat → Int64) × (Nat → Int64) × (Nat → Int32) × (Nat → Int32) × (Nat → Int64) × (Nat → Int64)) ⊕ (Int32 × Int32 × (Nat → Int64) × (Nat → Int64) × (Nat → Int32) × (Nat → Int32) × (Nat → Int64) × (Nat → Int64))) :=
  match s63 with
  | (x2, th_corners, th_up, th_down, th_world, th_tight, th_sum, th_now) =>
    if (256 : Int32) ≤ x2 then
      some (.inl (th_corners, th_up, th_down, th_world, th_tight, th_sum, th_now))
    else
      (f_X9_ones K x2).bind fun z18_0 =>
      (lp (f_X9_loads_L81 n_th_world x2 z18_0) K ((0 : Int32), (0 : Int32), th_world)).bind fun z19_0 =>
      (lp (f_X9_loads_L125 K n_th_saying n_th_up n_th_down n_th_world n_th_tight n_th_sum n_th_now th_many th_widened th_wide th_saying z19_0 x1 z18_0) K ((0 : Int32), th_corners, th_up, th_down, th_tight, th_sum, th_now)).bind fun z20 => match z20 with
      | (z20_0, z20_1, z20_2, z20_3, z20_4, z20_5) =>
        some (.inr (x2 + 1, z20_0, z20_1, z20_2, z19_0, z20_3, z20_4, z20_5))
def f_X9_loads_J35 (K : Nat) (n_th_saying : Nat) (n_th_up : Nat) (n_th_down : Nat) (n_th_world : Nat) (n_th_tight : Nat) (n_th_sum : Nat) (n_th_now : Nat) (th_many : Int32) (th_widened : Int32) (th_wide : Int32) (th_saying : Nat → Int32) (th_up : Nat → Int64) (th_down : Nat → Int64) (th_world : Nat → Int32) (th_tight : Nat → Int32) (th_sum : Nat → Int64) (th_now : Nat → Int64) (x1 : Int32) : Option (Int32 × Int32 × Int32 × Int32 × (Nat → Int64) × (Nat → Int64) × (Nat → Int32) × (Nat → Int32) × (Nat → Int64) × (Nat → Int64)) :=
  if th_widened = (0 : Int32) then
    (lp (f_X9_loads_L63 K n_th_saying n_th_up n_th_down n_th_world n_th_tight n_th_sum n_th_now th_many th_widened th_wide th_saying x1) K ((1 : Int32), (0 : Int32), th_up, th_down, th_world, th_tight, th_sum, th_now)).bind fun z24 => match z24 with
    | (z24_0, z24_1, z24_2, z24_3, z24_4, z24_5, z24_6) =>
      if z24_0 ≤ (0 : Int32) then
        some ((0 : Int32), z24_0, (1 : Int32), x1, z24_1, z24_2, z24_3, z24_4, z24_5, z24_6)
      else
        some ((1 : Int32), z24_0, (1 : Int32), x1, z24_1, z24_2, z24_3, z24_4, z24_5, z24_6)
  else
    (lp (f_X9_loads_L63 K n_th_saying n_th_up n_th_down n_th_world n_th_tight n_th_sum n_th_now th_many th_widened th_wide th_saying x1) K ((1 : Int32), (0 : Int32), th_up, th_down, th_world, th_tight, th_sum, th_now)).bind fun z22 => match z22 with
    | (z22_0, z22_1, z22_2, z22_3, z22_4, z22_5, z22_6) =>
      if z22_0 ≤ (0 : Int32) then
        some ((0 : Int32), z22_0, (0 : Int32), x1, z22_1, z22_2, z22_3, z22_4, z22_5, z22_6)
      else
        some ((1 : Int32), z22_0, (0 : Int32), x1, z22_1, z22_2, z22_3, z22_4, z22_5, z22_6)
def f_X9_loads (K : Nat) (n_th_saying : Nat) (n_th_up : Nat) (n_th_down : Nat) (n_th_world : Nat) (n_th_tight : Nat) (n_th_sum : Nat) (n_th_now : Nat) (th_many : Int32) (th_corners : Int32) (th_isLoaded : Int32) (th_loaded : Int32) (th_widened : Int32) (th_wide : Int32) (th_saying : Nat → Int32) (th_up : Nat → Int64) (th_down : Nat → Int64) (th_world : Nat → Int32) (th_tight : Nat → Int32) (th_sum : Nat → Int64) (th_now : Nat → Int64) (x1 : Int32) : Option (Int32 × Int32 × Int32 × Int32 × (Nat → Int64) × (Nat → Int64) × (Nat → Int32) × (Nat → Int32) × (Nat → Int64) × (Nat → Int64)) :=
  if th_isLoaded = (0 : Int32) then
    f_X9_loads_J35 K n_th_saying n_th_up n_th_down n_th_world n_th_tight n_th_sum n_th_now th_many th_widened th_wide th_saying th_up th_down th_world th_tight th_sum th_now x1
  else
    if th_loaded = x1 then
      if th_widened = (0 : Int32) then
        if th_corners ≤ (0 : Int32) then
          some ((0 : Int32), th_corners, th_isLoaded, th_loaded, th_up, th_down, th_world, th_tight, th_sum, th_now)
        else
          some ((1 : Int32), th_corners, th_isLoaded, th_loaded, th_up, th_down, th_world, th_tight, th_sum, th_now)
      else
        f_X9_loads_J35 K n_th_saying n_th_up n_th_down n_th_world n_th_tight n_th_sum n_th_now th_many th_widened th_wide th_saying th_up th_down th_world th_tight th_sum th_now x1
    else
      f_X9_loads_J35 K n_th_saying n_th_up n_th_down n_th_world n_th_tight n_th_sum n_th_now th_many th_widened th_wide th_saying th_up th_down th_world th_tight th_sum th_now x1
abbrev w_X9_loads (tc : Nat → ClassId) (q_th : Nat) (q_th_text : Nat) (q_th_saying : Nat) (q_th_signs : Nat) (q_th_sets : Nat) (q_th_told : Nat) (q_th_up : Nat) (q_th_down : Nat) (q_th_world : Nat) (q_th_tight : Nat) (q_th_sum : Nat) (q_th_now : Nat) (n_th_saying : Nat) (n_th_up : Nat) (n_th_down : Nat) (n_th_world : Nat) (n_th_tight : Nat) (n_th_sum : Nat) (n_th_now : Nat) (th_thrown : Int32) (th_typed : Int32) (th_next : Int32) (th_token : Int32) (th_place : Int32) (th_value : Int32) (th_fault : Int32) (th_many : Int32) (th_signMany : Int32) (th_setMany : Int32) (th_corners : Int32) (th_isLoaded : Int32) (th_loaded : Int32) (th_widened : Int32) (th_wide : Int32) (th_boundUp : Int64) (th_boundDown : Int64) (th_saying : Nat → Int32) (th_up : Nat → Int64) (th_down : Nat → Int64) (th_world : Nat → Int32) (th_tight : Nat → Int32) (th_sum : Nat → Int64) (th_now : Nat → Int64) : va_W := [(q_th, .inr (9, [.int th_thrown, .ref q_th_text, .int th_typed, .int th_next, .int th_token, .int th_place, .int th_value, .int th_fault, .int th_many, .ref q_th_saying, .ref q_th_signs, .ref q_th_sets, .int th_signMany, .int th_setMany, .ref q_th_told, .int th_corners, .int th_isLoaded, .int th_loaded, .ref q_th_up, .ref q_th_down, .ref q_th_world, .ref q_th_tight, .ref q_th_sum, .ref q_th_now, .int th_widened, .int th_wide, .long th_boundUp, .long th_boundDown])), (q_th_saying, .inl (tc 0, n_th_saying, .inl th_saying)), (q_th_up, .inl (tc 1, n_th_up, .inr (.inl th_up))), (q_th_down, .inl (tc 1, n_th_down, .inr (.inl th_down))), (q_th_world, .inl (tc 0, n_th_world, .inl th_world)), (q_th_tight, .inl (tc 0, n_th_tight, .inl th_tight)), (q_th_sum, .inl (tc 1, n_th_sum, .inr (.inl th_sum))), (q_th_now, .inl (tc 1, n_th_now, .inr (.inl th_now)))]
theorem wa_X9_loads {tc : Nat → ClassId} {q_th : Nat} {q_th_text : Nat} {q_th_saying : Nat} {q_th_signs : Nat} {q_th_sets : Nat} {q_th_told : Nat} {q_th_up : Nat} {q_th_down : Nat} {q_th_world : Nat} {q_th_tight : Nat} {q_th_sum : Nat} {q_th_now : Nat} {n_th_saying : Nat} {n_th_up : Nat} {n_th_down : Nat} {n_th_world : Nat} {n_th_tight : Nat} {n_th_sum : Nat} {n_th_now : Nat} {th_thrown : Int32} {th_typed : Int32} {th_next : Int32} {th_token : Int32} {th_place : Int32} {th_value : Int32} {th_fault : Int32} {th_many : Int32} {th_signMany : Int32} {th_setMany : Int32} {th_corners : Int32} {th_isLoaded : Int32} {th_loaded : Int32} {th_widened : Int32} {th_wide : Int32} {th_boundUp : Int64} {th_boundDown : Int64} {th_saying : Nat → Int32} {th_up : Nat → Int64} {th_down : Nat → Int64} {th_world : Nat → Int32} {th_tight : Nat → Int32} {th_sum : Nat → Int64} {th_now : Nat → Int64} : (w_X9_loads tc q_th q_th_text q_th_saying q_th_signs q_th_sets q_th_told q_th_up q_th_down q_th_world q_th_tight q_th_sum q_th_now n_th_saying n_th_up n_th_down n_th_world n_th_tight n_th_sum n_th_now th_thrown th_typed th_next th_token th_place th_value th_fault th_many th_signMany th_setMany th_corners th_isLoaded th_loaded th_widened th_wide th_boundUp th_boundDown th_saying th_up th_down th_world th_tight th_sum th_now).map (fun q => q.1) = [q_th, q_th_saying, q_th_up, q_th_down, q_th_world, q_th_tight, q_th_sum, q_th_now] := rfl
set_option maxHeartbeats 4000000 in
set_option maxRecDepth 100000 in
theorem s_X9_loads {l : Launch} {E : (Nat → Prop) → State → Prop} (hEok : st_Eok E) {D : va_G} {tc : Nat → ClassId} (q_th : Nat) (q_th_text : Nat) (q_th_saying : Nat) (q_th_signs : Nat) (q_th_sets : Nat) (q_th_told : Nat) (q_th_up : Nat) (q_th_down : Nat) (q_th_world : Nat) (q_th_tight : Nat) (q_th_sum : Nat) (q_th_now : Nat) (n_th_saying : Nat) (n_th_up : Nat) (n_th_down : Nat) (n_th_world : Nat) (n_th_tight : Nat) (n_th_sum : Nat) (n_th_now : Nat) (th_thrown : Int32) (th_typed : Int32) (th_next : Int32) (th_token : Int32) (th_place : Int32) (th_value : Int32) (th_fault : Int32) (th_many : Int32) (th_signMany : Int32) (th_setMany : Int32) (th_corners : Int32) (th_isLoaded : Int32) (th_loaded : Int32) (th_widened : Int32) (th_wide : Int32) (th_boundUp : Int64) (th_boundDown : Int64) (th_saying : Nat → Int32) (th_up : Nat → Int64) (th_down : Nat → Int64) (th_world : Nat → Int32) (th_tight : Nat → Int32) (th_sum : Nat → Int64) (th_now : Nat → Int64) (x1 : Int32) (K : Nat) (r0 : Int32) (th_corners' : Int32) (th_isLoaded' : Int32) (th_loaded' : Int32) (th_up' : Nat → Int64) (th_down' : Nat → Int64) (th_world' : Nat → Int32) (th_tight' : Nat → Int32) (th_sum' : Nat → Int64) (th_now' : Nat → Int64) (h : f_X9_loads K n_th_saying n_th_up n_th_down n_th_world n_th_tight n_th_sum n_th_now th_many th_corners th_isLoaded th_loaded th_widened th_wide th_saying th_up th_down th_world th_tight th_sum th_now x1 = some (r0, th_corners', th_isLoaded', th_loaded', th_up', th_down', th_world', th_tight', th_sum', th_now')) : st l yX9_loads wsX9_loads ({ frames := 4, cells := 0, slots := 0, locals := 111 }) E D tc [.ref q_th, .int x1] (w_X9_loads tc q_th q_th_text q_th_saying q_th_signs q_th_sets q_th_told q_th_up q_th_down q_th_world q_th_tight q_th_sum q_th_now n_th_saying n_th_up n_th_down n_th_world n_th_tight n_th_sum n_th_now th_thrown th_typed th_next th_token th_place th_value th_fault th_many th_signMany th_setMany th_corners th_isLoaded th_loaded th_widened th_wide th_boundUp th_boundDown th_saying th_up th_down th_world th_tight th_sum th_now) (some (.int r0)) (w_X9_loads tc q_th q_th_text q_th_saying q_th_signs q_th_sets q_th_told q_th_up q_th_down q_th_world q_th_tight q_th_sum q_th_now n_th_saying n_th_up n_th_down n_th_world n_th_tight n_th_sum n_th_now th_thrown th_typed th_next th_token th_place th_value th_fault th_many th_signMany th_setMany th_corners' th_isLoaded' th_loaded' th_widened th_wide th_boundUp th_boundDown th_saying th_up' th_down' th_world' th_tight' th_sum' th_now') := by
  refine st_enter (cc := cX9_loads) (maxL := 8) (ret := (some .boolean)) (by decide) rfl (Nat.le_of_ble_eq_true rfl) ?_
  intro p e s m below meth c A ls hx hb hr hml hts hown hlocks hK hN hE hA hP hD hS hl
  have hl : lv_has ls 8 [(0, .ref q_th), (1, .int x1)] := hl
  have hinX9 : ∀ w ∈ wsX90, w ∈ wsX9_loads := by decide +kernel
  generalize hav : ([.ref q_th, .int x1] : List Value).toArray = av at hts ⊢
  have L63 : ∀ (x1 : Int32) (th_isLoaded : Int32) (th_loaded : Int32), ∀ (k : Nat) (s63 : Int32 × Int32 × (Nat → Int64) × (Nat → Int64) × (Nat → Int32) × (Nat → Int32) × (Nat → Int64) × (Nat → Int64)) (r : Int32 × (Nat → Int64) × (Nat → Int64) × (Nat → Int32) × (Nat → Int32) × (Nat → Int64) × (Nat → Int64)), lp (f_X9_loads_L63 K n_th_saying n_th_up n_th_down n_th_world n_th_tight n_th_sum n_th_now th_many th_widened th_wide th_saying x1) k s63 = some r → (fun y63 : Int32 × (Nat → Int64) × (Nat → Int64) × (Nat → Int32) × (Nat → Int32) × (Nat → Int64) × (Nat → Int64) => match y63 with | (th_corners, th_up, th_down, th_world, th_tight, th_sum, th_now) => ∀ (H : Heap) (locs : List Loc) (ls : Array Slot), va_P D vwCl (w_X9_loads tc q_th q_th_text q_th_saying q_th_signs q_th_sets q_th_told q_th_up q_th_down q_th_world q_th_tight q_th_sum q_th_now n_th_saying n_th_up n_th_down n_th_world n_th_tight n_th_sum n_th_now th_thrown th_typed th_next th_token th_place th_value th_fault th_many th_signMany th_setMany th_corners th_isLoaded th_loaded th_widened th_wide th_boundUp th_boundDown th_saying th_up th_down th_world th_tight th_sum th_now) H → va_D A (w_X9_loads tc q_th q_th_text q_th_saying q_th_signs q_th_sets q_th_told q_th_up q_th_down q_th_world q_th_tight q_th_sum q_th_now n_th_saying n_th_up n_th_down n_th_world n_th_tight n_th_sum n_th_now th_thrown th_typed th_next th_token th_place th_value th_fault th_many th_signMany th_setMany th_corners th_isLoaded th_loaded th_widened th_wide th_boundUp th_boundDown th_saying th_up th_down th_world th_tight th_sum th_now) → va_S A s.heap H locs → lv_has ls 8 [(0, .ref q_th)] → W p l e ({ frames := 4, cells := 0, slots := 0, locals := 111 } : Room) s m av below meth c H locs 0 0 (MQ below (st_Q D (w_X9_loads tc q_th q_th_text q_th_saying q_th_signs q_th_sets q_th_told q_th_up q_th_down q_th_world q_th_tight q_th_sum q_th_now n_th_saying n_th_up n_th_down n_th_world n_th_tight n_th_sum n_th_now th_thrown th_typed th_next th_token th_place th_value th_fault th_many th_signMany th_setMany th_corners' th_isLoaded' th_loaded' th_widened th_wide th_boundUp th_boundDown th_saying th_up' th_down' th_world' th_tight' th_sum' th_now') (some (.int r0)) A) av s 0 0 A) (F0 m 245 ls [])) r → (fun s63 : Int32 × Int32 × (Nat → Int64) × (Nat → Int64) × (Nat → Int32) × (Nat → Int32) × (Nat → Int64) × (Nat → Int64) => match s63 with | (x2, th_corners, th_up, th_down, th_world, th_tight, th_sum, th_now) => ∀ (H : Heap) (locs : List Loc) (ls : Array Slot), va_P D vwCl (w_X9_loads tc q_th q_th_text q_th_saying q_th_signs q_th_sets q_th_told q_th_up q_th_down q_th_world q_th_tight q_th_sum q_th_now n_th_saying n_th_up n_th_down n_th_world n_th_tight n_th_sum n_th_now th_thrown th_typed th_next th_token th_place th_value th_fault th_many th_signMany th_setMany th_corners th_isLoaded th_loaded th_widened th_wide th_boundUp th_boundDown th_saying th_up th_down th_world th_tight th_sum th_now) H → va_D A (w_X9_loads tc q_th q_th_text q_th_saying q_th_signs q_th_sets q_th_told q_th_up q_th_down q_th_world q_th_tight q_th_sum q_th_now n_th_saying n_th_up n_th_down n_th_world n_th_tight n_th_sum n_th_now th_thrown th_typed th_next th_token th_place th_value th_fault th_many th_signMany th_setMany th_corners th_isLoaded th_loaded th_widened th_wide th_boundUp th_boundDown th_saying th_up th_down th_world th_tight th_sum th_now) → va_S A s.heap H locs → lv_has ls 8 [(0, .ref q_th), (1, .int x1), (2, .int x2)] → W p l e ({ frames := 4, cells := 0, slots := 0, locals := 111 } : Room) s m av below meth c H locs 0 0 (MQ below (st_Q D (w_X9_loads tc q_th q_th_text q_th_saying q_th_signs q_th_sets q_th_told q_th_up q_th_down q_th_world q_th_tight q_th_sum q_th_now n_th_saying n_th_up n_th_down n_th_world n_th_tight n_th_sum n_th_now th_thrown th_typed th_next th_token th_place th_value th_fault th_many th_signMany th_setMany th_corners' th_isLoaded' th_loaded' th_widened th_wide th_boundUp th_boundDown th_saying th_up' th_down' th_world' th_tight' th_sum' th_now') (some (.int r0)) A) av s 0 0 A) (F0 m 63 ls [])) s63 := by
    intro x1 th_isLoaded th_loaded
    refine lp_W (f_X9_loads_L63 K n_th_saying n_th_up n_th_down n_th_world n_th_tight n_th_sum n_th_now th_many th_widened th_wide th_saying x1) (fun s63 : Int32 × Int32 × (Nat → Int64) × (Nat → Int64) × (Nat → Int32) × (Nat → Int32) × (Nat → Int64) × (Nat → Int64) => match s63 with | (x2, th_corners, th_up, th_down, th_world, th_tight, th_sum, th_now) => ∀ (H : Heap) (locs : List Loc) (ls : Array Slot), va_P D vwCl (w_X9_loads tc q_th q_th_text q_th_saying q_th_signs q_th_sets q_th_told q_th_up q_th_down q_th_world q_th_tight q_th_sum q_th_now n_th_saying n_th_up n_th_down n_th_world n_th_tight n_th_sum n_th_now th_thrown th_typed th_next th_token th_place th_value th_fault th_many th_signMany th_setMany th_corners th_isLoaded th_loaded th_widened th_wide th_boundUp th_boundDown th_saying th_up th_down th_world th_tight th_sum th_now) H → va_D A (w_X9_loads tc q_th q_th_text q_th_saying q_th_signs q_th_sets q_th_told q_th_up q_th_down q_th_world q_th_tight q_th_sum q_th_now n_th_saying n_th_up n_th_down n_th_world n_th_tight n_th_sum n_th_now th_thrown th_typed th_next th_token th_place th_value th_fault th_many th_signMany th_setMany th_corners th_isLoaded th_loaded th_widened th_wide th_boundUp th_boundDown th_saying th_up th_down th_world th_tight th_sum th_now) → va_S A s.heap H locs → lv_has ls 8 [(0, .ref q_th), (1, .int x1), (2, .int x2)] → W p l e ({ frames := 4, cells := 0, slots := 0, locals := 111 } : Room) s m av below meth c H locs 0 0 (MQ below (st_Q D (w_X9_loads tc q_th q_th_text q_th_saying q_th_signs q_th_sets q_th_told q_th_up q_th_down q_th_world q_th_tight q_th_sum q_th_now n_th_saying n_th_up n_th_down n_th_world n_th_tight n_th_sum n_th_now th_thrown th_typed th_next th_token th_place th_value th_fault th_many th_signMany th_setMany th_corners' th_isLoaded' th_loaded' th_widened th_wide th_boundUp th_boundDown th_saying th_up' th_down' th_world' th_tight' th_sum' th_now') (some (.int r0)) A) av s 0 0 A) (F0 m 63 ls [])) (fun y63 : Int32 × (Nat → Int64) × (Nat → Int64) × (Nat → Int32) × (Nat → Int32) × (Nat → Int64) × (Nat → Int64) => match y63 with | (th_corners, th_up, th_down, th_world, th_tight, th_sum, th_now) => ∀ (H : Heap) (locs : List Loc) (ls : Array Slot), va_P D vwCl (w_X9_loads tc q_th q_th_text q_th_saying q_th_signs q_th_sets q_th_told q_th_up q_th_down q_th_world q_th_tight q_th_sum q_th_now n_th_saying n_th_up n_th_down n_th_world n_th_tight n_th_sum n_th_now th_thrown th_typed th_next th_token th_place th_value th_fault th_many th_signMany th_setMany th_corners th_isLoaded th_loaded th_widened th_wide th_boundUp th_boundDown th_saying th_up th_down th_world th_tight th_sum th_now) H → va_D A (w_X9_loads tc q_th q_th_text q_th_saying q_th_signs q_th_sets q_th_told q_th_up q_th_down q_th_world q_th_tight q_th_sum q_th_now n_th_saying n_th_up n_th_down n_th_world n_th_tight n_th_sum n_th_now th_thrown th_typed th_next th_token th_place th_value th_fault th_many th_signMany th_setMany th_corners th_isLoaded th_loaded th_widened th_wide th_boundUp th_boundDown th_saying th_up th_down th_world th_tight th_sum th_now) → va_S A s.heap H locs → lv_has ls 8 [(0, .ref q_th)] → W p l e ({ frames := 4, cells := 0, slots := 0, locals := 111 } : Room) s m av below meth c H locs 0 0 (MQ below (st_Q D (w_X9_loads tc q_th q_th_text q_th_saying q_th_signs q_th_sets q_th_told q_th_up q_th_down q_th_world q_th_tight q_th_sum q_th_now n_th_saying n_th_up n_th_down n_th_world n_th_tight n_th_sum n_th_now th_thrown th_typed th_next th_token th_place th_value th_fault th_many th_signMany th_setMany th_corners' th_isLoaded' th_loaded' th_widened th_wide th_boundUp th_boundDown th_saying th_up' th_down' th_world' th_tight' th_sum' th_now') (some (.int r0)) A) av s 0 0 A) (F0 m 245 ls [])) ?_
    rintro ⟨x2, th_corners, th_up, th_down, th_world, th_tight, th_sum, th_now⟩ o h ih hz H locs ls hP hD hS hl
    have L81 : ∀ (x1 : Int32) (x2 : Int32) (x3 : Int32) (th_corners : Int32) (th_isLoaded : Int32) (th_loaded : Int32) (th_up : Nat → Int64) (th_down : Nat → Int64) (th_tight : Nat → Int32) (th_sum : Nat → Int64) (th_now : Nat → Int64), ∀ (k : Nat) (s81 : Int32 × Int32 × (Nat → Int32)) (r : (Nat → Int32)), lp (f_X9_loads_L81 n_th_world x2 x3) k s81 = some r → (fun th_world : (Nat → Int32) => ∀ (H : Heap) (locs : List Loc) (ls : Array Slot), va_P D vwCl (w_X9_loads tc q_th q_th_text q_th_saying q_th_signs q_th_sets q_th_told q_th_up q_th_down q_th_world q_th_tight q_th_sum q_th_now n_th_saying n_th_up n_th_down n_th_world n_th_tight n_th_sum n_th_now th_thrown th_typed th_next th_token th_place th_value th_fault th_many th_signMany th_setMany th_corners th_isLoaded th_loaded th_widened th_wide th_boundUp th_boundDown th_saying th_up th_down th_world th_tight th_sum th_now) H → va_D A (w_X9_loads tc q_th q_th_text q_th_saying q_th_signs q_th_sets q_th_told q_th_up q_th_down q_th_world q_th_tight q_th_sum q_th_now n_th_saying n_th_up n_th_down n_th_world n_th_tight n_th_sum n_th_now th_thrown th_typed th_next th_token th_place th_value th_fault th_many th_signMany th_setMany th_corners th_isLoaded th_loaded th_widened th_wide th_boundUp th_boundDown th_saying th_up th_down th_world th_tight th_sum th_now) → va_S A s.heap H locs → lv_has ls 8 [(0, .ref q_th), (1, .int x1), (2, .int x2), (3, .int x3)] → W p l e ({ frames := 4, cells := 0, slots := 0, locals := 111 } : Room) s m av below meth c H locs 0 0 (MQ below (st_Q D (w_X9_loads tc q_th q_th_text q_th_saying q_th_signs q_th_sets q_th_told q_th_up q_th_down q_th_world q_th_tight q_th_sum q_th_now n_th_saying n_th_up n_th_down n_th_world n_th_tight n_th_sum n_th_now th_thrown th_typed th_next th_token th_place th_value th_fault th_many th_signMany th_setMany th_corners' th_isLoaded' th_loaded' th_widened th_wide th_boundUp th_boundDown th_saying th_up' th_down' th_world' th_tight' th_sum' th_now') (some (.int r0)) A) av s 0 0 A) (F0 m 122 ls [])) r → (fun s81 : Int32 × Int32 × (Nat → Int32) => match s81 with | (x4, x5, th_world) => ∀ (H : Heap) (locs : List Loc) (ls : Array Slot), va_P D vwCl (w_X9_loads tc q_th q_th_text q_th_saying q_th_signs q_th_sets q_th_told q_th_up q_th_down q_th_world q_th_tight q_th_sum q_th_now n_th_saying n_th_up n_th_down n_th_world n_th_tight n_th_sum n_th_now th_thrown th_typed th_next th_token th_place th_value th_fault th_many th_signMany th_setMany th_corners th_isLoaded th_loaded th_widened th_wide th_boundUp th_boundDown th_saying th_up th_down th_world th_tight th_sum th_now) H → va_D A (w_X9_loads tc q_th q_th_text q_th_saying q_th_signs q_th_sets q_th_told q_th_up q_th_down q_th_world q_th_tight q_th_sum q_th_now n_th_saying n_th_up n_th_down n_th_world n_th_tight n_th_sum n_th_now th_thrown th_typed th_next th_token th_place th_value th_fault th_many th_signMany th_setMany th_corners th_isLoaded th_loaded th_widened th_wide th_boundUp th_boundDown th_saying th_up th_down th_world th_tight th_sum th_now) → va_S A s.heap H locs → lv_has ls 8 [(0, .ref q_th), (1, .int x1), (2, .int x2), (3, .int x3), (4, .int x4), (5, .int x5)] → W p l e ({ frames := 4, cells := 0, slots := 0, locals := 111 } : Room) s m av below meth c H locs 0 0 (MQ below (st_Q D (w_X9_loads tc q_th q_th_text q_th_saying q_th_signs q_th_sets q_th_told q_th_up q_th_down q_th_world q_th_tight q_th_sum q_th_now n_th_saying n_th_up n_th_down n_th_world n_th_tight n_th_sum n_th_now th_thrown th_typed th_next th_token th_place th_value th_fault th_many th_signMany th_setMany th_corners' th_isLoaded' th_loaded' th_widened th_wide th_boundUp th_boundDown th_saying th_up' th_down' th_world' th_tight' th_sum' th_now') (some (.int r0)) A) av s 0 0 A) (F0 m 81 ls [])) s81 := by
      intro x1 x2 x3 th_corners th_isLoaded th_loaded th_up th_down th_tight th_sum th_now
      refine lp_W (f_X9_loads_L81 n_th_world x2 x3) (fun s81 : Int32 × Int32 × (Nat → Int32) => match s81 with | (x4, x5, th_world) => ∀ (H : Heap) (locs : List Loc) (ls : Array Slot), va_P D vwCl (w_X9_loads tc q_th q_th_text q_th_saying q_th_signs q_th_sets q_th_told q_th_up q_th_down q_th_world q_th_tight q_th_sum q_th_now n_th_saying n_th_up n_th_down n_th_world n_th_tight n_th_sum n_th_now th_thrown th_typed th_next th_token th_place th_value th_fault th_many th_signMany th_setMany th_corners th_isLoaded th_loaded th_widened th_wide th_boundUp th_boundDown th_saying th_up th_down th_world th_tight th_sum th_now) H → va_D A (w_X9_loads tc q_th q_th_text q_th_saying q_th_signs q_th_sets q_th_told q_th_up q_th_down q_th_world q_th_tight q_th_sum q_th_now n_th_saying n_th_up n_th_down n_th_world n_th_tight n_th_sum n_th_now th_thrown th_typed th_next th_token th_place th_value th_fault th_many th_signMany th_setMany th_corners th_isLoaded th_loaded th_widened th_wide th_boundUp th_boundDown th_saying th_up th_down th_world th_tight th_sum th_now) → va_S A s.heap H locs → lv_has ls 8 [(0, .ref q_th), (1, .int x1), (2, .int x2), (3, .int x3), (4, .int x4), (5, .int x5)] → W p l e ({ frames := 4, cells := 0, slots := 0, locals := 111 } : Room) s m av below meth c H locs 0 0 (MQ below (st_Q D (w_X9_loads tc q_th q_th_text q_th_saying q_th_signs q_th_sets q_th_told q_th_up q_th_down q_th_world q_th_tight q_th_sum q_th_now n_th_saying n_th_up n_th_down n_th_world n_th_tight n_th_sum n_th_now th_thrown th_typed th_next th_token th_place th_value th_fault th_many th_signMany th_setMany th_corners' th_isLoaded' th_loaded' th_widened th_wide th_boundUp th_boundDown th_saying th_up' th_down' th_world' th_tight' th_sum' th_now') (some (.int r0)) A) av s 0 0 A) (F0 m 81 ls [])) (fun th_world : (Nat → Int32) => ∀ (H : Heap) (locs : List Loc) (ls : Array Slot), va_P D vwCl (w_X9_loads tc q_th q_th_text q_th_saying q_th_signs q_th_sets q_th_told q_th_up q_th_down q_th_world q_th_tight q_th_sum q_th_now n_th_saying n_th_up n_th_down n_th_world n_th_tight n_th_sum n_th_now th_thrown th_typed th_next th_token th_place th_value th_fault th_many th_signMany th_setMany th_corners th_isLoaded th_loaded th_widened th_wide th_boundUp th_boundDown th_saying th_up th_down th_world th_tight th_sum th_now) H → va_D A (w_X9_loads tc q_th q_th_text q_th_saying q_th_signs q_th_sets q_th_told q_th_up q_th_down q_th_world q_th_tight q_th_sum q_th_now n_th_saying n_th_up n_th_down n_th_world n_th_tight n_th_sum n_th_now th_thrown th_typed th_next th_token th_place th_value th_fault th_many th_signMany th_setMany th_corners th_isLoaded th_loaded th_widened th_wide th_boundUp th_boundDown th_saying th_up th_down th_world th_tight th_sum th_now) → va_S A s.heap H locs → lv_has ls 8 [(0, .ref q_th), (1, .int x1), (2, .int x2), (3, .int x3)] → W p l e ({ frames := 4, cells := 0, slots := 0, locals := 111 } : Room) s m av below meth c H locs 0 0 (MQ below (st_Q D (w_X9_loads tc q_th q_th_text q_th_saying q_th_signs q_th_sets q_th_told q_th_up q_th_down q_th_world q_th_tight q_th_sum q_th_now n_th_saying n_th_up n_th_down n_th_world n_th_tight n_th_sum n_th_now th_thrown th_typed th_next th_token th_place th_value th_fault th_many th_signMany th_setMany th_corners' th_isLoaded' th_loaded' th_widened th_wide th_boundUp th_boundDown th_saying th_up' th_down' th_world' th_tight' th_sum' th_now') (some (.int r0)) A) av s 0 0 A) (F0 m 122 ls [])) ?_
      rintro ⟨x4, x5, th_world⟩ o h ih hz H locs ls hP hD hS hl
      unfold f_X9_loads_L81 at h
      refine lv_iload hx hb dX9_loads_81 (lv_at hl 5 rfl) ?_
      refine lv_bipush (v := (8 : Int32)) hx hb dX9_loads_83 (by decide) ?_
      refine lv_icmp_ge (tgt := 122) hx hb dX9_loads_85 (by decide) (fun c1 => ?_) (fun c1 => ?_)
      · replace h := ifp c1 h
        cases h
        exact hz _ rfl _ _ _ hP hD hS (lv_sub hl [0, 1, 2, 3] rfl)
      · replace h := ifn c1 h
        refine lv_iload_n hx hb dX9_loads_88 rfl (lv_at hl 3 rfl) ?_
        refine lv_bipush (v := (6 : Int32)) hx hb dX9_loads_89 (by decide) ?_
        refine lv_icmp_ge (tgt := 122) hx hb dX9_loads_91 (by decide) (fun c2 => ?_) (fun c2 => ?_)
        · replace h := ifp c2 h
          cases h
          exact hz _ rfl _ _ _ hP hD hS (lv_sub hl [0, 1, 2, 3] rfl)
        · replace h := ifn c2 h
          refine lv_iload_n hx hb dX9_loads_94 rfl (lv_at hl 2 rfl) ?_
          refine lv_iload hx hb dX9_loads_95 (lv_at hl 5 rfl) ?_
          refine lv_ishr hx hb dX9_loads_97 ?_
          refine lv_iconst (v := (1 : Int32)) hx hb dX9_loads_98 (by decide) ?_
          refine lv_iand hx hb dX9_loads_99 ?_
          refine lv_iconst (v := (1 : Int32)) hx hb dX9_loads_100 (by decide) ?_
          refine lv_icmp_ne (tgt := 116) hx hb dX9_loads_101 (by decide) (fun c3 => ?_) (fun c3 => ?_)
          · replace h := ifn c3 h
            refine lv_iinc (v := x5 + 1) (lv' := [(5, .int (x5 + 1)), (0, .ref q_th), (1, .int x1), (2, .int x2), (3, .int x3), (4, .int x4)]) hx hb dX9_loads_116 hl (k := 5) rfl rfl (by decide) rfl (fun ls hl => ?_)
            refine lv_goto (tgt := 81) hx hb dX9_loads_119 (by decide) ?_
            cases h
            exact ih _ rfl _ _ _ hP hD hS (lv_sub hl [1, 2, 3, 4, 5, 0] rfl)
          · replace h := ifp c3 h
            refine lv_aload_n hx hb dX9_loads_104 rfl (lv_at hl 0 rfl) ?_
            refine va_get (D := D) (ci := 9) (v := .ref q_th_world) (C := RX9) (T := TX9) (N := 28) hx hb hts hinX9 hown hK hP 0 rfl rfl 20 (by decide) (hts (.fieldLink RX9 33 "ChanceBoundsModel" "world" "[I") (by decide +kernel)) (fun _ h9 => h9) rfl dX9_loads_105 ?_
            refine lv_iload hx hb dX9_loads_108 (lv_at hl 4 rfl) ?_
            refine lv_iload hx hb dX9_loads_110 (lv_at hl 5 rfl) ?_
            obtain ⟨g4, h⟩ := gd_ok h
            refine va_iast hx hb hK hP hD hS 4 0 rfl rfl g4 dX9_loads_112 (fun H locs hP hD hS => ?_)
            have hP : va_P D vwCl (w_X9_loads tc q_th q_th_text q_th_saying q_th_signs q_th_sets q_th_told q_th_up q_th_down q_th_world q_th_tight q_th_sum q_th_now n_th_saying n_th_up n_th_down n_th_world n_th_tight n_th_sum n_th_now th_thrown th_typed th_next th_token th_place th_value th_fault th_many th_signMany th_setMany th_corners th_isLoaded th_loaded th_widened th_wide th_boundUp th_boundDown th_saying th_up th_down (upd th_world x4.toNatClampNeg x5) th_tight th_sum th_now) H := hP
            have hD : va_D A (w_X9_loads tc q_th q_th_text q_th_saying q_th_signs q_th_sets q_th_told q_th_up q_th_down q_th_world q_th_tight q_th_sum q_th_now n_th_saying n_th_up n_th_down n_th_world n_th_tight n_th_sum n_th_now th_thrown th_typed th_next th_token th_place th_value th_fault th_many th_signMany th_setMany th_corners th_isLoaded th_loaded th_widened th_wide th_boundUp th_boundDown th_saying th_up th_down (upd th_world x4.toNatClampNeg x5) th_tight th_sum th_now) := hD
            refine lv_iinc (v := x4 + 1) (lv' := [(4, .int (x4 + 1)), (0, .ref q_th), (1, .int x1), (2, .int x2), (3, .int x3), (5, .int x5)]) hx hb dX9_loads_113 hl (k := 4) rfl rfl (by decide) rfl (fun ls hl => ?_)
            refine lv_iinc (v := x5 + 1) (lv' := [(5, .int (x5 + 1)), (4, .int (x4 + 1)), (0, .ref q_th), (1, .int x1), (2, .int x2), (3, .int x3)]) hx hb dX9_loads_116 hl (k := 5) rfl rfl (by decide) rfl (fun ls hl => ?_)
            refine lv_goto (tgt := 81) hx hb dX9_loads_119 (by decide) ?_
            cases h
            exact ih _ rfl _ _ _ hP hD hS (lv_sub hl [2, 3, 4, 5, 1, 0] rfl)
    have L125 : ∀ (x1 : Int32) (x2 : Int32) (x3 : Int32) (th_isLoaded : Int32) (th_loaded : Int32) (th_world : Nat → Int32), ∀ (k : Nat) (s125 : Int32 × Int32 × (Nat → Int64) × (Nat → Int64) × (Nat → Int32) × (Nat → Int64) × (Nat → Int64)) (r : Int32 × (Nat → Int64) × (Nat → Int64) × (Nat → Int32) × (Nat → Int64) × (Nat → Int64)), lp (f_X9_loads_L125 K n_th_saying n_th_up n_th_down n_th_world n_th_tight n_th_sum n_th_now th_many th_widened th_wide th_saying th_world x1 x3) k s125 = some r → (fun y125 : Int32 × (Nat → Int64) × (Nat → Int64) × (Nat → Int32) × (Nat → Int64) × (Nat → Int64) => match y125 with | (th_corners, th_up, th_down, th_tight, th_sum, th_now) => ∀ (H : Heap) (locs : List Loc) (ls : Array Slot), va_P D vwCl (w_X9_loads tc q_th q_th_text q_th_saying q_th_signs q_th_sets q_th_told q_th_up q_th_down q_th_world q_th_tight q_th_sum q_th_now n_th_saying n_th_up n_th_down n_th_world n_th_tight n_th_sum n_th_now th_thrown th_typed th_next th_token th_place th_value th_fault th_many th_signMany th_setMany th_corners th_isLoaded th_loaded th_widened th_wide th_boundUp th_boundDown th_saying th_up th_down th_world th_tight th_sum th_now) H → va_D A (w_X9_loads tc q_th q_th_text q_th_saying q_th_signs q_th_sets q_th_told q_th_up q_th_down q_th_world q_th_tight q_th_sum q_th_now n_th_saying n_th_up n_th_down n_th_world n_th_tight n_th_sum n_th_now th_thrown th_typed th_next th_token th_place th_value th_fault th_many th_signMany th_setMany th_corners th_isLoaded th_loaded th_widened th_wide th_boundUp th_boundDown th_saying th_up th_down th_world th_tight th_sum th_now) → va_S A s.heap H locs → lv_has ls 8 [(0, .ref q_th), (1, .int x1), (2, .int x2)] → W p l e ({ frames := 4, cells := 0, slots := 0, locals := 111 } : Room) s m av below meth c H locs 0 0 (MQ below (st_Q D (w_X9_loads tc q_th q_th_text q_th_saying q_th_signs q_th_sets q_th_told q_th_up q_th_down q_th_world q_th_tight q_th_sum q_th_now n_th_saying n_th_up n_th_down n_th_world n_th_tight n_th_sum n_th_now th_thrown th_typed th_next th_token th_place th_value th_fault th_many th_signMany th_setMany th_corners' th_isLoaded' th_loaded' th_widened th_wide th_boundUp th_boundDown th_saying th_up' th_down' th_world' th_tight' th_sum' th_now') (some (.int r0)) A) av s 0 0 A) (F0 m 239 ls [])) r → (fun s125 : Int32 × Int32 × (Nat → Int64) × (Nat → Int64) × (Nat → Int32) × (Nat → Int64) × (Nat → Int64) => match s125 with | (x5, th_corners, th_up, th_down, th_tight, th_sum, th_now) => ∀ (H : Heap) (locs : List Loc) (ls : Array Slot), va_P D vwCl (w_X9_loads tc q_th q_th_text q_th_saying q_th_signs q_th_sets q_th_told q_th_up q_th_down q_th_world q_th_tight q_th_sum q_th_now n_th_saying n_th_up n_th_down n_th_world n_th_tight n_th_sum n_th_now th_thrown th_typed th_next th_token th_place th_value th_fault th_many th_signMany th_setMany th_corners th_isLoaded th_loaded th_widened th_wide th_boundUp th_boundDown th_saying th_up th_down th_world th_tight th_sum th_now) H → va_D A (w_X9_loads tc q_th q_th_text q_th_saying q_th_signs q_th_sets q_th_told q_th_up q_th_down q_th_world q_th_tight q_th_sum q_th_now n_th_saying n_th_up n_th_down n_th_world n_th_tight n_th_sum n_th_now th_thrown th_typed th_next th_token th_place th_value th_fault th_many th_signMany th_setMany th_corners th_isLoaded th_loaded th_widened th_wide th_boundUp th_boundDown th_saying th_up th_down th_world th_tight th_sum th_now) → va_S A s.heap H locs → lv_has ls 8 [(0, .ref q_th), (1, .int x1), (2, .int x2), (3, .int x3), (5, .int x5)] → W p l e ({ frames := 4, cells := 0, slots := 0, locals := 111 } : Room) s m av below meth c H locs 0 0 (MQ below (st_Q D (w_X9_loads tc q_th q_th_text q_th_saying q_th_signs q_th_sets q_th_told q_th_up q_th_down q_th_world q_th_tight q_th_sum q_th_now n_th_saying n_th_up n_th_down n_th_world n_th_tight n_th_sum n_th_now th_thrown th_typed th_next th_token th_place th_value th_fault th_many th_signMany th_setMany th_corners' th_isLoaded' th_loaded' th_widened th_wide th_boundUp th_boundDown th_saying th_up' th_down' th_world' th_tight' th_sum' th_now') (some (.int r0)) A) av s 0 0 A) (F0 m 125 ls [])) s125 := by
      intro x1 x2 x3 th_isLoaded th_loaded th_world
      refine lp_W (f_X9_loads_L125 K n_th_saying n_th_up n_th_down n_th_world n_th_tight n_th_sum n_th_now th_many th_widened th_wide th_saying th_world x1 x3) (fun s125 : Int32 × Int32 × (Nat → Int64) × (Nat → Int64) × (Nat → Int32) × (Nat → Int64) × (Nat → Int64) => match s125 with | (x5, th_corners, th_up, th_down, th_tight, th_sum, th_now) => ∀ (H : Heap) (locs : List Loc) (ls : Array Slot), va_P D vwCl (w_X9_loads tc q_th q_th_text q_th_saying q_th_signs q_th_sets q_th_told q_th_up q_th_down q_th_world q_th_tight q_th_sum q_th_now n_th_saying n_th_up n_th_down n_th_world n_th_tight n_th_sum n_th_now th_thrown th_typed th_next th_token th_place th_value th_fault th_many th_signMany th_setMany th_corners th_isLoaded th_loaded th_widened th_wide th_boundUp th_boundDown th_saying th_up th_down th_world th_tight th_sum th_now) H → va_D A (w_X9_loads tc q_th q_th_text q_th_saying q_th_signs q_th_sets q_th_told q_th_up q_th_down q_th_world q_th_tight q_th_sum q_th_now n_th_saying n_th_up n_th_down n_th_world n_th_tight n_th_sum n_th_now th_thrown th_typed th_next th_token th_place th_value th_fault th_many th_signMany th_setMany th_corners th_isLoaded th_loaded th_widened th_wide th_boundUp th_boundDown th_saying th_up th_down th_world th_tight th_sum th_now) → va_S A s.heap H locs → lv_has ls 8 [(0, .ref q_th), (1, .int x1), (2, .int x2), (3, .int x3), (5, .int x5)] → W p l e ({ frames := 4, cells := 0, slots := 0, locals := 111 } : Room) s m av below meth c H locs 0 0 (MQ below (st_Q D (w_X9_loads tc q_th q_th_text q_th_saying q_th_signs q_th_sets q_th_told q_th_up q_th_down q_th_world q_th_tight q_th_sum q_th_now n_th_saying n_th_up n_th_down n_th_world n_th_tight n_th_sum n_th_now th_thrown th_typed th_next th_token th_place th_value th_fault th_many th_signMany th_setMany th_corners' th_isLoaded' th_loaded' th_widened th_wide th_boundUp th_boundDown th_saying th_up' th_down' th_world' th_tight' th_sum' th_now') (some (.int r0)) A) av s 0 0 A) (F0 m 125 ls [])) (fun y125 : Int32 × (Nat → Int64) × (Nat → Int64) × (Nat → Int32) × (Nat → Int64) × (Nat → Int64) => match y125 with | (th_corners, th_up, th_down, th_tight, th_sum, th_now) => ∀ (H : Heap) (locs : List Loc) (ls : Array Slot), va_P D vwCl (w_X9_loads tc q_th q_th_text q_th_saying q_th_signs q_th_sets q_th_told q_th_up q_th_down q_th_world q_th_tight q_th_sum q_th_now n_th_saying n_th_up n_th_down n_th_world n_th_tight n_th_sum n_th_now th_thrown th_typed th_next th_token th_place th_value th_fault th_many th_signMany th_setMany th_corners th_isLoaded th_loaded th_widened th_wide th_boundUp th_boundDown th_saying th_up th_down th_world th_tight th_sum th_now) H → va_D A (w_X9_loads tc q_th q_th_text q_th_saying q_th_signs q_th_sets q_th_told q_th_up q_th_down q_th_world q_th_tight q_th_sum q_th_now n_th_saying n_th_up n_th_down n_th_world n_th_tight n_th_sum n_th_now th_thrown th_typed th_next th_token th_place th_value th_fault th_many th_signMany th_setMany th_corners th_isLoaded th_loaded th_widened th_wide th_boundUp th_boundDown th_saying th_up th_down th_world th_tight th_sum th_now) → va_S A s.heap H locs → lv_has ls 8 [(0, .ref q_th), (1, .int x1), (2, .int x2)] → W p l e ({ frames := 4, cells := 0, slots := 0, locals := 111 } : Room) s m av below meth c H locs 0 0 (MQ below (st_Q D (w_X9_loads tc q_th q_th_text q_th_saying q_th_signs q_th_sets q_th_told q_th_up q_th_down q_th_world q_th_tight q_th_sum q_th_now n_th_saying n_th_up n_th_down n_th_world n_th_tight n_th_sum n_th_now th_thrown th_typed th_next th_token th_place th_value th_fault th_many th_signMany th_setMany th_corners' th_isLoaded' th_loaded' th_widened th_wide th_boundUp th_boundDown th_saying th_up' th_down' th_world' th_tight' th_sum' th_now') (some (.int r0)) A) av s 0 0 A) (F0 m 239 ls [])) ?_
      rintro ⟨x5, th_corners, th_up, th_down, th_tight, th_sum, th_now⟩ o h ih hz H locs ls hP hD hS hl
      have L168 : ∀ (x1 : Int32) (x2 : Int32) (x3 : Int32) (x5 : Int32) (th_corners : Int32) (th_isLoaded : Int32) (th_loaded : Int32) (th_up : Nat → Int64) (th_down : Nat → Int64) (th_world : Nat → Int32) (th_sum : Nat → Int64) (th_now : Nat → Int64), ∀ (k : Nat) (s168 : Int32 × Int32 × (Nat → Int32)) (r : (Nat → Int32)), lp (f_X9_loads_L168 n_th_tight th_many x5) k s168 = some r → (fun th_tight : (Nat → Int32) => ∀ (H : Heap) (locs : List Loc) (ls : Array Slot), va_P D vwCl (w_X9_loads tc q_th q_th_text q_th_saying q_th_signs q_th_sets q_th_told q_th_up q_th_down q_th_world q_th_tight q_th_sum q_th_now n_th_saying n_th_up n_th_down n_th_world n_th_tight n_th_sum n_th_now th_thrown th_typed th_next th_token th_place th_value th_fault th_many th_signMany th_setMany th_corners th_isLoaded th_loaded th_widened th_wide th_boundUp th_boundDown th_saying th_up th_down th_world th_tight th_sum th_now) H → va_D A (w_X9_loads tc q_th q_th_text q_th_saying q_th_signs q_th_sets q_th_told q_th_up q_th_down q_th_world q_th_tight q_th_sum q_th_now n_th_saying n_th_up n_th_down n_th_world n_th_tight n_th_sum n_th_now th_thrown th_typed th_next th_token th_place th_value th_fault th_many th_signMany th_setMany th_corners th_isLoaded th_loaded th_widened th_wide th_boundUp th_boundDown th_saying th_up th_down th_world th_tight th_sum th_now) → va_S A s.heap H locs → lv_has ls 8 [(0, .ref q_th), (1, .int x1), (2, .int x2), (3, .int x3), (5, .int x5)] → W p l e ({ frames := 4, cells := 0, slots := 0, locals := 111 } : Room) s m av below meth c H locs 0 0 (MQ below (st_Q D (w_X9_loads tc q_th q_th_text q_th_saying q_th_signs q_th_sets q_th_told q_th_up q_th_down q_th_world q_th_tight q_th_sum q_th_now n_th_saying n_th_up n_th_down n_th_world n_th_tight n_th_sum n_th_now th_thrown th_typed th_next th_token th_place th_value th_fault th_many th_signMany th_setMany th_corners' th_isLoaded' th_loaded' th_widened th_wide th_boundUp th_boundDown th_saying th_up' th_down' th_world' th_tight' th_sum' th_now') (some (.int r0)) A) av s 0 0 A) (F0 m 206 ls [])) r → (fun s168 : Int32 × Int32 × (Nat → Int32) => match s168 with | (x6, x7, th_tight) => ∀ (H : Heap) (locs : List Loc) (ls : Array Slot), va_P D vwCl (w_X9_loads tc q_th q_th_text q_th_saying q_th_signs q_th_sets q_th_told q_th_up q_th_down q_th_world q_th_tight q_th_sum q_th_now n_th_saying n_th_up n_th_down n_th_world n_th_tight n_th_sum n_th_now th_thrown th_typed th_next th_token th_place th_value th_fault th_many th_signMany th_setMany th_corners th_isLoaded th_loaded th_widened th_wide th_boundUp th_boundDown th_saying th_up th_down th_world th_tight th_sum th_now) H → va_D A (w_X9_loads tc q_th q_th_text q_th_saying q_th_signs q_th_sets q_th_told q_th_up q_th_down q_th_world q_th_tight q_th_sum q_th_now n_th_saying n_th_up n_th_down n_th_world n_th_tight n_th_sum n_th_now th_thrown th_typed th_next th_token th_place th_value th_fault th_many th_signMany th_setMany th_corners th_isLoaded th_loaded th_widened th_wide th_boundUp th_boundDown th_saying th_up th_down th_world th_tight th_sum th_now) → va_S A s.heap H locs → lv_has ls 8 [(0, .ref q_th), (1, .int x1), (2, .int x2), (3, .int x3), (5, .int x5), (6, .int x6), (7, .int x7)] → W p l e ({ frames := 4, cells := 0, slots := 0, locals := 111 } : Room) s m av below meth c H locs 0 0 (MQ below (st_Q D (w_X9_loads tc q_th q_th_text q_th_saying q_th_signs q_th_sets q_th_told q_th_up q_th_down q_th_world q_th_tight q_th_sum q_th_now n_th_saying n_th_up n_th_down n_th_world n_th_tight n_th_sum n_th_now th_thrown th_typed th_next th_token th_place th_value th_fault th_many th_signMany th_setMany th_corners' th_isLoaded' th_loaded' th_widened th_wide th_boundUp th_boundDown th_saying th_up' th_down' th_world' th_tight' th_sum' th_now') (some (.int r0)) A) av s 0 0 A) (F0 m 168 ls [])) s168 := by
        intro x1 x2 x3 x5 th_corners th_isLoaded th_loaded th_up th_down th_world th_sum th_now
        refine lp_W (f_X9_loads_L168 n_th_tight th_many x5) (fun s168 : Int32 × Int32 × (Nat → Int32) => match s168 with | (x6, x7, th_tight) => ∀ (H : Heap) (locs : List Loc) (ls : Array Slot), va_P D vwCl (w_X9_loads tc q_th q_th_text q_th_saying q_th_signs q_th_sets q_th_told q_th_up q_th_down q_th_world q_th_tight q_th_sum q_th_now n_th_saying n_th_up n_th_down n_th_world n_th_tight n_th_sum n_th_now th_thrown th_typed th_next th_token th_place th_value th_fault th_many th_signMany th_setMany th_corners th_isLoaded th_loaded th_widened th_wide th_boundUp th_boundDown th_saying th_up th_down th_world th_tight th_sum th_now) H → va_D A (w_X9_loads tc q_th q_th_text q_th_saying q_th_signs q_th_sets q_th_told q_th_up q_th_down q_th_world q_th_tight q_th_sum q_th_now n_th_saying n_th_up n_th_down n_th_world n_th_tight n_th_sum n_th_now th_thrown th_typed th_next th_token th_place th_value th_fault th_many th_signMany th_setMany th_corners th_isLoaded th_loaded th_widened th_wide th_boundUp th_boundDown th_saying th_up th_down th_world th_tight th_sum th_now) → va_S A s.heap H locs → lv_has ls 8 [(0, .ref q_th), (1, .int x1), (2, .int x2), (3, .int x3), (5, .int x5), (6, .int x6), (7, .int x7)] → W p l e ({ frames := 4, cells := 0, slots := 0, locals := 111 } : Room) s m av below meth c H locs 0 0 (MQ below (st_Q D (w_X9_loads tc q_th q_th_text q_th_saying q_th_signs q_th_sets q_th_told q_th_up q_th_down q_th_world q_th_tight q_th_sum q_th_now n_th_saying n_th_up n_th_down n_th_world n_th_tight n_th_sum n_th_now th_thrown th_typed th_next th_token th_place th_value th_fault th_many th_signMany th_setMany th_corners' th_isLoaded' th_loaded' th_widened th_wide th_boundUp th_boundDown th_saying th_up' th_down' th_world' th_tight' th_sum' th_now') (some (.int r0)) A) av s 0 0 A) (F0 m 168 ls [])) (fun th_tight : (Nat → Int32) => ∀ (H : Heap) (locs : List Loc) (ls : Array Slot), va_P D vwCl (w_X9_loads tc q_th q_th_text q_th_saying q_th_signs q_th_sets q_th_told q_th_up q_th_down q_th_world q_th_tight q_th_sum q_th_now n_th_saying n_th_up n_th_down n_th_world n_th_tight n_th_sum n_th_now th_thrown th_typed th_next th_token th_place th_value th_fault th_many th_signMany th_setMany th_corners th_isLoaded th_loaded th_widened th_wide th_boundUp th_boundDown th_saying th_up th_down th_world th_tight th_sum th_now) H → va_D A (w_X9_loads tc q_th q_th_text q_th_saying q_th_signs q_th_sets q_th_told q_th_up q_th_down q_th_world q_th_tight q_th_sum q_th_now n_th_saying n_th_up n_th_down n_th_world n_th_tight n_th_sum n_th_now th_thrown th_typed th_next th_token th_place th_value th_fault th_many th_signMany th_setMany th_corners th_isLoaded th_loaded th_widened th_wide th_boundUp th_boundDown th_saying th_up th_down th_world th_tight th_sum th_now) → va_S A s.heap H locs → lv_has ls 8 [(0, .ref q_th), (1, .int x1), (2, .int x2), (3, .int x3), (5, .int x5)] → W p l e ({ frames := 4, cells := 0, slots := 0, locals := 111 } : Room) s m av below meth c H locs 0 0 (MQ below (st_Q D (w_X9_loads tc q_th q_th_text q_th_saying q_th_signs q_th_sets q_th_told q_th_up q_th_down q_th_world q_th_tight q_th_sum q_th_now n_th_saying n_th_up n_th_down n_th_world n_th_tight n_th_sum n_th_now th_thrown th_typed th_next th_token th_place th_value th_fault th_many th_signMany th_setMany th_corners' th_isLoaded' th_loaded' th_widened th_wide th_boundUp th_boundDown th_saying th_up' th_down' th_world' th_tight' th_sum' th_now') (some (.int r0)) A) av s 0 0 A) (F0 m 206 ls [])) ?_
        rintro ⟨x6, x7, th_tight⟩ o h ih hz H locs ls hP hD hS hl
        unfold f_X9_loads_L168 at h
        refine lv_iload hx hb dX9_loads_168 (lv_at hl 6 rfl) ?_
        refine lv_aload_n hx hb dX9_loads_170 rfl (lv_at hl 0 rfl) ?_
        refine va_get (D := D) (ci := 9) (v := .int th_many) (C := RX9) (T := TX9) (N := 28) hx hb hts hinX9 hown hK hP 0 rfl rfl 8 (by decide) (hts (.fieldLink RX9 49 "ChanceBoundsModel" "many" "I") (by decide +kernel)) (fun _ h9 => h9) rfl dX9_loads_171 ?_
        refine lv_icmp_ge (tgt := 206) hx hb dX9_loads_174 (by decide) (fun c5 => ?_) (fun c5 => ?_)
        · replace h := ifp c5 h
          cases h
          exact hz _ rfl _ _ _ hP hD hS (lv_sub hl [0, 1, 2, 3, 4] rfl)
        · replace h := ifn c5 h
          refine lv_iload hx hb dX9_loads_177 (lv_at hl 4 rfl) ?_
          refine lv_iload hx hb dX9_loads_179 (lv_at hl 6 rfl) ?_
          refine lv_ishr hx hb dX9_loads_181 ?_
          refine lv_iconst (v := (1 : Int32)) hx hb dX9_loads_182 (by decide) ?_
          refine lv_iand hx hb dX9_loads_183 ?_
          refine lv_iconst (v := (1 : Int32)) hx hb dX9_loads_184 (by decide) ?_
          refine lv_icmp_ne (tgt := 200) hx hb dX9_loads_185 (by decide) (fun c6 => ?_) (fun c6 => ?_)
          · replace h := ifn c6 h
            refine lv_iinc (v := x7 + 1) (lv' := [(7, .int (x7 + 1)), (0, .ref q_th), (1, .int x1), (2, .int x2), (3, .int x3), (5, .int x5), (6, .int x6)]) hx hb dX9_loads_200 hl (k := 6) rfl rfl (by decide) rfl (fun ls hl => ?_)
            refine lv_goto (tgt := 168) hx hb dX9_loads_203 (by decide) ?_
            cases h
            exact ih _ rfl _ _ _ hP hD hS (lv_sub hl [1, 2, 3, 4, 5, 6, 0] rfl)
          · replace h := ifp c6 h
            refine lv_aload_n hx hb dX9_loads_188 rfl (lv_at hl 0 rfl) ?_
            refine va_get (D := D) (ci := 9) (v := .ref q_th_tight) (C := RX9) (T := TX9) (N := 28) hx hb hts hinX9 hown hK hP 0 rfl rfl 21 (by decide) (hts (.fieldLink RX9 36 "ChanceBoundsModel" "tight" "[I") (by decide +kernel)) (fun _ h9 => h9) rfl dX9_loads_189 ?_
            refine lv_iload hx hb dX9_loads_192 (lv_at hl 5 rfl) ?_
            refine lv_iload hx hb dX9_loads_194 (lv_at hl 6 rfl) ?_
            obtain ⟨g7, h⟩ := gd_ok h
            refine va_iast hx hb hK hP hD hS 5 0 rfl rfl g7 dX9_loads_196 (fun H locs hP hD hS => ?_)
            have hP : va_P D vwCl (w_X9_loads tc q_th q_th_text q_th_saying q_th_signs q_th_sets q_th_told q_th_up q_th_down q_th_world q_th_tight q_th_sum q_th_now n_th_saying n_th_up n_th_down n_th_world n_th_tight n_th_sum n_th_now th_thrown th_typed th_next th_token th_place th_value th_fault th_many th_signMany th_setMany th_corners th_isLoaded th_loaded th_widened th_wide th_boundUp th_boundDown th_saying th_up th_down th_world (upd th_tight x6.toNatClampNeg x7) th_sum th_now) H := hP
            have hD : va_D A (w_X9_loads tc q_th q_th_text q_th_saying q_th_signs q_th_sets q_th_told q_th_up q_th_down q_th_world q_th_tight q_th_sum q_th_now n_th_saying n_th_up n_th_down n_th_world n_th_tight n_th_sum n_th_now th_thrown th_typed th_next th_token th_place th_value th_fault th_many th_signMany th_setMany th_corners th_isLoaded th_loaded th_widened th_wide th_boundUp th_boundDown th_saying th_up th_down th_world (upd th_tight x6.toNatClampNeg x7) th_sum th_now) := hD
            refine lv_iinc (v := x6 + 1) (lv' := [(6, .int (x6 + 1)), (0, .ref q_th), (1, .int x1), (2, .int x2), (3, .int x3), (5, .int x5), (7, .int x7)]) hx hb dX9_loads_197 hl (k := 5) rfl rfl (by decide) rfl (fun ls hl => ?_)
            refine lv_iinc (v := x7 + 1) (lv' := [(7, .int (x7 + 1)), (6, .int (x6 + 1)), (0, .ref q_th), (1, .int x1), (2, .int x2), (3, .int x3), (5, .int x5)]) hx hb dX9_loads_200 hl (k := 6) rfl rfl (by decide) rfl (fun ls hl => ?_)
            refine lv_goto (tgt := 168) hx hb dX9_loads_203 (by decide) ?_
            cases h
            exact ih _ rfl _ _ _ hP hD hS (lv_sub hl [2, 3, 4, 5, 6, 1, 0] rfl)
      have L209 : ∀ (x1 : Int32) (x2 : Int32) (x3 : Int32) (x5 : Int32) (th_isLoaded : Int32) (th_loaded : Int32) (th_world : Nat → Int32) (th_tight : Nat → Int32), ∀ (k : Nat) (s209 : Int32 × Int32 × (Nat → Int64) × (Nat → Int64) × (Nat → Int64) × (Nat → Int64)) (r : Int32 × (Nat → Int64) × (Nat → Int64) × (Nat → Int64) × (Nat → Int64)), lp (f_X9_loads_L209 K n_th_saying n_th_up n_th_down n_th_world n_th_tight n_th_sum n_th_now th_many th_widened th_wide th_saying th_world th_tight x1 x3) k s209 = some r → (fun y209 : Int32 × (Nat → Int64) × (Nat → Int64) × (Nat → Int64) × (Nat → Int64) => match y209 with | (th_corners, th_up, th_down, th_sum, th_now) => ∀ (H : Heap) (locs : List Loc) (ls : Array Slot), va_P D vwCl (w_X9_loads tc q_th q_th_text q_th_saying q_th_signs q_th_sets q_th_told q_th_up q_th_down q_th_world q_th_tight q_th_sum q_th_now n_th_saying n_th_up n_th_down n_th_world n_th_tight n_th_sum n_th_now th_thrown th_typed th_next th_token th_place th_value th_fault th_many th_signMany th_setMany th_corners th_isLoaded th_loaded th_widened th_wide th_boundUp th_boundDown th_saying th_up th_down th_world th_tight th_sum th_now) H → va_D A (w_X9_loads tc q_th q_th_text q_th_saying q_th_signs q_th_sets q_th_told q_th_up q_th_down q_th_world q_th_tight q_th_sum q_th_now n_th_saying n_th_up n_th_down n_th_world n_th_tight n_th_sum n_th_now th_thrown th_typed th_next th_token th_place th_value th_fault th_many th_signMany th_setMany th_corners th_isLoaded th_loaded th_widened th_wide th_boundUp th_boundDown th_saying th_up th_down th_world th_tight th_sum th_now) → va_S A s.heap H locs → lv_has ls 8 [(0, .ref q_th), (1, .int x1), (2, .int x2), (3, .int x3), (5, .int x5)] → W p l e ({ frames := 4, cells := 0, slots := 0, locals := 111 } : Room) s m av below meth c H locs 0 0 (MQ below (st_Q D (w_X9_loads tc q_th q_th_text q_th_saying q_th_signs q_th_sets q_th_told q_th_up q_th_down q_th_world q_th_tight q_th_sum q_th_now n_th_saying n_th_up n_th_down n_th_world n_th_tight n_th_sum n_th_now th_thrown th_typed th_next th_token th_place th_value th_fault th_many th_signMany th_setMany th_corners' th_isLoaded' th_loaded' th_widened th_wide th_boundUp th_boundDown th_saying th_up' th_down' th_world' th_tight' th_sum' th_now') (some (.int r0)) A) av s 0 0 A) (F0 m 233 ls [])) r → (fun s209 : Int32 × Int32 × (Nat → Int64) × (Nat → Int64) × (Nat → Int64) × (Nat → Int64) => match s209 with | (x7, th_corners, th_up, th_down, th_sum, th_now) => ∀ (H : Heap) (locs : List Loc) (ls : Array Slot), va_P D vwCl (w_X9_loads tc q_th q_th_text q_th_saying q_th_signs q_th_sets q_th_told q_th_up q_th_down q_th_world q_th_tight q_th_sum q_th_now n_th_saying n_th_up n_th_down n_th_world n_th_tight n_th_sum n_th_now th_thrown th_typed th_next th_token th_place th_value th_fault th_many th_signMany th_setMany th_corners th_isLoaded th_loaded th_widened th_wide th_boundUp th_boundDown th_saying th_up th_down th_world th_tight th_sum th_now) H → va_D A (w_X9_loads tc q_th q_th_text q_th_saying q_th_signs q_th_sets q_th_told q_th_up q_th_down q_th_world q_th_tight q_th_sum q_th_now n_th_saying n_th_up n_th_down n_th_world n_th_tight n_th_sum n_th_now th_thrown th_typed th_next th_token th_place th_value th_fault th_many th_signMany th_setMany th_corners th_isLoaded th_loaded th_widened th_wide th_boundUp th_boundDown th_saying th_up th_down th_world th_tight th_sum th_now) → va_S A s.heap H locs → lv_has ls 8 [(0, .ref q_th), (1, .int x1), (2, .int x2), (3, .int x3), (5, .int x5), (7, .int x7)] → W p l e ({ frames := 4, cells := 0, slots := 0, locals := 111 } : Room) s m av below meth c H locs 0 0 (MQ below (st_Q D (w_X9_loads tc q_th q_th_text q_th_saying q_th_signs q_th_sets q_th_told q_th_up q_th_down q_th_world q_th_tight q_th_sum q_th_now n_th_saying n_th_up n_th_down n_th_world n_th_tight n_th_sum n_th_now th_thrown th_typed th_next th_token th_place th_value th_fault th_many th_signMany th_setMany th_corners' th_isLoaded' th_loaded' th_widened th_wide th_boundUp th_boundDown th_saying th_up' th_down' th_world' th_tight' th_sum' th_now') (some (.int r0)) A) av s 0 0 A) (F0 m 209 ls [])) s209 := by
        intro x1 x2 x3 x5 th_isLoaded th_loaded th_world th_tight
        refine lp_W (f_X9_loads_L209 K n_th_saying n_th_up n_th_down n_th_world n_th_tight n_th_sum n_th_now th_many th_widened th_wide th_saying th_world th_tight x1 x3) (fun s209 : Int32 × Int32 × (Nat → Int64) × (Nat → Int64) × (Nat → Int64) × (Nat → Int64) => match s209 with | (x7, th_corners, th_up, th_down, th_sum, th_now) => ∀ (H : Heap) (locs : List Loc) (ls : Array Slot), va_P D vwCl (w_X9_loads tc q_th q_th_text q_th_saying q_th_signs q_th_sets q_th_told q_th_up q_th_down q_th_world q_th_tight q_th_sum q_th_now n_th_saying n_th_up n_th_down n_th_world n_th_tight n_th_sum n_th_now th_thrown th_typed th_next th_token th_place th_value th_fault th_many th_signMany th_setMany th_corners th_isLoaded th_loaded th_widened th_wide th_boundUp th_boundDown th_saying th_up th_down th_world th_tight th_sum th_now) H → va_D A (w_X9_loads tc q_th q_th_text q_th_saying q_th_signs q_th_sets q_th_told q_th_up q_th_down q_th_world q_th_tight q_th_sum q_th_now n_th_saying n_th_up n_th_down n_th_world n_th_tight n_th_sum n_th_now th_thrown th_typed th_next th_token th_place th_value th_fault th_many th_signMany th_setMany th_corners th_isLoaded th_loaded th_widened th_wide th_boundUp th_boundDown th_saying th_up th_down th_world th_tight th_sum th_now) → va_S A s.heap H locs → lv_has ls 8 [(0, .ref q_th), (1, .int x1), (2, .int x2), (3, .int x3), (5, .int x5), (7, .int x7)] → W p l e ({ frames := 4, cells := 0, slots := 0, locals := 111 } : Room) s m av below meth c H locs 0 0 (MQ below (st_Q D (w_X9_loads tc q_th q_th_text q_th_saying q_th_signs q_th_sets q_th_told q_th_up q_th_down q_th_world q_th_tight q_th_sum q_th_now n_th_saying n_th_up n_th_down n_th_world n_th_tight n_th_sum n_th_now th_thrown th_typed th_next th_token th_place th_value th_fault th_many th_signMany th_setMany th_corners' th_isLoaded' th_loaded' th_widened th_wide th_boundUp th_boundDown th_saying th_up' th_down' th_world' th_tight' th_sum' th_now') (some (.int r0)) A) av s 0 0 A) (F0 m 209 ls [])) (fun y209 : Int32 × (Nat → Int64) × (Nat → Int64) × (Nat → Int64) × (Nat → Int64) => match y209 with | (th_corners, th_up, th_down, th_sum, th_now) => ∀ (H : Heap) (locs : List Loc) (ls : Array Slot), va_P D vwCl (w_X9_loads tc q_th q_th_text q_th_saying q_th_signs q_th_sets q_th_told q_th_up q_th_down q_th_world q_th_tight q_th_sum q_th_now n_th_saying n_th_up n_th_down n_th_world n_th_tight n_th_sum n_th_now th_thrown th_typed th_next th_token th_place th_value th_fault th_many th_signMany th_setMany th_corners th_isLoaded th_loaded th_widened th_wide th_boundUp th_boundDown th_saying th_up th_down th_world th_tight th_sum th_now) H → va_D A (w_X9_loads tc q_th q_th_text q_th_saying q_th_signs q_th_sets q_th_told q_th_up q_th_down q_th_world q_th_tight q_th_sum q_th_now n_th_saying n_th_up n_th_down n_th_world n_th_tight n_th_sum n_th_now th_thrown th_typed th_next th_token th_place th_value th_fault th_many th_signMany th_setMany th_corners th_isLoaded th_loaded th_widened th_wide th_boundUp th_boundDown th_saying th_up th_down th_world th_tight th_sum th_now) → va_S A s.heap H locs → lv_has ls 8 [(0, .ref q_th), (1, .int x1), (2, .int x2), (3, .int x3), (5, .int x5)] → W p l e ({ frames := 4, cells := 0, slots := 0, locals := 111 } : Room) s m av below meth c H locs 0 0 (MQ below (st_Q D (w_X9_loads tc q_th q_th_text q_th_saying q_th_signs q_th_sets q_th_told q_th_up q_th_down q_th_world q_th_tight q_th_sum q_th_now n_th_saying n_th_up n_th_down n_th_world n_th_tight n_th_sum n_th_now th_thrown th_typed th_next th_token th_place th_value th_fault th_many th_signMany th_setMany th_corners' th_isLoaded' th_loaded' th_widened th_wide th_boundUp th_boundDown th_saying th_up' th_down' th_world' th_tight' th_sum' th_now') (some (.int r0)) A) av s 0 0 A) (F0 m 233 ls [])) ?_
        rintro ⟨x7, th_corners, th_up, th_down, th_sum, th_now⟩ o h ih hz H locs ls hP hD hS hl
        unfold f_X9_loads_L209 at h
        refine lv_iload hx hb dX9_loads_209 (lv_at hl 5 rfl) ?_
        refine lv_iconst (v := (1 : Int32)) hx hb dX9_loads_211 (by decide) ?_
        refine lv_iload_n hx hb dX9_loads_212 rfl (lv_at hl 3 rfl) ?_
        refine lv_iconst (v := (1 : Int32)) hx hb dX9_loads_213 (by decide) ?_
        refine lv_isub hx hb dX9_loads_214 ?_
        refine lv_ishl hx hb dX9_loads_215 ?_
        refine lv_icmp_ge (tgt := 233) hx hb dX9_loads_216 (by decide) (fun c8 => ?_) (fun c8 => ?_)
        · replace h := ifp c8 h
          cases h
          exact hz _ rfl _ _ _ hP hD hS (lv_sub hl [0, 1, 2, 3, 4] rfl)
        · replace h := ifn c8 h
          refine lv_aload_n hx hb dX9_loads_219 rfl (lv_at hl 0 rfl) ?_
          refine lv_iload_n hx hb dX9_loads_220 rfl (lv_at hl 3 rfl) ?_
          refine lv_iload hx hb dX9_loads_221 (lv_at hl 5 rfl) ?_
          refine lv_iload_n hx hb dX9_loads_223 rfl (lv_at hl 1 rfl) ?_
          obtain ⟨⟨z9_0, z9_1, z9_2, z9_3, z9_4⟩, hc9, h⟩ := bd_ok h
          refine st_callV (As := [.int x3, .int x7, .int x1]) (rest := []) (pos := (List.range' 0 8)) ⟨hx, hb, hml, hown, hts⟩ (s_X9_corner (l := l) (D := D) (tc := tc) hEok q_th q_th_text q_th_saying q_th_signs q_th_sets q_th_told q_th_up q_th_down q_th_world q_th_tight q_th_sum q_th_now n_th_saying n_th_up n_th_down n_th_world n_th_tight n_th_sum n_th_now th_thrown th_typed th_next th_token th_place th_value th_fault th_many th_signMany th_setMany th_corners th_isLoaded th_loaded th_widened th_wide th_boundUp th_boundDown th_saying th_up th_down th_world th_tight th_sum th_now x3 x7 x1 K z9_0 z9_1 z9_2 z9_3 z9_4 hc9) (cwV 3 hts gX9_loads_X9_corner rfl rfl rfl (by decide +kernel) ⟨Nat.le_of_ble_eq_true rfl, Nat.le_of_ble_eq_true rfl⟩) (st_recv (ci := 9) (q0 := 0) hK hP rfl rfl) hEok hE hK hN hP hD hS hA (st_segpos (m := 8) (by rfl) (by rfl) (by rfl)) (st_seg_nd _ _) (wa_X9_corner.trans wa_X9_corner.symm) rfl hl.1 rfl (Nat.le_of_ble_eq_true rfl) dX9_loads_224 ⟨Nat.zero_le _, Nat.zero_le _⟩ (fun H locs hP hD hS => ?_)
          have hP : va_P D vwCl (w_X9_loads tc q_th q_th_text q_th_saying q_th_signs q_th_sets q_th_told q_th_up q_th_down q_th_world q_th_tight q_th_sum q_th_now n_th_saying n_th_up n_th_down n_th_world n_th_tight n_th_sum n_th_now th_thrown th_typed th_next th_token th_place th_value th_fault th_many th_signMany th_setMany z9_0 th_isLoaded th_loaded th_widened th_wide th_boundUp th_boundDown th_saying z9_1 z9_2 th_world th_tight z9_3 z9_4) H := st_segP (w0 := (w_X9_corner tc q_th q_th_text q_th_saying q_th_signs q_th_sets q_th_told q_th_up q_th_down q_th_world q_th_tight q_th_sum q_th_now n_th_saying n_th_up n_th_down n_th_world n_th_tight n_th_sum n_th_now th_thrown th_typed th_next th_token th_place th_value th_fault th_many th_signMany th_setMany th_corners th_isLoaded th_loaded th_widened th_wide th_boundUp th_boundDown th_saying th_up th_down th_world th_tight th_sum th_now)) (m := 8) (by rfl) (by rfl) (by rfl) (by rfl) (by rfl) hP
          have hD : va_D A (w_X9_loads tc q_th q_th_text q_th_saying q_th_signs q_th_sets q_th_told q_th_up q_th_down q_th_world q_th_tight q_th_sum q_th_now n_th_saying n_th_up n_th_down n_th_world n_th_tight n_th_sum n_th_now th_thrown th_typed th_next th_token th_place th_value th_fault th_many th_signMany th_setMany z9_0 th_isLoaded th_loaded th_widened th_wide th_boundUp th_boundDown th_saying z9_1 z9_2 th_world th_tight z9_3 z9_4) := st_segD (w0 := (w_X9_corner tc q_th q_th_text q_th_saying q_th_signs q_th_sets q_th_told q_th_up q_th_down q_th_world q_th_tight q_th_sum q_th_now n_th_saying n_th_up n_th_down n_th_world n_th_tight n_th_sum n_th_now th_thrown th_typed th_next th_token th_place th_value th_fault th_many th_signMany th_setMany th_corners th_isLoaded th_loaded th_widened th_wide th_boundUp th_boundDown th_saying th_up th_down th_world th_tight th_sum th_now)) (m := 8) (by rfl) (by rfl) (by rfl) (by rfl) (by rfl) hD
          refine lv_iinc (v := x7 + 1) (lv' := [(7, .int (x7 + 1)), (0, .ref q_th), (1, .int x1), (2, .int x2), (3, .int x3), (5, .int x5)]) hx hb dX9_loads_227 hl (k := 5) rfl rfl (by decide) rfl (fun ls hl => ?_)
          refine lv_goto (tgt := 209) hx hb dX9_loads_230 (by decide) ?_
          cases h
          exact ih _ rfl _ _ _ hP hD hS (lv_sub hl [1, 2, 3, 4, 5, 0] rfl)
      unfold f_X9_loads_L125 at h
      refine lv_iload hx hb dX9_loads_125 (lv_at hl 4 rfl) ?_
      refine lv_iconst (v := (1 : Int32)) hx hb dX9_loads_127 (by decide) ?_
      refine lv_aload_n hx hb dX9_loads_128 rfl (lv_at hl 0 rfl) ?_
      refine va_get (D := D) (ci := 9) (v := .int th_many) (C := RX9) (T := TX9) (N := 28) hx hb hts hinX9 hown hK hP 0 rfl rfl 8 (by decide) (hts (.fieldLink RX9 49 "ChanceBoundsModel" "many" "I") (by decide +kernel)) (fun _ h9 => h9) rfl dX9_loads_129 ?_
      refine lv_ishl hx hb dX9_loads_132 ?_
      refine lv_icmp_ge (tgt := 239) hx hb dX9_loads_133 (by decide) (fun c10 => ?_) (fun c10 => ?_)
      · replace h := ifp c10 h
        cases h
        exact hz _ rfl _ _ _ hP hD hS (lv_sub hl [0, 1, 2] rfl)
      · replace h := ifn c10 h
        refine lv_iload_n hx hb dX9_loads_136 rfl (lv_at hl 3 rfl) ?_
        refine lv_bipush (v := (6 : Int32)) hx hb dX9_loads_137 (by decide) ?_
        refine lv_icmp_ge (tgt := 239) hx hb dX9_loads_139 (by decide) (fun c11 => ?_) (fun c11 => ?_)
        · replace h := ifp c11 h
          cases h
          exact hz _ rfl _ _ _ hP hD hS (lv_sub hl [0, 1, 2] rfl)
        · replace h := ifn c11 h
          refine lv_iload hx hb dX9_loads_142 (lv_at hl 4 rfl) ?_
          refine lv_iload_n hx hb dX9_loads_144 rfl (lv_at hl 1 rfl) ?_
          refine lv_iconst (v := (-1 : Int32)) hx hb dX9_loads_145 (by decide) ?_
          refine lv_ixor hx hb dX9_loads_146 ?_
          refine lv_iand hx hb dX9_loads_147 ?_
          refine lv_if_ne (tgt := 233) hx hb dX9_loads_148 (by decide) (fun c12 => ?_) (fun c12 => ?_)
          · replace h := ifn c12 h
            refine lv_iinc (v := x5 + 1) (lv' := [(5, .int (x5 + 1)), (0, .ref q_th), (1, .int x1), (2, .int x2), (3, .int x3)]) hx hb dX9_loads_233 hl (k := 4) rfl rfl (by decide) rfl (fun ls hl => ?_)
            refine lv_goto (tgt := 125) hx hb dX9_loads_236 (by decide) ?_
            cases h
            exact ih _ rfl _ _ _ hP hD hS (lv_sub hl [1, 2, 3, 4, 0] rfl)
          · replace h := ifp c12 h
            refine lv_iload hx hb dX9_loads_151 (lv_at hl 4 rfl) ?_
            obtain ⟨z13_0, hc13, h⟩ := bd_ok h
            refine st_callS (As := [.int x5]) (rest := []) (pos := []) ⟨hx, hb, hml, hown, hts⟩ (s_X9_ones (l := l) (D := D) (tc := tc) hEok x5 K z13_0 hc13) (va_cwS 1 hts gX9_loads_X9_ones rfl rfl rfl (by decide +kernel) ⟨Nat.le_of_ble_eq_true rfl, Nat.le_of_ble_eq_true rfl⟩) hEok hE hK hN hP hD hS hA rfl rfl rfl rfl hl.1 rfl (Nat.le_of_ble_eq_true rfl) dX9_loads_153 ⟨Nat.zero_le _, Nat.zero_le _⟩ (fun H locs hP hD hS => ?_)
            have hP : va_P D vwCl (w_X9_loads tc q_th q_th_text q_th_saying q_th_signs q_th_sets q_th_told q_th_up q_th_down q_th_world q_th_tight q_th_sum q_th_now n_th_saying n_th_up n_th_down n_th_world n_th_tight n_th_sum n_th_now th_thrown th_typed th_next th_token th_place th_value th_fault th_many th_signMany th_setMany th_corners th_isLoaded th_loaded th_widened th_wide th_boundUp th_boundDown th_saying th_up th_down th_world th_tight th_sum th_now) H := hP
            have hD : va_D A (w_X9_loads tc q_th q_th_text q_th_saying q_th_signs q_th_sets q_th_told q_th_up q_th_down q_th_world q_th_tight q_th_sum q_th_now n_th_saying n_th_up n_th_down n_th_world n_th_tight n_th_sum n_th_now th_thrown th_typed th_next th_token th_place th_value th_fault th_many th_signMany th_setMany th_corners th_isLoaded th_loaded th_widened th_wide th_boundUp th_boundDown th_saying th_up th_down th_world th_tight th_sum th_now) := hD
            refine lv_iload_n hx hb dX9_loads_156 rfl (lv_at hl 3 rfl) ?_
            refine lv_iconst (v := (1 : Int32)) hx hb dX9_loads_157 (by decide) ?_
            refine lv_isub hx hb dX9_loads_158 ?_
            refine lv_icmp_ne (tgt := 233) hx hb dX9_loads_159 (by decide) (fun c14 => ?_) (fun c14 => ?_)
            · replace h := ifn c14 h
              refine lv_iinc (v := x5 + 1) (lv' := [(5, .int (x5 + 1)), (0, .ref q_th), (1, .int x1), (2, .int x2), (3, .int x3)]) hx hb dX9_loads_233 hl (k := 4) rfl rfl (by decide) rfl (fun ls hl => ?_)
              refine lv_goto (tgt := 125) hx hb dX9_loads_236 (by decide) ?_
              cases h
              exact ih _ rfl _ _ _ hP hD hS (lv_sub hl [1, 2, 3, 4, 0] rfl)
            · replace h := ifp c14 h
              refine lv_iconst (v := (0 : Int32)) hx hb dX9_loads_162 (by decide) ?_
              refine lv_istore (lv' := [(6, .int (0 : Int32)), (0, .ref q_th), (1, .int x1), (2, .int x2), (3, .int x3), (5, .int x5)]) hx hb dX9_loads_163 hl (by decide) rfl (fun ls hl => ?_)
              refine lv_iconst (v := (0 : Int32)) hx hb dX9_loads_165 (by decide) ?_
              refine lv_istore (lv' := [(7, .int (0 : Int32)), (6, .int (0 : Int32)), (0, .ref q_th), (1, .int x1), (2, .int x2), (3, .int x3), (5, .int x5)]) hx hb dX9_loads_166 hl (by decide) rfl (fun ls hl => ?_)
              obtain ⟨z15_0, hl15, h⟩ := bd_ok h
              refine L168 x1 x2 x3 x5 th_corners th_isLoaded th_loaded th_up th_down th_world th_sum th_now K _ _ hl15 ?_ _ _ _ hP hD hS (lv_sub hl [2, 3, 4, 5, 6, 1, 0] rfl)
              intro H locs ls hP hD hS hl
              refine lv_iconst (v := (0 : Int32)) hx hb dX9_loads_206 (by decide) ?_
              refine lv_istore (lv' := [(7, .int (0 : Int32)), (0, .ref q_th), (1, .int x1), (2, .int x2), (3, .int x3), (5, .int x5)]) hx hb dX9_loads_207 hl (by decide) rfl (fun ls hl => ?_)
              obtain ⟨⟨z16_0, z16_1, z16_2, z16_3, z16_4⟩, hl16, h⟩ := bd_ok h
              refine L209 x1 x2 x3 x5 th_isLoaded th_loaded th_world z15_0 K _ _ hl16 ?_ _ _ _ hP hD hS (lv_sub hl [1, 2, 3, 4, 5, 0] rfl)
              intro H locs ls hP hD hS hl
              refine lv_iinc (v := x5 + 1) (lv' := [(5, .int (x5 + 1)), (0, .ref q_th), (1, .int x1), (2, .int x2), (3, .int x3)]) hx hb dX9_loads_233 hl (k := 4) rfl rfl (by decide) rfl (fun ls hl => ?_)
              refine lv_goto (tgt := 125) hx hb dX9_loads_236 (by decide) ?_
              cases h
              exact ih _ rfl _ _ _ hP hD hS (lv_sub hl [1, 2, 3, 4, 0] rfl)
    unfold f_X9_loads_L63 at h
    refine lv_iload_n hx hb dX9_loads_63 rfl (lv_at hl 2 rfl) ?_
    refine lv_sipush (v := (256 : Int32)) hx hb dX9_loads_64 (by decide) ?_
    refine lv_icmp_ge (tgt := 245) hx hb dX9_loads_67 (by decide) (fun c17 => ?_) (fun c17 => ?_)
    · replace h := ifp c17 h
      cases h
      exact hz _ rfl _ _ _ hP hD hS (lv_sub hl [0] rfl)
    · replace h := ifn c17 h
      refine lv_iload_n hx hb dX9_loads_70 rfl (lv_at hl 2 rfl) ?_
      obtain ⟨z18_0, hc18, h⟩ := bd_ok h
      refine st_callS (As := [.int x2]) (rest := []) (pos := []) ⟨hx, hb, hml, hown, hts⟩ (s_X9_ones (l := l) (D := D) (tc := tc) hEok x2 K z18_0 hc18) (va_cwS 1 hts gX9_loads_X9_ones rfl rfl rfl (by decide +kernel) ⟨Nat.le_of_ble_eq_true rfl, Nat.le_of_ble_eq_true rfl⟩) hEok hE hK hN hP hD hS hA rfl rfl rfl rfl hl.1 rfl (Nat.le_of_ble_eq_true rfl) dX9_loads_71 ⟨Nat.zero_le _, Nat.zero_le _⟩ (fun H locs hP hD hS => ?_)
      have hP : va_P D vwCl (w_X9_loads tc q_th q_th_text q_th_saying q_th_signs q_th_sets q_th_told q_th_up q_th_down q_th_world q_th_tight q_th_sum q_th_now n_th_saying n_th_up n_th_down n_th_world n_th_tight n_th_sum n_th_now th_thrown th_typed th_next th_token th_place th_value th_fault th_many th_signMany th_setMany th_corners th_isLoaded th_loaded th_widened th_wide th_boundUp th_boundDown th_saying th_up th_down th_world th_tight th_sum th_now) H := hP
      have hD : va_D A (w_X9_loads tc q_th q_th_text q_th_saying q_th_signs q_th_sets q_th_told q_th_up q_th_down q_th_world q_th_tight q_th_sum q_th_now n_th_saying n_th_up n_th_down n_th_world n_th_tight n_th_sum n_th_now th_thrown th_typed th_next th_token th_place th_value th_fault th_many th_signMany th_setMany th_corners th_isLoaded th_loaded th_widened th_wide th_boundUp th_boundDown th_saying th_up th_down th_world th_tight th_sum th_now) := hD
      refine lv_istore_n (lv' := [(3, .int z18_0), (0, .ref q_th), (1, .int x1), (2, .int x2)]) hx hb dX9_loads_74 rfl hl (by decide) rfl (fun ls hl => ?_)
      refine lv_iconst (v := (0 : Int32)) hx hb dX9_loads_75 (by decide) ?_
      refine lv_istore (lv' := [(4, .int (0 : Int32)), (3, .int z18_0), (0, .ref q_th), (1, .int x1), (2, .int x2)]) hx hb dX9_loads_76 hl (by decide) rfl (fun ls hl => ?_)
      refine lv_iconst (v := (0 : Int32)) hx hb dX9_loads_78 (by decide) ?_
      refine lv_istore (lv' := [(5, .int (0 : Int32)), (4, .int (0 : Int32)), (3, .int z18_0), (0, .ref q_th), (1, .int x1), (2, .int x2)]) hx hb dX9_loads_79 hl (by decide) rfl (fun ls hl => ?_)
      obtain ⟨z19_0, hl19, h⟩ := bd_ok h
      refine L81 x1 x2 z18_0 th_corners th_isLoaded th_loaded th_up th_down th_tight th_sum th_now K _ _ hl19 ?_ _ _ _ hP hD hS (lv_sub hl [3, 4, 5, 2, 1, 0] rfl)
      intro H locs ls hP hD hS hl
      refine lv_iconst (v := (0 : Int32)) hx hb dX9_loads_122 (by decide) ?_
      refine lv_istore (lv' := [(5, .int (0 : Int32)), (0, .ref q_th), (1, .int x1), (2, .int x2), (3, .int z18_0)]) hx hb dX9_loads_123 hl (by decide) rfl (fun ls hl => ?_)
      obtain ⟨⟨z20_0, z20_1, z20_2, z20_3, z20_4, z20_5⟩, hl20, h⟩ := bd_ok h
      refine L125 x1 x2 z18_0 th_isLoaded th_loaded z19_0 K _ _ hl20 ?_ _ _ _ hP hD hS (lv_sub hl [1, 2, 3, 4, 0] rfl)
      intro H locs ls hP hD hS hl
      refine lv_iinc (v := x2 + 1) (lv' := [(2, .int (x2 + 1)), (0, .ref q_th), (1, .int x1)]) hx hb dX9_loads_239 hl (k := 2) rfl rfl (by decide) rfl (fun ls hl => ?_)
      refine lv_goto (tgt := 63) hx hb dX9_loads_242 (by decide) ?_
      cases h
      exact ih _ rfl _ _ _ hP hD hS (lv_sub hl [1, 2, 0] rfl)
  have J35 : ∀ (x1 : Int32) (th_corners : Int32) (th_isLoaded : Int32) (th_loaded : Int32) (th_up : Nat → Int64) (th_down : Nat → Int64) (th_world : Nat → Int32) (th_tight : Nat → Int32) (th_sum : Nat → Int64) (th_now : Nat → Int64) (H : Heap) (locs : List Loc) (ls : Array Slot), f_X9_loads_J35 K n_th_saying n_th_up n_th_down n_th_world n_th_tight n_th_sum n_th_now th_many th_widened th_wide th_saying th_up th_down th_world th_tight th_sum th_now x1 = some (r0, th_corners', th_isLoaded', th_loaded', th_up', th_down', th_world', th_tight', th_sum', th_now') → va_P D vwCl (w_X9_loads tc q_th q_th_text q_th_saying q_th_signs q_th_sets q_th_told q_th_up q_th_down q_th_world q_th_tight q_th_sum q_th_now n_th_saying n_th_up n_th_down n_th_world n_th_tight n_th_sum n_th_now th_thrown th_typed th_next th_token th_place th_value th_fault th_many th_signMany th_setMany th_corners th_isLoaded th_loaded th_widened th_wide th_boundUp th_boundDown th_saying th_up th_down th_world th_tight th_sum th_now) H → va_D A (w_X9_loads tc q_th q_th_text q_th_saying q_th_signs q_th_sets q_th_told q_th_up q_th_down q_th_world q_th_tight q_th_sum q_th_now n_th_saying n_th_up n_th_down n_th_world n_th_tight n_th_sum n_th_now th_thrown th_typed th_next th_token th_place th_value th_fault th_many th_signMany th_setMany th_corners th_isLoaded th_loaded th_widened th_wide th_boundUp th_boundDown th_saying th_up th_down th_world th_tight th_sum th_now) → va_S A s.heap H locs → lv_has ls 8 [(0, .ref q_th), (1, .int x1)] → W p l e ({ frames := 4, cells := 0, slots := 0, locals := 111 } : Room) s m av below meth c H locs 0 0 (MQ below (st_Q D (w_X9_loads tc q_th q_th_text q_th_saying q_th_signs q_th_sets q_th_told q_th_up q_th_down q_th_world q_th_tight q_th_sum q_th_now n_th_saying n_th_up n_th_down n_th_world n_th_tight n_th_sum n_th_now th_thrown th_typed th_next th_token th_place th_value th_fault th_many th_signMany th_setMany th_corners' th_isLoaded' th_loaded' th_widened th_wide th_boundUp th_boundDown th_saying th_up' th_down' th_world' th_tight' th_sum' th_now') (some (.int r0)) A) av s 0 0 A) (F0 m 35 ls []) := by
    intro x1 th_corners th_isLoaded th_loaded th_up th_down th_world th_tight th_sum th_now H locs ls h hP hD hS hl
    unfold f_X9_loads_J35 at h
    refine lv_aload_n hx hb dX9_loads_35 rfl (lv_at hl 0 rfl) ?_
    refine lv_aload_n hx hb dX9_loads_36 rfl (lv_at hl 0 rfl) ?_
    refine va_get (D := D) (ci := 9) (v := .int th_widened) (C := RX9) (T := TX9) (N := 28) hx hb hts hinX9 hown hK hP 0 rfl rfl 24 (by decide) (hts (.fieldLink RX9 130 "ChanceBoundsModel" "widened" "I") (by decide +kernel)) (fun _ h9 => h9) rfl dX9_loads_37 ?_
    refine lv_if_ne (tgt := 47) hx hb dX9_loads_40 (by decide) (fun c21 => ?_) (fun c21 => ?_)
    · replace h := ifn c21 h
      refine lv_iconst (v := (0 : Int32)) hx hb dX9_loads_47 (by decide) ?_
      refine va_put (D := D) (ci := 9) (v := .int (0 : Int32)) (ty := .boolean) (C := RX9) (T := TX9) (N := 28) hx hb hts hinX9 tyX9 tyX9_ok nmX9 hown hK hP hD hS 0 rfl rfl 16 (by decide) (hts (.fieldLink RX9 120 "ChanceBoundsModel" "isLoaded" "Z") (by decide +kernel)) (fun _ h9 => h9) rfl (by decide +kernel) rfl rfl (Nat.le_of_ble_eq_true rfl) dX9_loads_48 (fun H locs hP hD hS => ?_)
      have hP : va_P D vwCl (w_X9_loads tc q_th q_th_text q_th_saying q_th_signs q_th_sets q_th_told q_th_up q_th_down q_th_world q_th_tight q_th_sum q_th_now n_th_saying n_th_up n_th_down n_th_world n_th_tight n_th_sum n_th_now th_thrown th_typed th_next th_token th_place th_value th_fault th_many th_signMany th_setMany th_corners (0 : Int32) th_loaded th_widened th_wide th_boundUp th_boundDown th_saying th_up th_down th_world th_tight th_sum th_now) H := hP
      have hD : va_D A (w_X9_loads tc q_th q_th_text q_th_saying q_th_signs q_th_sets q_th_told q_th_up q_th_down q_th_world q_th_tight q_th_sum q_th_now n_th_saying n_th_up n_th_down n_th_world n_th_tight n_th_sum n_th_now th_thrown th_typed th_next th_token th_place th_value th_fault th_many th_signMany th_setMany th_corners (0 : Int32) th_loaded th_widened th_wide th_boundUp th_boundDown th_saying th_up th_down th_world th_tight th_sum th_now) := hD
      refine lv_aload_n hx hb dX9_loads_51 rfl (lv_at hl 0 rfl) ?_
      refine lv_iload_n hx hb dX9_loads_52 rfl (lv_at hl 1 rfl) ?_
      refine va_put (D := D) (ci := 9) (v := .int x1) (ty := .int) (C := RX9) (T := TX9) (N := 28) hx hb hts hinX9 tyX9 tyX9_ok nmX9 hown hK hP hD hS 0 rfl rfl 17 (by decide) (hts (.fieldLink RX9 153 "ChanceBoundsModel" "loaded" "I") (by decide +kernel)) (fun _ h9 => h9) rfl (by decide +kernel) rfl rfl (Nat.le_of_ble_eq_true rfl) dX9_loads_53 (fun H locs hP hD hS => ?_)
      have hP : va_P D vwCl (w_X9_loads tc q_th q_th_text q_th_saying q_th_signs q_th_sets q_th_told q_th_up q_th_down q_th_world q_th_tight q_th_sum q_th_now n_th_saying n_th_up n_th_down n_th_world n_th_tight n_th_sum n_th_now th_thrown th_typed th_next th_token th_place th_value th_fault th_many th_signMany th_setMany th_corners (0 : Int32) x1 th_widened th_wide th_boundUp th_boundDown th_saying th_up th_down th_world th_tight th_sum th_now) H := hP
      have hD : va_D A (w_X9_loads tc q_th q_th_text q_th_saying q_th_signs q_th_sets q_th_told q_th_up q_th_down q_th_world q_th_tight q_th_sum q_th_now n_th_saying n_th_up n_th_down n_th_world n_th_tight n_th_sum n_th_now th_thrown th_typed th_next th_token th_place th_value th_fault th_many th_signMany th_setMany th_corners (0 : Int32) x1 th_widened th_wide th_boundUp th_boundDown th_saying th_up th_down th_world th_tight th_sum th_now) := hD
      refine lv_aload_n hx hb dX9_loads_56 rfl (lv_at hl 0 rfl) ?_
      refine lv_iconst (v := (0 : Int32)) hx hb dX9_loads_57 (by decide) ?_
      refine va_put (D := D) (ci := 9) (v := .int (0 : Int32)) (ty := .int) (C := RX9) (T := TX9) (N := 28) hx hb hts hinX9 tyX9 tyX9_ok nmX9 hown hK hP hD hS 0 rfl rfl 15 (by decide) (hts (.fieldLink RX9 150 "ChanceBoundsModel" "corners" "I") (by decide +kernel)) (fun _ h9 => h9) rfl (by decide +kernel) rfl rfl (Nat.le_of_ble_eq_true rfl) dX9_loads_58 (fun H locs hP hD hS => ?_)
      have hP : va_P D vwCl (w_X9_loads tc q_th q_th_text q_th_saying q_th_signs q_th_sets q_th_told q_th_up q_th_down q_th_world q_th_tight q_th_sum q_th_now n_th_saying n_th_up n_th_down n_th_world n_th_tight n_th_sum n_th_now th_thrown th_typed th_next th_token th_place th_value th_fault th_many th_signMany th_setMany (0 : Int32) (0 : Int32) x1 th_widened th_wide th_boundUp th_boundDown th_saying th_up th_down th_world th_tight th_sum th_now) H := hP
      have hD : va_D A (w_X9_loads tc q_th q_th_text q_th_saying q_th_signs q_th_sets q_th_told q_th_up q_th_down q_th_world q_th_tight q_th_sum q_th_now n_th_saying n_th_up n_th_down n_th_world n_th_tight n_th_sum n_th_now th_thrown th_typed th_next th_token th_place th_value th_fault th_many th_signMany th_setMany (0 : Int32) (0 : Int32) x1 th_widened th_wide th_boundUp th_boundDown th_saying th_up th_down th_world th_tight th_sum th_now) := hD
      refine lv_iconst (v := (1 : Int32)) hx hb dX9_loads_61 (by decide) ?_
      refine lv_istore_n (lv' := [(2, .int (1 : Int32)), (0, .ref q_th), (1, .int x1)]) hx hb dX9_loads_62 rfl hl (by decide) rfl (fun ls hl => ?_)
      obtain ⟨⟨z22_0, z22_1, z22_2, z22_3, z22_4, z22_5, z22_6⟩, hl22, h⟩ := bd_ok h
      refine L63 x1 (0 : Int32) x1 K _ _ hl22 ?_ _ _ _ hP hD hS (lv_sub hl [1, 2, 0] rfl)
      intro H locs ls hP hD hS hl
      refine lv_aload_n hx hb dX9_loads_245 rfl (lv_at hl 0 rfl) ?_
      refine va_get (D := D) (ci := 9) (v := .int z22_0) (C := RX9) (T := TX9) (N := 28) hx hb hts hinX9 hown hK hP 0 rfl rfl 15 (by decide) (hts (.fieldLink RX9 150 "ChanceBoundsModel" "corners" "I") (by decide +kernel)) (fun _ h9 => h9) rfl dX9_loads_246 ?_
      refine lv_if_le (tgt := 256) hx hb dX9_loads_249 (by decide) (fun c23 => ?_) (fun c23 => ?_)
      · replace h := ifp c23 h
        refine lv_iconst (v := (0 : Int32)) hx hb dX9_loads_256 (by decide) ?_
        simp only [Option.some.injEq, Prod.mk.injEq] at h
        obtain ⟨rfl, rfl, rfl, rfl, rfl, rfl, rfl, rfl, rfl, rfl⟩ := h
        exact st_zret hx hb hr hlocks hP hD hS rfl dX9_loads_257
      · replace h := ifn c23 h
        refine lv_iconst (v := (1 : Int32)) hx hb dX9_loads_252 (by decide) ?_
        refine lv_goto (tgt := 257) hx hb dX9_loads_253 (by decide) ?_
        simp only [Option.some.injEq, Prod.mk.injEq] at h
        obtain ⟨rfl, rfl, rfl, rfl, rfl, rfl, rfl, rfl, rfl, rfl⟩ := h
        exact st_zret hx hb hr hlocks hP hD hS rfl dX9_loads_257
    · replace h := ifp c21 h
      refine lv_iconst (v := (1 : Int32)) hx hb dX9_loads_43 (by decide) ?_
      refine lv_goto (tgt := 48) hx hb dX9_loads_44 (by decide) ?_
      refine va_put (D := D) (ci := 9) (v := .int (1 : Int32)) (ty := .boolean) (C := RX9) (T := TX9) (N := 28) hx hb hts hinX9 tyX9 tyX9_ok nmX9 hown hK hP hD hS 0 rfl rfl 16 (by decide) (hts (.fieldLink RX9 120 "ChanceBoundsModel" "isLoaded" "Z") (by decide +kernel)) (fun _ h9 => h9) rfl (by decide +kernel) rfl rfl (Nat.le_of_ble_eq_true rfl) dX9_loads_48 (fun H locs hP hD hS => ?_)
      have hP : va_P D vwCl (w_X9_loads tc q_th q_th_text q_th_saying q_th_signs q_th_sets q_th_told q_th_up q_th_down q_th_world q_th_tight q_th_sum q_th_now n_th_saying n_th_up n_th_down n_th_world n_th_tight n_th_sum n_th_now th_thrown th_typed th_next th_token th_place th_value th_fault th_many th_signMany th_setMany th_corners (1 : Int32) th_loaded th_widened th_wide th_boundUp th_boundDown th_saying th_up th_down th_world th_tight th_sum th_now) H := hP
      have hD : va_D A (w_X9_loads tc q_th q_th_text q_th_saying q_th_signs q_th_sets q_th_told q_th_up q_th_down q_th_world q_th_tight q_th_sum q_th_now n_th_saying n_th_up n_th_down n_th_world n_th_tight n_th_sum n_th_now th_thrown th_typed th_next th_token th_place th_value th_fault th_many th_signMany th_setMany th_corners (1 : Int32) th_loaded th_widened th_wide th_boundUp th_boundDown th_saying th_up th_down th_world th_tight th_sum th_now) := hD
      refine lv_aload_n hx hb dX9_loads_51 rfl (lv_at hl 0 rfl) ?_
      refine lv_iload_n hx hb dX9_loads_52 rfl (lv_at hl 1 rfl) ?_
      refine va_put (D := D) (ci := 9) (v := .int x1) (ty := .int) (C := RX9) (T := TX9) (N := 28) hx hb hts hinX9 tyX9 tyX9_ok nmX9 hown hK hP hD hS 0 rfl rfl 17 (by decide) (hts (.fieldLink RX9 153 "ChanceBoundsModel" "loaded" "I") (by decide +kernel)) (fun _ h9 => h9) rfl (by decide +kernel) rfl rfl (Nat.le_of_ble_eq_true rfl) dX9_loads_53 (fun H locs hP hD hS => ?_)
      have hP : va_P D vwCl (w_X9_loads tc q_th q_th_text q_th_saying q_th_signs q_th_sets q_th_told q_th_up q_th_down q_th_world q_th_tight q_th_sum q_th_now n_th_saying n_th_up n_th_down n_th_world n_th_tight n_th_sum n_th_now th_thrown th_typed th_next th_token th_place th_value th_fault th_many th_signMany th_setMany th_corners (1 : Int32) x1 th_widened th_wide th_boundUp th_boundDown th_saying th_up th_down th_world th_tight th_sum th_now) H := hP
      have hD : va_D A (w_X9_loads tc q_th q_th_text q_th_saying q_th_signs q_th_sets q_th_told q_th_up q_th_down q_th_world q_th_tight q_th_sum q_th_now n_th_saying n_th_up n_th_down n_th_world n_th_tight n_th_sum n_th_now th_thrown th_typed th_next th_token th_place th_value th_fault th_many th_signMany th_setMany th_corners (1 : Int32) x1 th_widened th_wide th_boundUp th_boundDown th_saying th_up th_down th_world th_tight th_sum th_now) := hD
      refine lv_aload_n hx hb dX9_loads_56 rfl (lv_at hl 0 rfl) ?_
      refine lv_iconst (v := (0 : Int32)) hx hb dX9_loads_57 (by decide) ?_
      refine va_put (D := D) (ci := 9) (v := .int (0 : Int32)) (ty := .int) (C := RX9) (T := TX9) (N := 28) hx hb hts hinX9 tyX9 tyX9_ok nmX9 hown hK hP hD hS 0 rfl rfl 15 (by decide) (hts (.fieldLink RX9 150 "ChanceBoundsModel" "corners" "I") (by decide +kernel)) (fun _ h9 => h9) rfl (by decide +kernel) rfl rfl (Nat.le_of_ble_eq_true rfl) dX9_loads_58 (fun H locs hP hD hS => ?_)
      have hP : va_P D vwCl (w_X9_loads tc q_th q_th_text q_th_saying q_th_signs q_th_sets q_th_told q_th_up q_th_down q_th_world q_th_tight q_th_sum q_th_now n_th_saying n_th_up n_th_down n_th_world n_th_tight n_th_sum n_th_now th_thrown th_typed th_next th_token th_place th_value th_fault th_many th_signMany th_setMany (0 : Int32) (1 : Int32) x1 th_widened th_wide th_boundUp th_boundDown th_saying th_up th_down th_world th_tight th_sum th_now) H := hP
      have hD : va_D A (w_X9_loads tc q_th q_th_text q_th_saying q_th_signs q_th_sets q_th_told q_th_up q_th_down q_th_world q_th_tight q_th_sum q_th_now n_th_saying n_th_up n_th_down n_th_world n_th_tight n_th_sum n_th_now th_thrown th_typed th_next th_token th_place th_value th_fault th_many th_signMany th_setMany (0 : Int32) (1 : Int32) x1 th_widened th_wide th_boundUp th_boundDown th_saying th_up th_down th_world th_tight th_sum th_now) := hD
      refine lv_iconst (v := (1 : Int32)) hx hb dX9_loads_61 (by decide) ?_
      refine lv_istore_n (lv' := [(2, .int (1 : Int32)), (0, .ref q_th), (1, .int x1)]) hx hb dX9_loads_62 rfl hl (by decide) rfl (fun ls hl => ?_)
      obtain ⟨⟨z24_0, z24_1, z24_2, z24_3, z24_4, z24_5, z24_6⟩, hl24, h⟩ := bd_ok h
      refine L63 x1 (1 : Int32) x1 K _ _ hl24 ?_ _ _ _ hP hD hS (lv_sub hl [1, 2, 0] rfl)
      intro H locs ls hP hD hS hl
      refine lv_aload_n hx hb dX9_loads_245 rfl (lv_at hl 0 rfl) ?_
      refine va_get (D := D) (ci := 9) (v := .int z24_0) (C := RX9) (T := TX9) (N := 28) hx hb hts hinX9 hown hK hP 0 rfl rfl 15 (by decide) (hts (.fieldLink RX9 150 "ChanceBoundsModel" "corners" "I") (by decide +kernel)) (fun _ h9 => h9) rfl dX9_loads_246 ?_
      refine lv_if_le (tgt := 256) hx hb dX9_loads_249 (by decide) (fun c25 => ?_) (fun c25 => ?_)
      · replace h := ifp c25 h
        refine lv_iconst (v := (0 : Int32)) hx hb dX9_loads_256 (by decide) ?_
        simp only [Option.some.injEq, Prod.mk.injEq] at h
        obtain ⟨rfl, rfl, rfl, rfl, rfl, rfl, rfl, rfl, rfl, rfl⟩ := h
        exact st_zret hx hb hr hlocks hP hD hS rfl dX9_loads_257
      · replace h := ifn c25 h
        refine lv_iconst (v := (1 : Int32)) hx hb dX9_loads_252 (by decide) ?_
        refine lv_goto (tgt := 257) hx hb dX9_loads_253 (by decide) ?_
        simp only [Option.some.injEq, Prod.mk.injEq] at h
        obtain ⟨rfl, rfl, rfl, rfl, rfl, rfl, rfl, rfl, rfl, rfl⟩ := h
        exact st_zret hx hb hr hlocks hP hD hS rfl dX9_loads_257
  unfold f_X9_loads at h
  refine lv_aload_n hx hb dX9_loads_0 rfl (lv_at hl 0 rfl) ?_
  refine va_get (D := D) (ci := 9) (v := .int th_isLoaded) (C := RX9) (T := TX9) (N := 28) hx hb hts hinX9 hown hK hP 0 rfl rfl 16 (by decide) (hts (.fieldLink RX9 120 "ChanceBoundsModel" "isLoaded" "Z") (by decide +kernel)) (fun _ h9 => h9) rfl dX9_loads_1 ?_
  refine lv_if_eq (tgt := 35) hx hb dX9_loads_4 (by decide) (fun c26 => ?_) (fun c26 => ?_)
  · replace h := ifp c26 h
    exact J35 x1 th_corners th_isLoaded th_loaded th_up th_down th_world th_tight th_sum th_now _ _ _ h hP hD hS (lv_sub hl [0, 1] rfl)
  · replace h := ifn c26 h
    refine lv_aload_n hx hb dX9_loads_7 rfl (lv_at hl 0 rfl) ?_
    refine va_get (D := D) (ci := 9) (v := .int th_loaded) (C := RX9) (T := TX9) (N := 28) hx hb hts hinX9 hown hK hP 0 rfl rfl 17 (by decide) (hts (.fieldLink RX9 153 "ChanceBoundsModel" "loaded" "I") (by decide +kernel)) (fun _ h9 => h9) rfl dX9_loads_8 ?_
    refine lv_iload_n hx hb dX9_loads_11 rfl (lv_at hl 1 rfl) ?_
    refine lv_icmp_ne (tgt := 35) hx hb dX9_loads_12 (by decide) (fun c27 => ?_) (fun c27 => ?_)
    · replace h := ifn c27 h
      exact J35 x1 th_corners th_isLoaded th_loaded th_up th_down th_world th_tight th_sum th_now _ _ _ h hP hD hS (lv_sub hl [0, 1] rfl)
    · replace h := ifp c27 h
      refine lv_aload_n hx hb dX9_loads_15 rfl (lv_at hl 0 rfl) ?_
      refine va_get (D := D) (ci := 9) (v := .int th_widened) (C := RX9) (T := TX9) (N := 28) hx hb hts hinX9 hown hK hP 0 rfl rfl 24 (by decide) (hts (.fieldLink RX9 130 "ChanceBoundsModel" "widened" "I") (by decide +kernel)) (fun _ h9 => h9) rfl dX9_loads_16 ?_
      refine lv_if_ne (tgt := 35) hx hb dX9_loads_19 (by decide) (fun c28 => ?_) (fun c28 => ?_)
      · replace h := ifn c28 h
        exact J35 x1 th_corners th_isLoaded th_loaded th_up th_down th_world th_tight th_sum th_now _ _ _ h hP hD hS (lv_sub hl [0, 1] rfl)
      · replace h := ifp c28 h
        refine lv_aload_n hx hb dX9_loads_22 rfl (lv_at hl 0 rfl) ?_
        refine va_get (D := D) (ci := 9) (v := .int th_corners) (C := RX9) (T := TX9) (N := 28) hx hb hts hinX9 hown hK hP 0 rfl rfl 15 (by decide) (hts (.fieldLink RX9 150 "ChanceBoundsModel" "corners" "I") (by decide +kernel)) (fun _ h9 => h9) rfl dX9_loads_23 ?_
        refine lv_if_le (tgt := 33) hx hb dX9_loads_26 (by decide) (fun c29 => ?_) (fun c29 => ?_)
        · replace h := ifp c29 h
          refine lv_iconst (v := (0 : Int32)) hx hb dX9_loads_33 (by decide) ?_
          simp only [Option.some.injEq, Prod.mk.injEq] at h
          obtain ⟨rfl, rfl, rfl, rfl, rfl, rfl, rfl, rfl, rfl, rfl⟩ := h
          exact st_zret hx hb hr hlocks hP hD hS rfl dX9_loads_34
        · replace h := ifn c29 h
          refine lv_iconst (v := (1 : Int32)) hx hb dX9_loads_29 (by decide) ?_
          refine lv_goto (tgt := 34) hx hb dX9_loads_30 (by decide) ?_
          simp only [Option.some.injEq, Prod.mk.injEq] at h
          obtain ⟨rfl, rfl, rfl, rfl, rfl, rfl, rfl, rfl, rfl, rfl⟩ := h
          exact st_zret hx hb hr hlocks hP hD hS rfl dX9_loads_34
def f_X9_loadsOn (K : Nat) (n_th_saying : Nat) (n_th_up : Nat) (n_th_down : Nat) (n_th_world : Nat) (n_th_tight : Nat) (n_th_sum : Nat) (n_th_now : Nat) (th_many : Int32) (th_corners : Int32) (th_isLoaded : Int32) (th_loaded : Int32) (th_wide : Int32) (th_saying : Nat → Int32) (th_up : Nat → Int64) (th_down : Nat → Int64) (th_world : Nat → Int32) (th_tight : Nat → Int32) (th_sum : Nat → Int64) (th_now : Nat → Int64) : Option (Int32 × Int32 × Int32 × Int32 × Int32 × (Nat → Int64) × (Nat → Int64) × (Nat → Int32) × (Nat → Int32) × (Nat → Int64) × (Nat → Int64)) :=
  (f_X9_ons K n_th_saying th_many th_saying).bind fun z1_0 =>
  (f_X9_loads K n_th_saying n_th_up n_th_down n_th_world n_th_tight n_th_sum n_th_now th_many th_corners th_isLoaded th_loaded (0 : Int32) th_wide th_saying th_up th_down th_world th_tight th_sum th_now z1_0).bind fun z2 => match z2 with
  | (z2_0, z2_1, z2_2, z2_3, z2_4, z2_5, z2_6, z2_7, z2_8, z2_9) =>
    if ¬ (z2_0 = 0 ∨ z2_0 = 1) then none else
    some (z2_0, z2_1, z2_2, z2_3, (0 : Int32), z2_4, z2_5, z2_6, z2_7, z2_8, z2_9)
abbrev w_X9_loadsOn (tc : Nat → ClassId) (q_th : Nat) (q_th_text : Nat) (q_th_saying : Nat) (q_th_signs : Nat) (q_th_sets : Nat) (q_th_told : Nat) (q_th_up : Nat) (q_th_down : Nat) (q_th_world : Nat) (q_th_tight : Nat) (q_th_sum : Nat) (q_th_now : Nat) (n_th_saying : Nat) (n_th_up : Nat) (n_th_down : Nat) (n_th_world : Nat) (n_th_tight : Nat) (n_th_sum : Nat) (n_th_now : Nat) (th_thrown : Int32) (th_typed : Int32) (th_next : Int32) (th_token : Int32) (th_place : Int32) (th_value : Int32) (th_fault : Int32) (th_many : Int32) (th_signMany : Int32) (th_setMany : Int32) (th_corners : Int32) (th_isLoaded : Int32) (th_loaded : Int32) (th_widened : Int32) (th_wide : Int32) (th_boundUp : Int64) (th_boundDown : Int64) (th_saying : Nat → Int32) (th_up : Nat → Int64) (th_down : Nat → Int64) (th_world : Nat → Int32) (th_tight : Nat → Int32) (th_sum : Nat → Int64) (th_now : Nat → Int64) : va_W := [(q_th, .inr (9, [.int th_thrown, .ref q_th_text, .int th_typed, .int th_next, .int th_token, .int th_place, .int th_value, .int th_fault, .int th_many, .ref q_th_saying, .ref q_th_signs, .ref q_th_sets, .int th_signMany, .int th_setMany, .ref q_th_told, .int th_corners, .int th_isLoaded, .int th_loaded, .ref q_th_up, .ref q_th_down, .ref q_th_world, .ref q_th_tight, .ref q_th_sum, .ref q_th_now, .int th_widened, .int th_wide, .long th_boundUp, .long th_boundDown])), (q_th_saying, .inl (tc 0, n_th_saying, .inl th_saying)), (q_th_up, .inl (tc 1, n_th_up, .inr (.inl th_up))), (q_th_down, .inl (tc 1, n_th_down, .inr (.inl th_down))), (q_th_world, .inl (tc 0, n_th_world, .inl th_world)), (q_th_tight, .inl (tc 0, n_th_tight, .inl th_tight)), (q_th_sum, .inl (tc 1, n_th_sum, .inr (.inl th_sum))), (q_th_now, .inl (tc 1, n_th_now, .inr (.inl th_now)))]
theorem wa_X9_loadsOn {tc : Nat → ClassId} {q_th : Nat} {q_th_text : Nat} {q_th_saying : Nat} {q_th_signs : Nat} {q_th_sets : Nat} {q_th_told : Nat} {q_th_up : Nat} {q_th_down : Nat} {q_th_world : Nat} {q_th_tight : Nat} {q_th_sum : Nat} {q_th_now : Nat} {n_th_saying : Nat} {n_th_up : Nat} {n_th_down : Nat} {n_th_world : Nat} {n_th_tight : Nat} {n_th_sum : Nat} {n_th_now : Nat} {th_thrown : Int32} {th_typed : Int32} {th_next : Int32} {th_token : Int32} {th_place : Int32} {th_value : Int32} {th_fault : Int32} {th_many : Int32} {th_signMany : Int32} {th_setMany : Int32} {th_corners : Int32} {th_isLoaded : Int32} {th_loaded : Int32} {th_widened : Int32} {th_wide : Int32} {th_boundUp : Int64} {th_boundDown : Int64} {th_saying : Nat → Int32} {th_up : Nat → Int64} {th_down : Nat → Int64} {th_world : Nat → Int32} {th_tight : Nat → Int32} {th_sum : Nat → Int64} {th_now : Nat → Int64} : (w_X9_loadsOn tc q_th q_th_text q_th_saying q_th_signs q_th_sets q_th_told q_th_up q_th_down q_th_world q_th_tight q_th_sum q_th_now n_th_saying n_th_up n_th_down n_th_world n_th_tight n_th_sum n_th_now th_thrown th_typed th_next th_token th_place th_value th_fault th_many th_signMany th_setMany th_corners th_isLoaded th_loaded th_widened th_wide th_boundUp th_boundDown th_saying th_up th_down th_world th_tight th_sum th_now).map (fun q => q.1) = [q_th, q_th_saying, q_th_up, q_th_down, q_th_world, q_th_tight, q_th_sum, q_th_now] := rfl
set_option maxHeartbeats 4000000 in
set_option maxRecDepth 100000 in
theorem s_X9_loadsOn {l : Launch} {E : (Nat → Prop) → State → Prop} (hEok : st_Eok E) {D : va_G} {tc : Nat → ClassId} (q_th : Nat) (q_th_text : Nat) (q_th_saying : Nat) (q_th_signs : Nat) (q_th_sets : Nat) (q_th_told : Nat) (q_th_up : Nat) (q_th_down : Nat) (q_th_world : Nat) (q_th_tight : Nat) (q_th_sum : Nat) (q_th_now : Nat) (n_th_saying : Nat) (n_th_up : Nat) (n_th_down : Nat) (n_th_world : Nat) (n_th_tight : Nat) (n_th_sum : Nat) (n_th_now : Nat) (th_thrown : Int32) (th_typed : Int32) (th_next : Int32) (th_token : Int32) (th_place : Int32) (th_value : Int32) (th_fault : Int32) (th_many : Int32) (th_signMany : Int32) (th_setMany : Int32) (th_corners : Int32) (th_isLoaded : Int32) (th_loaded : Int32) (th_widened : Int32) (th_wide : Int32) (th_boundUp : Int64) (th_boundDown : Int64) (th_saying : Nat → Int32) (th_up : Nat → Int64) (th_down : Nat → Int64) (th_world : Nat → Int32) (th_tight : Nat → Int32) (th_sum : Nat → Int64) (th_now : Nat → Int64) (K : Nat) (r0 : Int32) (th_corners' : Int32) (th_isLoaded' : Int32) (th_loaded' : Int32) (th_widened' : Int32) (th_up' : Nat → Int64) (th_down' : Nat → Int64) (th_world' : Nat → Int32) (th_tight' : Nat → Int32) (th_sum' : Nat → Int64) (th_now' : Nat → Int64) (h : f_X9_loadsOn K n_th_saying n_th_up n_th_down n_th_world n_th_tight n_th_sum n_th_now th_many th_corners th_isLoaded th_loaded th_wide th_saying th_up th_down th_world th_tight th_sum th_now = some (r0, th_corners', th_isLoaded', th_loaded', th_widened', th_up', th_down', th_world', th_tight', th_sum', th_now')) : st l yX9_loadsOn wsX9_loadsOn ({ frames := 5, cells := 0, slots := 0, locals := 138 }) E D tc [.ref q_th] (w_X9_loadsOn tc q_th q_th_text q_th_saying q_th_signs q_th_sets q_th_told q_th_up q_th_down q_th_world q_th_tight q_th_sum q_th_now n_th_saying n_th_up n_th_down n_th_world n_th_tight n_th_sum n_th_now th_thrown th_typed th_next th_token th_place th_value th_fault th_many th_signMany th_setMany th_corners th_isLoaded th_loaded th_widened th_wide th_boundUp th_boundDown th_saying th_up th_down th_world th_tight th_sum th_now) (some (.int r0)) (w_X9_loadsOn tc q_th q_th_text q_th_saying q_th_signs q_th_sets q_th_told q_th_up q_th_down q_th_world q_th_tight q_th_sum q_th_now n_th_saying n_th_up n_th_down n_th_world n_th_tight n_th_sum n_th_now th_thrown th_typed th_next th_token th_place th_value th_fault th_many th_signMany th_setMany th_corners' th_isLoaded' th_loaded' th_widened' th_wide th_boundUp th_boundDown th_saying th_up' th_down' th_world' th_tight' th_sum' th_now') := by
  refine st_enter (cc := cX9_loadsOn) (maxL := 1) (ret := (some .boolean)) (by decide) rfl (Nat.le_of_ble_eq_true rfl) ?_
  intro p e s m below meth c A ls hx hb hr hml hts hown hlocks hK hN hE hA hP hD hS hl
  have hl : lv_has ls 1 [(0, .ref q_th)] := hl
  have hinX9 : ∀ w ∈ wsX90, w ∈ wsX9_loadsOn := by decide +kernel
  generalize hav : ([.ref q_th] : List Value).toArray = av at hts ⊢
  unfold f_X9_loadsOn at h
  refine lv_aload_n hx hb dX9_loadsOn_0 rfl (lv_at hl 0 rfl) ?_
  refine lv_iconst (v := (0 : Int32)) hx hb dX9_loadsOn_1 (by decide) ?_
  refine va_put (D := D) (ci := 9) (v := .int (0 : Int32)) (ty := .int) (C := RX9) (T := TX9) (N := 28) hx hb hts hinX9 tyX9 tyX9_ok nmX9 hown hK hP hD hS 0 rfl rfl 24 (by decide) (hts (.fieldLink RX9 130 "ChanceBoundsModel" "widened" "I") (by decide +kernel)) (fun _ h9 => h9) rfl (by decide +kernel) rfl rfl (Nat.le_of_ble_eq_true rfl) dX9_loadsOn_2 (fun H locs hP hD hS => ?_)
  have hP : va_P D vwCl (w_X9_loadsOn tc q_th q_th_text q_th_saying q_th_signs q_th_sets q_th_told q_th_up q_th_down q_th_world q_th_tight q_th_sum q_th_now n_th_saying n_th_up n_th_down n_th_world n_th_tight n_th_sum n_th_now th_thrown th_typed th_next th_token th_place th_value th_fault th_many th_signMany th_setMany th_corners th_isLoaded th_loaded (0 : Int32) th_wide th_boundUp th_boundDown th_saying th_up th_down th_world th_tight th_sum th_now) H := hP
  have hD : va_D A (w_X9_loadsOn tc q_th q_th_text q_th_saying q_th_signs q_th_sets q_th_told q_th_up q_th_down q_th_world q_th_tight q_th_sum q_th_now n_th_saying n_th_up n_th_down n_th_world n_th_tight n_th_sum n_th_now th_thrown th_typed th_next th_token th_place th_value th_fault th_many th_signMany th_setMany th_corners th_isLoaded th_loaded (0 : Int32) th_wide th_boundUp th_boundDown th_saying th_up th_down th_world th_tight th_sum th_now) := hD
  refine lv_aload_n hx hb dX9_loadsOn_5 rfl (lv_at hl 0 rfl) ?_
  refine lv_aload_n hx hb dX9_loadsOn_6 rfl (lv_at hl 0 rfl) ?_
  obtain ⟨z1_0, hc1, h⟩ := bd_ok h
  refine st_callV (As := []) (rest := [.ref q_th]) (pos := [0, 1]) ⟨hx, hb, hml, hown, hts⟩ (s_X9_ons (l := l) (D := D) (tc := tc) hEok q_th q_th_text q_th_saying q_th_signs q_th_sets q_th_told q_th_up q_th_down q_th_world q_th_tight q_th_sum q_th_now n_th_saying th_thrown th_typed th_next th_token th_place th_value th_fault th_many th_signMany th_setMany th_corners th_isLoaded th_loaded (0 : Int32) th_wide th_boundUp th_boundDown th_saying K z1_0 hc1) (cwV 0 hts gX9_loadsOn_X9_ons rfl rfl rfl (by decide +kernel) ⟨Nat.le_of_ble_eq_true rfl, Nat.le_of_ble_eq_true rfl⟩) (st_recv (ci := 9) (q0 := 0) hK hP rfl rfl) hEok hE hK hN hP hD hS hA rfl rfl rfl rfl hl.1 rfl (Nat.le_of_ble_eq_true rfl) dX9_loadsOn_7 ⟨Nat.zero_le _, Nat.zero_le _⟩ (fun H locs hP hD hS => ?_)
  have hP : va_P D vwCl (w_X9_loadsOn tc q_th q_th_text q_th_saying q_th_signs q_th_sets q_th_told q_th_up q_th_down q_th_world q_th_tight q_th_sum q_th_now n_th_saying n_th_up n_th_down n_th_world n_th_tight n_th_sum n_th_now th_thrown th_typed th_next th_token th_place th_value th_fault th_many th_signMany th_setMany th_corners th_isLoaded th_loaded (0 : Int32) th_wide th_boundUp th_boundDown th_saying th_up th_down th_world th_tight th_sum th_now) H := hP
  have hD : va_D A (w_X9_loadsOn tc q_th q_th_text q_th_saying q_th_signs q_th_sets q_th_told q_th_up q_th_down q_th_world q_th_tight q_th_sum q_th_now n_th_saying n_th_up n_th_down n_th_world n_th_tight n_th_sum n_th_now th_thrown th_typed th_next th_token th_place th_value th_fault th_many th_signMany th_setMany th_corners th_isLoaded th_loaded (0 : Int32) th_wide th_boundUp th_boundDown th_saying th_up th_down th_world th_tight th_sum th_now) := hD
  obtain ⟨⟨z2_0, z2_1, z2_2, z2_3, z2_4, z2_5, z2_6, z2_7, z2_8, z2_9⟩, hc2, h⟩ := bd_ok h
  refine st_callV (As := [.int z1_0]) (rest := []) (pos := (List.range' 0 8)) ⟨hx, hb, hml, hown, hts⟩ (s_X9_loads (l := l) (D := D) (tc := tc) hEok q_th q_th_text q_th_saying q_th_signs q_th_sets q_th_told q_th_up q_th_down q_th_world q_th_tight q_th_sum q_th_now n_th_saying n_th_up n_th_down n_th_world n_th_tight n_th_sum n_th_now th_thrown th_typed th_next th_token th_place th_value th_fault th_many th_signMany th_setMany th_corners th_isLoaded th_loaded (0 : Int32) th_wide th_boundUp th_boundDown th_saying th_up th_down th_world th_tight th_sum th_now z1_0 K z2_0 z2_1 z2_2 z2_3 z2_4 z2_5 z2_6 z2_7 z2_8 z2_9 hc2) (cwV 1 hts gX9_loadsOn_X9_loads rfl rfl rfl (by decide +kernel) ⟨Nat.le_of_ble_eq_true rfl, Nat.le_of_ble_eq_true rfl⟩) (st_recv (ci := 9) (q0 := 0) hK hP rfl rfl) hEok hE hK hN hP hD hS hA (st_segpos (m := 8) (by rfl) (by rfl) (by rfl)) (st_seg_nd _ _) (wa_X9_loads.trans wa_X9_loads.symm) rfl hl.1 rfl (Nat.le_of_ble_eq_true rfl) dX9_loadsOn_10 ⟨Nat.zero_le _, Nat.zero_le _⟩ (fun H locs hP hD hS => ?_)
  have hP : va_P D vwCl (w_X9_loadsOn tc q_th q_th_text q_th_saying q_th_signs q_th_sets q_th_told q_th_up q_th_down q_th_world q_th_tight q_th_sum q_th_now n_th_saying n_th_up n_th_down n_th_world n_th_tight n_th_sum n_th_now th_thrown th_typed th_next th_token th_place th_value th_fault th_many th_signMany th_setMany z2_1 z2_2 z2_3 (0 : Int32) th_wide th_boundUp th_boundDown th_saying z2_4 z2_5 z2_6 z2_7 z2_8 z2_9) H := st_segP (w0 := (w_X9_loads tc q_th q_th_text q_th_saying q_th_signs q_th_sets q_th_told q_th_up q_th_down q_th_world q_th_tight q_th_sum q_th_now n_th_saying n_th_up n_th_down n_th_world n_th_tight n_th_sum n_th_now th_thrown th_typed th_next th_token th_place th_value th_fault th_many th_signMany th_setMany th_corners th_isLoaded th_loaded (0 : Int32) th_wide th_boundUp th_boundDown th_saying th_up th_down th_world th_tight th_sum th_now)) (m := 8) (by rfl) (by rfl) (by rfl) (by rfl) (by rfl) hP
  have hD : va_D A (w_X9_loadsOn tc q_th q_th_text q_th_saying q_th_signs q_th_sets q_th_told q_th_up q_th_down q_th_world q_th_tight q_th_sum q_th_now n_th_saying n_th_up n_th_down n_th_world n_th_tight n_th_sum n_th_now th_thrown th_typed th_next th_token th_place th_value th_fault th_many th_signMany th_setMany z2_1 z2_2 z2_3 (0 : Int32) th_wide th_boundUp th_boundDown th_saying z2_4 z2_5 z2_6 z2_7 z2_8 z2_9) := st_segD (w0 := (w_X9_loads tc q_th q_th_text q_th_saying q_th_signs q_th_sets q_th_told q_th_up q_th_down q_th_world q_th_tight q_th_sum q_th_now n_th_saying n_th_up n_th_down n_th_world n_th_tight n_th_sum n_th_now th_thrown th_typed th_next th_token th_place th_value th_fault th_many th_signMany th_setMany th_corners th_isLoaded th_loaded (0 : Int32) th_wide th_boundUp th_boundDown th_saying th_up th_down th_world th_tight th_sum th_now)) (m := 8) (by rfl) (by rfl) (by rfl) (by rfl) (by rfl) hD
  obtain ⟨g3, h⟩ := gd_ok h
  simp only [Option.some.injEq, Prod.mk.injEq] at h
  obtain ⟨rfl, rfl, rfl, rfl, rfl, rfl, rfl, rfl, rfl, rfl, rfl⟩ := h
  exact st_zret hx hb hr hlocks hP hD hS (st_nb g3) dX9_loadsOn_13
def f_X9_chance_L5 (n_th_up : Nat) (th_up : Nat → Int64) (x1 : Int32) (x2 : Int32) (s5 : Int64 × Int32) : Option ((Int64) ⊕ (Int64 × Int32)) :=
  match s5 with
  | (x3, x5) =>
    if (8 : Int32) ≤ x5 then
      some (.inl x3)
    else
      if ((x2 >>> (x5 &&& 31)) &&& (1 : Int32)) = (1 : Int32) then
        if (((8 : Int32) * x1) + x5) < 0 ∨ n_th_up ≤ (((8 : Int32) * x1) + x5).toNatClampNeg then none else
        some (.inr (x3 + (th_up (((8 : Int32) * x1) + x5).toNatClampNeg), x5 + 1))
      else
        some (.inr (x3 + (0 : Int64), x5 + 1))
def f_X9_chance (K : Nat) (n_th_up : Nat) (th_up : Nat → Int64) (x1 : Int32) (x2 : Int32) : Option (Int64) :=
  (lp (f_X9_chance_L5 n_th_up th_up x1 x2) K ((0 : Int64), (0 : Int32))).bind fun z4_0 =>
  some z4_0
abbrev w_X9_chance (tc : Nat → ClassId) (q_th : Nat) (q_th_text : Nat) (q_th_saying : Nat) (q_th_signs : Nat) (q_th_sets : Nat) (q_th_told : Nat) (q_th_up : Nat) (q_th_down : Nat) (q_th_world : Nat) (q_th_tight : Nat) (q_th_sum : Nat) (q_th_now : Nat) (n_th_up : Nat) (th_thrown : Int32) (th_typed : Int32) (th_next : Int32) (th_token : Int32) (th_place : Int32) (th_value : Int32) (th_fault : Int32) (th_many : Int32) (th_signMany : Int32) (th_setMany : Int32) (th_corners : Int32) (th_isLoaded : Int32) (th_loaded : Int32) (th_widened : Int32) (th_wide : Int32) (th_boundUp : Int64) (th_boundDown : Int64) (th_up : Nat → Int64) : va_W := [(q_th, .inr (9, [.int th_thrown, .ref q_th_text, .int th_typed, .int th_next, .int th_token, .int th_place, .int th_value, .int th_fault, .int th_many, .ref q_th_saying, .ref q_th_signs, .ref q_th_sets, .int th_signMany, .int th_setMany, .ref q_th_told, .int th_corners, .int th_isLoaded, .int th_loaded, .ref q_th_up, .ref q_th_down, .ref q_th_world, .ref q_th_tight, .ref q_th_sum, .ref q_th_now, .int th_widened, .int th_wide, .long th_boundUp, .long th_boundDown])), (q_th_up, .inl (tc 1, n_th_up, .inr (.inl th_up)))]
set_option maxHeartbeats 4000000 in
set_option maxRecDepth 100000 in
theorem s_X9_chance {l : Launch} {E : (Nat → Prop) → State → Prop} (hEok : st_Eok E) {D : va_G} {tc : Nat → ClassId} (q_th : Nat) (q_th_text : Nat) (q_th_saying : Nat) (q_th_signs : Nat) (q_th_sets : Nat) (q_th_told : Nat) (q_th_up : Nat) (q_th_down : Nat) (q_th_world : Nat) (q_th_tight : Nat) (q_th_sum : Nat) (q_th_now : Nat) (n_th_up : Nat) (th_thrown : Int32) (th_typed : Int32) (th_next : Int32) (th_token : Int32) (th_place : Int32) (th_value : Int32) (th_fault : Int32) (th_many : Int32) (th_signMany : Int32) (th_setMany : Int32) (th_corners : Int32) (th_isLoaded : Int32) (th_loaded : Int32) (th_widened : Int32) (th_wide : Int32) (th_boundUp : Int64) (th_boundDown : Int64) (th_up : Nat → Int64) (x1 : Int32) (x2 : Int32) (K : Nat) (r0 : Int64) (h : f_X9_chance K n_th_up th_up x1 x2 = some r0) : st l yX9_chance wsX9_chance ({ frames := 0, cells := 0, slots := 0, locals := 0 }) E D tc [.ref q_th, .int x1, .int x2] (w_X9_chance tc q_th q_th_text q_th_saying q_th_signs q_th_sets q_th_told q_th_up q_th_down q_th_world q_th_tight q_th_sum q_th_now n_th_up th_thrown th_typed th_next th_token th_place th_value th_fault th_many th_signMany th_setMany th_corners th_isLoaded th_loaded th_widened th_wide th_boundUp th_boundDown th_up) (some (.long r0)) (w_X9_chance tc q_th q_th_text q_th_saying q_th_signs q_th_sets q_th_told q_th_up q_th_down q_th_world q_th_tight q_th_sum q_th_now n_th_up th_thrown th_typed th_next th_token th_place th_value th_fault th_many th_signMany th_setMany th_corners th_isLoaded th_loaded th_widened th_wide th_boundUp th_boundDown th_up) := by
  refine st_enter (cc := cX9_chance) (maxL := 6) (ret := (some .long)) (by decide) rfl (Nat.le_of_ble_eq_true rfl) ?_
  intro p e s m below meth c A ls hx hb hr hml hts hown hlocks hK hN hE hA hP hD hS hl
  have hl : lv_has ls 6 [(0, .ref q_th), (1, .int x1), (2, .int x2)] := hl
  have hinX9 : ∀ w ∈ wsX90, w ∈ wsX9_chance := by decide +kernel
  generalize hav : ([.ref q_th, .int x1, .int x2] : List Value).toArray = av at hts ⊢
  have L5 : ∀ (x1 : Int32) (x2 : Int32), ∀ (k : Nat) (s5 : Int64 × Int32) (r : Int64), lp (f_X9_chance_L5 n_th_up th_up x1 x2) k s5 = some r → (fun x3 : Int64 => ∀ (H : Heap) (locs : List Loc) (ls : Array Slot), va_P D vwCl (w_X9_chance tc q_th q_th_text q_th_saying q_th_signs q_th_sets q_th_told q_th_up q_th_down q_th_world q_th_tight q_th_sum q_th_now n_th_up th_thrown th_typed th_next th_token th_place th_value th_fault th_many th_signMany th_setMany th_corners th_isLoaded th_loaded th_widened th_wide th_boundUp th_boundDown th_up) H → va_D A (w_X9_chance tc q_th q_th_text q_th_saying q_th_signs q_th_sets q_th_told q_th_up q_th_down q_th_world q_th_tight q_th_sum q_th_now n_th_up th_thrown th_typed th_next th_token th_place th_value th_fault th_many th_signMany th_setMany th_corners th_isLoaded th_loaded th_widened th_wide th_boundUp th_boundDown th_up) → va_S A s.heap H locs → lv_has ls 6 [(3, .long x3)] → W p l e ({ frames := 0, cells := 0, slots := 0, locals := 0 } : Room) s m av below meth c H locs 0 0 (MQ below (st_Q D (w_X9_chance tc q_th q_th_text q_th_saying q_th_signs q_th_sets q_th_told q_th_up q_th_down q_th_world q_th_tight q_th_sum q_th_now n_th_up th_thrown th_typed th_next th_token th_place th_value th_fault th_many th_signMany th_setMany th_corners th_isLoaded th_loaded th_widened th_wide th_boundUp th_boundDown th_up) (some (.long r0)) A) av s 0 0 A) (F0 m 47 ls [])) r → (fun s5 : Int64 × Int32 => match s5 with | (x3, x5) => ∀ (H : Heap) (locs : List Loc) (ls : Array Slot), va_P D vwCl (w_X9_chance tc q_th q_th_text q_th_saying q_th_signs q_th_sets q_th_told q_th_up q_th_down q_th_world q_th_tight q_th_sum q_th_now n_th_up th_thrown th_typed th_next th_token th_place th_value th_fault th_many th_signMany th_setMany th_corners th_isLoaded th_loaded th_widened th_wide th_boundUp th_boundDown th_up) H → va_D A (w_X9_chance tc q_th q_th_text q_th_saying q_th_signs q_th_sets q_th_told q_th_up q_th_down q_th_world q_th_tight q_th_sum q_th_now n_th_up th_thrown th_typed th_next th_token th_place th_value th_fault th_many th_signMany th_setMany th_corners th_isLoaded th_loaded th_widened th_wide th_boundUp th_boundDown th_up) → va_S A s.heap H locs → lv_has ls 6 [(0, .ref q_th), (1, .int x1), (2, .int x2), (3, .long x3), (5, .int x5)] → W p l e ({ frames := 0, cells := 0, slots := 0, locals := 0 } : Room) s m av below meth c H locs 0 0 (MQ below (st_Q D (w_X9_chance tc q_th q_th_text q_th_saying q_th_signs q_th_sets q_th_told q_th_up q_th_down q_th_world q_th_tight q_th_sum q_th_now n_th_up th_thrown th_typed th_next th_token th_place th_value th_fault th_many th_signMany th_setMany th_corners th_isLoaded th_loaded th_widened th_wide th_boundUp th_boundDown th_up) (some (.long r0)) A) av s 0 0 A) (F0 m 5 ls [])) s5 := by
    intro x1 x2
    refine lp_W (f_X9_chance_L5 n_th_up th_up x1 x2) (fun s5 : Int64 × Int32 => match s5 with | (x3, x5) => ∀ (H : Heap) (locs : List Loc) (ls : Array Slot), va_P D vwCl (w_X9_chance tc q_th q_th_text q_th_saying q_th_signs q_th_sets q_th_told q_th_up q_th_down q_th_world q_th_tight q_th_sum q_th_now n_th_up th_thrown th_typed th_next th_token th_place th_value th_fault th_many th_signMany th_setMany th_corners th_isLoaded th_loaded th_widened th_wide th_boundUp th_boundDown th_up) H → va_D A (w_X9_chance tc q_th q_th_text q_th_saying q_th_signs q_th_sets q_th_told q_th_up q_th_down q_th_world q_th_tight q_th_sum q_th_now n_th_up th_thrown th_typed th_next th_token th_place th_value th_fault th_many th_signMany th_setMany th_corners th_isLoaded th_loaded th_widened th_wide th_boundUp th_boundDown th_up) → va_S A s.heap H locs → lv_has ls 6 [(0, .ref q_th), (1, .int x1), (2, .int x2), (3, .long x3), (5, .int x5)] → W p l e ({ frames := 0, cells := 0, slots := 0, locals := 0 } : Room) s m av below meth c H locs 0 0 (MQ below (st_Q D (w_X9_chance tc q_th q_th_text q_th_saying q_th_signs q_th_sets q_th_told q_th_up q_th_down q_th_world q_th_tight q_th_sum q_th_now n_th_up th_thrown th_typed th_next th_token th_place th_value th_fault th_many th_signMany th_setMany th_corners th_isLoaded th_loaded th_widened th_wide th_boundUp th_boundDown th_up) (some (.long r0)) A) av s 0 0 A) (F0 m 5 ls [])) (fun x3 : Int64 => ∀ (H : Heap) (locs : List Loc) (ls : Array Slot), va_P D vwCl (w_X9_chance tc q_th q_th_text q_th_saying q_th_signs q_th_sets q_th_told q_th_up q_th_down q_th_world q_th_tight q_th_sum q_th_now n_th_up th_thrown th_typed th_next th_token th_place th_value th_fault th_many th_signMany th_setMany th_corners th_isLoaded th_loaded th_widened th_wide th_boundUp th_boundDown th_up) H → va_D A (w_X9_chance tc q_th q_th_text q_th_saying q_th_signs q_th_sets q_th_told q_th_up q_th_down q_th_world q_th_tight q_th_sum q_th_now n_th_up th_thrown th_typed th_next th_token th_place th_value th_fault th_many th_signMany th_setMany th_corners th_isLoaded th_loaded th_widened th_wide th_boundUp th_boundDown th_up) → va_S A s.heap H locs → lv_has ls 6 [(3, .long x3)] → W p l e ({ frames := 0, cells := 0, slots := 0, locals := 0 } : Room) s m av below meth c H locs 0 0 (MQ below (st_Q D (w_X9_chance tc q_th q_th_text q_th_saying q_th_signs q_th_sets q_th_told q_th_up q_th_down q_th_world q_th_tight q_th_sum q_th_now n_th_up th_thrown th_typed th_next th_token th_place th_value th_fault th_many th_signMany th_setMany th_corners th_isLoaded th_loaded th_widened th_wide th_boundUp th_boundDown th_up) (some (.long r0)) A) av s 0 0 A) (F0 m 47 ls [])) ?_
    rintro ⟨x3, x5⟩ o h ih hz H locs ls hP hD hS hl
    unfold f_X9_chance_L5 at h
    refine lv_iload hx hb dX9_chance_5 (lv_at hl 4 rfl) ?_
    refine lv_bipush (v := (8 : Int32)) hx hb dX9_chance_7 (by decide) ?_
    refine lv_icmp_ge (tgt := 47) hx hb dX9_chance_9 (by decide) (fun c1 => ?_) (fun c1 => ?_)
    · replace h := ifp c1 h
      cases h
      exact hz _ rfl _ _ _ hP hD hS (lv_sub hl [3] rfl)
    · replace h := ifn c1 h
      refine lv_lload_n hx hb dX9_chance_12 rfl (lv_at hl 3 rfl) ?_
      refine lv_iload_n hx hb dX9_chance_13 rfl (lv_at hl 2 rfl) ?_
      refine lv_iload hx hb dX9_chance_14 (lv_at hl 4 rfl) ?_
      refine lv_ishr hx hb dX9_chance_16 ?_
      refine lv_iconst (v := (1 : Int32)) hx hb dX9_chance_17 (by decide) ?_
      refine lv_iand hx hb dX9_chance_18 ?_
      refine lv_iconst (v := (1 : Int32)) hx hb dX9_chance_19 (by decide) ?_
      refine lv_icmp_ne (tgt := 38) hx hb dX9_chance_20 (by decide) (fun c2 => ?_) (fun c2 => ?_)
      · replace h := ifn c2 h
        refine lv_lconst (v := (0 : Int64)) hx hb dX9_chance_38 (by decide) ?_
        refine lv_ladd hx hb dX9_chance_39 ?_
        refine lv_lstore_n (lv' := [(3, .long (x3 + (0 : Int64))), (0, .ref q_th), (1, .int x1), (2, .int x2), (5, .int x5)]) hx hb dX9_chance_40 rfl hl (by decide) rfl (fun ls hl => ?_)
        refine lv_iinc (v := x5 + 1) (lv' := [(5, .int (x5 + 1)), (3, .long (x3 + (0 : Int64))), (0, .ref q_th), (1, .int x1), (2, .int x2)]) hx hb dX9_chance_41 hl (k := 4) rfl rfl (by decide) rfl (fun ls hl => ?_)
        refine lv_goto (tgt := 5) hx hb dX9_chance_44 (by decide) ?_
        cases h
        exact ih _ rfl _ _ _ hP hD hS (lv_sub hl [2, 3, 4, 1, 0] rfl)
      · replace h := ifp c2 h
        refine lv_aload_n hx hb dX9_chance_23 rfl (lv_at hl 0 rfl) ?_
        refine va_get (D := D) (ci := 9) (v := .ref q_th_up) (C := RX9) (T := TX9) (N := 28) hx hb hts hinX9 hown hK hP 0 rfl rfl 18 (by decide) (hts (.fieldLink RX9 26 "ChanceBoundsModel" "up" "[J") (by decide +kernel)) (fun _ h9 => h9) rfl dX9_chance_24 ?_
        refine lv_bipush (v := (8 : Int32)) hx hb dX9_chance_27 (by decide) ?_
        refine lv_iload_n hx hb dX9_chance_29 rfl (lv_at hl 1 rfl) ?_
        refine lv_imul hx hb dX9_chance_30 ?_
        refine lv_iload hx hb dX9_chance_31 (lv_at hl 4 rfl) ?_
        refine lv_iadd hx hb dX9_chance_33 ?_
        obtain ⟨g3, h⟩ := gd_ok h
        refine va_lald hx hb hK hP 1 1 rfl rfl g3 dX9_chance_34 ?_
        refine lv_goto (tgt := 39) hx hb dX9_chance_35 (by decide) ?_
        refine lv_ladd hx hb dX9_chance_39 ?_
        refine lv_lstore_n (lv' := [(3, .long (x3 + (th_up (((8 : Int32) * x1) + x5).toNatClampNeg))), (0, .ref q_th), (1, .int x1), (2, .int x2), (5, .int x5)]) hx hb dX9_chance_40 rfl hl (by decide) rfl (fun ls hl => ?_)
        refine lv_iinc (v := x5 + 1) (lv' := [(5, .int (x5 + 1)), (3, .long (x3 + (th_up (((8 : Int32) * x1) + x5).toNatClampNeg))), (0, .ref q_th), (1, .int x1), (2, .int x2)]) hx hb dX9_chance_41 hl (k := 4) rfl rfl (by decide) rfl (fun ls hl => ?_)
        refine lv_goto (tgt := 5) hx hb dX9_chance_44 (by decide) ?_
        cases h
        exact ih _ rfl _ _ _ hP hD hS (lv_sub hl [2, 3, 4, 1, 0] rfl)
  unfold f_X9_chance at h
  refine lv_lconst (v := (0 : Int64)) hx hb dX9_chance_0 (by decide) ?_
  refine lv_lstore_n (lv' := [(3, .long (0 : Int64)), (0, .ref q_th), (1, .int x1), (2, .int x2)]) hx hb dX9_chance_1 rfl hl (by decide) rfl (fun ls hl => ?_)
  refine lv_iconst (v := (0 : Int32)) hx hb dX9_chance_2 (by decide) ?_
  refine lv_istore (lv' := [(5, .int (0 : Int32)), (3, .long (0 : Int64)), (0, .ref q_th), (1, .int x1), (2, .int x2)]) hx hb dX9_chance_3 hl (by decide) rfl (fun ls hl => ?_)
  obtain ⟨z4_0, hl4, h⟩ := bd_ok h
  refine L5 x1 x2 K _ _ hl4 ?_ _ _ _ hP hD hS (lv_sub hl [2, 3, 4, 1, 0] rfl)
  intro H locs ls hP hD hS hl
  refine lv_lload_n hx hb dX9_chance_47 rfl (lv_at hl 0 rfl) ?_
  cases h
  exact st_lret hx hb hr hlocks hP hD hS dX9_chance_48
def f_X9_gcd_L17  (s17 : Int64 × Int64) : Option ((Int64) ⊕ (Int64 × Int64)) :=
  match s17 with
  | (x4, x6) =>
    if (lg_cmp x6 (0 : Int64)) = (0 : Int32) then
      some (.inl x4)
    else
      if x6 = 0 then none else
      some (.inr (x6, x4 - x4 / x6 * x6))
def f_X9_gcd (K : Nat) (x0 : Int64) (x2 : Int64) : Option (Int64) :=
  if (0 : Int32) ≤ (lg_cmp x0 (0 : Int64)) then
    (lp (f_X9_gcd_L17) K (x0, x2)).bind fun z4_0 =>
    some z4_0
  else
    (lp (f_X9_gcd_L17) K (-x0, x2)).bind fun z5_0 =>
    some z5_0
abbrev w_X9_gcd : va_W := []
set_option maxHeartbeats 4000000 in
set_option maxRecDepth 100000 in
theorem s_X9_gcd {l : Launch} {E : (Nat → Prop) → State → Prop} (hEok : st_Eok E) {D : va_G} {tc : Nat → ClassId} (x0 : Int64) (x2 : Int64) (K : Nat) (r0 : Int64) (h : f_X9_gcd K x0 x2 = some r0) : st l yX9_gcd wsX9_gcd ({ frames := 0, cells := 0, slots := 0, locals := 0 }) E D tc [.long x0, .long x2] w_X9_gcd (some (.long r0)) w_X9_gcd := by
  refine st_enter (cc := cX9_gcd) (maxL := 10) (ret := (some .long)) (by decide) rfl (Nat.le_of_ble_eq_true rfl) ?_
  intro p e s m below meth c A ls hx hb hr hml hts hown hlocks hK hN hE hA hP hD hS hl
  have hl : lv_has ls 10 [(0, .long x0), (2, .long x2)] := hl
  generalize hav : ([.long x0, .long x2] : List Value).toArray = av at hts ⊢
  have L17 : ∀ (_ : Unit), ∀ (k : Nat) (s17 : Int64 × Int64) (r : Int64), lp (f_X9_gcd_L17 ) k s17 = some r → (fun x4 : Int64 => ∀ (H : Heap) (locs : List Loc) (ls : Array Slot), va_P D vwCl w_X9_gcd H → va_D A w_X9_gcd → va_S A s.heap H locs → lv_has ls 10 [(4, .long x4)] → W p l e ({ frames := 0, cells := 0, slots := 0, locals := 0 } : Room) s m av below meth c H locs 0 0 (MQ below (st_Q D w_X9_gcd (some (.long r0)) A) av s 0 0 A) (F0 m 42 ls [])) r → (fun s17 : Int64 × Int64 => match s17 with | (x4, x6) => ∀ (H : Heap) (locs : List Loc) (ls : Array Slot), va_P D vwCl w_X9_gcd H → va_D A w_X9_gcd → va_S A s.heap H locs → lv_has ls 10 [(4, .long x4), (6, .long x6)] → W p l e ({ frames := 0, cells := 0, slots := 0, locals := 0 } : Room) s m av below meth c H locs 0 0 (MQ below (st_Q D w_X9_gcd (some (.long r0)) A) av s 0 0 A) (F0 m 17 ls [])) s17 := by
    intro _
    refine lp_W (f_X9_gcd_L17 ) (fun s17 : Int64 × Int64 => match s17 with | (x4, x6) => ∀ (H : Heap) (locs : List Loc) (ls : Array Slot), va_P D vwCl w_X9_gcd H → va_D A w_X9_gcd → va_S A s.heap H locs → lv_has ls 10 [(4, .long x4), (6, .long x6)] → W p l e ({ frames := 0, cells := 0, slots := 0, locals := 0 } : Room) s m av below meth c H locs 0 0 (MQ below (st_Q D w_X9_gcd (some (.long r0)) A) av s 0 0 A) (F0 m 17 ls [])) (fun x4 : Int64 => ∀ (H : Heap) (locs : List Loc) (ls : Array Slot), va_P D vwCl w_X9_gcd H → va_D A w_X9_gcd → va_S A s.heap H locs → lv_has ls 10 [(4, .long x4)] → W p l e ({ frames := 0, cells := 0, slots := 0, locals := 0 } : Room) s m av below meth c H locs 0 0 (MQ below (st_Q D w_X9_gcd (some (.long r0)) A) av s 0 0 A) (F0 m 42 ls [])) ?_
    rintro ⟨x4, x6⟩ o h ih hz H locs ls hP hD hS hl
    unfold f_X9_gcd_L17 at h
    refine lv_lload hx hb dX9_gcd_17 (lv_at hl 1 rfl) ?_
    refine lv_lconst (v := (0 : Int64)) hx hb dX9_gcd_19 (by decide) ?_
    refine W.lcmp hx hb dX9_gcd_20 ?_
    refine lv_if_eq (tgt := 42) hx hb dX9_gcd_21 (by decide) (fun c1 => ?_) (fun c1 => ?_)
    · replace h := ifp c1 h
      cases h
      exact hz _ rfl _ _ _ hP hD hS (lv_sub hl [0] rfl)
    · replace h := ifn c1 h
      refine lv_lload hx hb dX9_gcd_24 (lv_at hl 0 rfl) ?_
      refine lv_lload hx hb dX9_gcd_26 (lv_at hl 1 rfl) ?_
      obtain ⟨g2, h⟩ := gd_ok h
      refine lv_lrem hx hb dX9_gcd_28 g2 ?_
      refine lv_lstore (lv' := [(8, .long (x4 - x4 / x6 * x6)), (4, .long x4), (6, .long x6)]) hx hb dX9_gcd_29 hl (by decide) rfl (fun ls hl => ?_)
      refine lv_lload hx hb dX9_gcd_31 (lv_at hl 2 rfl) ?_
      refine lv_lstore (lv' := [(4, .long x6), (8, .long (x4 - x4 / x6 * x6)), (6, .long x6)]) hx hb dX9_gcd_33 hl (by decide) rfl (fun ls hl => ?_)
      refine lv_lload hx hb dX9_gcd_35 (lv_at hl 1 rfl) ?_
      refine lv_lstore (lv' := [(6, .long (x4 - x4 / x6 * x6)), (4, .long x6), (8, .long (x4 - x4 / x6 * x6))]) hx hb dX9_gcd_37 hl (by decide) rfl (fun ls hl => ?_)
      refine lv_goto (tgt := 17) hx hb dX9_gcd_39 (by decide) ?_
      cases h
      exact ih _ rfl _ _ _ hP hD hS (lv_sub hl [1, 0] rfl)
  unfold f_X9_gcd at h
  refine lv_lload_n hx hb dX9_gcd_0 rfl (lv_at hl 0 rfl) ?_
  refine lv_lconst (v := (0 : Int64)) hx hb dX9_gcd_1 (by decide) ?_
  refine W.lcmp hx hb dX9_gcd_2 ?_
  refine lv_if_ge (tgt := 11) hx hb dX9_gcd_3 (by decide) (fun c3 => ?_) (fun c3 => ?_)
  · replace h := ifp c3 h
    refine lv_lload_n hx hb dX9_gcd_11 rfl (lv_at hl 0 rfl) ?_
    refine lv_lstore (lv' := [(4, .long x0), (0, .long x0), (2, .long x2)]) hx hb dX9_gcd_12 hl (by decide) rfl (fun ls hl => ?_)
    refine lv_lload_n hx hb dX9_gcd_14 rfl (lv_at hl 2 rfl) ?_
    refine lv_lstore (lv' := [(6, .long x2), (4, .long x0), (0, .long x0), (2, .long x2)]) hx hb dX9_gcd_15 hl (by decide) rfl (fun ls hl => ?_)
    obtain ⟨z4_0, hl4, h⟩ := bd_ok h
    refine L17 () K _ _ hl4 ?_ _ _ _ hP hD hS (lv_sub hl [1, 0] rfl)
    intro H locs ls hP hD hS hl
    refine lv_lload hx hb dX9_gcd_42 (lv_at hl 0 rfl) ?_
    cases h
    exact st_lret hx hb hr hlocks hP hD hS dX9_gcd_44
  · replace h := ifn c3 h
    refine lv_lload_n hx hb dX9_gcd_6 rfl (lv_at hl 0 rfl) ?_
    refine lv_lneg hx hb dX9_gcd_7 ?_
    refine lv_goto (tgt := 12) hx hb dX9_gcd_8 (by decide) ?_
    refine lv_lstore (lv' := [(4, .long (-x0)), (0, .long x0), (2, .long x2)]) hx hb dX9_gcd_12 hl (by decide) rfl (fun ls hl => ?_)
    refine lv_lload_n hx hb dX9_gcd_14 rfl (lv_at hl 2 rfl) ?_
    refine lv_lstore (lv' := [(6, .long x2), (4, .long (-x0)), (0, .long x0), (2, .long x2)]) hx hb dX9_gcd_15 hl (by decide) rfl (fun ls hl => ?_)
    obtain ⟨z5_0, hl5, h⟩ := bd_ok h
    refine L17 () K _ _ hl5 ?_ _ _ _ hP hD hS (lv_sub hl [1, 0] rfl)
    intro H locs ls hP hD hS hl
    refine lv_lload hx hb dX9_gcd_42 (lv_at hl 0 rfl) ?_
    cases h
    exact st_lret hx hb hr hlocks hP hD hS dX9_gcd_44
def f_X9_tells (K : Nat) (x0 : Int64) (x2 : Int64) (x4 : Int32) : Option (Int64) :=
  (f_X9_gcd K x0 x2).bind fun z1_0 =>
  if x4 = (0 : Int32) then
    if z1_0 = 0 then none else
    some (x0 / z1_0)
  else
    if z1_0 = 0 then none else
    some (x2 / z1_0)
abbrev w_X9_tells : va_W := []
set_option maxHeartbeats 4000000 in
set_option maxRecDepth 100000 in
theorem s_X9_tells {l : Launch} {E : (Nat → Prop) → State → Prop} (hEok : st_Eok E) {D : va_G} {tc : Nat → ClassId} (x0 : Int64) (x2 : Int64) (x4 : Int32) (K : Nat) (r0 : Int64) (h : f_X9_tells K x0 x2 x4 = some r0) : st l yX9_tells wsX9_tells ({ frames := 1, cells := 0, slots := 0, locals := 29 }) E D tc [.long x0, .long x2, .int x4] w_X9_tells (some (.long r0)) w_X9_tells := by
  refine st_enter (cc := cX9_tells) (maxL := 7) (ret := (some .long)) (by decide) rfl (Nat.le_of_ble_eq_true rfl) ?_
  intro p e s m below meth c A ls hx hb hr hml hts hown hlocks hK hN hE hA hP hD hS hl
  have hl : lv_has ls 7 [(0, .long x0), (2, .long x2), (4, .int x4)] := hl
  generalize hav : ([.long x0, .long x2, .int x4] : List Value).toArray = av at hts ⊢
  unfold f_X9_tells at h
  refine lv_lload_n hx hb dX9_tells_0 rfl (lv_at hl 0 rfl) ?_
  refine lv_lload_n hx hb dX9_tells_1 rfl (lv_at hl 1 rfl) ?_
  obtain ⟨z1_0, hc1, h⟩ := bd_ok h
  refine st_callS (As := [.long x0, .long x2]) (rest := []) (pos := []) ⟨hx, hb, hml, hown, hts⟩ (s_X9_gcd (l := l) (D := D) (tc := tc) hEok x0 x2 K z1_0 hc1) (va_cwS 2 hts gX9_tells_X9_gcd rfl rfl rfl (by decide +kernel) ⟨Nat.le_of_ble_eq_true rfl, Nat.le_of_ble_eq_true rfl⟩) hEok hE hK hN hP hD hS hA rfl rfl rfl rfl hl.1 rfl (Nat.le_of_ble_eq_true rfl) dX9_tells_2 ⟨Nat.zero_le _, Nat.zero_le _⟩ (fun H locs hP hD hS => ?_)
  refine lv_lstore (lv' := [(5, .long z1_0), (0, .long x0), (2, .long x2), (4, .int x4)]) hx hb dX9_tells_5 hl (by decide) rfl (fun ls hl => ?_)
  refine lv_iload hx hb dX9_tells_7 (lv_at hl 3 rfl) ?_
  refine lv_if_ne (tgt := 19) hx hb dX9_tells_9 (by decide) (fun c2 => ?_) (fun c2 => ?_)
  · replace h := ifn c2 h
    refine lv_lload_n hx hb dX9_tells_19 rfl (lv_at hl 2 rfl) ?_
    refine lv_lload hx hb dX9_tells_20 (lv_at hl 0 rfl) ?_
    obtain ⟨g3, h⟩ := gd_ok h
    refine lv_ldiv hx hb dX9_tells_22 g3 ?_
    cases h
    exact st_lret hx hb hr hlocks hP hD hS dX9_tells_23
  · replace h := ifp c2 h
    refine lv_lload_n hx hb dX9_tells_12 rfl (lv_at hl 1 rfl) ?_
    refine lv_lload hx hb dX9_tells_13 (lv_at hl 0 rfl) ?_
    obtain ⟨g4, h⟩ := gd_ok h
    refine lv_ldiv hx hb dX9_tells_15 g4 ?_
    refine lv_goto (tgt := 23) hx hb dX9_tells_16 (by decide) ?_
    cases h
    exact st_lret hx hb hr hlocks hP hD hS dX9_tells_23
def f_X9_could (K : Nat) (n_th_saying : Nat) (n_th_up : Nat) (n_th_down : Nat) (n_th_world : Nat) (n_th_tight : Nat) (n_th_sum : Nat) (n_th_now : Nat) (th_many : Int32) (th_corners : Int32) (th_isLoaded : Int32) (th_loaded : Int32) (th_wide : Int32) (th_saying : Nat → Int32) (th_up : Nat → Int64) (th_down : Nat → Int64) (th_world : Nat → Int32) (th_tight : Nat → Int32) (th_sum : Nat → Int64) (th_now : Nat → Int64) : Option (Int32 × Int32 × Int32 × Int32 × Int32 × Int32 × (Nat → Int64) × (Nat → Int64) × (Nat → Int32) × (Nat → Int32) × (Nat → Int64) × (Nat → Int64)) :=
  (f_X9_loadsOn K n_th_saying n_th_up n_th_down n_th_world n_th_tight n_th_sum n_th_now th_many th_corners th_isLoaded th_loaded th_wide th_saying th_up th_down th_world th_tight th_sum th_now).bind fun z1 => match z1 with
  | (z1_0, z1_1, z1_2, z1_3, z1_4, z1_5, z1_6, z1_7, z1_8, z1_9, z1_10) =>
    if z1_0 = (0 : Int32) then
      some ((0 : Int32), (0 : Int32), z1_1, z1_2, z1_3, z1_4, z1_5, z1_6, z1_7, z1_8, z1_9, z1_10)
    else
      some ((1 : Int32), (0 : Int32), z1_1, z1_2, z1_3, z1_4, z1_5, z1_6, z1_7, z1_8, z1_9, z1_10)
abbrev w_X9_could (tc : Nat → ClassId) (q_th : Nat) (q_th_text : Nat) (q_th_saying : Nat) (q_th_signs : Nat) (q_th_sets : Nat) (q_th_told : Nat) (q_th_up : Nat) (q_th_down : Nat) (q_th_world : Nat) (q_th_tight : Nat) (q_th_sum : Nat) (q_th_now : Nat) (n_th_saying : Nat) (n_th_up : Nat) (n_th_down : Nat) (n_th_world : Nat) (n_th_tight : Nat) (n_th_sum : Nat) (n_th_now : Nat) (th_thrown : Int32) (th_typed : Int32) (th_next : Int32) (th_token : Int32) (th_place : Int32) (th_value : Int32) (th_fault : Int32) (th_many : Int32) (th_signMany : Int32) (th_setMany : Int32) (th_corners : Int32) (th_isLoaded : Int32) (th_loaded : Int32) (th_widened : Int32) (th_wide : Int32) (th_boundUp : Int64) (th_boundDown : Int64) (th_saying : Nat → Int32) (th_up : Nat → Int64) (th_down : Nat → Int64) (th_world : Nat → Int32) (th_tight : Nat → Int32) (th_sum : Nat → Int64) (th_now : Nat → Int64) : va_W := [(q_th, .inr (9, [.int th_thrown, .ref q_th_text, .int th_typed, .int th_next, .int th_token, .int th_place, .int th_value, .int th_fault, .int th_many, .ref q_th_saying, .ref q_th_signs, .ref q_th_sets, .int th_signMany, .int th_setMany, .ref q_th_told, .int th_corners, .int th_isLoaded, .int th_loaded, .ref q_th_up, .ref q_th_down, .ref q_th_world, .ref q_th_tight, .ref q_th_sum, .ref q_th_now, .int th_widened, .int th_wide, .long th_boundUp, .long th_boundDown])), (q_th_saying, .inl (tc 0, n_th_saying, .inl th_saying)), (q_th_up, .inl (tc 1, n_th_up, .inr (.inl th_up))), (q_th_down, .inl (tc 1, n_th_down, .inr (.inl th_down))), (q_th_world, .inl (tc 0, n_th_world, .inl th_world)), (q_th_tight, .inl (tc 0, n_th_tight, .inl th_tight)), (q_th_sum, .inl (tc 1, n_th_sum, .inr (.inl th_sum))), (q_th_now, .inl (tc 1, n_th_now, .inr (.inl th_now)))]
theorem wa_X9_could {tc : Nat → ClassId} {q_th : Nat} {q_th_text : Nat} {q_th_saying : Nat} {q_th_signs : Nat} {q_th_sets : Nat} {q_th_told : Nat} {q_th_up : Nat} {q_th_down : Nat} {q_th_world : Nat} {q_th_tight : Nat} {q_th_sum : Nat} {q_th_now : Nat} {n_th_saying : Nat} {n_th_up : Nat} {n_th_down : Nat} {n_th_world : Nat} {n_th_tight : Nat} {n_th_sum : Nat} {n_th_now : Nat} {th_thrown : Int32} {th_typed : Int32} {th_next : Int32} {th_token : Int32} {th_place : Int32} {th_value : Int32} {th_fault : Int32} {th_many : Int32} {th_signMany : Int32} {th_setMany : Int32} {th_corners : Int32} {th_isLoaded : Int32} {th_loaded : Int32} {th_widened : Int32} {th_wide : Int32} {th_boundUp : Int64} {th_boundDown : Int64} {th_saying : Nat → Int32} {th_up : Nat → Int64} {th_down : Nat → Int64} {th_world : Nat → Int32} {th_tight : Nat → Int32} {th_sum : Nat → Int64} {th_now : Nat → Int64} : (w_X9_could tc q_th q_th_text q_th_saying q_th_signs q_th_sets q_th_told q_th_up q_th_down q_th_world q_th_tight q_th_sum q_th_now n_th_saying n_th_up n_th_down n_th_world n_th_tight n_th_sum n_th_now th_thrown th_typed th_next th_token th_place th_value th_fault th_many th_signMany th_setMany th_corners th_isLoaded th_loaded th_widened th_wide th_boundUp th_boundDown th_saying th_up th_down th_world th_tight th_sum th_now).map (fun q => q.1) = [q_th, q_th_saying, q_th_up, q_th_down, q_th_world, q_th_tight, q_th_sum, q_th_now] := rfl
set_option maxHeartbeats 4000000 in
set_option maxRecDepth 100000 in
theorem s_X9_could {l : Launch} {E : (Nat → Prop) → State → Prop} (hEok : st_Eok E) {D : va_G} {tc : Nat → ClassId} (q_th : Nat) (q_th_text : Nat) (q_th_saying : Nat) (q_th_signs : Nat) (q_th_sets : Nat) (q_th_told : Nat) (q_th_up : Nat) (q_th_down : Nat) (q_th_world : Nat) (q_th_tight : Nat) (q_th_sum : Nat) (q_th_now : Nat) (n_th_saying : Nat) (n_th_up : Nat) (n_th_down : Nat) (n_th_world : Nat) (n_th_tight : Nat) (n_th_sum : Nat) (n_th_now : Nat) (th_thrown : Int32) (th_typed : Int32) (th_next : Int32) (th_token : Int32) (th_place : Int32) (th_value : Int32) (th_fault : Int32) (th_many : Int32) (th_signMany : Int32) (th_setMany : Int32) (th_corners : Int32) (th_isLoaded : Int32) (th_loaded : Int32) (th_widened : Int32) (th_wide : Int32) (th_boundUp : Int64) (th_boundDown : Int64) (th_saying : Nat → Int32) (th_up : Nat → Int64) (th_down : Nat → Int64) (th_world : Nat → Int32) (th_tight : Nat → Int32) (th_sum : Nat → Int64) (th_now : Nat → Int64) (K : Nat) (r0 : Int32) (th_thrown' : Int32) (th_corners' : Int32) (th_isLoaded' : Int32) (th_loaded' : Int32) (th_widened' : Int32) (th_up' : Nat → Int64) (th_down' : Nat → Int64) (th_world' : Nat → Int32) (th_tight' : Nat → Int32) (th_sum' : Nat → Int64) (th_now' : Nat → Int64) (h : f_X9_could K n_th_saying n_th_up n_th_down n_th_world n_th_tight n_th_sum n_th_now th_many th_corners th_isLoaded th_loaded th_wide th_saying th_up th_down th_world th_tight th_sum th_now = some (r0, th_thrown', th_corners', th_isLoaded', th_loaded', th_widened', th_up', th_down', th_world', th_tight', th_sum', th_now')) : st l yX9_could wsX9_could ({ frames := 6, cells := 0, slots := 0, locals := 158 }) E D tc [.ref q_th] (w_X9_could tc q_th q_th_text q_th_saying q_th_signs q_th_sets q_th_told q_th_up q_th_down q_th_world q_th_tight q_th_sum q_th_now n_th_saying n_th_up n_th_down n_th_world n_th_tight n_th_sum n_th_now th_thrown th_typed th_next th_token th_place th_value th_fault th_many th_signMany th_setMany th_corners th_isLoaded th_loaded th_widened th_wide th_boundUp th_boundDown th_saying th_up th_down th_world th_tight th_sum th_now) (some (.int r0)) (w_X9_could tc q_th q_th_text q_th_saying q_th_signs q_th_sets q_th_told q_th_up q_th_down q_th_world q_th_tight q_th_sum q_th_now n_th_saying n_th_up n_th_down n_th_world n_th_tight n_th_sum n_th_now th_thrown' th_typed th_next th_token th_place th_value th_fault th_many th_signMany th_setMany th_corners' th_isLoaded' th_loaded' th_widened' th_wide th_boundUp th_boundDown th_saying th_up' th_down' th_world' th_tight' th_sum' th_now') := by
  refine st_enter (cc := cX9_could) (maxL := 1) (ret := (some .int)) (by decide) rfl (Nat.le_of_ble_eq_true rfl) ?_
  intro p e s m below meth c A ls hx hb hr hml hts hown hlocks hK hN hE hA hP hD hS hl
  have hl : lv_has ls 1 [(0, .ref q_th)] := hl
  have hinX9 : ∀ w ∈ wsX90, w ∈ wsX9_could := by decide +kernel
  generalize hav : ([.ref q_th] : List Value).toArray = av at hts ⊢
  unfold f_X9_could at h
  refine lv_aload_n hx hb dX9_could_0 rfl (lv_at hl 0 rfl) ?_
  refine lv_iconst (v := (0 : Int32)) hx hb dX9_could_1 (by decide) ?_
  refine va_put (D := D) (ci := 9) (v := .int (0 : Int32)) (ty := .int) (C := RX9) (T := TX9) (N := 28) hx hb hts hinX9 tyX9 tyX9_ok nmX9 hown hK hP hD hS 0 rfl rfl 0 (by decide) (hts (.fieldLink RX9 45 "ChanceBoundsModel" "thrown" "I") (by decide +kernel)) (fun _ h9 => h9) rfl (by decide +kernel) rfl rfl (Nat.le_of_ble_eq_true rfl) dX9_could_2 (fun H locs hP hD hS => ?_)
  have hP : va_P D vwCl (w_X9_could tc q_th q_th_text q_th_saying q_th_signs q_th_sets q_th_told q_th_up q_th_down q_th_world q_th_tight q_th_sum q_th_now n_th_saying n_th_up n_th_down n_th_world n_th_tight n_th_sum n_th_now (0 : Int32) th_typed th_next th_token th_place th_value th_fault th_many th_signMany th_setMany th_corners th_isLoaded th_loaded th_widened th_wide th_boundUp th_boundDown th_saying th_up th_down th_world th_tight th_sum th_now) H := hP
  have hD : va_D A (w_X9_could tc q_th q_th_text q_th_saying q_th_signs q_th_sets q_th_told q_th_up q_th_down q_th_world q_th_tight q_th_sum q_th_now n_th_saying n_th_up n_th_down n_th_world n_th_tight n_th_sum n_th_now (0 : Int32) th_typed th_next th_token th_place th_value th_fault th_many th_signMany th_setMany th_corners th_isLoaded th_loaded th_widened th_wide th_boundUp th_boundDown th_saying th_up th_down th_world th_tight th_sum th_now) := hD
  refine lv_aload_n hx hb dX9_could_5 rfl (lv_at hl 0 rfl) ?_
  obtain ⟨⟨z1_0, z1_1, z1_2, z1_3, z1_4, z1_5, z1_6, z1_7, z1_8, z1_9, z1_10⟩, hc1, h⟩ := bd_ok h
  refine st_callV (As := []) (rest := []) (pos := (List.range' 0 8)) ⟨hx, hb, hml, hown, hts⟩ (s_X9_loadsOn (l := l) (D := D) (tc := tc) hEok q_th q_th_text q_th_saying q_th_signs q_th_sets q_th_told q_th_up q_th_down q_th_world q_th_tight q_th_sum q_th_now n_th_saying n_th_up n_th_down n_th_world n_th_tight n_th_sum n_th_now (0 : Int32) th_typed th_next th_token th_place th_value th_fault th_many th_signMany th_setMany th_corners th_isLoaded th_loaded th_widened th_wide th_boundUp th_boundDown th_saying th_up th_down th_world th_tight th_sum th_now K z1_0 z1_1 z1_2 z1_3 z1_4 z1_5 z1_6 z1_7 z1_8 z1_9 z1_10 hc1) (cwV 0 hts gX9_could_X9_loadsOn rfl rfl rfl (by decide +kernel) ⟨Nat.le_of_ble_eq_true rfl, Nat.le_of_ble_eq_true rfl⟩) (st_recv (ci := 9) (q0 := 0) hK hP rfl rfl) hEok hE hK hN hP hD hS hA (st_segpos (m := 8) (by rfl) (by rfl) (by rfl)) (st_seg_nd _ _) (wa_X9_loadsOn.trans wa_X9_loadsOn.symm) rfl hl.1 rfl (Nat.le_of_ble_eq_true rfl) dX9_could_6 ⟨Nat.zero_le _, Nat.zero_le _⟩ (fun H locs hP hD hS => ?_)
  have hP : va_P D vwCl (w_X9_could tc q_th q_th_text q_th_saying q_th_signs q_th_sets q_th_told q_th_up q_th_down q_th_world q_th_tight q_th_sum q_th_now n_th_saying n_th_up n_th_down n_th_world n_th_tight n_th_sum n_th_now (0 : Int32) th_typed th_next th_token th_place th_value th_fault th_many th_signMany th_setMany z1_1 z1_2 z1_3 z1_4 th_wide th_boundUp th_boundDown th_saying z1_5 z1_6 z1_7 z1_8 z1_9 z1_10) H := st_segP (w0 := (w_X9_loadsOn tc q_th q_th_text q_th_saying q_th_signs q_th_sets q_th_told q_th_up q_th_down q_th_world q_th_tight q_th_sum q_th_now n_th_saying n_th_up n_th_down n_th_world n_th_tight n_th_sum n_th_now (0 : Int32) th_typed th_next th_token th_place th_value th_fault th_many th_signMany th_setMany th_corners th_isLoaded th_loaded th_widened th_wide th_boundUp th_boundDown th_saying th_up th_down th_world th_tight th_sum th_now)) (m := 8) (by rfl) (by rfl) (by rfl) (by rfl) (by rfl) hP
  have hD : va_D A (w_X9_could tc q_th q_th_text q_th_saying q_th_signs q_th_sets q_th_told q_th_up q_th_down q_th_world q_th_tight q_th_sum q_th_now n_th_saying n_th_up n_th_down n_th_world n_th_tight n_th_sum n_th_now (0 : Int32) th_typed th_next th_token th_place th_value th_fault th_many th_signMany th_setMany z1_1 z1_2 z1_3 z1_4 th_wide th_boundUp th_boundDown th_saying z1_5 z1_6 z1_7 z1_8 z1_9 z1_10) := st_segD (w0 := (w_X9_loadsOn tc q_th q_th_text q_th_saying q_th_signs q_th_sets q_th_told q_th_up q_th_down q_th_world q_th_tight q_th_sum q_th_now n_th_saying n_th_up n_th_down n_th_world n_th_tight n_th_sum n_th_now (0 : Int32) th_typed th_next th_token th_place th_value th_fault th_many th_signMany th_setMany th_corners th_isLoaded th_loaded th_widened th_wide th_boundUp th_boundDown th_saying th_up th_down th_world th_tight th_sum th_now)) (m := 8) (by rfl) (by rfl) (by rfl) (by rfl) (by rfl) hD
  refine lv_if_eq (tgt := 16) hx hb dX9_could_9 (by decide) (fun c2 => ?_) (fun c2 => ?_)
  · replace h := ifp c2 h
    refine lv_iconst (v := (0 : Int32)) hx hb dX9_could_16 (by decide) ?_
    simp only [Option.some.injEq, Prod.mk.injEq] at h
    obtain ⟨rfl, rfl, rfl, rfl, rfl, rfl, rfl, rfl, rfl, rfl, rfl, rfl⟩ := h
    exact st_iret hx hb hr hlocks hP hD hS dX9_could_17
  · replace h := ifn c2 h
    refine lv_iconst (v := (1 : Int32)) hx hb dX9_could_12 (by decide) ?_
    refine lv_goto (tgt := 17) hx hb dX9_could_13 (by decide) ?_
    simp only [Option.some.injEq, Prod.mk.injEq] at h
    obtain ⟨rfl, rfl, rfl, rfl, rfl, rfl, rfl, rfl, rfl, rfl, rfl, rfl⟩ := h
    exact st_iret hx hb hr hlocks hP hD hS dX9_could_17
def f_X9_bounds_J142 (x5 : Int32) (x6 : Int64) (x8 : Int64) : Option ((Int64 × Int64) ⊕ (Int32 × Int64 × Int64)) :=
  some (.inr (x5 + 1, x6, x8))
def f_X9_bounds_L8 (K : Nat) (n_th_up : Nat) (n_th_down : Nat) (th_corners : Int32) (th_up : Nat → Int64) (th_down : Nat → Int64) (x1 : Int32) (x2 : Int32) (x3 : Int32) (x4 : Int32) (s8 : Int32 × Int64 × Int64) : Option ((Int64 × Int64) ⊕ (Int32 × Int64 × Int64)) :=
  match s8 with
  | (x5, th_boundUp, th_boundDown) =>
    if th_corners ≤ x5 then
      some (.inl (th_boundUp, th_boundDown))
    else
      if x4 = (0 : Int32) then
        (f_X9_chance K n_th_up th_up x5 (x1 &&& x2)).bind fun z3_0 =>
        if x4 = (0 : Int32) then
          (f_X9_chance K n_th_up th_up x5 x2).bind fun z5_0 =>
          if (lg_cmp z5_0 (0 : Int64)) ≤ (0 : Int32) then
            some (.inr (x5 + 1, th_boundUp, th_boundDown))
          else
            if (lg_cmp th_boundDown (0 : Int64)) = (0 : Int32) then
              if (lg_cmp th_boundDown (0 : Int64)) = (0 : Int32) then
                f_X9_bounds_J142 x5 z3_0 z5_0
              else
                if x3 = (0 : Int32) then
                  if (0 : Int32) ≤ (lg_cmp (0 : Int64) (0 : Int64)) then
                    some (.inr (x5 + 1, th_boundUp, th_boundDown))
                  else
                    f_X9_bounds_J142 x5 z3_0 z5_0
                else
                  if (lg_cmp (0 : Int64) (0 : Int64)) ≤ (0 : Int32) then
                    some (.inr (x5 + 1, th_boundUp, th_boundDown))
                  else
                    f_X9_bounds_J142 x5 z3_0 z5_0
            else
              if (lg_cmp th_boundDown (0 : Int64)) = (0 : Int32) then
                f_X9_bounds_J142 x5 z3_0 z5_0
              else
                if x3 = (0 : Int32) then
                  if (0 : Int32) ≤ (lg_cmp ((z3_0 * th_boundDown) - (th_boundUp * z5_0)) (0 : Int64)) then
                    some (.inr (x5 + 1, th_boundUp, th_boundDown))
                  else
                    f_X9_bounds_J142 x5 z3_0 z5_0
                else
                  if (lg_cmp ((z3_0 * th_boundDown) - (th_boundUp * z5_0)) (0 : Int64)) ≤ (0 : Int32) then
                    some (.inr (x5 + 1, th_boundUp, th_boundDown))
                  else
                    f_X9_bounds_J142 x5 z3_0 z5_0
        else
          if x5 < 0 ∨ n_th_down ≤ x5.toNatClampNeg then none else
          if (lg_cmp (th_down x5.toNatClampNeg) (0 : Int64)) ≤ (0 : Int32) then
            some (.inr (x5 + 1, th_boundUp, th_boundDown))
          else
            if (lg_cmp th_boundDown (0 : Int64)) = (0 : Int32) then
              if (lg_cmp th_boundDown (0 : Int64)) = (0 : Int32) then
                f_X9_bounds_J142 x5 z3_0 (th_down x5.toNatClampNeg)
              else
                if x3 = (0 : Int32) then
                  if (0 : Int32) ≤ (lg_cmp (0 : Int64) (0 : Int64)) then
                    some (.inr (x5 + 1, th_boundUp, th_boundDown))
                  else
                    f_X9_bounds_J142 x5 z3_0 (th_down x5.toNatClampNeg)
                else
                  if (lg_cmp (0 : Int64) (0 : Int64)) ≤ (0 : Int32) then
                    some (.inr (x5 + 1, th_boundUp, th_boundDown))
                  else
                    f_X9_bounds_J142 x5 z3_0 (th_down x5.toNatClampNeg)
            else
              if (lg_cmp th_boundDown (0 : Int64)) = (0 : Int32) then
                f_X9_bounds_J142 x5 z3_0 (th_down x5.toNatClampNeg)
              else
                if x3 = (0 : Int32) then
                  if (0 : Int32) ≤ (lg_cmp ((z3_0 * th_boundDown) - (th_boundUp * (th_down x5.toNatClampNeg))) (0 : Int64)) then
                    some (.inr (x5 + 1, th_boundUp, th_boundDown))
                  else
                    f_X9_bounds_J142 x5 z3_0 (th_down x5.toNatClampNeg)
                else
                  if (lg_cmp ((z3_0 * th_boundDown) - (th_boundUp * (th_down x5.toNatClampNeg))) (0 : Int64)) ≤ (0 : Int32) then
                    some (.inr (x5 + 1, th_boundUp, th_boundDown))
                  else
                    f_X9_bounds_J142 x5 z3_0 (th_down x5.toNatClampNeg)
      else
        (f_X9_chance K n_th_up th_up x5 x1).bind fun z27_0 =>
        (f_X9_chance K n_th_up th_up x5 x2).bind fun z28_0 =>
        if x4 = (0 : Int32) then
          (f_X9_chance K n_th_up th_up x5 x2).bind fun z30_0 =>
          if (lg_cmp z30_0 (0 : Int64)) ≤ (0 : Int32) then
            some (.inr (x5 + 1, th_boundUp, th_boundDown))
          else
            if (lg_cmp th_boundDown (0 : Int64)) = (0 : Int32) then
              if (lg_cmp th_boundDown (0 : Int64)) = (0 : Int32) then
                f_X9_bounds_J142 x5 (z27_0 - z28_0) z30_0
              else
                if x3 = (0 : Int32) then
                  if (0 : Int32) ≤ (lg_cmp (0 : Int64) (0 : Int64)) then
                    some (.inr (x5 + 1, th_boundUp, th_boundDown))
                  else
                    f_X9_bounds_J142 x5 (z27_0 - z28_0) z30_0
                else
                  if (lg_cmp (0 : Int64) (0 : Int64)) ≤ (0 : Int32) then
                    some (.inr (x5 + 1, th_boundUp, th_boundDown))
                  else
                    f_X9_bounds_J142 x5 (z27_0 - z28_0) z30_0
            else
              if (lg_cmp th_boundDown (0 : Int64)) = (0 : Int32) then
                f_X9_bounds_J142 x5 (z27_0 - z28_0) z30_0
              else
                if x3 = (0 : Int32) then
                  if (0 : Int32) ≤ (lg_cmp (((z27_0 - z28_0) * th_boundDown) - (th_boundUp * z30_0)) (0 : Int64)) then
                    some (.inr (x5 + 1, th_boundUp, th_boundDown))
                  else
                    f_X9_bounds_J142 x5 (z27_0 - z28_0) z30_0
                else
                  if (lg_cmp (((z27_0 - z28_0) * th_boundDown) - (th_boundUp * z30_0)) (0 : Int64)) ≤ (0 : Int32) then
                    some (.inr (x5 + 1, th_boundUp, th_boundDown))
                  else
                    f_X9_bounds_J142 x5 (z27_0 - z28_0) z30_0
        else
          if x5 < 0 ∨ n_th_down ≤ x5.toNatClampNeg then none else
          if (lg_cmp (th_down x5.toNatClampNeg) (0 : Int64)) ≤ (0 : Int32) then
            some (.inr (x5 + 1, th_boundUp, th_boundDown))
          else
            if (lg_cmp th_boundDown (0 : Int64)) = (0 : Int32) then
              if (lg_cmp th_boundDown (0 : Int64)) = (0 : Int32) then
                f_X9_bounds_J142 x5 (z27_0 - z28_0) (th_down x5.toNatClampNeg)
              else
                if x3 = (0 : Int32) then
                  if (0 : Int32) ≤ (lg_cmp (0 : Int64) (0 : Int64)) then
                    some (.inr (x5 + 1, th_boundUp, th_boundDown))
                  else
                    f_X9_bounds_J142 x5 (z27_0 - z28_0) (th_down x5.toNatClampNeg)
                else
                  if (lg_cmp (0 : Int64) (0 : Int64)) ≤ (0 : Int32) then
                    some (.inr (x5 + 1, th_boundUp, th_boundDown))
                  else
                    f_X9_bounds_J142 x5 (z27_0 - z28_0) (th_down x5.toNatClampNeg)
            else
              (some (((z27_0 - z28_0) * th_boundDown) - (th_boundUp * (th_down x5.toNatClampNeg)) : Int64)).bind fun z44 =>
              if (lg_cmp th_boundDown (0 : Int64)) = (0 : Int32) then
                f_X9_bounds_J142 x5 (z27_0 - z28_0) (th_down x5.toNatClampNeg)
              else
                if x3 = (0 : Int32) then
                  if (0 : Int32) ≤ (lg_cmp z44 (0 : Int64)) then
                    some (.inr (x5 + 1, th_boundUp, th_boundDown))
                  else
                    f_X9_bounds_J142 x5 (z27_0 - z28_0) (th_down x5.toNatClampNeg)
                else
                  if (lg_cmp z44 (0 : Int64)) ≤ (0 : Int32) then
                    some (.inr (x5 + 1, th_boundUp, th_boundDown))
                  else
                    f_X9_bounds_J142 x5 (z27_0 - z28_0) (th_down x5.toNatClampNeg)
def f_X9_bounds (K : Nat) (n_th_up : Nat) (n_th_down : Nat) (th_corners : Int32) (th_boundUp : Int64) (th_up : Nat → Int64) (th_down : Nat → Int64) (x1 : Int32) (x2 : Int32) (x3 : Int32) (x4 : Int32) : Option (Int32 × Int64 × Int64) :=
  (lp (f_X9_bounds_L8 K n_th_up n_th_down th_corners th_up th_down x1 x2 x3 x4) K ((0 : Int32), th_boundUp, (0 : Int64))).bind fun z53 => match z53 with
  | (z53_0, z53_1) =>
    if (lg_cmp z53_1 (0 : Int64)) ≤ (0 : Int32) then
      some ((0 : Int32), z53_0, z53_1)
    else
      some ((1 : Int32), z53_0, z53_1)
abbrev w_X9_bounds (tc : Nat → ClassId) (q_th : Nat) (q_th_text : Nat) (q_th_saying : Nat) (q_th_signs : Nat) (q_th_sets : Nat) (q_th_told : Nat) (q_th_up : Nat) (q_th_down : Nat) (q_th_world : Nat) (q_th_tight : Nat) (q_th_sum : Nat) (q_th_now : Nat) (n_th_up : Nat) (n_th_down : Nat) (th_thrown : Int32) (th_typed : Int32) (th_next : Int32) (th_token : Int32) (th_place : Int32) (th_value : Int32) (th_fault : Int32) (th_many : Int32) (th_signMany : Int32) (th_setMany : Int32) (th_corners : Int32) (th_isLoaded : Int32) (th_loaded : Int32) (th_widened : Int32) (th_wide : Int32) (th_boundUp : Int64) (th_boundDown : Int64) (th_up : Nat → Int64) (th_down : Nat → Int64) : va_W := [(q_th, .inr (9, [.int th_thrown, .ref q_th_text, .int th_typed, .int th_next, .int th_token, .int th_place, .int th_value, .int th_fault, .int th_many, .ref q_th_saying, .ref q_th_signs, .ref q_th_sets, .int th_signMany, .int th_setMany, .ref q_th_told, .int th_corners, .int th_isLoaded, .int th_loaded, .ref q_th_up, .ref q_th_down, .ref q_th_world, .ref q_th_tight, .ref q_th_sum, .ref q_th_now, .int th_widened, .int th_wide, .long th_boundUp, .long th_boundDown])), (q_th_up, .inl (tc 1, n_th_up, .inr (.inl th_up))), (q_th_down, .inl (tc 1, n_th_down, .inr (.inl th_down)))]
set_option maxHeartbeats 4000000 in
set_option maxRecDepth 100000 in
theorem s_X9_bounds {l : Launch} {E : (Nat → Prop) → State → Prop} (hEok : st_Eok E) {D : va_G} {tc : Nat → ClassId} (q_th : Nat) (q_th_text : Nat) (q_th_saying : Nat) (q_th_signs : Nat) (q_th_sets : Nat) (q_th_told : Nat) (q_th_up : Nat) (q_th_down : Nat) (q_th_world : Nat) (q_th_tight : Nat) (q_th_sum : Nat) (q_th_now : Nat) (n_th_up : Nat) (n_th_down : Nat) (th_thrown : Int32) (th_typed : Int32) (th_next : Int32) (th_token : Int32) (th_place : Int32) (th_value : Int32) (th_fault : Int32) (th_many : Int32) (th_signMany : Int32) (th_setMany : Int32) (th_corners : Int32) (th_isLoaded : Int32) (th_loaded : Int32) (th_widened : Int32) (th_wide : Int32) (th_boundUp : Int64) (th_boundDown : Int64) (th_up : Nat → Int64) (th_down : Nat → Int64) (x1 : Int32) (x2 : Int32) (x3 : Int32) (x4 : Int32) (K : Nat) (r0 : Int32) (th_boundUp' : Int64) (th_boundDown' : Int64) (h : f_X9_bounds K n_th_up n_th_down th_corners th_boundUp th_up th_down x1 x2 x3 x4 = some (r0, th_boundUp', th_boundDown')) : st l yX9_bounds wsX9_bounds ({ frames := 1, cells := 0, slots := 0, locals := 25 }) E D tc [.ref q_th, .int x1, .int x2, .int x3, .int x4] (w_X9_bounds tc q_th q_th_text q_th_saying q_th_signs q_th_sets q_th_told q_th_up q_th_down q_th_world q_th_tight q_th_sum q_th_now n_th_up n_th_down th_thrown th_typed th_next th_token th_place th_value th_fault th_many th_signMany th_setMany th_corners th_isLoaded th_loaded th_widened th_wide th_boundUp th_boundDown th_up th_down) (some (.int r0)) (w_X9_bounds tc q_th q_th_text q_th_saying q_th_signs q_th_sets q_th_told q_th_up q_th_down q_th_world q_th_tight q_th_sum q_th_now n_th_up n_th_down th_thrown th_typed th_next th_token th_place th_value th_fault th_many th_signMany th_setMany th_corners th_isLoaded th_loaded th_widened th_wide th_boundUp' th_boundDown' th_up th_down) := by
  refine st_enter (cc := cX9_bounds) (maxL := 12) (ret := (some .boolean)) (by decide) rfl (Nat.le_of_ble_eq_true rfl) ?_
  intro p e s m below meth c A ls hx hb hr hml hts hown hlocks hK hN hE hA hP hD hS hl
  have hl : lv_has ls 12 [(0, .ref q_th), (1, .int x1), (2, .int x2), (3, .int x3), (4, .int x4)] := hl
  have hinX9 : ∀ w ∈ wsX90, w ∈ wsX9_bounds := by decide +kernel
  generalize hav : ([.ref q_th, .int x1, .int x2, .int x3, .int x4] : List Value).toArray = av at hts ⊢
  have L8 : ∀ (x1 : Int32) (x2 : Int32) (x3 : Int32) (x4 : Int32), ∀ (k : Nat) (s8 : Int32 × Int64 × Int64) (r : Int64 × Int64), lp (f_X9_bounds_L8 K n_th_up n_th_down th_corners th_up th_down x1 x2 x3 x4) k s8 = some r → (fun y8 : Int64 × Int64 => match y8 with | (th_boundUp, th_boundDown) => ∀ (H : Heap) (locs : List Loc) (ls : Array Slot), va_P D vwCl (w_X9_bounds tc q_th q_th_text q_th_saying q_th_signs q_th_sets q_th_told q_th_up q_th_down q_th_world q_th_tight q_th_sum q_th_now n_th_up n_th_down th_thrown th_typed th_next th_token th_place th_value th_fault th_many th_signMany th_setMany th_corners th_isLoaded th_loaded th_widened th_wide th_boundUp th_boundDown th_up th_down) H → va_D A (w_X9_bounds tc q_th q_th_text q_th_saying q_th_signs q_th_sets q_th_told q_th_up q_th_down q_th_world q_th_tight q_th_sum q_th_now n_th_up n_th_down th_thrown th_typed th_next th_token th_place th_value th_fault th_many th_signMany th_setMany th_corners th_isLoaded th_loaded th_widened th_wide th_boundUp th_boundDown th_up th_down) → va_S A s.heap H locs → lv_has ls 12 [(0, .ref q_th)] → W p l e ({ frames := 1, cells := 0, slots := 0, locals := 25 } : Room) s m av below meth c H locs 0 0 (MQ below (st_Q D (w_X9_bounds tc q_th q_th_text q_th_saying q_th_signs q_th_sets q_th_told q_th_up q_th_down q_th_world q_th_tight q_th_sum q_th_now n_th_up n_th_down th_thrown th_typed th_next th_token th_place th_value th_fault th_many th_signMany th_setMany th_corners th_isLoaded th_loaded th_widened th_wide th_boundUp' th_boundDown' th_up th_down) (some (.int r0)) A) av s 0 0 A) (F0 m 160 ls [])) r → (fun s8 : Int32 × Int64 × Int64 => match s8 with | (x5, th_boundUp, th_boundDown) => ∀ (H : Heap) (locs : List Loc) (ls : Array Slot), va_P D vwCl (w_X9_bounds tc q_th q_th_text q_th_saying q_th_signs q_th_sets q_th_told q_th_up q_th_down q_th_world q_th_tight q_th_sum q_th_now n_th_up n_th_down th_thrown th_typed th_next th_token th_place th_value th_fault th_many th_signMany th_setMany th_corners th_isLoaded th_loaded th_widened th_wide th_boundUp th_boundDown th_up th_down) H → va_D A (w_X9_bounds tc q_th q_th_text q_th_saying q_th_signs q_th_sets q_th_told q_th_up q_th_down q_th_world q_th_tight q_th_sum q_th_now n_th_up n_th_down th_thrown th_typed th_next th_token th_place th_value th_fault th_many th_signMany th_setMany th_corners th_isLoaded th_loaded th_widened th_wide th_boundUp th_boundDown th_up th_down) → va_S A s.heap H locs → lv_has ls 12 [(0, .ref q_th), (1, .int x1), (2, .int x2), (3, .int x3), (4, .int x4), (5, .int x5)] → W p l e ({ frames := 1, cells := 0, slots := 0, locals := 25 } : Room) s m av below meth c H locs 0 0 (MQ below (st_Q D (w_X9_bounds tc q_th q_th_text q_th_saying q_th_signs q_th_sets q_th_told q_th_up q_th_down q_th_world q_th_tight q_th_sum q_th_now n_th_up n_th_down th_thrown th_typed th_next th_token th_place th_value th_fault th_many th_signMany th_setMany th_corners th_isLoaded th_loaded th_widened th_wide th_boundUp' th_boundDown' th_up th_down) (some (.int r0)) A) av s 0 0 A) (F0 m 8 ls [])) s8 := by
    intro x1 x2 x3 x4
    refine lp_W (f_X9_bounds_L8 K n_th_up n_th_down th_corners th_up th_down x1 x2 x3 x4) (fun s8 : Int32 × Int64 × Int64 => match s8 with | (x5, th_boundUp, th_boundDown) => ∀ (H : Heap) (locs : List Loc) (ls : Array Slot), va_P D vwCl (w_X9_bounds tc q_th q_th_text q_th_saying q_th_signs q_th_sets q_th_told q_th_up q_th_down q_th_world q_th_tight q_th_sum q_th_now n_th_up n_th_down th_thrown th_typed th_next th_token th_place th_value th_fault th_many th_signMany th_setMany th_corners th_isLoaded th_loaded th_widened th_wide th_boundUp th_boundDown th_up th_down) H → va_D A (w_X9_bounds tc q_th q_th_text q_th_saying q_th_signs q_th_sets q_th_told q_th_up q_th_down q_th_world q_th_tight q_th_sum q_th_now n_th_up n_th_down th_thrown th_typed th_next th_token th_place th_value th_fault th_many th_signMany th_setMany th_corners th_isLoaded th_loaded th_widened th_wide th_boundUp th_boundDown th_up th_down) → va_S A s.heap H locs → lv_has ls 12 [(0, .ref q_th), (1, .int x1), (2, .int x2), (3, .int x3), (4, .int x4), (5, .int x5)] → W p l e ({ frames := 1, cells := 0, slots := 0, locals := 25 } : Room) s m av below meth c H locs 0 0 (MQ below (st_Q D (w_X9_bounds tc q_th q_th_text q_th_saying q_th_signs q_th_sets q_th_told q_th_up q_th_down q_th_world q_th_tight q_th_sum q_th_now n_th_up n_th_down th_thrown th_typed th_next th_token th_place th_value th_fault th_many th_signMany th_setMany th_corners th_isLoaded th_loaded th_widened th_wide th_boundUp' th_boundDown' th_up th_down) (some (.int r0)) A) av s 0 0 A) (F0 m 8 ls [])) (fun y8 : Int64 × Int64 => match y8 with | (th_boundUp, th_boundDown) => ∀ (H : Heap) (locs : List Loc) (ls : Array Slot), va_P D vwCl (w_X9_bounds tc q_th q_th_text q_th_saying q_th_signs q_th_sets q_th_told q_th_up q_th_down q_th_world q_th_tight q_th_sum q_th_now n_th_up n_th_down th_thrown th_typed th_next th_token th_place th_value th_fault th_many th_signMany th_setMany th_corners th_isLoaded th_loaded th_widened th_wide th_boundUp th_boundDown th_up th_down) H → va_D A (w_X9_bounds tc q_th q_th_text q_th_saying q_th_signs q_th_sets q_th_told q_th_up q_th_down q_th_world q_th_tight q_th_sum q_th_now n_th_up n_th_down th_thrown th_typed th_next th_token th_place th_value th_fault th_many th_signMany th_setMany th_corners th_isLoaded th_loaded th_widened th_wide th_boundUp th_boundDown th_up th_down) → va_S A s.heap H locs → lv_has ls 12 [(0, .ref q_th)] → W p l e ({ frames := 1, cells := 0, slots := 0, locals := 25 } : Room) s m av below meth c H locs 0 0 (MQ below (st_Q D (w_X9_bounds tc q_th q_th_text q_th_saying q_th_signs q_th_sets q_th_told q_th_up q_th_down q_th_world q_th_tight q_th_sum q_th_now n_th_up n_th_down th_thrown th_typed th_next th_token th_place th_value th_fault th_many th_signMany th_setMany th_corners th_isLoaded th_loaded th_widened th_wide th_boundUp' th_boundDown' th_up th_down) (some (.int r0)) A) av s 0 0 A) (F0 m 160 ls [])) ?_
    rintro ⟨x5, th_boundUp, th_boundDown⟩ o h ih hz H locs ls hP hD hS hl
    have J142 : ∀ (x5 : Int32) (x6 : Int64) (x8 : Int64) (th_boundUp : Int64) (th_boundDown : Int64) (H : Heap) (locs : List Loc) (ls : Array Slot), f_X9_bounds_J142 x5 x6 x8 = some o → va_P D vwCl (w_X9_bounds tc q_th q_th_text q_th_saying q_th_signs q_th_sets q_th_told q_th_up q_th_down q_th_world q_th_tight q_th_sum q_th_now n_th_up n_th_down th_thrown th_typed th_next th_token th_place th_value th_fault th_many th_signMany th_setMany th_corners th_isLoaded th_loaded th_widened th_wide th_boundUp th_boundDown th_up th_down) H → va_D A (w_X9_bounds tc q_th q_th_text q_th_saying q_th_signs q_th_sets q_th_told q_th_up q_th_down q_th_world q_th_tight q_th_sum q_th_now n_th_up n_th_down th_thrown th_typed th_next th_token th_place th_value th_fault th_many th_signMany th_setMany th_corners th_isLoaded th_loaded th_widened th_wide th_boundUp th_boundDown th_up th_down) → va_S A s.heap H locs → lv_has ls 12 [(0, .ref q_th), (1, .int x1), (2, .int x2), (3, .int x3), (4, .int x4), (5, .int x5), (6, .long x6), (8, .long x8)] → W p l e ({ frames := 1, cells := 0, slots := 0, locals := 25 } : Room) s m av below meth c H locs 0 0 (MQ below (st_Q D (w_X9_bounds tc q_th q_th_text q_th_saying q_th_signs q_th_sets q_th_told q_th_up q_th_down q_th_world q_th_tight q_th_sum q_th_now n_th_up n_th_down th_thrown th_typed th_next th_token th_place th_value th_fault th_many th_signMany th_setMany th_corners th_isLoaded th_loaded th_widened th_wide th_boundUp' th_boundDown' th_up th_down) (some (.int r0)) A) av s 0 0 A) (F0 m 142 ls []) := by
      intro x5 x6 x8 th_boundUp th_boundDown H locs ls h hP hD hS hl
      unfold f_X9_bounds_J142 at h
      refine lv_aload_n hx hb dX9_bounds_142 rfl (lv_at hl 0 rfl) ?_
      refine lv_lload hx hb dX9_bounds_143 (lv_at hl 6 rfl) ?_
      refine va_put (D := D) (ci := 9) (v := .long x6) (ty := .long) (C := RX9) (T := TX9) (N := 28) hx hb hts hinX9 tyX9 tyX9_ok nmX9 hown hK hP hD hS 0 rfl rfl 26 (by decide) (hts (.fieldLink RX9 184 "ChanceBoundsModel" "boundUp" "J") (by decide +kernel)) (fun _ h9 => h9) rfl (by decide +kernel) rfl rfl (Nat.le_of_ble_eq_true rfl) dX9_bounds_145 (fun H locs hP hD hS => ?_)
      have hP : va_P D vwCl (w_X9_bounds tc q_th q_th_text q_th_saying q_th_signs q_th_sets q_th_told q_th_up q_th_down q_th_world q_th_tight q_th_sum q_th_now n_th_up n_th_down th_thrown th_typed th_next th_token th_place th_value th_fault th_many th_signMany th_setMany th_corners th_isLoaded th_loaded th_widened th_wide x6 th_boundDown th_up th_down) H := hP
      have hD : va_D A (w_X9_bounds tc q_th q_th_text q_th_saying q_th_signs q_th_sets q_th_told q_th_up q_th_down q_th_world q_th_tight q_th_sum q_th_now n_th_up n_th_down th_thrown th_typed th_next th_token th_place th_value th_fault th_many th_signMany th_setMany th_corners th_isLoaded th_loaded th_widened th_wide x6 th_boundDown th_up th_down) := hD
      refine lv_aload_n hx hb dX9_bounds_148 rfl (lv_at hl 0 rfl) ?_
      refine lv_lload hx hb dX9_bounds_149 (lv_at hl 7 rfl) ?_
      refine va_put (D := D) (ci := 9) (v := .long x8) (ty := .long) (C := RX9) (T := TX9) (N := 28) hx hb hts hinX9 tyX9 tyX9_ok nmX9 hown hK hP hD hS 0 rfl rfl 27 (by decide) (hts (.fieldLink RX9 176 "ChanceBoundsModel" "boundDown" "J") (by decide +kernel)) (fun _ h9 => h9) rfl (by decide +kernel) rfl rfl (Nat.le_of_ble_eq_true rfl) dX9_bounds_151 (fun H locs hP hD hS => ?_)
      have hP : va_P D vwCl (w_X9_bounds tc q_th q_th_text q_th_saying q_th_signs q_th_sets q_th_told q_th_up q_th_down q_th_world q_th_tight q_th_sum q_th_now n_th_up n_th_down th_thrown th_typed th_next th_token th_place th_value th_fault th_many th_signMany th_setMany th_corners th_isLoaded th_loaded th_widened th_wide x6 x8 th_up th_down) H := hP
      have hD : va_D A (w_X9_bounds tc q_th q_th_text q_th_saying q_th_signs q_th_sets q_th_told q_th_up q_th_down q_th_world q_th_tight q_th_sum q_th_now n_th_up n_th_down th_thrown th_typed th_next th_token th_place th_value th_fault th_many th_signMany th_setMany th_corners th_isLoaded th_loaded th_widened th_wide x6 x8 th_up th_down) := hD
      refine lv_iinc (v := x5 + 1) (lv' := [(5, .int (x5 + 1)), (0, .ref q_th), (1, .int x1), (2, .int x2), (3, .int x3), (4, .int x4), (6, .long x6), (8, .long x8)]) hx hb dX9_bounds_154 hl (k := 5) rfl rfl (by decide) rfl (fun ls hl => ?_)
      refine lv_goto (tgt := 8) hx hb dX9_bounds_157 (by decide) ?_
      cases h
      exact ih _ rfl _ _ _ hP hD hS (lv_sub hl [1, 2, 3, 4, 5, 0] rfl)
    unfold f_X9_bounds_L8 at h
    refine lv_iload hx hb dX9_bounds_8 (lv_at hl 5 rfl) ?_
    refine lv_aload_n hx hb dX9_bounds_10 rfl (lv_at hl 0 rfl) ?_
    refine va_get (D := D) (ci := 9) (v := .int th_corners) (C := RX9) (T := TX9) (N := 28) hx hb hts hinX9 hown hK hP 0 rfl rfl 15 (by decide) (hts (.fieldLink RX9 150 "ChanceBoundsModel" "corners" "I") (by decide +kernel)) (fun _ h9 => h9) rfl dX9_bounds_11 ?_
    refine lv_icmp_ge (tgt := 160) hx hb dX9_bounds_14 (by decide) (fun c1 => ?_) (fun c1 => ?_)
    · replace h := ifp c1 h
      cases h
      exact hz _ rfl _ _ _ hP hD hS (lv_sub hl [0] rfl)
    · replace h := ifn c1 h
      refine lv_iload hx hb dX9_bounds_17 (lv_at hl 4 rfl) ?_
      refine lv_if_eq (tgt := 40) hx hb dX9_bounds_19 (by decide) (fun c2 => ?_) (fun c2 => ?_)
      · replace h := ifp c2 h
        refine lv_aload_n hx hb dX9_bounds_40 rfl (lv_at hl 0 rfl) ?_
        refine lv_iload hx hb dX9_bounds_41 (lv_at hl 5 rfl) ?_
        refine lv_iload_n hx hb dX9_bounds_43 rfl (lv_at hl 1 rfl) ?_
        refine lv_iload_n hx hb dX9_bounds_44 rfl (lv_at hl 2 rfl) ?_
        refine lv_iand hx hb dX9_bounds_45 ?_
        obtain ⟨z3_0, hc3, h⟩ := bd_ok h
        refine st_callV (As := [.int x5, .int (x1 &&& x2)]) (rest := []) (pos := [0, 1]) ⟨hx, hb, hml, hown, hts⟩ (s_X9_chance (l := l) (D := D) (tc := tc) hEok q_th q_th_text q_th_saying q_th_signs q_th_sets q_th_told q_th_up q_th_down q_th_world q_th_tight q_th_sum q_th_now n_th_up th_thrown th_typed th_next th_token th_place th_value th_fault th_many th_signMany th_setMany th_corners th_isLoaded th_loaded th_widened th_wide th_boundUp th_boundDown th_up x5 (x1 &&& x2) K z3_0 hc3) (cwV 2 hts gX9_bounds_X9_chance rfl rfl rfl (by decide +kernel) ⟨Nat.le_of_ble_eq_true rfl, Nat.le_of_ble_eq_true rfl⟩) (st_recv (ci := 9) (q0 := 0) hK hP rfl rfl) hEok hE hK hN hP hD hS hA rfl rfl rfl rfl hl.1 rfl (Nat.le_of_ble_eq_true rfl) dX9_bounds_46 ⟨Nat.zero_le _, Nat.zero_le _⟩ (fun H locs hP hD hS => ?_)
        have hP : va_P D vwCl (w_X9_bounds tc q_th q_th_text q_th_saying q_th_signs q_th_sets q_th_told q_th_up q_th_down q_th_world q_th_tight q_th_sum q_th_now n_th_up n_th_down th_thrown th_typed th_next th_token th_place th_value th_fault th_many th_signMany th_setMany th_corners th_isLoaded th_loaded th_widened th_wide th_boundUp th_boundDown th_up th_down) H := hP
        have hD : va_D A (w_X9_bounds tc q_th q_th_text q_th_saying q_th_signs q_th_sets q_th_told q_th_up q_th_down q_th_world q_th_tight q_th_sum q_th_now n_th_up n_th_down th_thrown th_typed th_next th_token th_place th_value th_fault th_many th_signMany th_setMany th_corners th_isLoaded th_loaded th_widened th_wide th_boundUp th_boundDown th_up th_down) := hD
        refine lv_lstore (lv' := [(6, .long z3_0), (0, .ref q_th), (1, .int x1), (2, .int x2), (3, .int x3), (4, .int x4), (5, .int x5)]) hx hb dX9_bounds_49 hl (by decide) rfl (fun ls hl => ?_)
        refine lv_iload hx hb dX9_bounds_51 (lv_at hl 5 rfl) ?_
        refine lv_if_eq (tgt := 66) hx hb dX9_bounds_53 (by decide) (fun c4 => ?_) (fun c4 => ?_)
        · replace h := ifp c4 h
          refine lv_aload_n hx hb dX9_bounds_66 rfl (lv_at hl 1 rfl) ?_
          refine lv_iload hx hb dX9_bounds_67 (lv_at hl 6 rfl) ?_
          refine lv_iload_n hx hb dX9_bounds_69 rfl (lv_at hl 3 rfl) ?_
          obtain ⟨z5_0, hc5, h⟩ := bd_ok h
          refine st_callV (As := [.int x5, .int x2]) (rest := []) (pos := [0, 1]) ⟨hx, hb, hml, hown, hts⟩ (s_X9_chance (l := l) (D := D) (tc := tc) hEok q_th q_th_text q_th_saying q_th_signs q_th_sets q_th_told q_th_up q_th_down q_th_world q_th_tight q_th_sum q_th_now n_th_up th_thrown th_typed th_next th_token th_place th_value th_fault th_many th_signMany th_setMany th_corners th_isLoaded th_loaded th_widened th_wide th_boundUp th_boundDown th_up x5 x2 K z5_0 hc5) (cwV 2 hts gX9_bounds_X9_chance rfl rfl rfl (by decide +kernel) ⟨Nat.le_of_ble_eq_true rfl, Nat.le_of_ble_eq_true rfl⟩) (st_recv (ci := 9) (q0 := 0) hK hP rfl rfl) hEok hE hK hN hP hD hS hA rfl rfl rfl rfl hl.1 rfl (Nat.le_of_ble_eq_true rfl) dX9_bounds_70 ⟨Nat.zero_le _, Nat.zero_le _⟩ (fun H locs hP hD hS => ?_)
          have hP : va_P D vwCl (w_X9_bounds tc q_th q_th_text q_th_saying q_th_signs q_th_sets q_th_told q_th_up q_th_down q_th_world q_th_tight q_th_sum q_th_now n_th_up n_th_down th_thrown th_typed th_next th_token th_place th_value th_fault th_many th_signMany th_setMany th_corners th_isLoaded th_loaded th_widened th_wide th_boundUp th_boundDown th_up th_down) H := hP
          have hD : va_D A (w_X9_bounds tc q_th q_th_text q_th_saying q_th_signs q_th_sets q_th_told q_th_up q_th_down q_th_world q_th_tight q_th_sum q_th_now n_th_up n_th_down th_thrown th_typed th_next th_token th_place th_value th_fault th_many th_signMany th_setMany th_corners th_isLoaded th_loaded th_widened th_wide th_boundUp th_boundDown th_up th_down) := hD
          refine lv_lstore (lv' := [(8, .long z5_0), (6, .long z3_0), (0, .ref q_th), (1, .int x1), (2, .int x2), (3, .int x3), (4, .int x4), (5, .int x5)]) hx hb dX9_bounds_73 hl (by decide) rfl (fun ls hl => ?_)
          refine lv_lload hx hb dX9_bounds_75 (lv_at hl 0 rfl) ?_
          refine lv_lconst (v := (0 : Int64)) hx hb dX9_bounds_77 (by decide) ?_
          refine W.lcmp hx hb dX9_bounds_78 ?_
          refine lv_if_le (tgt := 154) hx hb dX9_bounds_79 (by decide) (fun c6 => ?_) (fun c6 => ?_)
          · replace h := ifp c6 h
            refine lv_iinc (v := x5 + 1) (lv' := [(5, .int (x5 + 1)), (8, .long z5_0), (6, .long z3_0), (0, .ref q_th), (1, .int x1), (2, .int x2), (3, .int x3), (4, .int x4)]) hx hb dX9_bounds_154 hl (k := 7) rfl rfl (by decide) rfl (fun ls hl => ?_)
            refine lv_goto (tgt := 8) hx hb dX9_bounds_157 (by decide) ?_
            cases h
            exact ih _ rfl _ _ _ hP hD hS (lv_sub hl [3, 4, 5, 6, 7, 0] rfl)
          · replace h := ifn c6 h
            refine lv_aload_n hx hb dX9_bounds_82 rfl (lv_at hl 2 rfl) ?_
            refine va_get (D := D) (ci := 9) (v := .long th_boundDown) (C := RX9) (T := TX9) (N := 28) hx hb hts hinX9 hown hK hP 0 rfl rfl 27 (by decide) (hts (.fieldLink RX9 176 "ChanceBoundsModel" "boundDown" "J") (by decide +kernel)) (fun _ h9 => h9) rfl dX9_bounds_83 ?_
            refine lv_lconst (v := (0 : Int64)) hx hb dX9_bounds_86 (by decide) ?_
            refine W.lcmp hx hb dX9_bounds_87 ?_
            refine lv_if_ne (tgt := 95) hx hb dX9_bounds_88 (by decide) (fun c7 => ?_) (fun c7 => ?_)
            · replace h := ifn c7 h
              refine lv_lload hx hb dX9_bounds_95 (lv_at hl 1 rfl) ?_
              refine lv_aload_n hx hb dX9_bounds_97 rfl (lv_at hl 2 rfl) ?_
              refine va_get (D := D) (ci := 9) (v := .long th_boundDown) (C := RX9) (T := TX9) (N := 28) hx hb hts hinX9 hown hK hP 0 rfl rfl 27 (by decide) (hts (.fieldLink RX9 176 "ChanceBoundsModel" "boundDown" "J") (by decide +kernel)) (fun _ h9 => h9) rfl dX9_bounds_98 ?_
              refine lv_lmul hx hb dX9_bounds_101 ?_
              refine lv_aload_n hx hb dX9_bounds_102 rfl (lv_at hl 2 rfl) ?_
              refine va_get (D := D) (ci := 9) (v := .long th_boundUp) (C := RX9) (T := TX9) (N := 28) hx hb hts hinX9 hown hK hP 0 rfl rfl 26 (by decide) (hts (.fieldLink RX9 184 "ChanceBoundsModel" "boundUp" "J") (by decide +kernel)) (fun _ h9 => h9) rfl dX9_bounds_103 ?_
              refine lv_lload hx hb dX9_bounds_106 (lv_at hl 0 rfl) ?_
              refine lv_lmul hx hb dX9_bounds_108 ?_
              refine lv_lsub hx hb dX9_bounds_109 ?_
              refine lv_lstore (lv' := [(10, .long ((z3_0 * th_boundDown) - (th_boundUp * z5_0))), (8, .long z5_0), (6, .long z3_0), (0, .ref q_th), (1, .int x1), (2, .int x2), (3, .int x3), (4, .int x4), (5, .int x5)]) hx hb dX9_bounds_110 hl (by decide) rfl (fun ls hl => ?_)
              refine lv_aload_n hx hb dX9_bounds_112 rfl (lv_at hl 3 rfl) ?_
              refine va_get (D := D) (ci := 9) (v := .long th_boundDown) (C := RX9) (T := TX9) (N := 28) hx hb hts hinX9 hown hK hP 0 rfl rfl 27 (by decide) (hts (.fieldLink RX9 176 "ChanceBoundsModel" "boundDown" "J") (by decide +kernel)) (fun _ h9 => h9) rfl dX9_bounds_113 ?_
              refine lv_lconst (v := (0 : Int64)) hx hb dX9_bounds_116 (by decide) ?_
              refine W.lcmp hx hb dX9_bounds_117 ?_
              refine lv_if_eq (tgt := 142) hx hb dX9_bounds_118 (by decide) (fun c8 => ?_) (fun c8 => ?_)
              · replace h := ifp c8 h
                exact J142 x5 z3_0 z5_0 th_boundUp th_boundDown _ _ _ h hP hD hS (lv_sub hl [3, 4, 5, 6, 7, 8, 2, 1] rfl)
              · replace h := ifn c8 h
                refine lv_iload_n hx hb dX9_bounds_121 rfl (lv_at hl 6 rfl) ?_
                refine lv_if_ne (tgt := 135) hx hb dX9_bounds_122 (by decide) (fun c9 => ?_) (fun c9 => ?_)
                · replace h := ifn c9 h
                  refine lv_lload hx hb dX9_bounds_135 (lv_at hl 0 rfl) ?_
                  refine lv_lconst (v := (0 : Int64)) hx hb dX9_bounds_137 (by decide) ?_
                  refine W.lcmp hx hb dX9_bounds_138 ?_
                  refine lv_if_le (tgt := 154) hx hb dX9_bounds_139 (by decide) (fun c10 => ?_) (fun c10 => ?_)
                  · replace h := ifp c10 h
                    refine lv_iinc (v := x5 + 1) (lv' := [(5, .int (x5 + 1)), (10, .long ((z3_0 * th_boundDown) - (th_boundUp * z5_0))), (8, .long z5_0), (6, .long z3_0), (0, .ref q_th), (1, .int x1), (2, .int x2), (3, .int x3), (4, .int x4)]) hx hb dX9_bounds_154 hl (k := 8) rfl rfl (by decide) rfl (fun ls hl => ?_)
                    refine lv_goto (tgt := 8) hx hb dX9_bounds_157 (by decide) ?_
                    cases h
                    exact ih _ rfl _ _ _ hP hD hS (lv_sub hl [4, 5, 6, 7, 8, 0] rfl)
                  · replace h := ifn c10 h
                    exact J142 x5 z3_0 z5_0 th_boundUp th_boundDown _ _ _ h hP hD hS (lv_sub hl [3, 4, 5, 6, 7, 8, 2, 1] rfl)
                · replace h := ifp c9 h
                  refine lv_lload hx hb dX9_bounds_125 (lv_at hl 0 rfl) ?_
                  refine lv_lconst (v := (0 : Int64)) hx hb dX9_bounds_127 (by decide) ?_
                  refine W.lcmp hx hb dX9_bounds_128 ?_
                  refine lv_if_ge (tgt := 154) hx hb dX9_bounds_129 (by decide) (fun c11 => ?_) (fun c11 => ?_)
                  · replace h := ifp c11 h
                    refine lv_iinc (v := x5 + 1) (lv' := [(5, .int (x5 + 1)), (10, .long ((z3_0 * th_boundDown) - (th_boundUp * z5_0))), (8, .long z5_0), (6, .long z3_0), (0, .ref q_th), (1, .int x1), (2, .int x2), (3, .int x3), (4, .int x4)]) hx hb dX9_bounds_154 hl (k := 8) rfl rfl (by decide) rfl (fun ls hl => ?_)
                    refine lv_goto (tgt := 8) hx hb dX9_bounds_157 (by decide) ?_
                    cases h
                    exact ih _ rfl _ _ _ hP hD hS (lv_sub hl [4, 5, 6, 7, 8, 0] rfl)
                  · replace h := ifn c11 h
                    refine lv_goto (tgt := 142) hx hb dX9_bounds_132 (by decide) ?_
                    exact J142 x5 z3_0 z5_0 th_boundUp th_boundDown _ _ _ h hP hD hS (lv_sub hl [3, 4, 5, 6, 7, 8, 2, 1] rfl)
            · replace h := ifp c7 h
              refine lv_lconst (v := (0 : Int64)) hx hb dX9_bounds_91 (by decide) ?_
              refine lv_goto (tgt := 110) hx hb dX9_bounds_92 (by decide) ?_
              refine lv_lstore (lv' := [(10, .long (0 : Int64)), (8, .long z5_0), (6, .long z3_0), (0, .ref q_th), (1, .int x1), (2, .int x2), (3, .int x3), (4, .int x4), (5, .int x5)]) hx hb dX9_bounds_110 hl (by decide) rfl (fun ls hl => ?_)
              refine lv_aload_n hx hb dX9_bounds_112 rfl (lv_at hl 3 rfl) ?_
              refine va_get (D := D) (ci := 9) (v := .long th_boundDown) (C := RX9) (T := TX9) (N := 28) hx hb hts hinX9 hown hK hP 0 rfl rfl 27 (by decide) (hts (.fieldLink RX9 176 "ChanceBoundsModel" "boundDown" "J") (by decide +kernel)) (fun _ h9 => h9) rfl dX9_bounds_113 ?_
              refine lv_lconst (v := (0 : Int64)) hx hb dX9_bounds_116 (by decide) ?_
              refine W.lcmp hx hb dX9_bounds_117 ?_
              refine lv_if_eq (tgt := 142) hx hb dX9_bounds_118 (by decide) (fun c12 => ?_) (fun c12 => ?_)
              · replace h := ifp c12 h
                exact J142 x5 z3_0 z5_0 th_boundUp th_boundDown _ _ _ h hP hD hS (lv_sub hl [3, 4, 5, 6, 7, 8, 2, 1] rfl)
              · replace h := ifn c12 h
                refine lv_iload_n hx hb dX9_bounds_121 rfl (lv_at hl 6 rfl) ?_
                refine lv_if_ne (tgt := 135) hx hb dX9_bounds_122 (by decide) (fun c13 => ?_) (fun c13 => ?_)
                · replace h := ifn c13 h
                  refine lv_lload hx hb dX9_bounds_135 (lv_at hl 0 rfl) ?_
                  refine lv_lconst (v := (0 : Int64)) hx hb dX9_bounds_137 (by decide) ?_
                  refine W.lcmp hx hb dX9_bounds_138 ?_
                  refine lv_if_le (tgt := 154) hx hb dX9_bounds_139 (by decide) (fun c14 => ?_) (fun c14 => ?_)
                  · replace h := ifp c14 h
                    refine lv_iinc (v := x5 + 1) (lv' := [(5, .int (x5 + 1)), (10, .long (0 : Int64)), (8, .long z5_0), (6, .long z3_0), (0, .ref q_th), (1, .int x1), (2, .int x2), (3, .int x3), (4, .int x4)]) hx hb dX9_bounds_154 hl (k := 8) rfl rfl (by decide) rfl (fun ls hl => ?_)
                    refine lv_goto (tgt := 8) hx hb dX9_bounds_157 (by decide) ?_
                    cases h
                    exact ih _ rfl _ _ _ hP hD hS (lv_sub hl [4, 5, 6, 7, 8, 0] rfl)
                  · replace h := ifn c14 h
                    exact J142 x5 z3_0 z5_0 th_boundUp th_boundDown _ _ _ h hP hD hS (lv_sub hl [3, 4, 5, 6, 7, 8, 2, 1] rfl)
                · replace h := ifp c13 h
                  refine lv_lload hx hb dX9_bounds_125 (lv_at hl 0 rfl) ?_
                  refine lv_lconst (v := (0 : Int64)) hx hb dX9_bounds_127 (by decide) ?_
                  refine W.lcmp hx hb dX9_bounds_128 ?_
                  refine lv_if_ge (tgt := 154) hx hb dX9_bounds_129 (by decide) (fun c15 => ?_) (fun c15 => ?_)
                  · replace h := ifp c15 h
                    refine lv_iinc (v := x5 + 1) (lv' := [(5, .int (x5 + 1)), (10, .long (0 : Int64)), (8, .long z5_0), (6, .long z3_0), (0, .ref q_th), (1, .int x1), (2, .int x2), (3, .int x3), (4, .int x4)]) hx hb dX9_bounds_154 hl (k := 8) rfl rfl (by decide) rfl (fun ls hl => ?_)
                    refine lv_goto (tgt := 8) hx hb dX9_bounds_157 (by decide) ?_
                    cases h
                    exact ih _ rfl _ _ _ hP hD hS (lv_sub hl [4, 5, 6, 7, 8, 0] rfl)
                  · replace h := ifn c15 h
                    refine lv_goto (tgt := 142) hx hb dX9_bounds_132 (by decide) ?_
                    exact J142 x5 z3_0 z5_0 th_boundUp th_boundDown _ _ _ h hP hD hS (lv_sub hl [3, 4, 5, 6, 7, 8, 2, 1] rfl)
        · replace h := ifn c4 h
          refine lv_aload_n hx hb dX9_bounds_56 rfl (lv_at hl 1 rfl) ?_
          refine va_get (D := D) (ci := 9) (v := .ref q_th_down) (C := RX9) (T := TX9) (N := 28) hx hb hts hinX9 hown hK hP 0 rfl rfl 19 (by decide) (hts (.fieldLink RX9 30 "ChanceBoundsModel" "down" "[J") (by decide +kernel)) (fun _ h9 => h9) rfl dX9_bounds_57 ?_
          refine lv_iload hx hb dX9_bounds_60 (lv_at hl 6 rfl) ?_
          obtain ⟨g16, h⟩ := gd_ok h
          refine va_lald hx hb hK hP 2 1 rfl rfl g16 dX9_bounds_62 ?_
          refine lv_goto (tgt := 73) hx hb dX9_bounds_63 (by decide) ?_
          refine lv_lstore (lv' := [(8, .long (th_down x5.toNatClampNeg)), (6, .long z3_0), (0, .ref q_th), (1, .int x1), (2, .int x2), (3, .int x3), (4, .int x4), (5, .int x5)]) hx hb dX9_bounds_73 hl (by decide) rfl (fun ls hl => ?_)
          refine lv_lload hx hb dX9_bounds_75 (lv_at hl 0 rfl) ?_
          refine lv_lconst (v := (0 : Int64)) hx hb dX9_bounds_77 (by decide) ?_
          refine W.lcmp hx hb dX9_bounds_78 ?_
          refine lv_if_le (tgt := 154) hx hb dX9_bounds_79 (by decide) (fun c17 => ?_) (fun c17 => ?_)
          · replace h := ifp c17 h
            refine lv_iinc (v := x5 + 1) (lv' := [(5, .int (x5 + 1)), (8, .long (th_down x5.toNatClampNeg)), (6, .long z3_0), (0, .ref q_th), (1, .int x1), (2, .int x2), (3, .int x3), (4, .int x4)]) hx hb dX9_bounds_154 hl (k := 7) rfl rfl (by decide) rfl (fun ls hl => ?_)
            refine lv_goto (tgt := 8) hx hb dX9_bounds_157 (by decide) ?_
            cases h
            exact ih _ rfl _ _ _ hP hD hS (lv_sub hl [3, 4, 5, 6, 7, 0] rfl)
          · replace h := ifn c17 h
            refine lv_aload_n hx hb dX9_bounds_82 rfl (lv_at hl 2 rfl) ?_
            refine va_get (D := D) (ci := 9) (v := .long th_boundDown) (C := RX9) (T := TX9) (N := 28) hx hb hts hinX9 hown hK hP 0 rfl rfl 27 (by decide) (hts (.fieldLink RX9 176 "ChanceBoundsModel" "boundDown" "J") (by decide +kernel)) (fun _ h9 => h9) rfl dX9_bounds_83 ?_
            refine lv_lconst (v := (0 : Int64)) hx hb dX9_bounds_86 (by decide) ?_
            refine W.lcmp hx hb dX9_bounds_87 ?_
            refine lv_if_ne (tgt := 95) hx hb dX9_bounds_88 (by decide) (fun c18 => ?_) (fun c18 => ?_)
            · replace h := ifn c18 h
              refine lv_lload hx hb dX9_bounds_95 (lv_at hl 1 rfl) ?_
              refine lv_aload_n hx hb dX9_bounds_97 rfl (lv_at hl 2 rfl) ?_
              refine va_get (D := D) (ci := 9) (v := .long th_boundDown) (C := RX9) (T := TX9) (N := 28) hx hb hts hinX9 hown hK hP 0 rfl rfl 27 (by decide) (hts (.fieldLink RX9 176 "ChanceBoundsModel" "boundDown" "J") (by decide +kernel)) (fun _ h9 => h9) rfl dX9_bounds_98 ?_
              refine lv_lmul hx hb dX9_bounds_101 ?_
              refine lv_aload_n hx hb dX9_bounds_102 rfl (lv_at hl 2 rfl) ?_
              refine va_get (D := D) (ci := 9) (v := .long th_boundUp) (C := RX9) (T := TX9) (N := 28) hx hb hts hinX9 hown hK hP 0 rfl rfl 26 (by decide) (hts (.fieldLink RX9 184 "ChanceBoundsModel" "boundUp" "J") (by decide +kernel)) (fun _ h9 => h9) rfl dX9_bounds_103 ?_
              refine lv_lload hx hb dX9_bounds_106 (lv_at hl 0 rfl) ?_
              refine lv_lmul hx hb dX9_bounds_108 ?_
              refine lv_lsub hx hb dX9_bounds_109 ?_
              refine lv_lstore (lv' := [(10, .long ((z3_0 * th_boundDown) - (th_boundUp * (th_down x5.toNatClampNeg)))), (8, .long (th_down x5.toNatClampNeg)), (6, .long z3_0), (0, .ref q_th), (1, .int x1), (2, .int x2), (3, .int x3), (4, .int x4), (5, .int x5)]) hx hb dX9_bounds_110 hl (by decide) rfl (fun ls hl => ?_)
              refine lv_aload_n hx hb dX9_bounds_112 rfl (lv_at hl 3 rfl) ?_
              refine va_get (D := D) (ci := 9) (v := .long th_boundDown) (C := RX9) (T := TX9) (N := 28) hx hb hts hinX9 hown hK hP 0 rfl rfl 27 (by decide) (hts (.fieldLink RX9 176 "ChanceBoundsModel" "boundDown" "J") (by decide +kernel)) (fun _ h9 => h9) rfl dX9_bounds_113 ?_
              refine lv_lconst (v := (0 : Int64)) hx hb dX9_bounds_116 (by decide) ?_
              refine W.lcmp hx hb dX9_bounds_117 ?_
              refine lv_if_eq (tgt := 142) hx hb dX9_bounds_118 (by decide) (fun c19 => ?_) (fun c19 => ?_)
              · replace h := ifp c19 h
                exact J142 x5 z3_0 (th_down x5.toNatClampNeg) th_boundUp th_boundDown _ _ _ h hP hD hS (lv_sub hl [3, 4, 5, 6, 7, 8, 2, 1] rfl)
              · replace h := ifn c19 h
                refine lv_iload_n hx hb dX9_bounds_121 rfl (lv_at hl 6 rfl) ?_
                refine lv_if_ne (tgt := 135) hx hb dX9_bounds_122 (by decide) (fun c20 => ?_) (fun c20 => ?_)
                · replace h := ifn c20 h
                  refine lv_lload hx hb dX9_bounds_135 (lv_at hl 0 rfl) ?_
                  refine lv_lconst (v := (0 : Int64)) hx hb dX9_bounds_137 (by decide) ?_
                  refine W.lcmp hx hb dX9_bounds_138 ?_
                  refine lv_if_le (tgt := 154) hx hb dX9_bounds_139 (by decide) (fun c21 => ?_) (fun c21 => ?_)
                  · replace h := ifp c21 h
                    refine lv_iinc (v := x5 + 1) (lv' := [(5, .int (x5 + 1)), (10, .long ((z3_0 * th_boundDown) - (th_boundUp * (th_down x5.toNatClampNeg)))), (8, .long (th_down x5.toNatClampNeg)), (6, .long z3_0), (0, .ref q_th), (1, .int x1), (2, .int x2), (3, .int x3), (4, .int x4)]) hx hb dX9_bounds_154 hl (k := 8) rfl rfl (by decide) rfl (fun ls hl => ?_)
                    refine lv_goto (tgt := 8) hx hb dX9_bounds_157 (by decide) ?_
                    cases h
                    exact ih _ rfl _ _ _ hP hD hS (lv_sub hl [4, 5, 6, 7, 8, 0] rfl)
                  · replace h := ifn c21 h
                    exact J142 x5 z3_0 (th_down x5.toNatClampNeg) th_boundUp th_boundDown _ _ _ h hP hD hS (lv_sub hl [3, 4, 5, 6, 7, 8, 2, 1] rfl)
                · replace h := ifp c20 h
                  refine lv_lload hx hb dX9_bounds_125 (lv_at hl 0 rfl) ?_
                  refine lv_lconst (v := (0 : Int64)) hx hb dX9_bounds_127 (by decide) ?_
                  refine W.lcmp hx hb dX9_bounds_128 ?_
                  refine lv_if_ge (tgt := 154) hx hb dX9_bounds_129 (by decide) (fun c22 => ?_) (fun c22 => ?_)
                  · replace h := ifp c22 h
                    refine lv_iinc (v := x5 + 1) (lv' := [(5, .int (x5 + 1)), (10, .long ((z3_0 * th_boundDown) - (th_boundUp * (th_down x5.toNatClampNeg)))), (8, .long (th_down x5.toNatClampNeg)), (6, .long z3_0), (0, .ref q_th), (1, .int x1), (2, .int x2), (3, .int x3), (4, .int x4)]) hx hb dX9_bounds_154 hl (k := 8) rfl rfl (by decide) rfl (fun ls hl => ?_)
                    refine lv_goto (tgt := 8) hx hb dX9_bounds_157 (by decide) ?_
                    cases h
                    exact ih _ rfl _ _ _ hP hD hS (lv_sub hl [4, 5, 6, 7, 8, 0] rfl)
                  · replace h := ifn c22 h
                    refine lv_goto (tgt := 142) hx hb dX9_bounds_132 (by decide) ?_
                    exact J142 x5 z3_0 (th_down x5.toNatClampNeg) th_boundUp th_boundDown _ _ _ h hP hD hS (lv_sub hl [3, 4, 5, 6, 7, 8, 2, 1] rfl)
            · replace h := ifp c18 h
              refine lv_lconst (v := (0 : Int64)) hx hb dX9_bounds_91 (by decide) ?_
              refine lv_goto (tgt := 110) hx hb dX9_bounds_92 (by decide) ?_
              refine lv_lstore (lv' := [(10, .long (0 : Int64)), (8, .long (th_down x5.toNatClampNeg)), (6, .long z3_0), (0, .ref q_th), (1, .int x1), (2, .int x2), (3, .int x3), (4, .int x4), (5, .int x5)]) hx hb dX9_bounds_110 hl (by decide) rfl (fun ls hl => ?_)
              refine lv_aload_n hx hb dX9_bounds_112 rfl (lv_at hl 3 rfl) ?_
              refine va_get (D := D) (ci := 9) (v := .long th_boundDown) (C := RX9) (T := TX9) (N := 28) hx hb hts hinX9 hown hK hP 0 rfl rfl 27 (by decide) (hts (.fieldLink RX9 176 "ChanceBoundsModel" "boundDown" "J") (by decide +kernel)) (fun _ h9 => h9) rfl dX9_bounds_113 ?_
              refine lv_lconst (v := (0 : Int64)) hx hb dX9_bounds_116 (by decide) ?_
              refine W.lcmp hx hb dX9_bounds_117 ?_
              refine lv_if_eq (tgt := 142) hx hb dX9_bounds_118 (by decide) (fun c23 => ?_) (fun c23 => ?_)
              · replace h := ifp c23 h
                exact J142 x5 z3_0 (th_down x5.toNatClampNeg) th_boundUp th_boundDown _ _ _ h hP hD hS (lv_sub hl [3, 4, 5, 6, 7, 8, 2, 1] rfl)
              · replace h := ifn c23 h
                refine lv_iload_n hx hb dX9_bounds_121 rfl (lv_at hl 6 rfl) ?_
                refine lv_if_ne (tgt := 135) hx hb dX9_bounds_122 (by decide) (fun c24 => ?_) (fun c24 => ?_)
                · replace h := ifn c24 h
                  refine lv_lload hx hb dX9_bounds_135 (lv_at hl 0 rfl) ?_
                  refine lv_lconst (v := (0 : Int64)) hx hb dX9_bounds_137 (by decide) ?_
                  refine W.lcmp hx hb dX9_bounds_138 ?_
                  refine lv_if_le (tgt := 154) hx hb dX9_bounds_139 (by decide) (fun c25 => ?_) (fun c25 => ?_)
                  · replace h := ifp c25 h
                    refine lv_iinc (v := x5 + 1) (lv' := [(5, .int (x5 + 1)), (10, .long (0 : Int64)), (8, .long (th_down x5.toNatClampNeg)), (6, .long z3_0), (0, .ref q_th), (1, .int x1), (2, .int x2), (3, .int x3), (4, .int x4)]) hx hb dX9_bounds_154 hl (k := 8) rfl rfl (by decide) rfl (fun ls hl => ?_)
                    refine lv_goto (tgt := 8) hx hb dX9_bounds_157 (by decide) ?_
                    cases h
                    exact ih _ rfl _ _ _ hP hD hS (lv_sub hl [4, 5, 6, 7, 8, 0] rfl)
                  · replace h := ifn c25 h
                    exact J142 x5 z3_0 (th_down x5.toNatClampNeg) th_boundUp th_boundDown _ _ _ h hP hD hS (lv_sub hl [3, 4, 5, 6, 7, 8, 2, 1] rfl)
                · replace h := ifp c24 h
                  refine lv_lload hx hb dX9_bounds_125 (lv_at hl 0 rfl) ?_
                  refine lv_lconst (v := (0 : Int64)) hx hb dX9_bounds_127 (by decide) ?_
                  refine W.lcmp hx hb dX9_bounds_128 ?_
                  refine lv_if_ge (tgt := 154) hx hb dX9_bounds_129 (by decide) (fun c26 => ?_) (fun c26 => ?_)
                  · replace h := ifp c26 h
                    refine lv_iinc (v := x5 + 1) (lv' := [(5, .int (x5 + 1)), (10, .long (0 : Int64)), (8, .long (th_down x5.toNatClampNeg)), (6, .long z3_0), (0, .ref q_th), (1, .int x1), (2, .int x2), (3, .int x3), (4, .int x4)]) hx hb dX9_bounds_154 hl (k := 8) rfl rfl (by decide) rfl (fun ls hl => ?_)
                    refine lv_goto (tgt := 8) hx hb dX9_bounds_157 (by decide) ?_
                    cases h
                    exact ih _ rfl _ _ _ hP hD hS (lv_sub hl [4, 5, 6, 7, 8, 0] rfl)
                  · replace h := ifn c26 h
                    refine lv_goto (tgt := 142) hx hb dX9_bounds_132 (by decide) ?_
                    exact J142 x5 z3_0 (th_down x5.toNatClampNeg) th_boundUp th_boundDown _ _ _ h hP hD hS (lv_sub hl [3, 4, 5, 6, 7, 8, 2, 1] rfl)
      · replace h := ifn c2 h
        refine lv_aload_n hx hb dX9_bounds_22 rfl (lv_at hl 0 rfl) ?_
        refine lv_iload hx hb dX9_bounds_23 (lv_at hl 5 rfl) ?_
        refine lv_iload_n hx hb dX9_bounds_25 rfl (lv_at hl 1 rfl) ?_
        obtain ⟨z27_0, hc27, h⟩ := bd_ok h
        refine st_callV (As := [.int x5, .int x1]) (rest := []) (pos := [0, 1]) ⟨hx, hb, hml, hown, hts⟩ (s_X9_chance (l := l) (D := D) (tc := tc) hEok q_th q_th_text q_th_saying q_th_signs q_th_sets q_th_told q_th_up q_th_down q_th_world q_th_tight q_th_sum q_th_now n_th_up th_thrown th_typed th_next th_token th_place th_value th_fault th_many th_signMany th_setMany th_corners th_isLoaded th_loaded th_widened th_wide th_boundUp th_boundDown th_up x5 x1 K z27_0 hc27) (cwV 2 hts gX9_bounds_X9_chance rfl rfl rfl (by decide +kernel) ⟨Nat.le_of_ble_eq_true rfl, Nat.le_of_ble_eq_true rfl⟩) (st_recv (ci := 9) (q0 := 0) hK hP rfl rfl) hEok hE hK hN hP hD hS hA rfl rfl rfl rfl hl.1 rfl (Nat.le_of_ble_eq_true rfl) dX9_bounds_26 ⟨Nat.zero_le _, Nat.zero_le _⟩ (fun H locs hP hD hS => ?_)
        have hP : va_P D vwCl (w_X9_bounds tc q_th q_th_text q_th_saying q_th_signs q_th_sets q_th_told q_th_up q_th_down q_th_world q_th_tight q_th_sum q_th_now n_th_up n_th_down th_thrown th_typed th_next th_token th_place th_value th_fault th_many th_signMany th_setMany th_corners th_isLoaded th_loaded th_widened th_wide th_boundUp th_boundDown th_up th_down) H := hP
        have hD : va_D A (w_X9_bounds tc q_th q_th_text q_th_saying q_th_signs q_th_sets q_th_told q_th_up q_th_down q_th_world q_th_tight q_th_sum q_th_now n_th_up n_th_down th_thrown th_typed th_next th_token th_place th_value th_fault th_many th_signMany th_setMany th_corners th_isLoaded th_loaded th_widened th_wide th_boundUp th_boundDown th_up th_down) := hD
        refine lv_aload_n hx hb dX9_bounds_29 rfl (lv_at hl 0 rfl) ?_
        refine lv_iload hx hb dX9_bounds_30 (lv_at hl 5 rfl) ?_
        refine lv_iload_n hx hb dX9_bounds_32 rfl (lv_at hl 2 rfl) ?_
        obtain ⟨z28_0, hc28, h⟩ := bd_ok h
        refine st_callV (As := [.int x5, .int x2]) (rest := [.long z27_0]) (pos := [0, 1]) ⟨hx, hb, hml, hown, hts⟩ (s_X9_chance (l := l) (D := D) (tc := tc) hEok q_th q_th_text q_th_saying q_th_signs q_th_sets q_th_told q_th_up q_th_down q_th_world q_th_tight q_th_sum q_th_now n_th_up th_thrown th_typed th_next th_token th_place th_value th_fault th_many th_signMany th_setMany th_corners th_isLoaded th_loaded th_widened th_wide th_boundUp th_boundDown th_up x5 x2 K z28_0 hc28) (cwV 2 hts gX9_bounds_X9_chance rfl rfl rfl (by decide +kernel) ⟨Nat.le_of_ble_eq_true rfl, Nat.le_of_ble_eq_true rfl⟩) (st_recv (ci := 9) (q0 := 0) hK hP rfl rfl) hEok hE hK hN hP hD hS hA rfl rfl rfl rfl hl.1 rfl (Nat.le_of_ble_eq_true rfl) dX9_bounds_33 ⟨Nat.zero_le _, Nat.zero_le _⟩ (fun H locs hP hD hS => ?_)
        have hP : va_P D vwCl (w_X9_bounds tc q_th q_th_text q_th_saying q_th_signs q_th_sets q_th_told q_th_up q_th_down q_th_world q_th_tight q_th_sum q_th_now n_th_up n_th_down th_thrown th_typed th_next th_token th_place th_value th_fault th_many th_signMany th_setMany th_corners th_isLoaded th_loaded th_widened th_wide th_boundUp th_boundDown th_up th_down) H := hP
        have hD : va_D A (w_X9_bounds tc q_th q_th_text q_th_saying q_th_signs q_th_sets q_th_told q_th_up q_th_down q_th_world q_th_tight q_th_sum q_th_now n_th_up n_th_down th_thrown th_typed th_next th_token th_place th_value th_fault th_many th_signMany th_setMany th_corners th_isLoaded th_loaded th_widened th_wide th_boundUp th_boundDown th_up th_down) := hD
        refine lv_lsub hx hb dX9_bounds_36 ?_
        refine lv_goto (tgt := 49) hx hb dX9_bounds_37 (by decide) ?_
        refine lv_lstore (lv' := [(6, .long (z27_0 - z28_0)), (0, .ref q_th), (1, .int x1), (2, .int x2), (3, .int x3), (4, .int x4), (5, .int x5)]) hx hb dX9_bounds_49 hl (by decide) rfl (fun ls hl => ?_)
        refine lv_iload hx hb dX9_bounds_51 (lv_at hl 5 rfl) ?_
        refine lv_if_eq (tgt := 66) hx hb dX9_bounds_53 (by decide) (fun c29 => ?_) (fun c29 => ?_)
        · replace h := ifp c29 h
          refine lv_aload_n hx hb dX9_bounds_66 rfl (lv_at hl 1 rfl) ?_
          refine lv_iload hx hb dX9_bounds_67 (lv_at hl 6 rfl) ?_
          refine lv_iload_n hx hb dX9_bounds_69 rfl (lv_at hl 3 rfl) ?_
          obtain ⟨z30_0, hc30, h⟩ := bd_ok h
          refine st_callV (As := [.int x5, .int x2]) (rest := []) (pos := [0, 1]) ⟨hx, hb, hml, hown, hts⟩ (s_X9_chance (l := l) (D := D) (tc := tc) hEok q_th q_th_text q_th_saying q_th_signs q_th_sets q_th_told q_th_up q_th_down q_th_world q_th_tight q_th_sum q_th_now n_th_up th_thrown th_typed th_next th_token th_place th_value th_fault th_many th_signMany th_setMany th_corners th_isLoaded th_loaded th_widened th_wide th_boundUp th_boundDown th_up x5 x2 K z30_0 hc30) (cwV 2 hts gX9_bounds_X9_chance rfl rfl rfl (by decide +kernel) ⟨Nat.le_of_ble_eq_true rfl, Nat.le_of_ble_eq_true rfl⟩) (st_recv (ci := 9) (q0 := 0) hK hP rfl rfl) hEok hE hK hN hP hD hS hA rfl rfl rfl rfl hl.1 rfl (Nat.le_of_ble_eq_true rfl) dX9_bounds_70 ⟨Nat.zero_le _, Nat.zero_le _⟩ (fun H locs hP hD hS => ?_)
          have hP : va_P D vwCl (w_X9_bounds tc q_th q_th_text q_th_saying q_th_signs q_th_sets q_th_told q_th_up q_th_down q_th_world q_th_tight q_th_sum q_th_now n_th_up n_th_down th_thrown th_typed th_next th_token th_place th_value th_fault th_many th_signMany th_setMany th_corners th_isLoaded th_loaded th_widened th_wide th_boundUp th_boundDown th_up th_down) H := hP
          have hD : va_D A (w_X9_bounds tc q_th q_th_text q_th_saying q_th_signs q_th_sets q_th_told q_th_up q_th_down q_th_world q_th_tight q_th_sum q_th_now n_th_up n_th_down th_thrown th_typed th_next th_token th_place th_value th_fault th_many th_signMany th_setMany th_corners th_isLoaded th_loaded th_widened th_wide th_boundUp th_boundDown th_up th_down) := hD
          refine lv_lstore (lv' := [(8, .long z30_0), (6, .long (z27_0 - z28_0)), (0, .ref q_th), (1, .int x1), (2, .int x2), (3, .int x3), (4, .int x4), (5, .int x5)]) hx hb dX9_bounds_73 hl (by decide) rfl (fun ls hl => ?_)
          refine lv_lload hx hb dX9_bounds_75 (lv_at hl 0 rfl) ?_
          refine lv_lconst (v := (0 : Int64)) hx hb dX9_bounds_77 (by decide) ?_
          refine W.lcmp hx hb dX9_bounds_78 ?_
          refine lv_if_le (tgt := 154) hx hb dX9_bounds_79 (by decide) (fun c31 => ?_) (fun c31 => ?_)
          · replace h := ifp c31 h
            refine lv_iinc (v := x5 + 1) (lv' := [(5, .int (x5 + 1)), (8, .long z30_0), (6, .long (z27_0 - z28_0)), (0, .ref q_th), (1, .int x1), (2, .int x2), (3, .int x3), (4, .int x4)]) hx hb dX9_bounds_154 hl (k := 7) rfl rfl (by decide) rfl (fun ls hl => ?_)
            refine lv_goto (tgt := 8) hx hb dX9_bounds_157 (by decide) ?_
            cases h
            exact ih _ rfl _ _ _ hP hD hS (lv_sub hl [3, 4, 5, 6, 7, 0] rfl)
          · replace h := ifn c31 h
            refine lv_aload_n hx hb dX9_bounds_82 rfl (lv_at hl 2 rfl) ?_
            refine va_get (D := D) (ci := 9) (v := .long th_boundDown) (C := RX9) (T := TX9) (N := 28) hx hb hts hinX9 hown hK hP 0 rfl rfl 27 (by decide) (hts (.fieldLink RX9 176 "ChanceBoundsModel" "boundDown" "J") (by decide +kernel)) (fun _ h9 => h9) rfl dX9_bounds_83 ?_
            refine lv_lconst (v := (0 : Int64)) hx hb dX9_bounds_86 (by decide) ?_
            refine W.lcmp hx hb dX9_bounds_87 ?_
            refine lv_if_ne (tgt := 95) hx hb dX9_bounds_88 (by decide) (fun c32 => ?_) (fun c32 => ?_)
            · replace h := ifn c32 h
              refine lv_lload hx hb dX9_bounds_95 (lv_at hl 1 rfl) ?_
              refine lv_aload_n hx hb dX9_bounds_97 rfl (lv_at hl 2 rfl) ?_
              refine va_get (D := D) (ci := 9) (v := .long th_boundDown) (C := RX9) (T := TX9) (N := 28) hx hb hts hinX9 hown hK hP 0 rfl rfl 27 (by decide) (hts (.fieldLink RX9 176 "ChanceBoundsModel" "boundDown" "J") (by decide +kernel)) (fun _ h9 => h9) rfl dX9_bounds_98 ?_
              refine lv_lmul hx hb dX9_bounds_101 ?_
              refine lv_aload_n hx hb dX9_bounds_102 rfl (lv_at hl 2 rfl) ?_
              refine va_get (D := D) (ci := 9) (v := .long th_boundUp) (C := RX9) (T := TX9) (N := 28) hx hb hts hinX9 hown hK hP 0 rfl rfl 26 (by decide) (hts (.fieldLink RX9 184 "ChanceBoundsModel" "boundUp" "J") (by decide +kernel)) (fun _ h9 => h9) rfl dX9_bounds_103 ?_
              refine lv_lload hx hb dX9_bounds_106 (lv_at hl 0 rfl) ?_
              refine lv_lmul hx hb dX9_bounds_108 ?_
              refine lv_lsub hx hb dX9_bounds_109 ?_
              refine lv_lstore (lv' := [(10, .long (((z27_0 - z28_0) * th_boundDown) - (th_boundUp * z30_0))), (8, .long z30_0), (6, .long (z27_0 - z28_0)), (0, .ref q_th), (1, .int x1), (2, .int x2), (3, .int x3), (4, .int x4), (5, .int x5)]) hx hb dX9_bounds_110 hl (by decide) rfl (fun ls hl => ?_)
              refine lv_aload_n hx hb dX9_bounds_112 rfl (lv_at hl 3 rfl) ?_
              refine va_get (D := D) (ci := 9) (v := .long th_boundDown) (C := RX9) (T := TX9) (N := 28) hx hb hts hinX9 hown hK hP 0 rfl rfl 27 (by decide) (hts (.fieldLink RX9 176 "ChanceBoundsModel" "boundDown" "J") (by decide +kernel)) (fun _ h9 => h9) rfl dX9_bounds_113 ?_
              refine lv_lconst (v := (0 : Int64)) hx hb dX9_bounds_116 (by decide) ?_
              refine W.lcmp hx hb dX9_bounds_117 ?_
              refine lv_if_eq (tgt := 142) hx hb dX9_bounds_118 (by decide) (fun c33 => ?_) (fun c33 => ?_)
              · replace h := ifp c33 h
                exact J142 x5 (z27_0 - z28_0) z30_0 th_boundUp th_boundDown _ _ _ h hP hD hS (lv_sub hl [3, 4, 5, 6, 7, 8, 2, 1] rfl)
              · replace h := ifn c33 h
                refine lv_iload_n hx hb dX9_bounds_121 rfl (lv_at hl 6 rfl) ?_
                refine lv_if_ne (tgt := 135) hx hb dX9_bounds_122 (by decide) (fun c34 => ?_) (fun c34 => ?_)
                · replace h := ifn c34 h
                  refine lv_lload hx hb dX9_bounds_135 (lv_at hl 0 rfl) ?_
                  refine lv_lconst (v := (0 : Int64)) hx hb dX9_bounds_137 (by decide) ?_
                  refine W.lcmp hx hb dX9_bounds_138 ?_
                  refine lv_if_le (tgt := 154) hx hb dX9_bounds_139 (by decide) (fun c35 => ?_) (fun c35 => ?_)
                  · replace h := ifp c35 h
                    refine lv_iinc (v := x5 + 1) (lv' := [(5, .int (x5 + 1)), (10, .long (((z27_0 - z28_0) * th_boundDown) - (th_boundUp * z30_0))), (8, .long z30_0), (6, .long (z27_0 - z28_0)), (0, .ref q_th), (1, .int x1), (2, .int x2), (3, .int x3), (4, .int x4)]) hx hb dX9_bounds_154 hl (k := 8) rfl rfl (by decide) rfl (fun ls hl => ?_)
                    refine lv_goto (tgt := 8) hx hb dX9_bounds_157 (by decide) ?_
                    cases h
                    exact ih _ rfl _ _ _ hP hD hS (lv_sub hl [4, 5, 6, 7, 8, 0] rfl)
                  · replace h := ifn c35 h
                    exact J142 x5 (z27_0 - z28_0) z30_0 th_boundUp th_boundDown _ _ _ h hP hD hS (lv_sub hl [3, 4, 5, 6, 7, 8, 2, 1] rfl)
                · replace h := ifp c34 h
                  refine lv_lload hx hb dX9_bounds_125 (lv_at hl 0 rfl) ?_
                  refine lv_lconst (v := (0 : Int64)) hx hb dX9_bounds_127 (by decide) ?_
                  refine W.lcmp hx hb dX9_bounds_128 ?_
                  refine lv_if_ge (tgt := 154) hx hb dX9_bounds_129 (by decide) (fun c36 => ?_) (fun c36 => ?_)
                  · replace h := ifp c36 h
                    refine lv_iinc (v := x5 + 1) (lv' := [(5, .int (x5 + 1)), (10, .long (((z27_0 - z28_0) * th_boundDown) - (th_boundUp * z30_0))), (8, .long z30_0), (6, .long (z27_0 - z28_0)), (0, .ref q_th), (1, .int x1), (2, .int x2), (3, .int x3), (4, .int x4)]) hx hb dX9_bounds_154 hl (k := 8) rfl rfl (by decide) rfl (fun ls hl => ?_)
                    refine lv_goto (tgt := 8) hx hb dX9_bounds_157 (by decide) ?_
                    cases h
                    exact ih _ rfl _ _ _ hP hD hS (lv_sub hl [4, 5, 6, 7, 8, 0] rfl)
                  · replace h := ifn c36 h
                    refine lv_goto (tgt := 142) hx hb dX9_bounds_132 (by decide) ?_
                    exact J142 x5 (z27_0 - z28_0) z30_0 th_boundUp th_boundDown _ _ _ h hP hD hS (lv_sub hl [3, 4, 5, 6, 7, 8, 2, 1] rfl)
            · replace h := ifp c32 h
              refine lv_lconst (v := (0 : Int64)) hx hb dX9_bounds_91 (by decide) ?_
              refine lv_goto (tgt := 110) hx hb dX9_bounds_92 (by decide) ?_
              refine lv_lstore (lv' := [(10, .long (0 : Int64)), (8, .long z30_0), (6, .long (z27_0 - z28_0)), (0, .ref q_th), (1, .int x1), (2, .int x2), (3, .int x3), (4, .int x4), (5, .int x5)]) hx hb dX9_bounds_110 hl (by decide) rfl (fun ls hl => ?_)
              refine lv_aload_n hx hb dX9_bounds_112 rfl (lv_at hl 3 rfl) ?_
              refine va_get (D := D) (ci := 9) (v := .long th_boundDown) (C := RX9) (T := TX9) (N := 28) hx hb hts hinX9 hown hK hP 0 rfl rfl 27 (by decide) (hts (.fieldLink RX9 176 "ChanceBoundsModel" "boundDown" "J") (by decide +kernel)) (fun _ h9 => h9) rfl dX9_bounds_113 ?_
              refine lv_lconst (v := (0 : Int64)) hx hb dX9_bounds_116 (by decide) ?_
              refine W.lcmp hx hb dX9_bounds_117 ?_
              refine lv_if_eq (tgt := 142) hx hb dX9_bounds_118 (by decide) (fun c37 => ?_) (fun c37 => ?_)
              · replace h := ifp c37 h
                exact J142 x5 (z27_0 - z28_0) z30_0 th_boundUp th_boundDown _ _ _ h hP hD hS (lv_sub hl [3, 4, 5, 6, 7, 8, 2, 1] rfl)
              · replace h := ifn c37 h
                refine lv_iload_n hx hb dX9_bounds_121 rfl (lv_at hl 6 rfl) ?_
                refine lv_if_ne (tgt := 135) hx hb dX9_bounds_122 (by decide) (fun c38 => ?_) (fun c38 => ?_)
                · replace h := ifn c38 h
                  refine lv_lload hx hb dX9_bounds_135 (lv_at hl 0 rfl) ?_
                  refine lv_lconst (v := (0 : Int64)) hx hb dX9_bounds_137 (by decide) ?_
                  refine W.lcmp hx hb dX9_bounds_138 ?_
                  refine lv_if_le (tgt := 154) hx hb dX9_bounds_139 (by decide) (fun c39 => ?_) (fun c39 => ?_)
                  · replace h := ifp c39 h
                    refine lv_iinc (v := x5 + 1) (lv' := [(5, .int (x5 + 1)), (10, .long (0 : Int64)), (8, .long z30_0), (6, .long (z27_0 - z28_0)), (0, .ref q_th), (1, .int x1), (2, .int x2), (3, .int x3), (4, .int x4)]) hx hb dX9_bounds_154 hl (k := 8) rfl rfl (by decide) rfl (fun ls hl => ?_)
                    refine lv_goto (tgt := 8) hx hb dX9_bounds_157 (by decide) ?_
                    cases h
                    exact ih _ rfl _ _ _ hP hD hS (lv_sub hl [4, 5, 6, 7, 8, 0] rfl)
                  · replace h := ifn c39 h
                    exact J142 x5 (z27_0 - z28_0) z30_0 th_boundUp th_boundDown _ _ _ h hP hD hS (lv_sub hl [3, 4, 5, 6, 7, 8, 2, 1] rfl)
                · replace h := ifp c38 h
                  refine lv_lload hx hb dX9_bounds_125 (lv_at hl 0 rfl) ?_
                  refine lv_lconst (v := (0 : Int64)) hx hb dX9_bounds_127 (by decide) ?_
                  refine W.lcmp hx hb dX9_bounds_128 ?_
                  refine lv_if_ge (tgt := 154) hx hb dX9_bounds_129 (by decide) (fun c40 => ?_) (fun c40 => ?_)
                  · replace h := ifp c40 h
                    refine lv_iinc (v := x5 + 1) (lv' := [(5, .int (x5 + 1)), (10, .long (0 : Int64)), (8, .long z30_0), (6, .long (z27_0 - z28_0)), (0, .ref q_th), (1, .int x1), (2, .int x2), (3, .int x3), (4, .int x4)]) hx hb dX9_bounds_154 hl (k := 8) rfl rfl (by decide) rfl (fun ls hl => ?_)
                    refine lv_goto (tgt := 8) hx hb dX9_bounds_157 (by decide) ?_
                    cases h
                    exact ih _ rfl _ _ _ hP hD hS (lv_sub hl [4, 5, 6, 7, 8, 0] rfl)
                  · replace h := ifn c40 h
                    refine lv_goto (tgt := 142) hx hb dX9_bounds_132 (by decide) ?_
                    exact J142 x5 (z27_0 - z28_0) z30_0 th_boundUp th_boundDown _ _ _ h hP hD hS (lv_sub hl [3, 4, 5, 6, 7, 8, 2, 1] rfl)
        · replace h := ifn c29 h
          refine lv_aload_n hx hb dX9_bounds_56 rfl (lv_at hl 1 rfl) ?_
          refine va_get (D := D) (ci := 9) (v := .ref q_th_down) (C := RX9) (T := TX9) (N := 28) hx hb hts hinX9 hown hK hP 0 rfl rfl 19 (by decide) (hts (.fieldLink RX9 30 "ChanceBoundsModel" "down" "[J") (by decide +kernel)) (fun _ h9 => h9) rfl dX9_bounds_57 ?_
          refine lv_iload hx hb dX9_bounds_60 (lv_at hl 6 rfl) ?_
          obtain ⟨g41, h⟩ := gd_ok h
          refine va_lald hx hb hK hP 2 1 rfl rfl g41 dX9_bounds_62 ?_
          refine lv_goto (tgt := 73) hx hb dX9_bounds_63 (by decide) ?_
          refine lv_lstore (lv' := [(8, .long (th_down x5.toNatClampNeg)), (6, .long (z27_0 - z28_0)), (0, .ref q_th), (1, .int x1), (2, .int x2), (3, .int x3), (4, .int x4), (5, .int x5)]) hx hb dX9_bounds_73 hl (by decide) rfl (fun ls hl => ?_)
          refine lv_lload hx hb dX9_bounds_75 (lv_at hl 0 rfl) ?_
          refine lv_lconst (v := (0 : Int64)) hx hb dX9_bounds_77 (by decide) ?_
          refine W.lcmp hx hb dX9_bounds_78 ?_
          refine lv_if_le (tgt := 154) hx hb dX9_bounds_79 (by decide) (fun c42 => ?_) (fun c42 => ?_)
          · replace h := ifp c42 h
            refine lv_iinc (v := x5 + 1) (lv' := [(5, .int (x5 + 1)), (8, .long (th_down x5.toNatClampNeg)), (6, .long (z27_0 - z28_0)), (0, .ref q_th), (1, .int x1), (2, .int x2), (3, .int x3), (4, .int x4)]) hx hb dX9_bounds_154 hl (k := 7) rfl rfl (by decide) rfl (fun ls hl => ?_)
            refine lv_goto (tgt := 8) hx hb dX9_bounds_157 (by decide) ?_
            cases h
            exact ih _ rfl _ _ _ hP hD hS (lv_sub hl [3, 4, 5, 6, 7, 0] rfl)
          · replace h := ifn c42 h
            refine lv_aload_n hx hb dX9_bounds_82 rfl (lv_at hl 2 rfl) ?_
            refine va_get (D := D) (ci := 9) (v := .long th_boundDown) (C := RX9) (T := TX9) (N := 28) hx hb hts hinX9 hown hK hP 0 rfl rfl 27 (by decide) (hts (.fieldLink RX9 176 "ChanceBoundsModel" "boundDown" "J") (by decide +kernel)) (fun _ h9 => h9) rfl dX9_bounds_83 ?_
            refine lv_lconst (v := (0 : Int64)) hx hb dX9_bounds_86 (by decide) ?_
            refine W.lcmp hx hb dX9_bounds_87 ?_
            refine lv_if_ne (tgt := 95) hx hb dX9_bounds_88 (by decide) (fun c43 => ?_) (fun c43 => ?_)
            · replace h := ifn c43 h
              refine lv_lload hx hb dX9_bounds_95 (lv_at hl 1 rfl) ?_
              refine lv_aload_n hx hb dX9_bounds_97 rfl (lv_at hl 2 rfl) ?_
              refine va_get (D := D) (ci := 9) (v := .long th_boundDown) (C := RX9) (T := TX9) (N := 28) hx hb hts hinX9 hown hK hP 0 rfl rfl 27 (by decide) (hts (.fieldLink RX9 176 "ChanceBoundsModel" "boundDown" "J") (by decide +kernel)) (fun _ h9 => h9) rfl dX9_bounds_98 ?_
              refine lv_lmul hx hb dX9_bounds_101 ?_
              refine lv_aload_n hx hb dX9_bounds_102 rfl (lv_at hl 2 rfl) ?_
              refine va_get (D := D) (ci := 9) (v := .long th_boundUp) (C := RX9) (T := TX9) (N := 28) hx hb hts hinX9 hown hK hP 0 rfl rfl 26 (by decide) (hts (.fieldLink RX9 184 "ChanceBoundsModel" "boundUp" "J") (by decide +kernel)) (fun _ h9 => h9) rfl dX9_bounds_103 ?_
              refine lv_lload hx hb dX9_bounds_106 (lv_at hl 0 rfl) ?_
              refine lv_lmul hx hb dX9_bounds_108 ?_
              refine lv_lsub hx hb dX9_bounds_109 ?_
              obtain ⟨z44, hzz44, h⟩ := bd_ok h
              refine st_nml (Option.some.inj hzz44) ?_
              refine lv_lstore (lv' := [(10, .long z44), (8, .long (th_down x5.toNatClampNeg)), (6, .long (z27_0 - z28_0)), (0, .ref q_th), (1, .int x1), (2, .int x2), (3, .int x3), (4, .int x4), (5, .int x5)]) hx hb dX9_bounds_110 hl (by decide) rfl (fun ls hl => ?_)
              refine lv_aload_n hx hb dX9_bounds_112 rfl (lv_at hl 3 rfl) ?_
              refine va_get (D := D) (ci := 9) (v := .long th_boundDown) (C := RX9) (T := TX9) (N := 28) hx hb hts hinX9 hown hK hP 0 rfl rfl 27 (by decide) (hts (.fieldLink RX9 176 "ChanceBoundsModel" "boundDown" "J") (by decide +kernel)) (fun _ h9 => h9) rfl dX9_bounds_113 ?_
              refine lv_lconst (v := (0 : Int64)) hx hb dX9_bounds_116 (by decide) ?_
              refine W.lcmp hx hb dX9_bounds_117 ?_
              refine lv_if_eq (tgt := 142) hx hb dX9_bounds_118 (by decide) (fun c45 => ?_) (fun c45 => ?_)
              · replace h := ifp c45 h
                exact J142 x5 (z27_0 - z28_0) (th_down x5.toNatClampNeg) th_boundUp th_boundDown _ _ _ h hP hD hS (lv_sub hl [3, 4, 5, 6, 7, 8, 2, 1] rfl)
              · replace h := ifn c45 h
                refine lv_iload_n hx hb dX9_bounds_121 rfl (lv_at hl 6 rfl) ?_
                refine lv_if_ne (tgt := 135) hx hb dX9_bounds_122 (by decide) (fun c46 => ?_) (fun c46 => ?_)
                · replace h := ifn c46 h
                  refine lv_lload hx hb dX9_bounds_135 (lv_at hl 0 rfl) ?_
                  refine lv_lconst (v := (0 : Int64)) hx hb dX9_bounds_137 (by decide) ?_
                  refine W.lcmp hx hb dX9_bounds_138 ?_
                  refine lv_if_le (tgt := 154) hx hb dX9_bounds_139 (by decide) (fun c47 => ?_) (fun c47 => ?_)
                  · replace h := ifp c47 h
                    refine lv_iinc (v := x5 + 1) (lv' := [(5, .int (x5 + 1)), (10, .long z44), (8, .long (th_down x5.toNatClampNeg)), (6, .long (z27_0 - z28_0)), (0, .ref q_th), (1, .int x1), (2, .int x2), (3, .int x3), (4, .int x4)]) hx hb dX9_bounds_154 hl (k := 8) rfl rfl (by decide) rfl (fun ls hl => ?_)
                    refine lv_goto (tgt := 8) hx hb dX9_bounds_157 (by decide) ?_
                    cases h
                    exact ih _ rfl _ _ _ hP hD hS (lv_sub hl [4, 5, 6, 7, 8, 0] rfl)
                  · replace h := ifn c47 h
                    exact J142 x5 (z27_0 - z28_0) (th_down x5.toNatClampNeg) th_boundUp th_boundDown _ _ _ h hP hD hS (lv_sub hl [3, 4, 5, 6, 7, 8, 2, 1] rfl)
                · replace h := ifp c46 h
                  refine lv_lload hx hb dX9_bounds_125 (lv_at hl 0 rfl) ?_
                  refine lv_lconst (v := (0 : Int64)) hx hb dX9_bounds_127 (by decide) ?_
                  refine W.lcmp hx hb dX9_bounds_128 ?_
                  refine lv_if_ge (tgt := 154) hx hb dX9_bounds_129 (by decide) (fun c48 => ?_) (fun c48 => ?_)
                  · replace h := ifp c48 h
                    refine lv_iinc (v := x5 + 1) (lv' := [(5, .int (x5 + 1)), (10, .long z44), (8, .long (th_down x5.toNatClampNeg)), (6, .long (z27_0 - z28_0)), (0, .ref q_th), (1, .int x1), (2, .int x2), (3, .int x3), (4, .int x4)]) hx hb dX9_bounds_154 hl (k := 8) rfl rfl (by decide) rfl (fun ls hl => ?_)
                    refine lv_goto (tgt := 8) hx hb dX9_bounds_157 (by decide) ?_
                    cases h
                    exact ih _ rfl _ _ _ hP hD hS (lv_sub hl [4, 5, 6, 7, 8, 0] rfl)
                  · replace h := ifn c48 h
                    refine lv_goto (tgt := 142) hx hb dX9_bounds_132 (by decide) ?_
                    exact J142 x5 (z27_0 - z28_0) (th_down x5.toNatClampNeg) th_boundUp th_boundDown _ _ _ h hP hD hS (lv_sub hl [3, 4, 5, 6, 7, 8, 2, 1] rfl)
            · replace h := ifp c43 h
              refine lv_lconst (v := (0 : Int64)) hx hb dX9_bounds_91 (by decide) ?_
              refine lv_goto (tgt := 110) hx hb dX9_bounds_92 (by decide) ?_
              refine lv_lstore (lv' := [(10, .long (0 : Int64)), (8, .long (th_down x5.toNatClampNeg)), (6, .long (z27_0 - z28_0)), (0, .ref q_th), (1, .int x1), (2, .int x2), (3, .int x3), (4, .int x4), (5, .int x5)]) hx hb dX9_bounds_110 hl (by decide) rfl (fun ls hl => ?_)
              refine lv_aload_n hx hb dX9_bounds_112 rfl (lv_at hl 3 rfl) ?_
              refine va_get (D := D) (ci := 9) (v := .long th_boundDown) (C := RX9) (T := TX9) (N := 28) hx hb hts hinX9 hown hK hP 0 rfl rfl 27 (by decide) (hts (.fieldLink RX9 176 "ChanceBoundsModel" "boundDown" "J") (by decide +kernel)) (fun _ h9 => h9) rfl dX9_bounds_113 ?_
              refine lv_lconst (v := (0 : Int64)) hx hb dX9_bounds_116 (by decide) ?_
              refine W.lcmp hx hb dX9_bounds_117 ?_
              refine lv_if_eq (tgt := 142) hx hb dX9_bounds_118 (by decide) (fun c49 => ?_) (fun c49 => ?_)
              · replace h := ifp c49 h
                exact J142 x5 (z27_0 - z28_0) (th_down x5.toNatClampNeg) th_boundUp th_boundDown _ _ _ h hP hD hS (lv_sub hl [3, 4, 5, 6, 7, 8, 2, 1] rfl)
              · replace h := ifn c49 h
                refine lv_iload_n hx hb dX9_bounds_121 rfl (lv_at hl 6 rfl) ?_
                refine lv_if_ne (tgt := 135) hx hb dX9_bounds_122 (by decide) (fun c50 => ?_) (fun c50 => ?_)
                · replace h := ifn c50 h
                  refine lv_lload hx hb dX9_bounds_135 (lv_at hl 0 rfl) ?_
                  refine lv_lconst (v := (0 : Int64)) hx hb dX9_bounds_137 (by decide) ?_
                  refine W.lcmp hx hb dX9_bounds_138 ?_
                  refine lv_if_le (tgt := 154) hx hb dX9_bounds_139 (by decide) (fun c51 => ?_) (fun c51 => ?_)
                  · replace h := ifp c51 h
                    refine lv_iinc (v := x5 + 1) (lv' := [(5, .int (x5 + 1)), (10, .long (0 : Int64)), (8, .long (th_down x5.toNatClampNeg)), (6, .long (z27_0 - z28_0)), (0, .ref q_th), (1, .int x1), (2, .int x2), (3, .int x3), (4, .int x4)]) hx hb dX9_bounds_154 hl (k := 8) rfl rfl (by decide) rfl (fun ls hl => ?_)
                    refine lv_goto (tgt := 8) hx hb dX9_bounds_157 (by decide) ?_
                    cases h
                    exact ih _ rfl _ _ _ hP hD hS (lv_sub hl [4, 5, 6, 7, 8, 0] rfl)
                  · replace h := ifn c51 h
                    exact J142 x5 (z27_0 - z28_0) (th_down x5.toNatClampNeg) th_boundUp th_boundDown _ _ _ h hP hD hS (lv_sub hl [3, 4, 5, 6, 7, 8, 2, 1] rfl)
                · replace h := ifp c50 h
                  refine lv_lload hx hb dX9_bounds_125 (lv_at hl 0 rfl) ?_
                  refine lv_lconst (v := (0 : Int64)) hx hb dX9_bounds_127 (by decide) ?_
                  refine W.lcmp hx hb dX9_bounds_128 ?_
                  refine lv_if_ge (tgt := 154) hx hb dX9_bounds_129 (by decide) (fun c52 => ?_) (fun c52 => ?_)
                  · replace h := ifp c52 h
                    refine lv_iinc (v := x5 + 1) (lv' := [(5, .int (x5 + 1)), (10, .long (0 : Int64)), (8, .long (th_down x5.toNatClampNeg)), (6, .long (z27_0 - z28_0)), (0, .ref q_th), (1, .int x1), (2, .int x2), (3, .int x3), (4, .int x4)]) hx hb dX9_bounds_154 hl (k := 8) rfl rfl (by decide) rfl (fun ls hl => ?_)
                    refine lv_goto (tgt := 8) hx hb dX9_bounds_157 (by decide) ?_
                    cases h
                    exact ih _ rfl _ _ _ hP hD hS (lv_sub hl [4, 5, 6, 7, 8, 0] rfl)
                  · replace h := ifn c52 h
                    refine lv_goto (tgt := 142) hx hb dX9_bounds_132 (by decide) ?_
                    exact J142 x5 (z27_0 - z28_0) (th_down x5.toNatClampNeg) th_boundUp th_boundDown _ _ _ h hP hD hS (lv_sub hl [3, 4, 5, 6, 7, 8, 2, 1] rfl)
  unfold f_X9_bounds at h
  refine lv_aload_n hx hb dX9_bounds_0 rfl (lv_at hl 0 rfl) ?_
  refine lv_lconst (v := (0 : Int64)) hx hb dX9_bounds_1 (by decide) ?_
  refine va_put (D := D) (ci := 9) (v := .long (0 : Int64)) (ty := .long) (C := RX9) (T := TX9) (N := 28) hx hb hts hinX9 tyX9 tyX9_ok nmX9 hown hK hP hD hS 0 rfl rfl 27 (by decide) (hts (.fieldLink RX9 176 "ChanceBoundsModel" "boundDown" "J") (by decide +kernel)) (fun _ h9 => h9) rfl (by decide +kernel) rfl rfl (Nat.le_of_ble_eq_true rfl) dX9_bounds_2 (fun H locs hP hD hS => ?_)
  have hP : va_P D vwCl (w_X9_bounds tc q_th q_th_text q_th_saying q_th_signs q_th_sets q_th_told q_th_up q_th_down q_th_world q_th_tight q_th_sum q_th_now n_th_up n_th_down th_thrown th_typed th_next th_token th_place th_value th_fault th_many th_signMany th_setMany th_corners th_isLoaded th_loaded th_widened th_wide th_boundUp (0 : Int64) th_up th_down) H := hP
  have hD : va_D A (w_X9_bounds tc q_th q_th_text q_th_saying q_th_signs q_th_sets q_th_told q_th_up q_th_down q_th_world q_th_tight q_th_sum q_th_now n_th_up n_th_down th_thrown th_typed th_next th_token th_place th_value th_fault th_many th_signMany th_setMany th_corners th_isLoaded th_loaded th_widened th_wide th_boundUp (0 : Int64) th_up th_down) := hD
  refine lv_iconst (v := (0 : Int32)) hx hb dX9_bounds_5 (by decide) ?_
  refine lv_istore (lv' := [(5, .int (0 : Int32)), (0, .ref q_th), (1, .int x1), (2, .int x2), (3, .int x3), (4, .int x4)]) hx hb dX9_bounds_6 hl (by decide) rfl (fun ls hl => ?_)
  obtain ⟨⟨z53_0, z53_1⟩, hl53, h⟩ := bd_ok h
  refine L8 x1 x2 x3 x4 K _ _ hl53 ?_ _ _ _ hP hD hS (lv_sub hl [1, 2, 3, 4, 5, 0] rfl)
  intro H locs ls hP hD hS hl
  refine lv_aload_n hx hb dX9_bounds_160 rfl (lv_at hl 0 rfl) ?_
  refine va_get (D := D) (ci := 9) (v := .long z53_1) (C := RX9) (T := TX9) (N := 28) hx hb hts hinX9 hown hK hP 0 rfl rfl 27 (by decide) (hts (.fieldLink RX9 176 "ChanceBoundsModel" "boundDown" "J") (by decide +kernel)) (fun _ h9 => h9) rfl dX9_bounds_161 ?_
  refine lv_lconst (v := (0 : Int64)) hx hb dX9_bounds_164 (by decide) ?_
  refine W.lcmp hx hb dX9_bounds_165 ?_
  refine lv_if_le (tgt := 173) hx hb dX9_bounds_166 (by decide) (fun c54 => ?_) (fun c54 => ?_)
  · replace h := ifp c54 h
    refine lv_iconst (v := (0 : Int32)) hx hb dX9_bounds_173 (by decide) ?_
    cases h
    exact st_zret hx hb hr hlocks hP hD hS rfl dX9_bounds_174
  · replace h := ifn c54 h
    refine lv_iconst (v := (1 : Int32)) hx hb dX9_bounds_169 (by decide) ?_
    refine lv_goto (tgt := 174) hx hb dX9_bounds_170 (by decide) ?_
    cases h
    exact st_zret hx hb hr hlocks hP hD hS rfl dX9_bounds_174
def f_X9_asked (K : Nat) (n_th_saying : Nat) (n_th_up : Nat) (n_th_down : Nat) (n_th_world : Nat) (n_th_tight : Nat) (n_th_sum : Nat) (n_th_now : Nat) (th_many : Int32) (th_corners : Int32) (th_isLoaded : Int32) (th_loaded : Int32) (th_widened : Int32) (th_wide : Int32) (th_boundUp : Int64) (th_boundDown : Int64) (th_saying : Nat → Int32) (th_up : Nat → Int64) (th_down : Nat → Int64) (th_world : Nat → Int32) (th_tight : Nat → Int32) (th_sum : Nat → Int64) (th_now : Nat → Int64) (x1 : Int32) (x2 : Int32) (x3 : Int32) (x4 : Int32) (x5 : Int32) : Option (Int64 × Int32 × Int32 × Int32 × Int32 × Int64 × Int64 × (Nat → Int64) × (Nat → Int64) × (Nat → Int32) × (Nat → Int32) × (Nat → Int64) × (Nat → Int64)) :=
  (f_X9_isThing x1).bind fun z1_0 =>
  if z1_0 = (0 : Int32) then
    some ((-1000000000000000000 : Int64), th_corners, th_isLoaded, th_loaded, th_widened, th_boundUp, th_boundDown, th_up, th_down, th_world, th_tight, th_sum, th_now)
  else
    (f_X9_isThing x2).bind fun z3_0 =>
    if z3_0 = (0 : Int32) then
      some ((-1000000000000000000 : Int64), th_corners, th_isLoaded, th_loaded, th_widened, th_boundUp, th_boundDown, th_up, th_down, th_world, th_tight, th_sum, th_now)
    else
      (f_X9_isBit x3).bind fun z5_0 =>
      if z5_0 = (0 : Int32) then
        some ((-1000000000000000000 : Int64), th_corners, th_isLoaded, th_loaded, th_widened, th_boundUp, th_boundDown, th_up, th_down, th_world, th_tight, th_sum, th_now)
      else
        (f_X9_isBit x4).bind fun z7_0 =>
        if z7_0 = (0 : Int32) then
          some ((-1000000000000000000 : Int64), th_corners, th_isLoaded, th_loaded, th_widened, th_boundUp, th_boundDown, th_up, th_down, th_world, th_tight, th_sum, th_now)
        else
          (f_X9_loadsOn K n_th_saying n_th_up n_th_down n_th_world n_th_tight n_th_sum n_th_now th_many th_corners th_isLoaded th_loaded th_wide th_saying th_up th_down th_world th_tight th_sum th_now).bind fun z9 => match z9 with
          | (z9_0, z9_1, z9_2, z9_3, z9_4, z9_5, z9_6, z9_7, z9_8, z9_9, z9_10) =>
            (f_X9_bounds K n_th_up n_th_down z9_1 th_boundUp z9_5 z9_6 x1 x2 x3 x5).bind fun z10 => match z10 with
            | (z10_0, z10_1, z10_2) =>
              if z10_0 = (0 : Int32) then
                some ((-1000000000000000000 : Int64), z9_1, z9_2, z9_3, z9_4, z10_1, z10_2, z9_5, z9_6, z9_7, z9_8, z9_9, z9_10)
              else
                (f_X9_tells K z10_1 z10_2 x4).bind fun z12_0 =>
                some (z12_0, z9_1, z9_2, z9_3, z9_4, z10_1, z10_2, z9_5, z9_6, z9_7, z9_8, z9_9, z9_10)
abbrev w_X9_asked (tc : Nat → ClassId) (q_th : Nat) (q_th_text : Nat) (q_th_saying : Nat) (q_th_signs : Nat) (q_th_sets : Nat) (q_th_told : Nat) (q_th_up : Nat) (q_th_down : Nat) (q_th_world : Nat) (q_th_tight : Nat) (q_th_sum : Nat) (q_th_now : Nat) (n_th_saying : Nat) (n_th_up : Nat) (n_th_down : Nat) (n_th_world : Nat) (n_th_tight : Nat) (n_th_sum : Nat) (n_th_now : Nat) (th_thrown : Int32) (th_typed : Int32) (th_next : Int32) (th_token : Int32) (th_place : Int32) (th_value : Int32) (th_fault : Int32) (th_many : Int32) (th_signMany : Int32) (th_setMany : Int32) (th_corners : Int32) (th_isLoaded : Int32) (th_loaded : Int32) (th_widened : Int32) (th_wide : Int32) (th_boundUp : Int64) (th_boundDown : Int64) (th_saying : Nat → Int32) (th_up : Nat → Int64) (th_down : Nat → Int64) (th_world : Nat → Int32) (th_tight : Nat → Int32) (th_sum : Nat → Int64) (th_now : Nat → Int64) : va_W := [(q_th, .inr (9, [.int th_thrown, .ref q_th_text, .int th_typed, .int th_next, .int th_token, .int th_place, .int th_value, .int th_fault, .int th_many, .ref q_th_saying, .ref q_th_signs, .ref q_th_sets, .int th_signMany, .int th_setMany, .ref q_th_told, .int th_corners, .int th_isLoaded, .int th_loaded, .ref q_th_up, .ref q_th_down, .ref q_th_world, .ref q_th_tight, .ref q_th_sum, .ref q_th_now, .int th_widened, .int th_wide, .long th_boundUp, .long th_boundDown])), (q_th_saying, .inl (tc 0, n_th_saying, .inl th_saying)), (q_th_up, .inl (tc 1, n_th_up, .inr (.inl th_up))), (q_th_down, .inl (tc 1, n_th_down, .inr (.inl th_down))), (q_th_world, .inl (tc 0, n_th_world, .inl th_world)), (q_th_tight, .inl (tc 0, n_th_tight, .inl th_tight)), (q_th_sum, .inl (tc 1, n_th_sum, .inr (.inl th_sum))), (q_th_now, .inl (tc 1, n_th_now, .inr (.inl th_now)))]
theorem wa_X9_asked {tc : Nat → ClassId} {q_th : Nat} {q_th_text : Nat} {q_th_saying : Nat} {q_th_signs : Nat} {q_th_sets : Nat} {q_th_told : Nat} {q_th_up : Nat} {q_th_down : Nat} {q_th_world : Nat} {q_th_tight : Nat} {q_th_sum : Nat} {q_th_now : Nat} {n_th_saying : Nat} {n_th_up : Nat} {n_th_down : Nat} {n_th_world : Nat} {n_th_tight : Nat} {n_th_sum : Nat} {n_th_now : Nat} {th_thrown : Int32} {th_typed : Int32} {th_next : Int32} {th_token : Int32} {th_place : Int32} {th_value : Int32} {th_fault : Int32} {th_many : Int32} {th_signMany : Int32} {th_setMany : Int32} {th_corners : Int32} {th_isLoaded : Int32} {th_loaded : Int32} {th_widened : Int32} {th_wide : Int32} {th_boundUp : Int64} {th_boundDown : Int64} {th_saying : Nat → Int32} {th_up : Nat → Int64} {th_down : Nat → Int64} {th_world : Nat → Int32} {th_tight : Nat → Int32} {th_sum : Nat → Int64} {th_now : Nat → Int64} : (w_X9_asked tc q_th q_th_text q_th_saying q_th_signs q_th_sets q_th_told q_th_up q_th_down q_th_world q_th_tight q_th_sum q_th_now n_th_saying n_th_up n_th_down n_th_world n_th_tight n_th_sum n_th_now th_thrown th_typed th_next th_token th_place th_value th_fault th_many th_signMany th_setMany th_corners th_isLoaded th_loaded th_widened th_wide th_boundUp th_boundDown th_saying th_up th_down th_world th_tight th_sum th_now).map (fun q => q.1) = [q_th, q_th_saying, q_th_up, q_th_down, q_th_world, q_th_tight, q_th_sum, q_th_now] := rfl
set_option maxHeartbeats 4000000 in
set_option maxRecDepth 100000 in
theorem s_X9_asked {l : Launch} {E : (Nat → Prop) → State → Prop} (hEok : st_Eok E) {D : va_G} {tc : Nat → ClassId} (q_th : Nat) (q_th_text : Nat) (q_th_saying : Nat) (q_th_signs : Nat) (q_th_sets : Nat) (q_th_told : Nat) (q_th_up : Nat) (q_th_down : Nat) (q_th_world : Nat) (q_th_tight : Nat) (q_th_sum : Nat) (q_th_now : Nat) (n_th_saying : Nat) (n_th_up : Nat) (n_th_down : Nat) (n_th_world : Nat) (n_th_tight : Nat) (n_th_sum : Nat) (n_th_now : Nat) (th_thrown : Int32) (th_typed : Int32) (th_next : Int32) (th_token : Int32) (th_place : Int32) (th_value : Int32) (th_fault : Int32) (th_many : Int32) (th_signMany : Int32) (th_setMany : Int32) (th_corners : Int32) (th_isLoaded : Int32) (th_loaded : Int32) (th_widened : Int32) (th_wide : Int32) (th_boundUp : Int64) (th_boundDown : Int64) (th_saying : Nat → Int32) (th_up : Nat → Int64) (th_down : Nat → Int64) (th_world : Nat → Int32) (th_tight : Nat → Int32) (th_sum : Nat → Int64) (th_now : Nat → Int64) (x1 : Int32) (x2 : Int32) (x3 : Int32) (x4 : Int32) (x5 : Int32) (K : Nat) (r0 : Int64) (th_corners' : Int32) (th_isLoaded' : Int32) (th_loaded' : Int32) (th_widened' : Int32) (th_boundUp' : Int64) (th_boundDown' : Int64) (th_up' : Nat → Int64) (th_down' : Nat → Int64) (th_world' : Nat → Int32) (th_tight' : Nat → Int32) (th_sum' : Nat → Int64) (th_now' : Nat → Int64) (h : f_X9_asked K n_th_saying n_th_up n_th_down n_th_world n_th_tight n_th_sum n_th_now th_many th_corners th_isLoaded th_loaded th_widened th_wide th_boundUp th_boundDown th_saying th_up th_down th_world th_tight th_sum th_now x1 x2 x3 x4 x5 = some (r0, th_corners', th_isLoaded', th_loaded', th_widened', th_boundUp', th_boundDown', th_up', th_down', th_world', th_tight', th_sum', th_now')) : st l yX9_asked wsX9_asked ({ frames := 6, cells := 0, slots := 0, locals := 158 }) E D tc [.ref q_th, .int x1, .int x2, .int x3, .int x4, .int x5] (w_X9_asked tc q_th q_th_text q_th_saying q_th_signs q_th_sets q_th_told q_th_up q_th_down q_th_world q_th_tight q_th_sum q_th_now n_th_saying n_th_up n_th_down n_th_world n_th_tight n_th_sum n_th_now th_thrown th_typed th_next th_token th_place th_value th_fault th_many th_signMany th_setMany th_corners th_isLoaded th_loaded th_widened th_wide th_boundUp th_boundDown th_saying th_up th_down th_world th_tight th_sum th_now) (some (.long r0)) (w_X9_asked tc q_th q_th_text q_th_saying q_th_signs q_th_sets q_th_told q_th_up q_th_down q_th_world q_th_tight q_th_sum q_th_now n_th_saying n_th_up n_th_down n_th_world n_th_tight n_th_sum n_th_now th_thrown th_typed th_next th_token th_place th_value th_fault th_many th_signMany th_setMany th_corners' th_isLoaded' th_loaded' th_widened' th_wide th_boundUp' th_boundDown' th_saying th_up' th_down' th_world' th_tight' th_sum' th_now') := by
  refine st_enter (cc := cX9_asked) (maxL := 6) (ret := (some .long)) (by decide) rfl (Nat.le_of_ble_eq_true rfl) ?_
  intro p e s m below meth c A ls hx hb hr hml hts hown hlocks hK hN hE hA hP hD hS hl
  have hl : lv_has ls 6 [(0, .ref q_th), (1, .int x1), (2, .int x2), (3, .int x3), (4, .int x4), (5, .int x5)] := hl
  have hinX9 : ∀ w ∈ wsX90, w ∈ wsX9_asked := by decide +kernel
  generalize hav : ([.ref q_th, .int x1, .int x2, .int x3, .int x4, .int x5] : List Value).toArray = av at hts ⊢
  unfold f_X9_asked at h
  refine lv_iload_n hx hb dX9_asked_0 rfl (lv_at hl 1 rfl) ?_
  obtain ⟨z1_0, hc1, h⟩ := bd_ok h
  refine st_callS (As := [.int x1]) (rest := []) (pos := []) ⟨hx, hb, hml, hown, hts⟩ (s_X9_isThing (l := l) (D := D) (tc := tc) hEok x1 z1_0 hc1) (va_cwS 1 hts gX9_asked_X9_isThing rfl rfl rfl (by decide +kernel) ⟨Nat.le_of_ble_eq_true rfl, Nat.le_of_ble_eq_true rfl⟩) hEok hE hK hN hP hD hS hA rfl rfl rfl rfl hl.1 rfl (Nat.le_of_ble_eq_true rfl) dX9_asked_1 ⟨Nat.zero_le _, Nat.zero_le _⟩ (fun H locs hP hD hS => ?_)
  have hP : va_P D vwCl (w_X9_asked tc q_th q_th_text q_th_saying q_th_signs q_th_sets q_th_told q_th_up q_th_down q_th_world q_th_tight q_th_sum q_th_now n_th_saying n_th_up n_th_down n_th_world n_th_tight n_th_sum n_th_now th_thrown th_typed th_next th_token th_place th_value th_fault th_many th_signMany th_setMany th_corners th_isLoaded th_loaded th_widened th_wide th_boundUp th_boundDown th_saying th_up th_down th_world th_tight th_sum th_now) H := hP
  have hD : va_D A (w_X9_asked tc q_th q_th_text q_th_saying q_th_signs q_th_sets q_th_told q_th_up q_th_down q_th_world q_th_tight q_th_sum q_th_now n_th_saying n_th_up n_th_down n_th_world n_th_tight n_th_sum n_th_now th_thrown th_typed th_next th_token th_place th_value th_fault th_many th_signMany th_setMany th_corners th_isLoaded th_loaded th_widened th_wide th_boundUp th_boundDown th_saying th_up th_down th_world th_tight th_sum th_now) := hD
  refine lv_if_eq (tgt := 29) hx hb dX9_asked_4 (by decide) (fun c2 => ?_) (fun c2 => ?_)
  · replace h := ifp c2 h
    refine lv_ldc2 (v := (-1000000000000000000 : Int64)) hx hb hown (hts (.constantLong RX9 190 (-1000000000000000000)) (by decide +kernel)) dX9_asked_29 ?_
    simp only [Option.some.injEq, Prod.mk.injEq] at h
    obtain ⟨rfl, rfl, rfl, rfl, rfl, rfl, rfl, rfl, rfl, rfl, rfl, rfl, rfl⟩ := h
    exact st_lret hx hb hr hlocks hP hD hS dX9_asked_32
  · replace h := ifn c2 h
    refine lv_iload_n hx hb dX9_asked_7 rfl (lv_at hl 2 rfl) ?_
    obtain ⟨z3_0, hc3, h⟩ := bd_ok h
    refine st_callS (As := [.int x2]) (rest := []) (pos := []) ⟨hx, hb, hml, hown, hts⟩ (s_X9_isThing (l := l) (D := D) (tc := tc) hEok x2 z3_0 hc3) (va_cwS 1 hts gX9_asked_X9_isThing rfl rfl rfl (by decide +kernel) ⟨Nat.le_of_ble_eq_true rfl, Nat.le_of_ble_eq_true rfl⟩) hEok hE hK hN hP hD hS hA rfl rfl rfl rfl hl.1 rfl (Nat.le_of_ble_eq_true rfl) dX9_asked_8 ⟨Nat.zero_le _, Nat.zero_le _⟩ (fun H locs hP hD hS => ?_)
    have hP : va_P D vwCl (w_X9_asked tc q_th q_th_text q_th_saying q_th_signs q_th_sets q_th_told q_th_up q_th_down q_th_world q_th_tight q_th_sum q_th_now n_th_saying n_th_up n_th_down n_th_world n_th_tight n_th_sum n_th_now th_thrown th_typed th_next th_token th_place th_value th_fault th_many th_signMany th_setMany th_corners th_isLoaded th_loaded th_widened th_wide th_boundUp th_boundDown th_saying th_up th_down th_world th_tight th_sum th_now) H := hP
    have hD : va_D A (w_X9_asked tc q_th q_th_text q_th_saying q_th_signs q_th_sets q_th_told q_th_up q_th_down q_th_world q_th_tight q_th_sum q_th_now n_th_saying n_th_up n_th_down n_th_world n_th_tight n_th_sum n_th_now th_thrown th_typed th_next th_token th_place th_value th_fault th_many th_signMany th_setMany th_corners th_isLoaded th_loaded th_widened th_wide th_boundUp th_boundDown th_saying th_up th_down th_world th_tight th_sum th_now) := hD
    refine lv_if_eq (tgt := 29) hx hb dX9_asked_11 (by decide) (fun c4 => ?_) (fun c4 => ?_)
    · replace h := ifp c4 h
      refine lv_ldc2 (v := (-1000000000000000000 : Int64)) hx hb hown (hts (.constantLong RX9 190 (-1000000000000000000)) (by decide +kernel)) dX9_asked_29 ?_
      simp only [Option.some.injEq, Prod.mk.injEq] at h
      obtain ⟨rfl, rfl, rfl, rfl, rfl, rfl, rfl, rfl, rfl, rfl, rfl, rfl, rfl⟩ := h
      exact st_lret hx hb hr hlocks hP hD hS dX9_asked_32
    · replace h := ifn c4 h
      refine lv_iload_n hx hb dX9_asked_14 rfl (lv_at hl 3 rfl) ?_
      obtain ⟨z5_0, hc5, h⟩ := bd_ok h
      refine st_callS (As := [.int x3]) (rest := []) (pos := []) ⟨hx, hb, hml, hown, hts⟩ (s_X9_isBit (l := l) (D := D) (tc := tc) hEok x3 z5_0 hc5) (va_cwS 1 hts gX9_asked_X9_isBit rfl rfl rfl (by decide +kernel) ⟨Nat.le_of_ble_eq_true rfl, Nat.le_of_ble_eq_true rfl⟩) hEok hE hK hN hP hD hS hA rfl rfl rfl rfl hl.1 rfl (Nat.le_of_ble_eq_true rfl) dX9_asked_15 ⟨Nat.zero_le _, Nat.zero_le _⟩ (fun H locs hP hD hS => ?_)
      have hP : va_P D vwCl (w_X9_asked tc q_th q_th_text q_th_saying q_th_signs q_th_sets q_th_told q_th_up q_th_down q_th_world q_th_tight q_th_sum q_th_now n_th_saying n_th_up n_th_down n_th_world n_th_tight n_th_sum n_th_now th_thrown th_typed th_next th_token th_place th_value th_fault th_many th_signMany th_setMany th_corners th_isLoaded th_loaded th_widened th_wide th_boundUp th_boundDown th_saying th_up th_down th_world th_tight th_sum th_now) H := hP
      have hD : va_D A (w_X9_asked tc q_th q_th_text q_th_saying q_th_signs q_th_sets q_th_told q_th_up q_th_down q_th_world q_th_tight q_th_sum q_th_now n_th_saying n_th_up n_th_down n_th_world n_th_tight n_th_sum n_th_now th_thrown th_typed th_next th_token th_place th_value th_fault th_many th_signMany th_setMany th_corners th_isLoaded th_loaded th_widened th_wide th_boundUp th_boundDown th_saying th_up th_down th_world th_tight th_sum th_now) := hD
      refine lv_if_eq (tgt := 29) hx hb dX9_asked_18 (by decide) (fun c6 => ?_) (fun c6 => ?_)
      · replace h := ifp c6 h
        refine lv_ldc2 (v := (-1000000000000000000 : Int64)) hx hb hown (hts (.constantLong RX9 190 (-1000000000000000000)) (by decide +kernel)) dX9_asked_29 ?_
        simp only [Option.some.injEq, Prod.mk.injEq] at h
        obtain ⟨rfl, rfl, rfl, rfl, rfl, rfl, rfl, rfl, rfl, rfl, rfl, rfl, rfl⟩ := h
        exact st_lret hx hb hr hlocks hP hD hS dX9_asked_32
      · replace h := ifn c6 h
        refine lv_iload hx hb dX9_asked_21 (lv_at hl 4 rfl) ?_
        obtain ⟨z7_0, hc7, h⟩ := bd_ok h
        refine st_callS (As := [.int x4]) (rest := []) (pos := []) ⟨hx, hb, hml, hown, hts⟩ (s_X9_isBit (l := l) (D := D) (tc := tc) hEok x4 z7_0 hc7) (va_cwS 1 hts gX9_asked_X9_isBit rfl rfl rfl (by decide +kernel) ⟨Nat.le_of_ble_eq_true rfl, Nat.le_of_ble_eq_true rfl⟩) hEok hE hK hN hP hD hS hA rfl rfl rfl rfl hl.1 rfl (Nat.le_of_ble_eq_true rfl) dX9_asked_23 ⟨Nat.zero_le _, Nat.zero_le _⟩ (fun H locs hP hD hS => ?_)
        have hP : va_P D vwCl (w_X9_asked tc q_th q_th_text q_th_saying q_th_signs q_th_sets q_th_told q_th_up q_th_down q_th_world q_th_tight q_th_sum q_th_now n_th_saying n_th_up n_th_down n_th_world n_th_tight n_th_sum n_th_now th_thrown th_typed th_next th_token th_place th_value th_fault th_many th_signMany th_setMany th_corners th_isLoaded th_loaded th_widened th_wide th_boundUp th_boundDown th_saying th_up th_down th_world th_tight th_sum th_now) H := hP
        have hD : va_D A (w_X9_asked tc q_th q_th_text q_th_saying q_th_signs q_th_sets q_th_told q_th_up q_th_down q_th_world q_th_tight q_th_sum q_th_now n_th_saying n_th_up n_th_down n_th_world n_th_tight n_th_sum n_th_now th_thrown th_typed th_next th_token th_place th_value th_fault th_many th_signMany th_setMany th_corners th_isLoaded th_loaded th_widened th_wide th_boundUp th_boundDown th_saying th_up th_down th_world th_tight th_sum th_now) := hD
        refine lv_if_ne (tgt := 33) hx hb dX9_asked_26 (by decide) (fun c8 => ?_) (fun c8 => ?_)
        · replace h := ifn c8 h
          refine lv_aload_n hx hb dX9_asked_33 rfl (lv_at hl 0 rfl) ?_
          obtain ⟨⟨z9_0, z9_1, z9_2, z9_3, z9_4, z9_5, z9_6, z9_7, z9_8, z9_9, z9_10⟩, hc9, h⟩ := bd_ok h
          refine st_callV (As := []) (rest := []) (pos := (List.range' 0 8)) ⟨hx, hb, hml, hown, hts⟩ (s_X9_loadsOn (l := l) (D := D) (tc := tc) hEok q_th q_th_text q_th_saying q_th_signs q_th_sets q_th_told q_th_up q_th_down q_th_world q_th_tight q_th_sum q_th_now n_th_saying n_th_up n_th_down n_th_world n_th_tight n_th_sum n_th_now th_thrown th_typed th_next th_token th_place th_value th_fault th_many th_signMany th_setMany th_corners th_isLoaded th_loaded th_widened th_wide th_boundUp th_boundDown th_saying th_up th_down th_world th_tight th_sum th_now K z9_0 z9_1 z9_2 z9_3 z9_4 z9_5 z9_6 z9_7 z9_8 z9_9 z9_10 hc9) (cwV 0 hts gX9_asked_X9_loadsOn rfl rfl rfl (by decide +kernel) ⟨Nat.le_of_ble_eq_true rfl, Nat.le_of_ble_eq_true rfl⟩) (st_recv (ci := 9) (q0 := 0) hK hP rfl rfl) hEok hE hK hN hP hD hS hA (st_segpos (m := 8) (by rfl) (by rfl) (by rfl)) (st_seg_nd _ _) (wa_X9_loadsOn.trans wa_X9_loadsOn.symm) rfl hl.1 rfl (Nat.le_of_ble_eq_true rfl) dX9_asked_34 ⟨Nat.zero_le _, Nat.zero_le _⟩ (fun H locs hP hD hS => ?_)
          have hP : va_P D vwCl (w_X9_asked tc q_th q_th_text q_th_saying q_th_signs q_th_sets q_th_told q_th_up q_th_down q_th_world q_th_tight q_th_sum q_th_now n_th_saying n_th_up n_th_down n_th_world n_th_tight n_th_sum n_th_now th_thrown th_typed th_next th_token th_place th_value th_fault th_many th_signMany th_setMany z9_1 z9_2 z9_3 z9_4 th_wide th_boundUp th_boundDown th_saying z9_5 z9_6 z9_7 z9_8 z9_9 z9_10) H := st_segP (w0 := (w_X9_loadsOn tc q_th q_th_text q_th_saying q_th_signs q_th_sets q_th_told q_th_up q_th_down q_th_world q_th_tight q_th_sum q_th_now n_th_saying n_th_up n_th_down n_th_world n_th_tight n_th_sum n_th_now th_thrown th_typed th_next th_token th_place th_value th_fault th_many th_signMany th_setMany th_corners th_isLoaded th_loaded th_widened th_wide th_boundUp th_boundDown th_saying th_up th_down th_world th_tight th_sum th_now)) (m := 8) (by rfl) (by rfl) (by rfl) (by rfl) (by rfl) hP
          have hD : va_D A (w_X9_asked tc q_th q_th_text q_th_saying q_th_signs q_th_sets q_th_told q_th_up q_th_down q_th_world q_th_tight q_th_sum q_th_now n_th_saying n_th_up n_th_down n_th_world n_th_tight n_th_sum n_th_now th_thrown th_typed th_next th_token th_place th_value th_fault th_many th_signMany th_setMany z9_1 z9_2 z9_3 z9_4 th_wide th_boundUp th_boundDown th_saying z9_5 z9_6 z9_7 z9_8 z9_9 z9_10) := st_segD (w0 := (w_X9_loadsOn tc q_th q_th_text q_th_saying q_th_signs q_th_sets q_th_told q_th_up q_th_down q_th_world q_th_tight q_th_sum q_th_now n_th_saying n_th_up n_th_down n_th_world n_th_tight n_th_sum n_th_now th_thrown th_typed th_next th_token th_place th_value th_fault th_many th_signMany th_setMany th_corners th_isLoaded th_loaded th_widened th_wide th_boundUp th_boundDown th_saying th_up th_down th_world th_tight th_sum th_now)) (m := 8) (by rfl) (by rfl) (by rfl) (by rfl) (by rfl) hD
          refine lv_pop hx hb dX9_asked_37 rfl ?_
          refine lv_aload_n hx hb dX9_asked_38 rfl (lv_at hl 0 rfl) ?_
          refine lv_iload_n hx hb dX9_asked_39 rfl (lv_at hl 1 rfl) ?_
          refine lv_iload_n hx hb dX9_asked_40 rfl (lv_at hl 2 rfl) ?_
          refine lv_iload_n hx hb dX9_asked_41 rfl (lv_at hl 3 rfl) ?_
          refine lv_iload hx hb dX9_asked_42 (lv_at hl 5 rfl) ?_
          obtain ⟨⟨z10_0, z10_1, z10_2⟩, hc10, h⟩ := bd_ok h
          refine st_callV (As := [.int x1, .int x2, .int x3, .int x5]) (rest := []) (pos := [0, 2, 3]) ⟨hx, hb, hml, hown, hts⟩ (s_X9_bounds (l := l) (D := D) (tc := tc) hEok q_th q_th_text q_th_saying q_th_signs q_th_sets q_th_told q_th_up q_th_down q_th_world q_th_tight q_th_sum q_th_now n_th_up n_th_down th_thrown th_typed th_next th_token th_place th_value th_fault th_many th_signMany th_setMany z9_1 z9_2 z9_3 z9_4 th_wide th_boundUp th_boundDown z9_5 z9_6 x1 x2 x3 x5 K z10_0 z10_1 z10_2 hc10) (cwV 4 hts gX9_asked_X9_bounds rfl rfl rfl (by decide +kernel) ⟨Nat.le_of_ble_eq_true rfl, Nat.le_of_ble_eq_true rfl⟩) (st_recv (ci := 9) (q0 := 0) hK hP rfl rfl) hEok hE hK hN hP hD hS hA rfl rfl rfl rfl hl.1 rfl (Nat.le_of_ble_eq_true rfl) dX9_asked_44 ⟨Nat.zero_le _, Nat.zero_le _⟩ (fun H locs hP hD hS => ?_)
          have hP : va_P D vwCl (w_X9_asked tc q_th q_th_text q_th_saying q_th_signs q_th_sets q_th_told q_th_up q_th_down q_th_world q_th_tight q_th_sum q_th_now n_th_saying n_th_up n_th_down n_th_world n_th_tight n_th_sum n_th_now th_thrown th_typed th_next th_token th_place th_value th_fault th_many th_signMany th_setMany z9_1 z9_2 z9_3 z9_4 th_wide z10_1 z10_2 th_saying z9_5 z9_6 z9_7 z9_8 z9_9 z9_10) H := hP
          have hD : va_D A (w_X9_asked tc q_th q_th_text q_th_saying q_th_signs q_th_sets q_th_told q_th_up q_th_down q_th_world q_th_tight q_th_sum q_th_now n_th_saying n_th_up n_th_down n_th_world n_th_tight n_th_sum n_th_now th_thrown th_typed th_next th_token th_place th_value th_fault th_many th_signMany th_setMany z9_1 z9_2 z9_3 z9_4 th_wide z10_1 z10_2 th_saying z9_5 z9_6 z9_7 z9_8 z9_9 z9_10) := hD
          refine lv_if_eq (tgt := 66) hx hb dX9_asked_47 (by decide) (fun c11 => ?_) (fun c11 => ?_)
          · replace h := ifp c11 h
            refine lv_ldc2 (v := (-1000000000000000000 : Int64)) hx hb hown (hts (.constantLong RX9 190 (-1000000000000000000)) (by decide +kernel)) dX9_asked_66 ?_
            simp only [Option.some.injEq, Prod.mk.injEq] at h
            obtain ⟨rfl, rfl, rfl, rfl, rfl, rfl, rfl, rfl, rfl, rfl, rfl, rfl, rfl⟩ := h
            exact st_lret hx hb hr hlocks hP hD hS dX9_asked_69
          · replace h := ifn c11 h
            refine lv_aload_n hx hb dX9_asked_50 rfl (lv_at hl 0 rfl) ?_
            refine va_get (D := D) (ci := 9) (v := .long z10_1) (C := RX9) (T := TX9) (N := 28) hx hb hts hinX9 hown hK hP 0 rfl rfl 26 (by decide) (hts (.fieldLink RX9 184 "ChanceBoundsModel" "boundUp" "J") (by decide +kernel)) (fun _ h9 => h9) rfl dX9_asked_51 ?_
            refine lv_aload_n hx hb dX9_asked_54 rfl (lv_at hl 0 rfl) ?_
            refine va_get (D := D) (ci := 9) (v := .long z10_2) (C := RX9) (T := TX9) (N := 28) hx hb hts hinX9 hown hK hP 0 rfl rfl 27 (by decide) (hts (.fieldLink RX9 176 "ChanceBoundsModel" "boundDown" "J") (by decide +kernel)) (fun _ h9 => h9) rfl dX9_asked_55 ?_
            refine lv_iload hx hb dX9_asked_58 (lv_at hl 4 rfl) ?_
            obtain ⟨z12_0, hc12, h⟩ := bd_ok h
            refine st_callS (As := [.long z10_1, .long z10_2, .int x4]) (rest := []) (pos := []) ⟨hx, hb, hml, hown, hts⟩ (s_X9_tells (l := l) (D := D) (tc := tc) hEok z10_1 z10_2 x4 K z12_0 hc12) (va_cwS 3 hts gX9_asked_X9_tells rfl rfl rfl (by decide +kernel) ⟨Nat.le_of_ble_eq_true rfl, Nat.le_of_ble_eq_true rfl⟩) hEok hE hK hN hP hD hS hA rfl rfl rfl rfl hl.1 rfl (Nat.le_of_ble_eq_true rfl) dX9_asked_60 ⟨Nat.zero_le _, Nat.zero_le _⟩ (fun H locs hP hD hS => ?_)
            have hP : va_P D vwCl (w_X9_asked tc q_th q_th_text q_th_saying q_th_signs q_th_sets q_th_told q_th_up q_th_down q_th_world q_th_tight q_th_sum q_th_now n_th_saying n_th_up n_th_down n_th_world n_th_tight n_th_sum n_th_now th_thrown th_typed th_next th_token th_place th_value th_fault th_many th_signMany th_setMany z9_1 z9_2 z9_3 z9_4 th_wide z10_1 z10_2 th_saying z9_5 z9_6 z9_7 z9_8 z9_9 z9_10) H := hP
            have hD : va_D A (w_X9_asked tc q_th q_th_text q_th_saying q_th_signs q_th_sets q_th_told q_th_up q_th_down q_th_world q_th_tight q_th_sum q_th_now n_th_saying n_th_up n_th_down n_th_world n_th_tight n_th_sum n_th_now th_thrown th_typed th_next th_token th_place th_value th_fault th_many th_signMany th_setMany z9_1 z9_2 z9_3 z9_4 th_wide z10_1 z10_2 th_saying z9_5 z9_6 z9_7 z9_8 z9_9 z9_10) := hD
            refine lv_goto (tgt := 69) hx hb dX9_asked_63 (by decide) ?_
            simp only [Option.some.injEq, Prod.mk.injEq] at h
            obtain ⟨rfl, rfl, rfl, rfl, rfl, rfl, rfl, rfl, rfl, rfl, rfl, rfl, rfl⟩ := h
            exact st_lret hx hb hr hlocks hP hD hS dX9_asked_69
        · replace h := ifp c8 h
          refine lv_ldc2 (v := (-1000000000000000000 : Int64)) hx hb hown (hts (.constantLong RX9 190 (-1000000000000000000)) (by decide +kernel)) dX9_asked_29 ?_
          simp only [Option.some.injEq, Prod.mk.injEq] at h
          obtain ⟨rfl, rfl, rfl, rfl, rfl, rfl, rfl, rfl, rfl, rfl, rfl, rfl, rfl⟩ := h
          exact st_lret hx hb hr hlocks hP hD hS dX9_asked_32
def f_X9_bound (K : Nat) (n_th_saying : Nat) (n_th_up : Nat) (n_th_down : Nat) (n_th_world : Nat) (n_th_tight : Nat) (n_th_sum : Nat) (n_th_now : Nat) (th_many : Int32) (th_corners : Int32) (th_isLoaded : Int32) (th_loaded : Int32) (th_widened : Int32) (th_wide : Int32) (th_boundUp : Int64) (th_boundDown : Int64) (th_saying : Nat → Int32) (th_up : Nat → Int64) (th_down : Nat → Int64) (th_world : Nat → Int32) (th_tight : Nat → Int32) (th_sum : Nat → Int64) (th_now : Nat → Int64) (x1 : Int32) (x2 : Int32) (x3 : Int32) (x4 : Int32) : Option (Int64 × Int32 × Int32 × Int32 × Int32 × Int32 × Int64 × Int64 × (Nat → Int64) × (Nat → Int64) × (Nat → Int32) × (Nat → Int32) × (Nat → Int64) × (Nat → Int64)) :=
  (f_X9_asked K n_th_saying n_th_up n_th_down n_th_world n_th_tight n_th_sum n_th_now th_many th_corners th_isLoaded th_loaded th_widened th_wide th_boundUp th_boundDown th_saying th_up th_down th_world th_tight th_sum th_now x1 x2 x3 x4 (0 : Int32)).bind fun z1 => match z1 with
  | (z1_0, z1_1, z1_2, z1_3, z1_4, z1_5, z1_6, z1_7, z1_8, z1_9, z1_10, z1_11, z1_12) =>
    some (z1_0, (0 : Int32), z1_1, z1_2, z1_3, z1_4, z1_5, z1_6, z1_7, z1_8, z1_9, z1_10, z1_11, z1_12)
abbrev w_X9_bound (tc : Nat → ClassId) (q_th : Nat) (q_th_text : Nat) (q_th_saying : Nat) (q_th_signs : Nat) (q_th_sets : Nat) (q_th_told : Nat) (q_th_up : Nat) (q_th_down : Nat) (q_th_world : Nat) (q_th_tight : Nat) (q_th_sum : Nat) (q_th_now : Nat) (n_th_saying : Nat) (n_th_up : Nat) (n_th_down : Nat) (n_th_world : Nat) (n_th_tight : Nat) (n_th_sum : Nat) (n_th_now : Nat) (th_thrown : Int32) (th_typed : Int32) (th_next : Int32) (th_token : Int32) (th_place : Int32) (th_value : Int32) (th_fault : Int32) (th_many : Int32) (th_signMany : Int32) (th_setMany : Int32) (th_corners : Int32) (th_isLoaded : Int32) (th_loaded : Int32) (th_widened : Int32) (th_wide : Int32) (th_boundUp : Int64) (th_boundDown : Int64) (th_saying : Nat → Int32) (th_up : Nat → Int64) (th_down : Nat → Int64) (th_world : Nat → Int32) (th_tight : Nat → Int32) (th_sum : Nat → Int64) (th_now : Nat → Int64) : va_W := [(q_th, .inr (9, [.int th_thrown, .ref q_th_text, .int th_typed, .int th_next, .int th_token, .int th_place, .int th_value, .int th_fault, .int th_many, .ref q_th_saying, .ref q_th_signs, .ref q_th_sets, .int th_signMany, .int th_setMany, .ref q_th_told, .int th_corners, .int th_isLoaded, .int th_loaded, .ref q_th_up, .ref q_th_down, .ref q_th_world, .ref q_th_tight, .ref q_th_sum, .ref q_th_now, .int th_widened, .int th_wide, .long th_boundUp, .long th_boundDown])), (q_th_saying, .inl (tc 0, n_th_saying, .inl th_saying)), (q_th_up, .inl (tc 1, n_th_up, .inr (.inl th_up))), (q_th_down, .inl (tc 1, n_th_down, .inr (.inl th_down))), (q_th_world, .inl (tc 0, n_th_world, .inl th_world)), (q_th_tight, .inl (tc 0, n_th_tight, .inl th_tight)), (q_th_sum, .inl (tc 1, n_th_sum, .inr (.inl th_sum))), (q_th_now, .inl (tc 1, n_th_now, .inr (.inl th_now)))]
theorem wa_X9_bound {tc : Nat → ClassId} {q_th : Nat} {q_th_text : Nat} {q_th_saying : Nat} {q_th_signs : Nat} {q_th_sets : Nat} {q_th_told : Nat} {q_th_up : Nat} {q_th_down : Nat} {q_th_world : Nat} {q_th_tight : Nat} {q_th_sum : Nat} {q_th_now : Nat} {n_th_saying : Nat} {n_th_up : Nat} {n_th_down : Nat} {n_th_world : Nat} {n_th_tight : Nat} {n_th_sum : Nat} {n_th_now : Nat} {th_thrown : Int32} {th_typed : Int32} {th_next : Int32} {th_token : Int32} {th_place : Int32} {th_value : Int32} {th_fault : Int32} {th_many : Int32} {th_signMany : Int32} {th_setMany : Int32} {th_corners : Int32} {th_isLoaded : Int32} {th_loaded : Int32} {th_widened : Int32} {th_wide : Int32} {th_boundUp : Int64} {th_boundDown : Int64} {th_saying : Nat → Int32} {th_up : Nat → Int64} {th_down : Nat → Int64} {th_world : Nat → Int32} {th_tight : Nat → Int32} {th_sum : Nat → Int64} {th_now : Nat → Int64} : (w_X9_bound tc q_th q_th_text q_th_saying q_th_signs q_th_sets q_th_told q_th_up q_th_down q_th_world q_th_tight q_th_sum q_th_now n_th_saying n_th_up n_th_down n_th_world n_th_tight n_th_sum n_th_now th_thrown th_typed th_next th_token th_place th_value th_fault th_many th_signMany th_setMany th_corners th_isLoaded th_loaded th_widened th_wide th_boundUp th_boundDown th_saying th_up th_down th_world th_tight th_sum th_now).map (fun q => q.1) = [q_th, q_th_saying, q_th_up, q_th_down, q_th_world, q_th_tight, q_th_sum, q_th_now] := rfl
set_option maxHeartbeats 4000000 in
set_option maxRecDepth 100000 in
theorem s_X9_bound {l : Launch} {E : (Nat → Prop) → State → Prop} (hEok : st_Eok E) {D : va_G} {tc : Nat → ClassId} (q_th : Nat) (q_th_text : Nat) (q_th_saying : Nat) (q_th_signs : Nat) (q_th_sets : Nat) (q_th_told : Nat) (q_th_up : Nat) (q_th_down : Nat) (q_th_world : Nat) (q_th_tight : Nat) (q_th_sum : Nat) (q_th_now : Nat) (n_th_saying : Nat) (n_th_up : Nat) (n_th_down : Nat) (n_th_world : Nat) (n_th_tight : Nat) (n_th_sum : Nat) (n_th_now : Nat) (th_thrown : Int32) (th_typed : Int32) (th_next : Int32) (th_token : Int32) (th_place : Int32) (th_value : Int32) (th_fault : Int32) (th_many : Int32) (th_signMany : Int32) (th_setMany : Int32) (th_corners : Int32) (th_isLoaded : Int32) (th_loaded : Int32) (th_widened : Int32) (th_wide : Int32) (th_boundUp : Int64) (th_boundDown : Int64) (th_saying : Nat → Int32) (th_up : Nat → Int64) (th_down : Nat → Int64) (th_world : Nat → Int32) (th_tight : Nat → Int32) (th_sum : Nat → Int64) (th_now : Nat → Int64) (x1 : Int32) (x2 : Int32) (x3 : Int32) (x4 : Int32) (K : Nat) (r0 : Int64) (th_thrown' : Int32) (th_corners' : Int32) (th_isLoaded' : Int32) (th_loaded' : Int32) (th_widened' : Int32) (th_boundUp' : Int64) (th_boundDown' : Int64) (th_up' : Nat → Int64) (th_down' : Nat → Int64) (th_world' : Nat → Int32) (th_tight' : Nat → Int32) (th_sum' : Nat → Int64) (th_now' : Nat → Int64) (h : f_X9_bound K n_th_saying n_th_up n_th_down n_th_world n_th_tight n_th_sum n_th_now th_many th_corners th_isLoaded th_loaded th_widened th_wide th_boundUp th_boundDown th_saying th_up th_down th_world th_tight th_sum th_now x1 x2 x3 x4 = some (r0, th_thrown', th_corners', th_isLoaded', th_loaded', th_widened', th_boundUp', th_boundDown', th_up', th_down', th_world', th_tight', th_sum', th_now')) : st l yX9_bound wsX9_bound ({ frames := 7, cells := 0, slots := 0, locals := 183 }) E D tc [.ref q_th, .int x1, .int x2, .int x3, .int x4] (w_X9_bound tc q_th q_th_text q_th_saying q_th_signs q_th_sets q_th_told q_th_up q_th_down q_th_world q_th_tight q_th_sum q_th_now n_th_saying n_th_up n_th_down n_th_world n_th_tight n_th_sum n_th_now th_thrown th_typed th_next th_token th_place th_value th_fault th_many th_signMany th_setMany th_corners th_isLoaded th_loaded th_widened th_wide th_boundUp th_boundDown th_saying th_up th_down th_world th_tight th_sum th_now) (some (.long r0)) (w_X9_bound tc q_th q_th_text q_th_saying q_th_signs q_th_sets q_th_told q_th_up q_th_down q_th_world q_th_tight q_th_sum q_th_now n_th_saying n_th_up n_th_down n_th_world n_th_tight n_th_sum n_th_now th_thrown' th_typed th_next th_token th_place th_value th_fault th_many th_signMany th_setMany th_corners' th_isLoaded' th_loaded' th_widened' th_wide th_boundUp' th_boundDown' th_saying th_up' th_down' th_world' th_tight' th_sum' th_now') := by
  refine st_enter (cc := cX9_bound) (maxL := 5) (ret := (some .long)) (by decide) rfl (Nat.le_of_ble_eq_true rfl) ?_
  intro p e s m below meth c A ls hx hb hr hml hts hown hlocks hK hN hE hA hP hD hS hl
  have hl : lv_has ls 5 [(0, .ref q_th), (1, .int x1), (2, .int x2), (3, .int x3), (4, .int x4)] := hl
  have hinX9 : ∀ w ∈ wsX90, w ∈ wsX9_bound := by decide +kernel
  generalize hav : ([.ref q_th, .int x1, .int x2, .int x3, .int x4] : List Value).toArray = av at hts ⊢
  unfold f_X9_bound at h
  refine lv_aload_n hx hb dX9_bound_0 rfl (lv_at hl 0 rfl) ?_
  refine lv_iconst (v := (0 : Int32)) hx hb dX9_bound_1 (by decide) ?_
  refine va_put (D := D) (ci := 9) (v := .int (0 : Int32)) (ty := .int) (C := RX9) (T := TX9) (N := 28) hx hb hts hinX9 tyX9 tyX9_ok nmX9 hown hK hP hD hS 0 rfl rfl 0 (by decide) (hts (.fieldLink RX9 45 "ChanceBoundsModel" "thrown" "I") (by decide +kernel)) (fun _ h9 => h9) rfl (by decide +kernel) rfl rfl (Nat.le_of_ble_eq_true rfl) dX9_bound_2 (fun H locs hP hD hS => ?_)
  have hP : va_P D vwCl (w_X9_bound tc q_th q_th_text q_th_saying q_th_signs q_th_sets q_th_told q_th_up q_th_down q_th_world q_th_tight q_th_sum q_th_now n_th_saying n_th_up n_th_down n_th_world n_th_tight n_th_sum n_th_now (0 : Int32) th_typed th_next th_token th_place th_value th_fault th_many th_signMany th_setMany th_corners th_isLoaded th_loaded th_widened th_wide th_boundUp th_boundDown th_saying th_up th_down th_world th_tight th_sum th_now) H := hP
  have hD : va_D A (w_X9_bound tc q_th q_th_text q_th_saying q_th_signs q_th_sets q_th_told q_th_up q_th_down q_th_world q_th_tight q_th_sum q_th_now n_th_saying n_th_up n_th_down n_th_world n_th_tight n_th_sum n_th_now (0 : Int32) th_typed th_next th_token th_place th_value th_fault th_many th_signMany th_setMany th_corners th_isLoaded th_loaded th_widened th_wide th_boundUp th_boundDown th_saying th_up th_down th_world th_tight th_sum th_now) := hD
  refine lv_aload_n hx hb dX9_bound_5 rfl (lv_at hl 0 rfl) ?_
  refine lv_iload_n hx hb dX9_bound_6 rfl (lv_at hl 1 rfl) ?_
  refine lv_iload_n hx hb dX9_bound_7 rfl (lv_at hl 2 rfl) ?_
  refine lv_iload_n hx hb dX9_bound_8 rfl (lv_at hl 3 rfl) ?_
  refine lv_iload hx hb dX9_bound_9 (lv_at hl 4 rfl) ?_
  refine lv_iconst (v := (0 : Int32)) hx hb dX9_bound_11 (by decide) ?_
  obtain ⟨⟨z1_0, z1_1, z1_2, z1_3, z1_4, z1_5, z1_6, z1_7, z1_8, z1_9, z1_10, z1_11, z1_12⟩, hc1, h⟩ := bd_ok h
  refine st_callV (As := [.int x1, .int x2, .int x3, .int x4, .int (0 : Int32)]) (rest := []) (pos := (List.range' 0 8)) ⟨hx, hb, hml, hown, hts⟩ (s_X9_asked (l := l) (D := D) (tc := tc) hEok q_th q_th_text q_th_saying q_th_signs q_th_sets q_th_told q_th_up q_th_down q_th_world q_th_tight q_th_sum q_th_now n_th_saying n_th_up n_th_down n_th_world n_th_tight n_th_sum n_th_now (0 : Int32) th_typed th_next th_token th_place th_value th_fault th_many th_signMany th_setMany th_corners th_isLoaded th_loaded th_widened th_wide th_boundUp th_boundDown th_saying th_up th_down th_world th_tight th_sum th_now x1 x2 x3 x4 (0 : Int32) K z1_0 z1_1 z1_2 z1_3 z1_4 z1_5 z1_6 z1_7 z1_8 z1_9 z1_10 z1_11 z1_12 hc1) (cwV 5 hts gX9_bound_X9_asked rfl rfl rfl (by decide +kernel) ⟨Nat.le_of_ble_eq_true rfl, Nat.le_of_ble_eq_true rfl⟩) (st_recv (ci := 9) (q0 := 0) hK hP rfl rfl) hEok hE hK hN hP hD hS hA (st_segpos (m := 8) (by rfl) (by rfl) (by rfl)) (st_seg_nd _ _) (wa_X9_asked.trans wa_X9_asked.symm) rfl hl.1 rfl (Nat.le_of_ble_eq_true rfl) dX9_bound_12 ⟨Nat.zero_le _, Nat.zero_le _⟩ (fun H locs hP hD hS => ?_)
  have hP : va_P D vwCl (w_X9_bound tc q_th q_th_text q_th_saying q_th_signs q_th_sets q_th_told q_th_up q_th_down q_th_world q_th_tight q_th_sum q_th_now n_th_saying n_th_up n_th_down n_th_world n_th_tight n_th_sum n_th_now (0 : Int32) th_typed th_next th_token th_place th_value th_fault th_many th_signMany th_setMany z1_1 z1_2 z1_3 z1_4 th_wide z1_5 z1_6 th_saying z1_7 z1_8 z1_9 z1_10 z1_11 z1_12) H := st_segP (w0 := (w_X9_asked tc q_th q_th_text q_th_saying q_th_signs q_th_sets q_th_told q_th_up q_th_down q_th_world q_th_tight q_th_sum q_th_now n_th_saying n_th_up n_th_down n_th_world n_th_tight n_th_sum n_th_now (0 : Int32) th_typed th_next th_token th_place th_value th_fault th_many th_signMany th_setMany th_corners th_isLoaded th_loaded th_widened th_wide th_boundUp th_boundDown th_saying th_up th_down th_world th_tight th_sum th_now)) (m := 8) (by rfl) (by rfl) (by rfl) (by rfl) (by rfl) hP
  have hD : va_D A (w_X9_bound tc q_th q_th_text q_th_saying q_th_signs q_th_sets q_th_told q_th_up q_th_down q_th_world q_th_tight q_th_sum q_th_now n_th_saying n_th_up n_th_down n_th_world n_th_tight n_th_sum n_th_now (0 : Int32) th_typed th_next th_token th_place th_value th_fault th_many th_signMany th_setMany z1_1 z1_2 z1_3 z1_4 th_wide z1_5 z1_6 th_saying z1_7 z1_8 z1_9 z1_10 z1_11 z1_12) := st_segD (w0 := (w_X9_asked tc q_th q_th_text q_th_saying q_th_signs q_th_sets q_th_told q_th_up q_th_down q_th_world q_th_tight q_th_sum q_th_now n_th_saying n_th_up n_th_down n_th_world n_th_tight n_th_sum n_th_now (0 : Int32) th_typed th_next th_token th_place th_value th_fault th_many th_signMany th_setMany th_corners th_isLoaded th_loaded th_widened th_wide th_boundUp th_boundDown th_saying th_up th_down th_world th_tight th_sum th_now)) (m := 8) (by rfl) (by rfl) (by rfl) (by rfl) (by rfl) hD
  simp only [Option.some.injEq, Prod.mk.injEq] at h
  obtain ⟨rfl, rfl, rfl, rfl, rfl, rfl, rfl, rfl, rfl, rfl, rfl, rfl, rfl, rfl⟩ := h
  exact st_lret hx hb hr hlocks hP hD hS dX9_bound_15
def f_X9_differ (K : Nat) (n_th_saying : Nat) (n_th_up : Nat) (n_th_down : Nat) (n_th_world : Nat) (n_th_tight : Nat) (n_th_sum : Nat) (n_th_now : Nat) (th_many : Int32) (th_corners : Int32) (th_isLoaded : Int32) (th_loaded : Int32) (th_widened : Int32) (th_wide : Int32) (th_boundUp : Int64) (th_boundDown : Int64) (th_saying : Nat → Int32) (th_up : Nat → Int64) (th_down : Nat → Int64) (th_world : Nat → Int32) (th_tight : Nat → Int32) (th_sum : Nat → Int64) (th_now : Nat → Int64) (x1 : Int32) (x2 : Int32) (x3 : Int32) (x4 : Int32) : Option (Int64 × Int32 × Int32 × Int32 × Int32 × Int32 × Int64 × Int64 × (Nat → Int64) × (Nat → Int64) × (Nat → Int32) × (Nat → Int32) × (Nat → Int64) × (Nat → Int64)) :=
  (f_X9_asked K n_th_saying n_th_up n_th_down n_th_world n_th_tight n_th_sum n_th_now th_many th_corners th_isLoaded th_loaded th_widened th_wide th_boundUp th_boundDown th_saying th_up th_down th_world th_tight th_sum th_now x1 x2 x3 x4 (1 : Int32)).bind fun z1 => match z1 with
  | (z1_0, z1_1, z1_2, z1_3, z1_4, z1_5, z1_6, z1_7, z1_8, z1_9, z1_10, z1_11, z1_12) =>
    some (z1_0, (0 : Int32), z1_1, z1_2, z1_3, z1_4, z1_5, z1_6, z1_7, z1_8, z1_9, z1_10, z1_11, z1_12)
abbrev w_X9_differ (tc : Nat → ClassId) (q_th : Nat) (q_th_text : Nat) (q_th_saying : Nat) (q_th_signs : Nat) (q_th_sets : Nat) (q_th_told : Nat) (q_th_up : Nat) (q_th_down : Nat) (q_th_world : Nat) (q_th_tight : Nat) (q_th_sum : Nat) (q_th_now : Nat) (n_th_saying : Nat) (n_th_up : Nat) (n_th_down : Nat) (n_th_world : Nat) (n_th_tight : Nat) (n_th_sum : Nat) (n_th_now : Nat) (th_thrown : Int32) (th_typed : Int32) (th_next : Int32) (th_token : Int32) (th_place : Int32) (th_value : Int32) (th_fault : Int32) (th_many : Int32) (th_signMany : Int32) (th_setMany : Int32) (th_corners : Int32) (th_isLoaded : Int32) (th_loaded : Int32) (th_widened : Int32) (th_wide : Int32) (th_boundUp : Int64) (th_boundDown : Int64) (th_saying : Nat → Int32) (th_up : Nat → Int64) (th_down : Nat → Int64) (th_world : Nat → Int32) (th_tight : Nat → Int32) (th_sum : Nat → Int64) (th_now : Nat → Int64) : va_W := [(q_th, .inr (9, [.int th_thrown, .ref q_th_text, .int th_typed, .int th_next, .int th_token, .int th_place, .int th_value, .int th_fault, .int th_many, .ref q_th_saying, .ref q_th_signs, .ref q_th_sets, .int th_signMany, .int th_setMany, .ref q_th_told, .int th_corners, .int th_isLoaded, .int th_loaded, .ref q_th_up, .ref q_th_down, .ref q_th_world, .ref q_th_tight, .ref q_th_sum, .ref q_th_now, .int th_widened, .int th_wide, .long th_boundUp, .long th_boundDown])), (q_th_saying, .inl (tc 0, n_th_saying, .inl th_saying)), (q_th_up, .inl (tc 1, n_th_up, .inr (.inl th_up))), (q_th_down, .inl (tc 1, n_th_down, .inr (.inl th_down))), (q_th_world, .inl (tc 0, n_th_world, .inl th_world)), (q_th_tight, .inl (tc 0, n_th_tight, .inl th_tight)), (q_th_sum, .inl (tc 1, n_th_sum, .inr (.inl th_sum))), (q_th_now, .inl (tc 1, n_th_now, .inr (.inl th_now)))]
theorem wa_X9_differ {tc : Nat → ClassId} {q_th : Nat} {q_th_text : Nat} {q_th_saying : Nat} {q_th_signs : Nat} {q_th_sets : Nat} {q_th_told : Nat} {q_th_up : Nat} {q_th_down : Nat} {q_th_world : Nat} {q_th_tight : Nat} {q_th_sum : Nat} {q_th_now : Nat} {n_th_saying : Nat} {n_th_up : Nat} {n_th_down : Nat} {n_th_world : Nat} {n_th_tight : Nat} {n_th_sum : Nat} {n_th_now : Nat} {th_thrown : Int32} {th_typed : Int32} {th_next : Int32} {th_token : Int32} {th_place : Int32} {th_value : Int32} {th_fault : Int32} {th_many : Int32} {th_signMany : Int32} {th_setMany : Int32} {th_corners : Int32} {th_isLoaded : Int32} {th_loaded : Int32} {th_widened : Int32} {th_wide : Int32} {th_boundUp : Int64} {th_boundDown : Int64} {th_saying : Nat → Int32} {th_up : Nat → Int64} {th_down : Nat → Int64} {th_world : Nat → Int32} {th_tight : Nat → Int32} {th_sum : Nat → Int64} {th_now : Nat → Int64} : (w_X9_differ tc q_th q_th_text q_th_saying q_th_signs q_th_sets q_th_told q_th_up q_th_down q_th_world q_th_tight q_th_sum q_th_now n_th_saying n_th_up n_th_down n_th_world n_th_tight n_th_sum n_th_now th_thrown th_typed th_next th_token th_place th_value th_fault th_many th_signMany th_setMany th_corners th_isLoaded th_loaded th_widened th_wide th_boundUp th_boundDown th_saying th_up th_down th_world th_tight th_sum th_now).map (fun q => q.1) = [q_th, q_th_saying, q_th_up, q_th_down, q_th_world, q_th_tight, q_th_sum, q_th_now] := rfl
set_option maxHeartbeats 4000000 in
set_option maxRecDepth 100000 in
theorem s_X9_differ {l : Launch} {E : (Nat → Prop) → State → Prop} (hEok : st_Eok E) {D : va_G} {tc : Nat → ClassId} (q_th : Nat) (q_th_text : Nat) (q_th_saying : Nat) (q_th_signs : Nat) (q_th_sets : Nat) (q_th_told : Nat) (q_th_up : Nat) (q_th_down : Nat) (q_th_world : Nat) (q_th_tight : Nat) (q_th_sum : Nat) (q_th_now : Nat) (n_th_saying : Nat) (n_th_up : Nat) (n_th_down : Nat) (n_th_world : Nat) (n_th_tight : Nat) (n_th_sum : Nat) (n_th_now : Nat) (th_thrown : Int32) (th_typed : Int32) (th_next : Int32) (th_token : Int32) (th_place : Int32) (th_value : Int32) (th_fault : Int32) (th_many : Int32) (th_signMany : Int32) (th_setMany : Int32) (th_corners : Int32) (th_isLoaded : Int32) (th_loaded : Int32) (th_widened : Int32) (th_wide : Int32) (th_boundUp : Int64) (th_boundDown : Int64) (th_saying : Nat → Int32) (th_up : Nat → Int64) (th_down : Nat → Int64) (th_world : Nat → Int32) (th_tight : Nat → Int32) (th_sum : Nat → Int64) (th_now : Nat → Int64) (x1 : Int32) (x2 : Int32) (x3 : Int32) (x4 : Int32) (K : Nat) (r0 : Int64) (th_thrown' : Int32) (th_corners' : Int32) (th_isLoaded' : Int32) (th_loaded' : Int32) (th_widened' : Int32) (th_boundUp' : Int64) (th_boundDown' : Int64) (th_up' : Nat → Int64) (th_down' : Nat → Int64) (th_world' : Nat → Int32) (th_tight' : Nat → Int32) (th_sum' : Nat → Int64) (th_now' : Nat → Int64) (h : f_X9_differ K n_th_saying n_th_up n_th_down n_th_world n_th_tight n_th_sum n_th_now th_many th_corners th_isLoaded th_loaded th_widened th_wide th_boundUp th_boundDown th_saying th_up th_down th_world th_tight th_sum th_now x1 x2 x3 x4 = some (r0, th_thrown', th_corners', th_isLoaded', th_loaded', th_widened', th_boundUp', th_boundDown', th_up', th_down', th_world', th_tight', th_sum', th_now')) : st l yX9_differ wsX9_differ ({ frames := 7, cells := 0, slots := 0, locals := 183 }) E D tc [.ref q_th, .int x1, .int x2, .int x3, .int x4] (w_X9_differ tc q_th q_th_text q_th_saying q_th_signs q_th_sets q_th_told q_th_up q_th_down q_th_world q_th_tight q_th_sum q_th_now n_th_saying n_th_up n_th_down n_th_world n_th_tight n_th_sum n_th_now th_thrown th_typed th_next th_token th_place th_value th_fault th_many th_signMany th_setMany th_corners th_isLoaded th_loaded th_widened th_wide th_boundUp th_boundDown th_saying th_up th_down th_world th_tight th_sum th_now) (some (.long r0)) (w_X9_differ tc q_th q_th_text q_th_saying q_th_signs q_th_sets q_th_told q_th_up q_th_down q_th_world q_th_tight q_th_sum q_th_now n_th_saying n_th_up n_th_down n_th_world n_th_tight n_th_sum n_th_now th_thrown' th_typed th_next th_token th_place th_value th_fault th_many th_signMany th_setMany th_corners' th_isLoaded' th_loaded' th_widened' th_wide th_boundUp' th_boundDown' th_saying th_up' th_down' th_world' th_tight' th_sum' th_now') := by
  refine st_enter (cc := cX9_differ) (maxL := 5) (ret := (some .long)) (by decide) rfl (Nat.le_of_ble_eq_true rfl) ?_
  intro p e s m below meth c A ls hx hb hr hml hts hown hlocks hK hN hE hA hP hD hS hl
  have hl : lv_has ls 5 [(0, .ref q_th), (1, .int x1), (2, .int x2), (3, .int x3), (4, .int x4)] := hl
  have hinX9 : ∀ w ∈ wsX90, w ∈ wsX9_differ := by decide +kernel
  generalize hav : ([.ref q_th, .int x1, .int x2, .int x3, .int x4] : List Value).toArray = av at hts ⊢
  unfold f_X9_differ at h
  refine lv_aload_n hx hb dX9_differ_0 rfl (lv_at hl 0 rfl) ?_
  refine lv_iconst (v := (0 : Int32)) hx hb dX9_differ_1 (by decide) ?_
  refine va_put (D := D) (ci := 9) (v := .int (0 : Int32)) (ty := .int) (C := RX9) (T := TX9) (N := 28) hx hb hts hinX9 tyX9 tyX9_ok nmX9 hown hK hP hD hS 0 rfl rfl 0 (by decide) (hts (.fieldLink RX9 45 "ChanceBoundsModel" "thrown" "I") (by decide +kernel)) (fun _ h9 => h9) rfl (by decide +kernel) rfl rfl (Nat.le_of_ble_eq_true rfl) dX9_differ_2 (fun H locs hP hD hS => ?_)
  have hP : va_P D vwCl (w_X9_differ tc q_th q_th_text q_th_saying q_th_signs q_th_sets q_th_told q_th_up q_th_down q_th_world q_th_tight q_th_sum q_th_now n_th_saying n_th_up n_th_down n_th_world n_th_tight n_th_sum n_th_now (0 : Int32) th_typed th_next th_token th_place th_value th_fault th_many th_signMany th_setMany th_corners th_isLoaded th_loaded th_widened th_wide th_boundUp th_boundDown th_saying th_up th_down th_world th_tight th_sum th_now) H := hP
  have hD : va_D A (w_X9_differ tc q_th q_th_text q_th_saying q_th_signs q_th_sets q_th_told q_th_up q_th_down q_th_world q_th_tight q_th_sum q_th_now n_th_saying n_th_up n_th_down n_th_world n_th_tight n_th_sum n_th_now (0 : Int32) th_typed th_next th_token th_place th_value th_fault th_many th_signMany th_setMany th_corners th_isLoaded th_loaded th_widened th_wide th_boundUp th_boundDown th_saying th_up th_down th_world th_tight th_sum th_now) := hD
  refine lv_aload_n hx hb dX9_differ_5 rfl (lv_at hl 0 rfl) ?_
  refine lv_iload_n hx hb dX9_differ_6 rfl (lv_at hl 1 rfl) ?_
  refine lv_iload_n hx hb dX9_differ_7 rfl (lv_at hl 2 rfl) ?_
  refine lv_iload_n hx hb dX9_differ_8 rfl (lv_at hl 3 rfl) ?_
  refine lv_iload hx hb dX9_differ_9 (lv_at hl 4 rfl) ?_
  refine lv_iconst (v := (1 : Int32)) hx hb dX9_differ_11 (by decide) ?_
  obtain ⟨⟨z1_0, z1_1, z1_2, z1_3, z1_4, z1_5, z1_6, z1_7, z1_8, z1_9, z1_10, z1_11, z1_12⟩, hc1, h⟩ := bd_ok h
  refine st_callV (As := [.int x1, .int x2, .int x3, .int x4, .int (1 : Int32)]) (rest := []) (pos := (List.range' 0 8)) ⟨hx, hb, hml, hown, hts⟩ (s_X9_asked (l := l) (D := D) (tc := tc) hEok q_th q_th_text q_th_saying q_th_signs q_th_sets q_th_told q_th_up q_th_down q_th_world q_th_tight q_th_sum q_th_now n_th_saying n_th_up n_th_down n_th_world n_th_tight n_th_sum n_th_now (0 : Int32) th_typed th_next th_token th_place th_value th_fault th_many th_signMany th_setMany th_corners th_isLoaded th_loaded th_widened th_wide th_boundUp th_boundDown th_saying th_up th_down th_world th_tight th_sum th_now x1 x2 x3 x4 (1 : Int32) K z1_0 z1_1 z1_2 z1_3 z1_4 z1_5 z1_6 z1_7 z1_8 z1_9 z1_10 z1_11 z1_12 hc1) (cwV 5 hts gX9_differ_X9_asked rfl rfl rfl (by decide +kernel) ⟨Nat.le_of_ble_eq_true rfl, Nat.le_of_ble_eq_true rfl⟩) (st_recv (ci := 9) (q0 := 0) hK hP rfl rfl) hEok hE hK hN hP hD hS hA (st_segpos (m := 8) (by rfl) (by rfl) (by rfl)) (st_seg_nd _ _) (wa_X9_asked.trans wa_X9_asked.symm) rfl hl.1 rfl (Nat.le_of_ble_eq_true rfl) dX9_differ_12 ⟨Nat.zero_le _, Nat.zero_le _⟩ (fun H locs hP hD hS => ?_)
  have hP : va_P D vwCl (w_X9_differ tc q_th q_th_text q_th_saying q_th_signs q_th_sets q_th_told q_th_up q_th_down q_th_world q_th_tight q_th_sum q_th_now n_th_saying n_th_up n_th_down n_th_world n_th_tight n_th_sum n_th_now (0 : Int32) th_typed th_next th_token th_place th_value th_fault th_many th_signMany th_setMany z1_1 z1_2 z1_3 z1_4 th_wide z1_5 z1_6 th_saying z1_7 z1_8 z1_9 z1_10 z1_11 z1_12) H := st_segP (w0 := (w_X9_asked tc q_th q_th_text q_th_saying q_th_signs q_th_sets q_th_told q_th_up q_th_down q_th_world q_th_tight q_th_sum q_th_now n_th_saying n_th_up n_th_down n_th_world n_th_tight n_th_sum n_th_now (0 : Int32) th_typed th_next th_token th_place th_value th_fault th_many th_signMany th_setMany th_corners th_isLoaded th_loaded th_widened th_wide th_boundUp th_boundDown th_saying th_up th_down th_world th_tight th_sum th_now)) (m := 8) (by rfl) (by rfl) (by rfl) (by rfl) (by rfl) hP
  have hD : va_D A (w_X9_differ tc q_th q_th_text q_th_saying q_th_signs q_th_sets q_th_told q_th_up q_th_down q_th_world q_th_tight q_th_sum q_th_now n_th_saying n_th_up n_th_down n_th_world n_th_tight n_th_sum n_th_now (0 : Int32) th_typed th_next th_token th_place th_value th_fault th_many th_signMany th_setMany z1_1 z1_2 z1_3 z1_4 th_wide z1_5 z1_6 th_saying z1_7 z1_8 z1_9 z1_10 z1_11 z1_12) := st_segD (w0 := (w_X9_asked tc q_th q_th_text q_th_saying q_th_signs q_th_sets q_th_told q_th_up q_th_down q_th_world q_th_tight q_th_sum q_th_now n_th_saying n_th_up n_th_down n_th_world n_th_tight n_th_sum n_th_now (0 : Int32) th_typed th_next th_token th_place th_value th_fault th_many th_signMany th_setMany th_corners th_isLoaded th_loaded th_widened th_wide th_boundUp th_boundDown th_saying th_up th_down th_world th_tight th_sum th_now)) (m := 8) (by rfl) (by rfl) (by rfl) (by rfl) (by rfl) hD
  simp only [Option.some.injEq, Prod.mk.injEq] at h
  obtain ⟨rfl, rfl, rfl, rfl, rfl, rfl, rfl, rfl, rfl, rfl, rfl, rfl, rfl, rfl⟩ := h
  exact st_lret hx hb hr hlocks hP hD hS dX9_differ_15
def f_X9_first_L53 (n_th_up : Nat) (n_th_down : Nat) (th_up : Nat → Int64) (th_down : Nat → Int64) (x3 : Int32) (x4 : Int32) (s53 : Int64 × Int32) : Option ((Int64) ⊕ (Int64 × Int32)) :=
  match s53 with
  | (x5, x7) =>
    if (8 : Int32) ≤ x7 then
      some (.inl x5)
    else
      if (lg_cmp x5 (0 : Int64)) = (0 : Int32) then
        if (((8 : Int32) * x4) + x7) < 0 ∨ n_th_up ≤ (((8 : Int32) * x4) + x7).toNatClampNeg then none else
        if x3 < 0 ∨ n_th_down ≤ x3.toNatClampNeg then none else
        if (((8 : Int32) * x3) + x7) < 0 ∨ n_th_up ≤ (((8 : Int32) * x3) + x7).toNatClampNeg then none else
        if x4 < 0 ∨ n_th_down ≤ x4.toNatClampNeg then none else
        (some (((th_up (((8 : Int32) * x4) + x7).toNatClampNeg) * (th_down x3.toNatClampNeg)) - ((th_up (((8 : Int32) * x3) + x7).toNatClampNeg) * (th_down x4.toNatClampNeg)) : Int64)).bind fun z7 =>
        some (.inr (z7, x7 + 1))
      else
        some (.inl x5)
def f_X9_first_L38 (K : Nat) (n_th_up : Nat) (n_th_down : Nat) (th_corners : Int32) (th_up : Nat → Int64) (th_down : Nat → Int64) (s38 : Int32 × Int32) : Option ((Int32) ⊕ (Int32 × Int32)) :=
  match s38 with
  | (x3, x4) =>
    if th_corners ≤ x4 then
      some (.inl x3)
    else
      (lp (f_X9_first_L53 n_th_up n_th_down th_up th_down x3 x4) K ((0 : Int64), (0 : Int32))).bind fun z9_0 =>
      if (0 : Int32) ≤ (lg_cmp z9_0 (0 : Int64)) then
        some (.inr (x3, x4 + 1))
      else
        some (.inr (x4, x4 + 1))
def f_X9_first (K : Nat) (n_th_saying : Nat) (n_th_up : Nat) (n_th_down : Nat) (n_th_world : Nat) (n_th_tight : Nat) (n_th_sum : Nat) (n_th_now : Nat) (th_many : Int32) (th_corners : Int32) (th_isLoaded : Int32) (th_loaded : Int32) (th_widened : Int32) (th_wide : Int32) (th_saying : Nat → Int32) (th_up : Nat → Int64) (th_down : Nat → Int64) (th_world : Nat → Int32) (th_tight : Nat → Int32) (th_sum : Nat → Int64) (th_now : Nat → Int64) (x1 : Int32) (x2 : Int32) : Option (Int64 × Int32 × Int32 × Int32 × Int32 × Int32 × (Nat → Int64) × (Nat → Int64) × (Nat → Int32) × (Nat → Int32) × (Nat → Int64) × (Nat → Int64)) :=
  (f_X9_in x1 (0 : Int32) (7 : Int32)).bind fun z11_0 =>
  if z11_0 = (0 : Int32) then
    some ((-1000000000000000000 : Int64), (0 : Int32), th_corners, th_isLoaded, th_loaded, th_widened, th_up, th_down, th_world, th_tight, th_sum, th_now)
  else
    (f_X9_isBit x2).bind fun z13_0 =>
    if z13_0 = (0 : Int32) then
      some ((-1000000000000000000 : Int64), (0 : Int32), th_corners, th_isLoaded, th_loaded, th_widened, th_up, th_down, th_world, th_tight, th_sum, th_now)
    else
      (f_X9_loadsOn K n_th_saying n_th_up n_th_down n_th_world n_th_tight n_th_sum n_th_now th_many th_corners th_isLoaded th_loaded th_wide th_saying th_up th_down th_world th_tight th_sum th_now).bind fun z15 => match z15 with
      | (z15_0, z15_1, z15_2, z15_3, z15_4, z15_5, z15_6, z15_7, z15_8, z15_9, z15_10) =>
        if z15_0 = (0 : Int32) then
          some ((-1000000000000000000 : Int64), (0 : Int32), z15_1, z15_2, z15_3, z15_4, z15_5, z15_6, z15_7, z15_8, z15_9, z15_10)
        else
          (lp (f_X9_first_L38 K n_th_up n_th_down z15_1 z15_5 z15_6) K ((0 : Int32), (1 : Int32))).bind fun z17_0 =>
          if (((8 : Int32) * z17_0) + x1) < 0 ∨ n_th_up ≤ (((8 : Int32) * z17_0) + x1).toNatClampNeg then none else
          if z17_0 < 0 ∨ n_th_down ≤ z17_0.toNatClampNeg then none else
          (f_X9_tells K (z15_5 (((8 : Int32) * z17_0) + x1).toNatClampNeg) (z15_6 z17_0.toNatClampNeg) x2).bind fun z20_0 =>
          some (z20_0, (0 : Int32), z15_1, z15_2, z15_3, z15_4, z15_5, z15_6, z15_7, z15_8, z15_9, z15_10)
abbrev w_X9_first (tc : Nat → ClassId) (q_th : Nat) (q_th_text : Nat) (q_th_saying : Nat) (q_th_signs : Nat) (q_th_sets : Nat) (q_th_told : Nat) (q_th_up : Nat) (q_th_down : Nat) (q_th_world : Nat) (q_th_tight : Nat) (q_th_sum : Nat) (q_th_now : Nat) (n_th_saying : Nat) (n_th_up : Nat) (n_th_down : Nat) (n_th_world : Nat) (n_th_tight : Nat) (n_th_sum : Nat) (n_th_now : Nat) (th_thrown : Int32) (th_typed : Int32) (th_next : Int32) (th_token : Int32) (th_place : Int32) (th_value : Int32) (th_fault : Int32) (th_many : Int32) (th_signMany : Int32) (th_setMany : Int32) (th_corners : Int32) (th_isLoaded : Int32) (th_loaded : Int32) (th_widened : Int32) (th_wide : Int32) (th_boundUp : Int64) (th_boundDown : Int64) (th_saying : Nat → Int32) (th_up : Nat → Int64) (th_down : Nat → Int64) (th_world : Nat → Int32) (th_tight : Nat → Int32) (th_sum : Nat → Int64) (th_now : Nat → Int64) : va_W := [(q_th, .inr (9, [.int th_thrown, .ref q_th_text, .int th_typed, .int th_next, .int th_token, .int th_place, .int th_value, .int th_fault, .int th_many, .ref q_th_saying, .ref q_th_signs, .ref q_th_sets, .int th_signMany, .int th_setMany, .ref q_th_told, .int th_corners, .int th_isLoaded, .int th_loaded, .ref q_th_up, .ref q_th_down, .ref q_th_world, .ref q_th_tight, .ref q_th_sum, .ref q_th_now, .int th_widened, .int th_wide, .long th_boundUp, .long th_boundDown])), (q_th_saying, .inl (tc 0, n_th_saying, .inl th_saying)), (q_th_up, .inl (tc 1, n_th_up, .inr (.inl th_up))), (q_th_down, .inl (tc 1, n_th_down, .inr (.inl th_down))), (q_th_world, .inl (tc 0, n_th_world, .inl th_world)), (q_th_tight, .inl (tc 0, n_th_tight, .inl th_tight)), (q_th_sum, .inl (tc 1, n_th_sum, .inr (.inl th_sum))), (q_th_now, .inl (tc 1, n_th_now, .inr (.inl th_now)))]
theorem wa_X9_first {tc : Nat → ClassId} {q_th : Nat} {q_th_text : Nat} {q_th_saying : Nat} {q_th_signs : Nat} {q_th_sets : Nat} {q_th_told : Nat} {q_th_up : Nat} {q_th_down : Nat} {q_th_world : Nat} {q_th_tight : Nat} {q_th_sum : Nat} {q_th_now : Nat} {n_th_saying : Nat} {n_th_up : Nat} {n_th_down : Nat} {n_th_world : Nat} {n_th_tight : Nat} {n_th_sum : Nat} {n_th_now : Nat} {th_thrown : Int32} {th_typed : Int32} {th_next : Int32} {th_token : Int32} {th_place : Int32} {th_value : Int32} {th_fault : Int32} {th_many : Int32} {th_signMany : Int32} {th_setMany : Int32} {th_corners : Int32} {th_isLoaded : Int32} {th_loaded : Int32} {th_widened : Int32} {th_wide : Int32} {th_boundUp : Int64} {th_boundDown : Int64} {th_saying : Nat → Int32} {th_up : Nat → Int64} {th_down : Nat → Int64} {th_world : Nat → Int32} {th_tight : Nat → Int32} {th_sum : Nat → Int64} {th_now : Nat → Int64} : (w_X9_first tc q_th q_th_text q_th_saying q_th_signs q_th_sets q_th_told q_th_up q_th_down q_th_world q_th_tight q_th_sum q_th_now n_th_saying n_th_up n_th_down n_th_world n_th_tight n_th_sum n_th_now th_thrown th_typed th_next th_token th_place th_value th_fault th_many th_signMany th_setMany th_corners th_isLoaded th_loaded th_widened th_wide th_boundUp th_boundDown th_saying th_up th_down th_world th_tight th_sum th_now).map (fun q => q.1) = [q_th, q_th_saying, q_th_up, q_th_down, q_th_world, q_th_tight, q_th_sum, q_th_now] := rfl
set_option maxHeartbeats 4000000 in
set_option maxRecDepth 100000 in
theorem s_X9_first {l : Launch} {E : (Nat → Prop) → State → Prop} (hEok : st_Eok E) {D : va_G} {tc : Nat → ClassId} (q_th : Nat) (q_th_text : Nat) (q_th_saying : Nat) (q_th_signs : Nat) (q_th_sets : Nat) (q_th_told : Nat) (q_th_up : Nat) (q_th_down : Nat) (q_th_world : Nat) (q_th_tight : Nat) (q_th_sum : Nat) (q_th_now : Nat) (n_th_saying : Nat) (n_th_up : Nat) (n_th_down : Nat) (n_th_world : Nat) (n_th_tight : Nat) (n_th_sum : Nat) (n_th_now : Nat) (th_thrown : Int32) (th_typed : Int32) (th_next : Int32) (th_token : Int32) (th_place : Int32) (th_value : Int32) (th_fault : Int32) (th_many : Int32) (th_signMany : Int32) (th_setMany : Int32) (th_corners : Int32) (th_isLoaded : Int32) (th_loaded : Int32) (th_widened : Int32) (th_wide : Int32) (th_boundUp : Int64) (th_boundDown : Int64) (th_saying : Nat → Int32) (th_up : Nat → Int64) (th_down : Nat → Int64) (th_world : Nat → Int32) (th_tight : Nat → Int32) (th_sum : Nat → Int64) (th_now : Nat → Int64) (x1 : Int32) (x2 : Int32) (K : Nat) (r0 : Int64) (th_thrown' : Int32) (th_corners' : Int32) (th_isLoaded' : Int32) (th_loaded' : Int32) (th_widened' : Int32) (th_up' : Nat → Int64) (th_down' : Nat → Int64) (th_world' : Nat → Int32) (th_tight' : Nat → Int32) (th_sum' : Nat → Int64) (th_now' : Nat → Int64) (h : f_X9_first K n_th_saying n_th_up n_th_down n_th_world n_th_tight n_th_sum n_th_now th_many th_corners th_isLoaded th_loaded th_widened th_wide th_saying th_up th_down th_world th_tight th_sum th_now x1 x2 = some (r0, th_thrown', th_corners', th_isLoaded', th_loaded', th_widened', th_up', th_down', th_world', th_tight', th_sum', th_now')) : st l yX9_first wsX9_first ({ frames := 6, cells := 0, slots := 0, locals := 158 }) E D tc [.ref q_th, .int x1, .int x2] (w_X9_first tc q_th q_th_text q_th_saying q_th_signs q_th_sets q_th_told q_th_up q_th_down q_th_world q_th_tight q_th_sum q_th_now n_th_saying n_th_up n_th_down n_th_world n_th_tight n_th_sum n_th_now th_thrown th_typed th_next th_token th_place th_value th_fault th_many th_signMany th_setMany th_corners th_isLoaded th_loaded th_widened th_wide th_boundUp th_boundDown th_saying th_up th_down th_world th_tight th_sum th_now) (some (.long r0)) (w_X9_first tc q_th q_th_text q_th_saying q_th_signs q_th_sets q_th_told q_th_up q_th_down q_th_world q_th_tight q_th_sum q_th_now n_th_saying n_th_up n_th_down n_th_world n_th_tight n_th_sum n_th_now th_thrown' th_typed th_next th_token th_place th_value th_fault th_many th_signMany th_setMany th_corners' th_isLoaded' th_loaded' th_widened' th_wide th_boundUp th_boundDown th_saying th_up' th_down' th_world' th_tight' th_sum' th_now') := by
  refine st_enter (cc := cX9_first) (maxL := 8) (ret := (some .long)) (by decide) rfl (Nat.le_of_ble_eq_true rfl) ?_
  intro p e s m below meth c A ls hx hb hr hml hts hown hlocks hK hN hE hA hP hD hS hl
  have hl : lv_has ls 8 [(0, .ref q_th), (1, .int x1), (2, .int x2)] := hl
  have hinX9 : ∀ w ∈ wsX90, w ∈ wsX9_first := by decide +kernel
  generalize hav : ([.ref q_th, .int x1, .int x2] : List Value).toArray = av at hts ⊢
  have L38 : ∀ (x1 : Int32) (x2 : Int32) (th_thrown : Int32) (th_corners : Int32) (th_isLoaded : Int32) (th_loaded : Int32) (th_widened : Int32) (th_up : Nat → Int64) (th_down : Nat → Int64) (th_world : Nat → Int32) (th_tight : Nat → Int32) (th_sum : Nat → Int64) (th_now : Nat → Int64), ∀ (k : Nat) (s38 : Int32 × Int32) (r : Int32), lp (f_X9_first_L38 K n_th_up n_th_down th_corners th_up th_down) k s38 = some r → (fun x3 : Int32 => ∀ (H : Heap) (locs : List Loc) (ls : Array Slot), va_P D vwCl (w_X9_first tc q_th q_th_text q_th_saying q_th_signs q_th_sets q_th_told q_th_up q_th_down q_th_world q_th_tight q_th_sum q_th_now n_th_saying n_th_up n_th_down n_th_world n_th_tight n_th_sum n_th_now th_thrown th_typed th_next th_token th_place th_value th_fault th_many th_signMany th_setMany th_corners th_isLoaded th_loaded th_widened th_wide th_boundUp th_boundDown th_saying th_up th_down th_world th_tight th_sum th_now) H → va_D A (w_X9_first tc q_th q_th_text q_th_saying q_th_signs q_th_sets q_th_told q_th_up q_th_down q_th_world q_th_tight q_th_sum q_th_now n_th_saying n_th_up n_th_down n_th_world n_th_tight n_th_sum n_th_now th_thrown th_typed th_next th_token th_place th_value th_fault th_many th_signMany th_setMany th_corners th_isLoaded th_loaded th_widened th_wide th_boundUp th_boundDown th_saying th_up th_down th_world th_tight th_sum th_now) → va_S A s.heap H locs → lv_has ls 8 [(0, .ref q_th), (1, .int x1), (2, .int x2), (3, .int x3)] → W p l e ({ frames := 6, cells := 0, slots := 0, locals := 158 } : Room) s m av below meth c H locs 0 0 (MQ below (st_Q D (w_X9_first tc q_th q_th_text q_th_saying q_th_signs q_th_sets q_th_told q_th_up q_th_down q_th_world q_th_tight q_th_sum q_th_now n_th_saying n_th_up n_th_down n_th_world n_th_tight n_th_sum n_th_now th_thrown' th_typed th_next th_token th_place th_value th_fault th_many th_signMany th_setMany th_corners' th_isLoaded' th_loaded' th_widened' th_wide th_boundUp th_boundDown th_saying th_up' th_down' th_world' th_tight' th_sum' th_now') (some (.long r0)) A) av s 0 0 A) (F0 m 136 ls [])) r → (fun s38 : Int32 × Int32 => match s38 with | (x3, x4) => ∀ (H : Heap) (locs : List Loc) (ls : Array Slot), va_P D vwCl (w_X9_first tc q_th q_th_text q_th_saying q_th_signs q_th_sets q_th_told q_th_up q_th_down q_th_world q_th_tight q_th_sum q_th_now n_th_saying n_th_up n_th_down n_th_world n_th_tight n_th_sum n_th_now th_thrown th_typed th_next th_token th_place th_value th_fault th_many th_signMany th_setMany th_corners th_isLoaded th_loaded th_widened th_wide th_boundUp th_boundDown th_saying th_up th_down th_world th_tight th_sum th_now) H → va_D A (w_X9_first tc q_th q_th_text q_th_saying q_th_signs q_th_sets q_th_told q_th_up q_th_down q_th_world q_th_tight q_th_sum q_th_now n_th_saying n_th_up n_th_down n_th_world n_th_tight n_th_sum n_th_now th_thrown th_typed th_next th_token th_place th_value th_fault th_many th_signMany th_setMany th_corners th_isLoaded th_loaded th_widened th_wide th_boundUp th_boundDown th_saying th_up th_down th_world th_tight th_sum th_now) → va_S A s.heap H locs → lv_has ls 8 [(0, .ref q_th), (1, .int x1), (2, .int x2), (3, .int x3), (4, .int x4)] → W p l e ({ frames := 6, cells := 0, slots := 0, locals := 158 } : Room) s m av below meth c H locs 0 0 (MQ below (st_Q D (w_X9_first tc q_th q_th_text q_th_saying q_th_signs q_th_sets q_th_told q_th_up q_th_down q_th_world q_th_tight q_th_sum q_th_now n_th_saying n_th_up n_th_down n_th_world n_th_tight n_th_sum n_th_now th_thrown' th_typed th_next th_token th_place th_value th_fault th_many th_signMany th_setMany th_corners' th_isLoaded' th_loaded' th_widened' th_wide th_boundUp th_boundDown th_saying th_up' th_down' th_world' th_tight' th_sum' th_now') (some (.long r0)) A) av s 0 0 A) (F0 m 38 ls [])) s38 := by
    intro x1 x2 th_thrown th_corners th_isLoaded th_loaded th_widened th_up th_down th_world th_tight th_sum th_now
    refine lp_W (f_X9_first_L38 K n_th_up n_th_down th_corners th_up th_down) (fun s38 : Int32 × Int32 => match s38 with | (x3, x4) => ∀ (H : Heap) (locs : List Loc) (ls : Array Slot), va_P D vwCl (w_X9_first tc q_th q_th_text q_th_saying q_th_signs q_th_sets q_th_told q_th_up q_th_down q_th_world q_th_tight q_th_sum q_th_now n_th_saying n_th_up n_th_down n_th_world n_th_tight n_th_sum n_th_now th_thrown th_typed th_next th_token th_place th_value th_fault th_many th_signMany th_setMany th_corners th_isLoaded th_loaded th_widened th_wide th_boundUp th_boundDown th_saying th_up th_down th_world th_tight th_sum th_now) H → va_D A (w_X9_first tc q_th q_th_text q_th_saying q_th_signs q_th_sets q_th_told q_th_up q_th_down q_th_world q_th_tight q_th_sum q_th_now n_th_saying n_th_up n_th_down n_th_world n_th_tight n_th_sum n_th_now th_thrown th_typed th_next th_token th_place th_value th_fault th_many th_signMany th_setMany th_corners th_isLoaded th_loaded th_widened th_wide th_boundUp th_boundDown th_saying th_up th_down th_world th_tight th_sum th_now) → va_S A s.heap H locs → lv_has ls 8 [(0, .ref q_th), (1, .int x1), (2, .int x2), (3, .int x3), (4, .int x4)] → W p l e ({ frames := 6, cells := 0, slots := 0, locals := 158 } : Room) s m av below meth c H locs 0 0 (MQ below (st_Q D (w_X9_first tc q_th q_th_text q_th_saying q_th_signs q_th_sets q_th_told q_th_up q_th_down q_th_world q_th_tight q_th_sum q_th_now n_th_saying n_th_up n_th_down n_th_world n_th_tight n_th_sum n_th_now th_thrown' th_typed th_next th_token th_place th_value th_fault th_many th_signMany th_setMany th_corners' th_isLoaded' th_loaded' th_widened' th_wide th_boundUp th_boundDown th_saying th_up' th_down' th_world' th_tight' th_sum' th_now') (some (.long r0)) A) av s 0 0 A) (F0 m 38 ls [])) (fun x3 : Int32 => ∀ (H : Heap) (locs : List Loc) (ls : Array Slot), va_P D vwCl (w_X9_first tc q_th q_th_text q_th_saying q_th_signs q_th_sets q_th_told q_th_up q_th_down q_th_world q_th_tight q_th_sum q_th_now n_th_saying n_th_up n_th_down n_th_world n_th_tight n_th_sum n_th_now th_thrown th_typed th_next th_token th_place th_value th_fault th_many th_signMany th_setMany th_corners th_isLoaded th_loaded th_widened th_wide th_boundUp th_boundDown th_saying th_up th_down th_world th_tight th_sum th_now) H → va_D A (w_X9_first tc q_th q_th_text q_th_saying q_th_signs q_th_sets q_th_told q_th_up q_th_down q_th_world q_th_tight q_th_sum q_th_now n_th_saying n_th_up n_th_down n_th_world n_th_tight n_th_sum n_th_now th_thrown th_typed th_next th_token th_place th_value th_fault th_many th_signMany th_setMany th_corners th_isLoaded th_loaded th_widened th_wide th_boundUp th_boundDown th_saying th_up th_down th_world th_tight th_sum th_now) → va_S A s.heap H locs → lv_has ls 8 [(0, .ref q_th), (1, .int x1), (2, .int x2), (3, .int x3)] → W p l e ({ frames := 6, cells := 0, slots := 0, locals := 158 } : Room) s m av below meth c H locs 0 0 (MQ below (st_Q D (w_X9_first tc q_th q_th_text q_th_saying q_th_signs q_th_sets q_th_told q_th_up q_th_down q_th_world q_th_tight q_th_sum q_th_now n_th_saying n_th_up n_th_down n_th_world n_th_tight n_th_sum n_th_now th_thrown' th_typed th_next th_token th_place th_value th_fault th_many th_signMany th_setMany th_corners' th_isLoaded' th_loaded' th_widened' th_wide th_boundUp th_boundDown th_saying th_up' th_down' th_world' th_tight' th_sum' th_now') (some (.long r0)) A) av s 0 0 A) (F0 m 136 ls [])) ?_
    rintro ⟨x3, x4⟩ o h ih hz H locs ls hP hD hS hl
    have L53 : ∀ (x1 : Int32) (x2 : Int32) (x3 : Int32) (x4 : Int32) (th_thrown : Int32) (th_corners : Int32) (th_isLoaded : Int32) (th_loaded : Int32) (th_widened : Int32) (th_up : Nat → Int64) (th_down : Nat → Int64) (th_world : Nat → Int32) (th_tight : Nat → Int32) (th_sum : Nat → Int64) (th_now : Nat → Int64), ∀ (k : Nat) (s53 : Int64 × Int32) (r : Int64), lp (f_X9_first_L53 n_th_up n_th_down th_up th_down x3 x4) k s53 = some r → (fun x5 : Int64 => ∀ (H : Heap) (locs : List Loc) (ls : Array Slot), va_P D vwCl (w_X9_first tc q_th q_th_text q_th_saying q_th_signs q_th_sets q_th_told q_th_up q_th_down q_th_world q_th_tight q_th_sum q_th_now n_th_saying n_th_up n_th_down n_th_world n_th_tight n_th_sum n_th_now th_thrown th_typed th_next th_token th_place th_value th_fault th_many th_signMany th_setMany th_corners th_isLoaded th_loaded th_widened th_wide th_boundUp th_boundDown th_saying th_up th_down th_world th_tight th_sum th_now) H → va_D A (w_X9_first tc q_th q_th_text q_th_saying q_th_signs q_th_sets q_th_told q_th_up q_th_down q_th_world q_th_tight q_th_sum q_th_now n_th_saying n_th_up n_th_down n_th_world n_th_tight n_th_sum n_th_now th_thrown th_typed th_next th_token th_place th_value th_fault th_many th_signMany th_setMany th_corners th_isLoaded th_loaded th_widened th_wide th_boundUp th_boundDown th_saying th_up th_down th_world th_tight th_sum th_now) → va_S A s.heap H locs → lv_has ls 8 [(0, .ref q_th), (1, .int x1), (2, .int x2), (3, .int x3), (4, .int x4), (5, .long x5)] → W p l e ({ frames := 6, cells := 0, slots := 0, locals := 158 } : Room) s m av below meth c H locs 0 0 (MQ below (st_Q D (w_X9_first tc q_th q_th_text q_th_saying q_th_signs q_th_sets q_th_told q_th_up q_th_down q_th_world q_th_tight q_th_sum q_th_now n_th_saying n_th_up n_th_down n_th_world n_th_tight n_th_sum n_th_now th_thrown' th_typed th_next th_token th_place th_value th_fault th_many th_signMany th_setMany th_corners' th_isLoaded' th_loaded' th_widened' th_wide th_boundUp th_boundDown th_saying th_up' th_down' th_world' th_tight' th_sum' th_now') (some (.long r0)) A) av s 0 0 A) (F0 m 116 ls [])) r → (fun s53 : Int64 × Int32 => match s53 with | (x5, x7) => ∀ (H : Heap) (locs : List Loc) (ls : Array Slot), va_P D vwCl (w_X9_first tc q_th q_th_text q_th_saying q_th_signs q_th_sets q_th_told q_th_up q_th_down q_th_world q_th_tight q_th_sum q_th_now n_th_saying n_th_up n_th_down n_th_world n_th_tight n_th_sum n_th_now th_thrown th_typed th_next th_token th_place th_value th_fault th_many th_signMany th_setMany th_corners th_isLoaded th_loaded th_widened th_wide th_boundUp th_boundDown th_saying th_up th_down th_world th_tight th_sum th_now) H → va_D A (w_X9_first tc q_th q_th_text q_th_saying q_th_signs q_th_sets q_th_told q_th_up q_th_down q_th_world q_th_tight q_th_sum q_th_now n_th_saying n_th_up n_th_down n_th_world n_th_tight n_th_sum n_th_now th_thrown th_typed th_next th_token th_place th_value th_fault th_many th_signMany th_setMany th_corners th_isLoaded th_loaded th_widened th_wide th_boundUp th_boundDown th_saying th_up th_down th_world th_tight th_sum th_now) → va_S A s.heap H locs → lv_has ls 8 [(0, .ref q_th), (1, .int x1), (2, .int x2), (3, .int x3), (4, .int x4), (5, .long x5), (7, .int x7)] → W p l e ({ frames := 6, cells := 0, slots := 0, locals := 158 } : Room) s m av below meth c H locs 0 0 (MQ below (st_Q D (w_X9_first tc q_th q_th_text q_th_saying q_th_signs q_th_sets q_th_told q_th_up q_th_down q_th_world q_th_tight q_th_sum q_th_now n_th_saying n_th_up n_th_down n_th_world n_th_tight n_th_sum n_th_now th_thrown' th_typed th_next th_token th_place th_value th_fault th_many th_signMany th_setMany th_corners' th_isLoaded' th_loaded' th_widened' th_wide th_boundUp th_boundDown th_saying th_up' th_down' th_world' th_tight' th_sum' th_now') (some (.long r0)) A) av s 0 0 A) (F0 m 53 ls [])) s53 := by
      intro x1 x2 x3 x4 th_thrown th_corners th_isLoaded th_loaded th_widened th_up th_down th_world th_tight th_sum th_now
      refine lp_W (f_X9_first_L53 n_th_up n_th_down th_up th_down x3 x4) (fun s53 : Int64 × Int32 => match s53 with | (x5, x7) => ∀ (H : Heap) (locs : List Loc) (ls : Array Slot), va_P D vwCl (w_X9_first tc q_th q_th_text q_th_saying q_th_signs q_th_sets q_th_told q_th_up q_th_down q_th_world q_th_tight q_th_sum q_th_now n_th_saying n_th_up n_th_down n_th_world n_th_tight n_th_sum n_th_now th_thrown th_typed th_next th_token th_place th_value th_fault th_many th_signMany th_setMany th_corners th_isLoaded th_loaded th_widened th_wide th_boundUp th_boundDown th_saying th_up th_down th_world th_tight th_sum th_now) H → va_D A (w_X9_first tc q_th q_th_text q_th_saying q_th_signs q_th_sets q_th_told q_th_up q_th_down q_th_world q_th_tight q_th_sum q_th_now n_th_saying n_th_up n_th_down n_th_world n_th_tight n_th_sum n_th_now th_thrown th_typed th_next th_token th_place th_value th_fault th_many th_signMany th_setMany th_corners th_isLoaded th_loaded th_widened th_wide th_boundUp th_boundDown th_saying th_up th_down th_world th_tight th_sum th_now) → va_S A s.heap H locs → lv_has ls 8 [(0, .ref q_th), (1, .int x1), (2, .int x2), (3, .int x3), (4, .int x4), (5, .long x5), (7, .int x7)] → W p l e ({ frames := 6, cells := 0, slots := 0, locals := 158 } : Room) s m av below meth c H locs 0 0 (MQ below (st_Q D (w_X9_first tc q_th q_th_text q_th_saying q_th_signs q_th_sets q_th_told q_th_up q_th_down q_th_world q_th_tight q_th_sum q_th_now n_th_saying n_th_up n_th_down n_th_world n_th_tight n_th_sum n_th_now th_thrown' th_typed th_next th_token th_place th_value th_fault th_many th_signMany th_setMany th_corners' th_isLoaded' th_loaded' th_widened' th_wide th_boundUp th_boundDown th_saying th_up' th_down' th_world' th_tight' th_sum' th_now') (some (.long r0)) A) av s 0 0 A) (F0 m 53 ls [])) (fun x5 : Int64 => ∀ (H : Heap) (locs : List Loc) (ls : Array Slot), va_P D vwCl (w_X9_first tc q_th q_th_text q_th_saying q_th_signs q_th_sets q_th_told q_th_up q_th_down q_th_world q_th_tight q_th_sum q_th_now n_th_saying n_th_up n_th_down n_th_world n_th_tight n_th_sum n_th_now th_thrown th_typed th_next th_token th_place th_value th_fault th_many th_signMany th_setMany th_corners th_isLoaded th_loaded th_widened th_wide th_boundUp th_boundDown th_saying th_up th_down th_world th_tight th_sum th_now) H → va_D A (w_X9_first tc q_th q_th_text q_th_saying q_th_signs q_th_sets q_th_told q_th_up q_th_down q_th_world q_th_tight q_th_sum q_th_now n_th_saying n_th_up n_th_down n_th_world n_th_tight n_th_sum n_th_now th_thrown th_typed th_next th_token th_place th_value th_fault th_many th_signMany th_setMany th_corners th_isLoaded th_loaded th_widened th_wide th_boundUp th_boundDown th_saying th_up th_down th_world th_tight th_sum th_now) → va_S A s.heap H locs → lv_has ls 8 [(0, .ref q_th), (1, .int x1), (2, .int x2), (3, .int x3), (4, .int x4), (5, .long x5)] → W p l e ({ frames := 6, cells := 0, slots := 0, locals := 158 } : Room) s m av below meth c H locs 0 0 (MQ below (st_Q D (w_X9_first tc q_th q_th_text q_th_saying q_th_signs q_th_sets q_th_told q_th_up q_th_down q_th_world q_th_tight q_th_sum q_th_now n_th_saying n_th_up n_th_down n_th_world n_th_tight n_th_sum n_th_now th_thrown' th_typed th_next th_token th_place th_value th_fault th_many th_signMany th_setMany th_corners' th_isLoaded' th_loaded' th_widened' th_wide th_boundUp th_boundDown th_saying th_up' th_down' th_world' th_tight' th_sum' th_now') (some (.long r0)) A) av s 0 0 A) (F0 m 116 ls [])) ?_
      rintro ⟨x5, x7⟩ o h ih hz H locs ls hP hD hS hl
      unfold f_X9_first_L53 at h
      refine lv_iload hx hb dX9_first_53 (lv_at hl 6 rfl) ?_
      refine lv_bipush (v := (8 : Int32)) hx hb dX9_first_55 (by decide) ?_
      refine lv_icmp_ge (tgt := 116) hx hb dX9_first_57 (by decide) (fun c1 => ?_) (fun c1 => ?_)
      · replace h := ifp c1 h
        cases h
        exact hz _ rfl _ _ _ hP hD hS (lv_sub hl [0, 1, 2, 3, 4, 5] rfl)
      · replace h := ifn c1 h
        refine lv_lload hx hb dX9_first_60 (lv_at hl 5 rfl) ?_
        refine lv_lconst (v := (0 : Int64)) hx hb dX9_first_62 (by decide) ?_
        refine W.lcmp hx hb dX9_first_63 ?_
        refine lv_if_ne (tgt := 116) hx hb dX9_first_64 (by decide) (fun c2 => ?_) (fun c2 => ?_)
        · replace h := ifn c2 h
          cases h
          exact hz _ rfl _ _ _ hP hD hS (lv_sub hl [0, 1, 2, 3, 4, 5] rfl)
        · replace h := ifp c2 h
          refine lv_aload_n hx hb dX9_first_67 rfl (lv_at hl 0 rfl) ?_
          refine va_get (D := D) (ci := 9) (v := .ref q_th_up) (C := RX9) (T := TX9) (N := 28) hx hb hts hinX9 hown hK hP 0 rfl rfl 18 (by decide) (hts (.fieldLink RX9 26 "ChanceBoundsModel" "up" "[J") (by decide +kernel)) (fun _ h9 => h9) rfl dX9_first_68 ?_
          refine lv_bipush (v := (8 : Int32)) hx hb dX9_first_71 (by decide) ?_
          refine lv_iload hx hb dX9_first_73 (lv_at hl 4 rfl) ?_
          refine lv_imul hx hb dX9_first_75 ?_
          refine lv_iload hx hb dX9_first_76 (lv_at hl 6 rfl) ?_
          refine lv_iadd hx hb dX9_first_78 ?_
          obtain ⟨g3, h⟩ := gd_ok h
          refine va_lald hx hb hK hP 2 1 rfl rfl g3 dX9_first_79 ?_
          refine lv_aload_n hx hb dX9_first_80 rfl (lv_at hl 0 rfl) ?_
          refine va_get (D := D) (ci := 9) (v := .ref q_th_down) (C := RX9) (T := TX9) (N := 28) hx hb hts hinX9 hown hK hP 0 rfl rfl 19 (by decide) (hts (.fieldLink RX9 30 "ChanceBoundsModel" "down" "[J") (by decide +kernel)) (fun _ h9 => h9) rfl dX9_first_81 ?_
          refine lv_iload_n hx hb dX9_first_84 rfl (lv_at hl 3 rfl) ?_
          obtain ⟨g4, h⟩ := gd_ok h
          refine va_lald hx hb hK hP 3 1 rfl rfl g4 dX9_first_85 ?_
          refine lv_lmul hx hb dX9_first_86 ?_
          refine lv_aload_n hx hb dX9_first_87 rfl (lv_at hl 0 rfl) ?_
          refine va_get (D := D) (ci := 9) (v := .ref q_th_up) (C := RX9) (T := TX9) (N := 28) hx hb hts hinX9 hown hK hP 0 rfl rfl 18 (by decide) (hts (.fieldLink RX9 26 "ChanceBoundsModel" "up" "[J") (by decide +kernel)) (fun _ h9 => h9) rfl dX9_first_88 ?_
          refine lv_bipush (v := (8 : Int32)) hx hb dX9_first_91 (by decide) ?_
          refine lv_iload_n hx hb dX9_first_93 rfl (lv_at hl 3 rfl) ?_
          refine lv_imul hx hb dX9_first_94 ?_
          refine lv_iload hx hb dX9_first_95 (lv_at hl 6 rfl) ?_
          refine lv_iadd hx hb dX9_first_97 ?_
          obtain ⟨g5, h⟩ := gd_ok h
          refine va_lald hx hb hK hP 2 1 rfl rfl g5 dX9_first_98 ?_
          refine lv_aload_n hx hb dX9_first_99 rfl (lv_at hl 0 rfl) ?_
          refine va_get (D := D) (ci := 9) (v := .ref q_th_down) (C := RX9) (T := TX9) (N := 28) hx hb hts hinX9 hown hK hP 0 rfl rfl 19 (by decide) (hts (.fieldLink RX9 30 "ChanceBoundsModel" "down" "[J") (by decide +kernel)) (fun _ h9 => h9) rfl dX9_first_100 ?_
          refine lv_iload hx hb dX9_first_103 (lv_at hl 4 rfl) ?_
          obtain ⟨g6, h⟩ := gd_ok h
          refine va_lald hx hb hK hP 3 1 rfl rfl g6 dX9_first_105 ?_
          refine lv_lmul hx hb dX9_first_106 ?_
          refine lv_lsub hx hb dX9_first_107 ?_
          obtain ⟨z7, hzz7, h⟩ := bd_ok h
          refine st_nml (Option.some.inj hzz7) ?_
          refine lv_lstore (lv' := [(5, .long z7), (0, .ref q_th), (1, .int x1), (2, .int x2), (3, .int x3), (4, .int x4), (7, .int x7)]) hx hb dX9_first_108 hl (by decide) rfl (fun ls hl => ?_)
          refine lv_iinc (v := x7 + 1) (lv' := [(7, .int (x7 + 1)), (5, .long z7), (0, .ref q_th), (1, .int x1), (2, .int x2), (3, .int x3), (4, .int x4)]) hx hb dX9_first_110 hl (k := 6) rfl rfl (by decide) rfl (fun ls hl => ?_)
          refine lv_goto (tgt := 53) hx hb dX9_first_113 (by decide) ?_
          cases h
          exact ih _ rfl _ _ _ hP hD hS (lv_sub hl [2, 3, 4, 5, 6, 1, 0] rfl)
    unfold f_X9_first_L38 at h
    refine lv_iload hx hb dX9_first_38 (lv_at hl 4 rfl) ?_
    refine lv_aload_n hx hb dX9_first_40 rfl (lv_at hl 0 rfl) ?_
    refine va_get (D := D) (ci := 9) (v := .int th_corners) (C := RX9) (T := TX9) (N := 28) hx hb hts hinX9 hown hK hP 0 rfl rfl 15 (by decide) (hts (.fieldLink RX9 150 "ChanceBoundsModel" "corners" "I") (by decide +kernel)) (fun _ h9 => h9) rfl dX9_first_41 ?_
    refine lv_icmp_ge (tgt := 136) hx hb dX9_first_44 (by decide) (fun c8 => ?_) (fun c8 => ?_)
    · replace h := ifp c8 h
      cases h
      exact hz _ rfl _ _ _ hP hD hS (lv_sub hl [0, 1, 2, 3] rfl)
    · replace h := ifn c8 h
      refine lv_lconst (v := (0 : Int64)) hx hb dX9_first_47 (by decide) ?_
      refine lv_lstore (lv' := [(5, .long (0 : Int64)), (0, .ref q_th), (1, .int x1), (2, .int x2), (3, .int x3), (4, .int x4)]) hx hb dX9_first_48 hl (by decide) rfl (fun ls hl => ?_)
      refine lv_iconst (v := (0 : Int32)) hx hb dX9_first_50 (by decide) ?_
      refine lv_istore (lv' := [(7, .int (0 : Int32)), (5, .long (0 : Int64)), (0, .ref q_th), (1, .int x1), (2, .int x2), (3, .int x3), (4, .int x4)]) hx hb dX9_first_51 hl (by decide) rfl (fun ls hl => ?_)
      obtain ⟨z9_0, hl9, h⟩ := bd_ok h
      refine L53 x1 x2 x3 x4 th_thrown th_corners th_isLoaded th_loaded th_widened th_up th_down th_world th_tight th_sum th_now K _ _ hl9 ?_ _ _ _ hP hD hS (lv_sub hl [2, 3, 4, 5, 6, 1, 0] rfl)
      intro H locs ls hP hD hS hl
      refine lv_lload hx hb dX9_first_116 (lv_at hl 5 rfl) ?_
      refine lv_lconst (v := (0 : Int64)) hx hb dX9_first_118 (by decide) ?_
      refine W.lcmp hx hb dX9_first_119 ?_
      refine lv_if_ge (tgt := 128) hx hb dX9_first_120 (by decide) (fun c10 => ?_) (fun c10 => ?_)
      · replace h := ifp c10 h
        refine lv_iload_n hx hb dX9_first_128 rfl (lv_at hl 3 rfl) ?_
        refine lv_istore_n (lv' := [(3, .int x3), (0, .ref q_th), (1, .int x1), (2, .int x2), (4, .int x4), (5, .long z9_0)]) hx hb dX9_first_129 rfl hl (by decide) rfl (fun ls hl => ?_)
        refine lv_iinc (v := x4 + 1) (lv' := [(4, .int (x4 + 1)), (3, .int x3), (0, .ref q_th), (1, .int x1), (2, .int x2), (5, .long z9_0)]) hx hb dX9_first_130 hl (k := 4) rfl rfl (by decide) rfl (fun ls hl => ?_)
        refine lv_goto (tgt := 38) hx hb dX9_first_133 (by decide) ?_
        cases h
        exact ih _ rfl _ _ _ hP hD hS (lv_sub hl [2, 3, 4, 1, 0] rfl)
      · replace h := ifn c10 h
        refine lv_iload hx hb dX9_first_123 (lv_at hl 4 rfl) ?_
        refine lv_goto (tgt := 129) hx hb dX9_first_125 (by decide) ?_
        refine lv_istore_n (lv' := [(3, .int x4), (0, .ref q_th), (1, .int x1), (2, .int x2), (4, .int x4), (5, .long z9_0)]) hx hb dX9_first_129 rfl hl (by decide) rfl (fun ls hl => ?_)
        refine lv_iinc (v := x4 + 1) (lv' := [(4, .int (x4 + 1)), (3, .int x4), (0, .ref q_th), (1, .int x1), (2, .int x2), (5, .long z9_0)]) hx hb dX9_first_130 hl (k := 4) rfl rfl (by decide) rfl (fun ls hl => ?_)
        refine lv_goto (tgt := 38) hx hb dX9_first_133 (by decide) ?_
        cases h
        exact ih _ rfl _ _ _ hP hD hS (lv_sub hl [2, 3, 4, 1, 0] rfl)
  unfold f_X9_first at h
  refine lv_aload_n hx hb dX9_first_0 rfl (lv_at hl 0 rfl) ?_
  refine lv_iconst (v := (0 : Int32)) hx hb dX9_first_1 (by decide) ?_
  refine va_put (D := D) (ci := 9) (v := .int (0 : Int32)) (ty := .int) (C := RX9) (T := TX9) (N := 28) hx hb hts hinX9 tyX9 tyX9_ok nmX9 hown hK hP hD hS 0 rfl rfl 0 (by decide) (hts (.fieldLink RX9 45 "ChanceBoundsModel" "thrown" "I") (by decide +kernel)) (fun _ h9 => h9) rfl (by decide +kernel) rfl rfl (Nat.le_of_ble_eq_true rfl) dX9_first_2 (fun H locs hP hD hS => ?_)
  have hP : va_P D vwCl (w_X9_first tc q_th q_th_text q_th_saying q_th_signs q_th_sets q_th_told q_th_up q_th_down q_th_world q_th_tight q_th_sum q_th_now n_th_saying n_th_up n_th_down n_th_world n_th_tight n_th_sum n_th_now (0 : Int32) th_typed th_next th_token th_place th_value th_fault th_many th_signMany th_setMany th_corners th_isLoaded th_loaded th_widened th_wide th_boundUp th_boundDown th_saying th_up th_down th_world th_tight th_sum th_now) H := hP
  have hD : va_D A (w_X9_first tc q_th q_th_text q_th_saying q_th_signs q_th_sets q_th_told q_th_up q_th_down q_th_world q_th_tight q_th_sum q_th_now n_th_saying n_th_up n_th_down n_th_world n_th_tight n_th_sum n_th_now (0 : Int32) th_typed th_next th_token th_place th_value th_fault th_many th_signMany th_setMany th_corners th_isLoaded th_loaded th_widened th_wide th_boundUp th_boundDown th_saying th_up th_down th_world th_tight th_sum th_now) := hD
  refine lv_iload_n hx hb dX9_first_5 rfl (lv_at hl 1 rfl) ?_
  refine lv_iconst (v := (0 : Int32)) hx hb dX9_first_6 (by decide) ?_
  refine lv_bipush (v := (7 : Int32)) hx hb dX9_first_7 (by decide) ?_
  obtain ⟨z11_0, hc11, h⟩ := bd_ok h
  refine st_callS (As := [.int x1, .int (0 : Int32), .int (7 : Int32)]) (rest := []) (pos := []) ⟨hx, hb, hml, hown, hts⟩ (s_X9_in (l := l) (D := D) (tc := tc) hEok x1 (0 : Int32) (7 : Int32) z11_0 hc11) (va_cwS 3 hts gX9_first_X9_in rfl rfl rfl (by decide +kernel) ⟨Nat.le_of_ble_eq_true rfl, Nat.le_of_ble_eq_true rfl⟩) hEok hE hK hN hP hD hS hA rfl rfl rfl rfl hl.1 rfl (Nat.le_of_ble_eq_true rfl) dX9_first_9 ⟨Nat.zero_le _, Nat.zero_le _⟩ (fun H locs hP hD hS => ?_)
  have hP : va_P D vwCl (w_X9_first tc q_th q_th_text q_th_saying q_th_signs q_th_sets q_th_told q_th_up q_th_down q_th_world q_th_tight q_th_sum q_th_now n_th_saying n_th_up n_th_down n_th_world n_th_tight n_th_sum n_th_now (0 : Int32) th_typed th_next th_token th_place th_value th_fault th_many th_signMany th_setMany th_corners th_isLoaded th_loaded th_widened th_wide th_boundUp th_boundDown th_saying th_up th_down th_world th_tight th_sum th_now) H := hP
  have hD : va_D A (w_X9_first tc q_th q_th_text q_th_saying q_th_signs q_th_sets q_th_told q_th_up q_th_down q_th_world q_th_tight q_th_sum q_th_now n_th_saying n_th_up n_th_down n_th_world n_th_tight n_th_sum n_th_now (0 : Int32) th_typed th_next th_token th_place th_value th_fault th_many th_signMany th_setMany th_corners th_isLoaded th_loaded th_widened th_wide th_boundUp th_boundDown th_saying th_up th_down th_world th_tight th_sum th_now) := hD
  refine lv_if_eq (tgt := 29) hx hb dX9_first_12 (by decide) (fun c12 => ?_) (fun c12 => ?_)
  · replace h := ifp c12 h
    refine lv_ldc2 (v := (-1000000000000000000 : Int64)) hx hb hown (hts (.constantLong RX9 190 (-1000000000000000000)) (by decide +kernel)) dX9_first_29 ?_
    simp only [Option.some.injEq, Prod.mk.injEq] at h
    obtain ⟨rfl, rfl, rfl, rfl, rfl, rfl, rfl, rfl, rfl, rfl, rfl, rfl⟩ := h
    exact st_lret hx hb hr hlocks hP hD hS dX9_first_32
  · replace h := ifn c12 h
    refine lv_iload_n hx hb dX9_first_15 rfl (lv_at hl 2 rfl) ?_
    obtain ⟨z13_0, hc13, h⟩ := bd_ok h
    refine st_callS (As := [.int x2]) (rest := []) (pos := []) ⟨hx, hb, hml, hown, hts⟩ (s_X9_isBit (l := l) (D := D) (tc := tc) hEok x2 z13_0 hc13) (va_cwS 1 hts gX9_first_X9_isBit rfl rfl rfl (by decide +kernel) ⟨Nat.le_of_ble_eq_true rfl, Nat.le_of_ble_eq_true rfl⟩) hEok hE hK hN hP hD hS hA rfl rfl rfl rfl hl.1 rfl (Nat.le_of_ble_eq_true rfl) dX9_first_16 ⟨Nat.zero_le _, Nat.zero_le _⟩ (fun H locs hP hD hS => ?_)
    have hP : va_P D vwCl (w_X9_first tc q_th q_th_text q_th_saying q_th_signs q_th_sets q_th_told q_th_up q_th_down q_th_world q_th_tight q_th_sum q_th_now n_th_saying n_th_up n_th_down n_th_world n_th_tight n_th_sum n_th_now (0 : Int32) th_typed th_next th_token th_place th_value th_fault th_many th_signMany th_setMany th_corners th_isLoaded th_loaded th_widened th_wide th_boundUp th_boundDown th_saying th_up th_down th_world th_tight th_sum th_now) H := hP
    have hD : va_D A (w_X9_first tc q_th q_th_text q_th_saying q_th_signs q_th_sets q_th_told q_th_up q_th_down q_th_world q_th_tight q_th_sum q_th_now n_th_saying n_th_up n_th_down n_th_world n_th_tight n_th_sum n_th_now (0 : Int32) th_typed th_next th_token th_place th_value th_fault th_many th_signMany th_setMany th_corners th_isLoaded th_loaded th_widened th_wide th_boundUp th_boundDown th_saying th_up th_down th_world th_tight th_sum th_now) := hD
    refine lv_if_eq (tgt := 29) hx hb dX9_first_19 (by decide) (fun c14 => ?_) (fun c14 => ?_)
    · replace h := ifp c14 h
      refine lv_ldc2 (v := (-1000000000000000000 : Int64)) hx hb hown (hts (.constantLong RX9 190 (-1000000000000000000)) (by decide +kernel)) dX9_first_29 ?_
      simp only [Option.some.injEq, Prod.mk.injEq] at h
      obtain ⟨rfl, rfl, rfl, rfl, rfl, rfl, rfl, rfl, rfl, rfl, rfl, rfl⟩ := h
      exact st_lret hx hb hr hlocks hP hD hS dX9_first_32
    · replace h := ifn c14 h
      refine lv_aload_n hx hb dX9_first_22 rfl (lv_at hl 0 rfl) ?_
      obtain ⟨⟨z15_0, z15_1, z15_2, z15_3, z15_4, z15_5, z15_6, z15_7, z15_8, z15_9, z15_10⟩, hc15, h⟩ := bd_ok h
      refine st_callV (As := []) (rest := []) (pos := (List.range' 0 8)) ⟨hx, hb, hml, hown, hts⟩ (s_X9_loadsOn (l := l) (D := D) (tc := tc) hEok q_th q_th_text q_th_saying q_th_signs q_th_sets q_th_told q_th_up q_th_down q_th_world q_th_tight q_th_sum q_th_now n_th_saying n_th_up n_th_down n_th_world n_th_tight n_th_sum n_th_now (0 : Int32) th_typed th_next th_token th_place th_value th_fault th_many th_signMany th_setMany th_corners th_isLoaded th_loaded th_widened th_wide th_boundUp th_boundDown th_saying th_up th_down th_world th_tight th_sum th_now K z15_0 z15_1 z15_2 z15_3 z15_4 z15_5 z15_6 z15_7 z15_8 z15_9 z15_10 hc15) (cwV 0 hts gX9_first_X9_loadsOn rfl rfl rfl (by decide +kernel) ⟨Nat.le_of_ble_eq_true rfl, Nat.le_of_ble_eq_true rfl⟩) (st_recv (ci := 9) (q0 := 0) hK hP rfl rfl) hEok hE hK hN hP hD hS hA (st_segpos (m := 8) (by rfl) (by rfl) (by rfl)) (st_seg_nd _ _) (wa_X9_loadsOn.trans wa_X9_loadsOn.symm) rfl hl.1 rfl (Nat.le_of_ble_eq_true rfl) dX9_first_23 ⟨Nat.zero_le _, Nat.zero_le _⟩ (fun H locs hP hD hS => ?_)
      have hP : va_P D vwCl (w_X9_first tc q_th q_th_text q_th_saying q_th_signs q_th_sets q_th_told q_th_up q_th_down q_th_world q_th_tight q_th_sum q_th_now n_th_saying n_th_up n_th_down n_th_world n_th_tight n_th_sum n_th_now (0 : Int32) th_typed th_next th_token th_place th_value th_fault th_many th_signMany th_setMany z15_1 z15_2 z15_3 z15_4 th_wide th_boundUp th_boundDown th_saying z15_5 z15_6 z15_7 z15_8 z15_9 z15_10) H := st_segP (w0 := (w_X9_loadsOn tc q_th q_th_text q_th_saying q_th_signs q_th_sets q_th_told q_th_up q_th_down q_th_world q_th_tight q_th_sum q_th_now n_th_saying n_th_up n_th_down n_th_world n_th_tight n_th_sum n_th_now (0 : Int32) th_typed th_next th_token th_place th_value th_fault th_many th_signMany th_setMany th_corners th_isLoaded th_loaded th_widened th_wide th_boundUp th_boundDown th_saying th_up th_down th_world th_tight th_sum th_now)) (m := 8) (by rfl) (by rfl) (by rfl) (by rfl) (by rfl) hP
      have hD : va_D A (w_X9_first tc q_th q_th_text q_th_saying q_th_signs q_th_sets q_th_told q_th_up q_th_down q_th_world q_th_tight q_th_sum q_th_now n_th_saying n_th_up n_th_down n_th_world n_th_tight n_th_sum n_th_now (0 : Int32) th_typed th_next th_token th_place th_value th_fault th_many th_signMany th_setMany z15_1 z15_2 z15_3 z15_4 th_wide th_boundUp th_boundDown th_saying z15_5 z15_6 z15_7 z15_8 z15_9 z15_10) := st_segD (w0 := (w_X9_loadsOn tc q_th q_th_text q_th_saying q_th_signs q_th_sets q_th_told q_th_up q_th_down q_th_world q_th_tight q_th_sum q_th_now n_th_saying n_th_up n_th_down n_th_world n_th_tight n_th_sum n_th_now (0 : Int32) th_typed th_next th_token th_place th_value th_fault th_many th_signMany th_setMany th_corners th_isLoaded th_loaded th_widened th_wide th_boundUp th_boundDown th_saying th_up th_down th_world th_tight th_sum th_now)) (m := 8) (by rfl) (by rfl) (by rfl) (by rfl) (by rfl) hD
      refine lv_if_ne (tgt := 33) hx hb dX9_first_26 (by decide) (fun c16 => ?_) (fun c16 => ?_)
      · replace h := ifn c16 h
        refine lv_iconst (v := (0 : Int32)) hx hb dX9_first_33 (by decide) ?_
        refine lv_istore_n (lv' := [(3, .int (0 : Int32)), (0, .ref q_th), (1, .int x1), (2, .int x2)]) hx hb dX9_first_34 rfl hl (by decide) rfl (fun ls hl => ?_)
        refine lv_iconst (v := (1 : Int32)) hx hb dX9_first_35 (by decide) ?_
        refine lv_istore (lv' := [(4, .int (1 : Int32)), (3, .int (0 : Int32)), (0, .ref q_th), (1, .int x1), (2, .int x2)]) hx hb dX9_first_36 hl (by decide) rfl (fun ls hl => ?_)
        obtain ⟨z17_0, hl17, h⟩ := bd_ok h
        refine L38 x1 x2 (0 : Int32) z15_1 z15_2 z15_3 z15_4 z15_5 z15_6 z15_7 z15_8 z15_9 z15_10 K _ _ hl17 ?_ _ _ _ hP hD hS (lv_sub hl [2, 3, 4, 1, 0] rfl)
        intro H locs ls hP hD hS hl
        refine lv_aload_n hx hb dX9_first_136 rfl (lv_at hl 0 rfl) ?_
        refine va_get (D := D) (ci := 9) (v := .ref q_th_up) (C := RX9) (T := TX9) (N := 28) hx hb hts hinX9 hown hK hP 0 rfl rfl 18 (by decide) (hts (.fieldLink RX9 26 "ChanceBoundsModel" "up" "[J") (by decide +kernel)) (fun _ h9 => h9) rfl dX9_first_137 ?_
        refine lv_bipush (v := (8 : Int32)) hx hb dX9_first_140 (by decide) ?_
        refine lv_iload_n hx hb dX9_first_142 rfl (lv_at hl 3 rfl) ?_
        refine lv_imul hx hb dX9_first_143 ?_
        refine lv_iload_n hx hb dX9_first_144 rfl (lv_at hl 1 rfl) ?_
        refine lv_iadd hx hb dX9_first_145 ?_
        obtain ⟨g18, h⟩ := gd_ok h
        refine va_lald hx hb hK hP 2 1 rfl rfl g18 dX9_first_146 ?_
        refine lv_aload_n hx hb dX9_first_147 rfl (lv_at hl 0 rfl) ?_
        refine va_get (D := D) (ci := 9) (v := .ref q_th_down) (C := RX9) (T := TX9) (N := 28) hx hb hts hinX9 hown hK hP 0 rfl rfl 19 (by decide) (hts (.fieldLink RX9 30 "ChanceBoundsModel" "down" "[J") (by decide +kernel)) (fun _ h9 => h9) rfl dX9_first_148 ?_
        refine lv_iload_n hx hb dX9_first_151 rfl (lv_at hl 3 rfl) ?_
        obtain ⟨g19, h⟩ := gd_ok h
        refine va_lald hx hb hK hP 3 1 rfl rfl g19 dX9_first_152 ?_
        refine lv_iload_n hx hb dX9_first_153 rfl (lv_at hl 2 rfl) ?_
        obtain ⟨z20_0, hc20, h⟩ := bd_ok h
        refine st_callS (As := [.long (z15_5 (((8 : Int32) * z17_0) + x1).toNatClampNeg), .long (z15_6 z17_0.toNatClampNeg), .int x2]) (rest := []) (pos := []) ⟨hx, hb, hml, hown, hts⟩ (s_X9_tells (l := l) (D := D) (tc := tc) hEok (z15_5 (((8 : Int32) * z17_0) + x1).toNatClampNeg) (z15_6 z17_0.toNatClampNeg) x2 K z20_0 hc20) (va_cwS 3 hts gX9_first_X9_tells rfl rfl rfl (by decide +kernel) ⟨Nat.le_of_ble_eq_true rfl, Nat.le_of_ble_eq_true rfl⟩) hEok hE hK hN hP hD hS hA rfl rfl rfl rfl hl.1 rfl (Nat.le_of_ble_eq_true rfl) dX9_first_154 ⟨Nat.zero_le _, Nat.zero_le _⟩ (fun H locs hP hD hS => ?_)
        have hP : va_P D vwCl (w_X9_first tc q_th q_th_text q_th_saying q_th_signs q_th_sets q_th_told q_th_up q_th_down q_th_world q_th_tight q_th_sum q_th_now n_th_saying n_th_up n_th_down n_th_world n_th_tight n_th_sum n_th_now (0 : Int32) th_typed th_next th_token th_place th_value th_fault th_many th_signMany th_setMany z15_1 z15_2 z15_3 z15_4 th_wide th_boundUp th_boundDown th_saying z15_5 z15_6 z15_7 z15_8 z15_9 z15_10) H := hP
        have hD : va_D A (w_X9_first tc q_th q_th_text q_th_saying q_th_signs q_th_sets q_th_told q_th_up q_th_down q_th_world q_th_tight q_th_sum q_th_now n_th_saying n_th_up n_th_down n_th_world n_th_tight n_th_sum n_th_now (0 : Int32) th_typed th_next th_token th_place th_value th_fault th_many th_signMany th_setMany z15_1 z15_2 z15_3 z15_4 th_wide th_boundUp th_boundDown th_saying z15_5 z15_6 z15_7 z15_8 z15_9 z15_10) := hD
        simp only [Option.some.injEq, Prod.mk.injEq] at h
        obtain ⟨rfl, rfl, rfl, rfl, rfl, rfl, rfl, rfl, rfl, rfl, rfl, rfl⟩ := h
        exact st_lret hx hb hr hlocks hP hD hS dX9_first_157
      · replace h := ifp c16 h
        refine lv_ldc2 (v := (-1000000000000000000 : Int64)) hx hb hown (hts (.constantLong RX9 190 (-1000000000000000000)) (by decide +kernel)) dX9_first_29 ?_
        simp only [Option.some.injEq, Prod.mk.injEq] at h
        obtain ⟨rfl, rfl, rfl, rfl, rfl, rfl, rfl, rfl, rfl, rfl, rfl, rfl⟩ := h
        exact st_lret hx hb hr hlocks hP hD hS dX9_first_32
def f_X9_never_L26 (n_th_up : Nat) (th_up : Nat → Int64) (x2 : Int32) (s26 : Int32 × Int32) : Option ((Int32) ⊕ (Int32 × Int32)) :=
  match s26 with
  | (x1, x3) =>
    if (8 : Int32) ≤ x3 then
      some (.inl x1)
    else
      if (((8 : Int32) * x2) + x3) < 0 ∨ n_th_up ≤ (((8 : Int32) * x2) + x3).toNatClampNeg then none else
      if (lg_cmp (th_up (((8 : Int32) * x2) + x3).toNatClampNeg) (0 : Int64)) ≤ (0 : Int32) then
        some (.inr (x1 &&& (255 : Int32), x3 + 1))
      else
        some (.inr (x1 &&& (((1 : Int32) <<< (x3 &&& 31)) ^^^ (-1 : Int32)), x3 + 1))
def f_X9_never_L16 (K : Nat) (n_th_up : Nat) (th_corners : Int32) (th_up : Nat → Int64) (s16 : Int32 × Int32) : Option ((Int32) ⊕ (Int32 × Int32)) :=
  match s16 with
  | (x1, x2) =>
    if th_corners ≤ x2 then
      some (.inl x1)
    else
      (lp (f_X9_never_L26 n_th_up th_up x2) K (x1, (0 : Int32))).bind fun z5_0 =>
      some (.inr (z5_0, x2 + 1))
def f_X9_never (K : Nat) (n_th_saying : Nat) (n_th_up : Nat) (n_th_down : Nat) (n_th_world : Nat) (n_th_tight : Nat) (n_th_sum : Nat) (n_th_now : Nat) (th_many : Int32) (th_corners : Int32) (th_isLoaded : Int32) (th_loaded : Int32) (th_wide : Int32) (th_saying : Nat → Int32) (th_up : Nat → Int64) (th_down : Nat → Int64) (th_world : Nat → Int32) (th_tight : Nat → Int32) (th_sum : Nat → Int64) (th_now : Nat → Int64) : Option (Int32 × Int32 × Int32 × Int32 × Int32 × Int32 × (Nat → Int64) × (Nat → Int64) × (Nat → Int32) × (Nat → Int32) × (Nat → Int64) × (Nat → Int64)) :=
  (f_X9_loadsOn K n_th_saying n_th_up n_th_down n_th_world n_th_tight n_th_sum n_th_now th_many th_corners th_isLoaded th_loaded th_wide th_saying th_up th_down th_world th_tight th_sum th_now).bind fun z6 => match z6 with
  | (z6_0, z6_1, z6_2, z6_3, z6_4, z6_5, z6_6, z6_7, z6_8, z6_9, z6_10) =>
    (lp (f_X9_never_L16 K n_th_up z6_1 z6_5) K ((255 : Int32), (0 : Int32))).bind fun z7_0 =>
    some (z7_0, (0 : Int32), z6_1, z6_2, z6_3, z6_4, z6_5, z6_6, z6_7, z6_8, z6_9, z6_10)
abbrev w_X9_never (tc : Nat → ClassId) (q_th : Nat) (q_th_text : Nat) (q_th_saying : Nat) (q_th_signs : Nat) (q_th_sets : Nat) (q_th_told : Nat) (q_th_up : Nat) (q_th_down : Nat) (q_th_world : Nat) (q_th_tight : Nat) (q_th_sum : Nat) (q_th_now : Nat) (n_th_saying : Nat) (n_th_up : Nat) (n_th_down : Nat) (n_th_world : Nat) (n_th_tight : Nat) (n_th_sum : Nat) (n_th_now : Nat) (th_thrown : Int32) (th_typed : Int32) (th_next : Int32) (th_token : Int32) (th_place : Int32) (th_value : Int32) (th_fault : Int32) (th_many : Int32) (th_signMany : Int32) (th_setMany : Int32) (th_corners : Int32) (th_isLoaded : Int32) (th_loaded : Int32) (th_widened : Int32) (th_wide : Int32) (th_boundUp : Int64) (th_boundDown : Int64) (th_saying : Nat → Int32) (th_up : Nat → Int64) (th_down : Nat → Int64) (th_world : Nat → Int32) (th_tight : Nat → Int32) (th_sum : Nat → Int64) (th_now : Nat → Int64) : va_W := [(q_th, .inr (9, [.int th_thrown, .ref q_th_text, .int th_typed, .int th_next, .int th_token, .int th_place, .int th_value, .int th_fault, .int th_many, .ref q_th_saying, .ref q_th_signs, .ref q_th_sets, .int th_signMany, .int th_setMany, .ref q_th_told, .int th_corners, .int th_isLoaded, .int th_loaded, .ref q_th_up, .ref q_th_down, .ref q_th_world, .ref q_th_tight, .ref q_th_sum, .ref q_th_now, .int th_widened, .int th_wide, .long th_boundUp, .long th_boundDown])), (q_th_saying, .inl (tc 0, n_th_saying, .inl th_saying)), (q_th_up, .inl (tc 1, n_th_up, .inr (.inl th_up))), (q_th_down, .inl (tc 1, n_th_down, .inr (.inl th_down))), (q_th_world, .inl (tc 0, n_th_world, .inl th_world)), (q_th_tight, .inl (tc 0, n_th_tight, .inl th_tight)), (q_th_sum, .inl (tc 1, n_th_sum, .inr (.inl th_sum))), (q_th_now, .inl (tc 1, n_th_now, .inr (.inl th_now)))]
theorem wa_X9_never {tc : Nat → ClassId} {q_th : Nat} {q_th_text : Nat} {q_th_saying : Nat} {q_th_signs : Nat} {q_th_sets : Nat} {q_th_told : Nat} {q_th_up : Nat} {q_th_down : Nat} {q_th_world : Nat} {q_th_tight : Nat} {q_th_sum : Nat} {q_th_now : Nat} {n_th_saying : Nat} {n_th_up : Nat} {n_th_down : Nat} {n_th_world : Nat} {n_th_tight : Nat} {n_th_sum : Nat} {n_th_now : Nat} {th_thrown : Int32} {th_typed : Int32} {th_next : Int32} {th_token : Int32} {th_place : Int32} {th_value : Int32} {th_fault : Int32} {th_many : Int32} {th_signMany : Int32} {th_setMany : Int32} {th_corners : Int32} {th_isLoaded : Int32} {th_loaded : Int32} {th_widened : Int32} {th_wide : Int32} {th_boundUp : Int64} {th_boundDown : Int64} {th_saying : Nat → Int32} {th_up : Nat → Int64} {th_down : Nat → Int64} {th_world : Nat → Int32} {th_tight : Nat → Int32} {th_sum : Nat → Int64} {th_now : Nat → Int64} : (w_X9_never tc q_th q_th_text q_th_saying q_th_signs q_th_sets q_th_told q_th_up q_th_down q_th_world q_th_tight q_th_sum q_th_now n_th_saying n_th_up n_th_down n_th_world n_th_tight n_th_sum n_th_now th_thrown th_typed th_next th_token th_place th_value th_fault th_many th_signMany th_setMany th_corners th_isLoaded th_loaded th_widened th_wide th_boundUp th_boundDown th_saying th_up th_down th_world th_tight th_sum th_now).map (fun q => q.1) = [q_th, q_th_saying, q_th_up, q_th_down, q_th_world, q_th_tight, q_th_sum, q_th_now] := rfl
set_option maxHeartbeats 4000000 in
set_option maxRecDepth 100000 in
theorem s_X9_never {l : Launch} {E : (Nat → Prop) → State → Prop} (hEok : st_Eok E) {D : va_G} {tc : Nat → ClassId} (q_th : Nat) (q_th_text : Nat) (q_th_saying : Nat) (q_th_signs : Nat) (q_th_sets : Nat) (q_th_told : Nat) (q_th_up : Nat) (q_th_down : Nat) (q_th_world : Nat) (q_th_tight : Nat) (q_th_sum : Nat) (q_th_now : Nat) (n_th_saying : Nat) (n_th_up : Nat) (n_th_down : Nat) (n_th_world : Nat) (n_th_tight : Nat) (n_th_sum : Nat) (n_th_now : Nat) (th_thrown : Int32) (th_typed : Int32) (th_next : Int32) (th_token : Int32) (th_place : Int32) (th_value : Int32) (th_fault : Int32) (th_many : Int32) (th_signMany : Int32) (th_setMany : Int32) (th_corners : Int32) (th_isLoaded : Int32) (th_loaded : Int32) (th_widened : Int32) (th_wide : Int32) (th_boundUp : Int64) (th_boundDown : Int64) (th_saying : Nat → Int32) (th_up : Nat → Int64) (th_down : Nat → Int64) (th_world : Nat → Int32) (th_tight : Nat → Int32) (th_sum : Nat → Int64) (th_now : Nat → Int64) (K : Nat) (r0 : Int32) (th_thrown' : Int32) (th_corners' : Int32) (th_isLoaded' : Int32) (th_loaded' : Int32) (th_widened' : Int32) (th_up' : Nat → Int64) (th_down' : Nat → Int64) (th_world' : Nat → Int32) (th_tight' : Nat → Int32) (th_sum' : Nat → Int64) (th_now' : Nat → Int64) (h : f_X9_never K n_th_saying n_th_up n_th_down n_th_world n_th_tight n_th_sum n_th_now th_many th_corners th_isLoaded th_loaded th_wide th_saying th_up th_down th_world th_tight th_sum th_now = some (r0, th_thrown', th_corners', th_isLoaded', th_loaded', th_widened', th_up', th_down', th_world', th_tight', th_sum', th_now')) : st l yX9_never wsX9_never ({ frames := 6, cells := 0, slots := 0, locals := 158 }) E D tc [.ref q_th] (w_X9_never tc q_th q_th_text q_th_saying q_th_signs q_th_sets q_th_told q_th_up q_th_down q_th_world q_th_tight q_th_sum q_th_now n_th_saying n_th_up n_th_down n_th_world n_th_tight n_th_sum n_th_now th_thrown th_typed th_next th_token th_place th_value th_fault th_many th_signMany th_setMany th_corners th_isLoaded th_loaded th_widened th_wide th_boundUp th_boundDown th_saying th_up th_down th_world th_tight th_sum th_now) (some (.int r0)) (w_X9_never tc q_th q_th_text q_th_saying q_th_signs q_th_sets q_th_told q_th_up q_th_down q_th_world q_th_tight q_th_sum q_th_now n_th_saying n_th_up n_th_down n_th_world n_th_tight n_th_sum n_th_now th_thrown' th_typed th_next th_token th_place th_value th_fault th_many th_signMany th_setMany th_corners' th_isLoaded' th_loaded' th_widened' th_wide th_boundUp th_boundDown th_saying th_up' th_down' th_world' th_tight' th_sum' th_now') := by
  refine st_enter (cc := cX9_never) (maxL := 4) (ret := (some .int)) (by decide) rfl (Nat.le_of_ble_eq_true rfl) ?_
  intro p e s m below meth c A ls hx hb hr hml hts hown hlocks hK hN hE hA hP hD hS hl
  have hl : lv_has ls 4 [(0, .ref q_th)] := hl
  have hinX9 : ∀ w ∈ wsX90, w ∈ wsX9_never := by decide +kernel
  generalize hav : ([.ref q_th] : List Value).toArray = av at hts ⊢
  have L16 : ∀ (th_thrown : Int32) (th_corners : Int32) (th_isLoaded : Int32) (th_loaded : Int32) (th_widened : Int32) (th_up : Nat → Int64) (th_down : Nat → Int64) (th_world : Nat → Int32) (th_tight : Nat → Int32) (th_sum : Nat → Int64) (th_now : Nat → Int64), ∀ (k : Nat) (s16 : Int32 × Int32) (r : Int32), lp (f_X9_never_L16 K n_th_up th_corners th_up) k s16 = some r → (fun x1 : Int32 => ∀ (H : Heap) (locs : List Loc) (ls : Array Slot), va_P D vwCl (w_X9_never tc q_th q_th_text q_th_saying q_th_signs q_th_sets q_th_told q_th_up q_th_down q_th_world q_th_tight q_th_sum q_th_now n_th_saying n_th_up n_th_down n_th_world n_th_tight n_th_sum n_th_now th_thrown th_typed th_next th_token th_place th_value th_fault th_many th_signMany th_setMany th_corners th_isLoaded th_loaded th_widened th_wide th_boundUp th_boundDown th_saying th_up th_down th_world th_tight th_sum th_now) H → va_D A (w_X9_never tc q_th q_th_text q_th_saying q_th_signs q_th_sets q_th_told q_th_up q_th_down q_th_world q_th_tight q_th_sum q_th_now n_th_saying n_th_up n_th_down n_th_world n_th_tight n_th_sum n_th_now th_thrown th_typed th_next th_token th_place th_value th_fault th_many th_signMany th_setMany th_corners th_isLoaded th_loaded th_widened th_wide th_boundUp th_boundDown th_saying th_up th_down th_world th_tight th_sum th_now) → va_S A s.heap H locs → lv_has ls 4 [(1, .int x1)] → W p l e ({ frames := 6, cells := 0, slots := 0, locals := 158 } : Room) s m av below meth c H locs 0 0 (MQ below (st_Q D (w_X9_never tc q_th q_th_text q_th_saying q_th_signs q_th_sets q_th_told q_th_up q_th_down q_th_world q_th_tight q_th_sum q_th_now n_th_saying n_th_up n_th_down n_th_world n_th_tight n_th_sum n_th_now th_thrown' th_typed th_next th_token th_place th_value th_fault th_many th_signMany th_setMany th_corners' th_isLoaded' th_loaded' th_widened' th_wide th_boundUp th_boundDown th_saying th_up' th_down' th_world' th_tight' th_sum' th_now') (some (.int r0)) A) av s 0 0 A) (F0 m 74 ls [])) r → (fun s16 : Int32 × Int32 => match s16 with | (x1, x2) => ∀ (H : Heap) (locs : List Loc) (ls : Array Slot), va_P D vwCl (w_X9_never tc q_th q_th_text q_th_saying q_th_signs q_th_sets q_th_told q_th_up q_th_down q_th_world q_th_tight q_th_sum q_th_now n_th_saying n_th_up n_th_down n_th_world n_th_tight n_th_sum n_th_now th_thrown th_typed th_next th_token th_place th_value th_fault th_many th_signMany th_setMany th_corners th_isLoaded th_loaded th_widened th_wide th_boundUp th_boundDown th_saying th_up th_down th_world th_tight th_sum th_now) H → va_D A (w_X9_never tc q_th q_th_text q_th_saying q_th_signs q_th_sets q_th_told q_th_up q_th_down q_th_world q_th_tight q_th_sum q_th_now n_th_saying n_th_up n_th_down n_th_world n_th_tight n_th_sum n_th_now th_thrown th_typed th_next th_token th_place th_value th_fault th_many th_signMany th_setMany th_corners th_isLoaded th_loaded th_widened th_wide th_boundUp th_boundDown th_saying th_up th_down th_world th_tight th_sum th_now) → va_S A s.heap H locs → lv_has ls 4 [(0, .ref q_th), (1, .int x1), (2, .int x2)] → W p l e ({ frames := 6, cells := 0, slots := 0, locals := 158 } : Room) s m av below meth c H locs 0 0 (MQ below (st_Q D (w_X9_never tc q_th q_th_text q_th_saying q_th_signs q_th_sets q_th_told q_th_up q_th_down q_th_world q_th_tight q_th_sum q_th_now n_th_saying n_th_up n_th_down n_th_world n_th_tight n_th_sum n_th_now th_thrown' th_typed th_next th_token th_place th_value th_fault th_many th_signMany th_setMany th_corners' th_isLoaded' th_loaded' th_widened' th_wide th_boundUp th_boundDown th_saying th_up' th_down' th_world' th_tight' th_sum' th_now') (some (.int r0)) A) av s 0 0 A) (F0 m 16 ls [])) s16 := by
    intro th_thrown th_corners th_isLoaded th_loaded th_widened th_up th_down th_world th_tight th_sum th_now
    refine lp_W (f_X9_never_L16 K n_th_up th_corners th_up) (fun s16 : Int32 × Int32 => match s16 with | (x1, x2) => ∀ (H : Heap) (locs : List Loc) (ls : Array Slot), va_P D vwCl (w_X9_never tc q_th q_th_text q_th_saying q_th_signs q_th_sets q_th_told q_th_up q_th_down q_th_world q_th_tight q_th_sum q_th_now n_th_saying n_th_up n_th_down n_th_world n_th_tight n_th_sum n_th_now th_thrown th_typed th_next th_token th_place th_value th_fault th_many th_signMany th_setMany th_corners th_isLoaded th_loaded th_widened th_wide th_boundUp th_boundDown th_saying th_up th_down th_world th_tight th_sum th_now) H → va_D A (w_X9_never tc q_th q_th_text q_th_saying q_th_signs q_th_sets q_th_told q_th_up q_th_down q_th_world q_th_tight q_th_sum q_th_now n_th_saying n_th_up n_th_down n_th_world n_th_tight n_th_sum n_th_now th_thrown th_typed th_next th_token th_place th_value th_fault th_many th_signMany th_setMany th_corners th_isLoaded th_loaded th_widened th_wide th_boundUp th_boundDown th_saying th_up th_down th_world th_tight th_sum th_now) → va_S A s.heap H locs → lv_has ls 4 [(0, .ref q_th), (1, .int x1), (2, .int x2)] → W p l e ({ frames := 6, cells := 0, slots := 0, locals := 158 } : Room) s m av below meth c H locs 0 0 (MQ below (st_Q D (w_X9_never tc q_th q_th_text q_th_saying q_th_signs q_th_sets q_th_told q_th_up q_th_down q_th_world q_th_tight q_th_sum q_th_now n_th_saying n_th_up n_th_down n_th_world n_th_tight n_th_sum n_th_now th_thrown' th_typed th_next th_token th_place th_value th_fault th_many th_signMany th_setMany th_corners' th_isLoaded' th_loaded' th_widened' th_wide th_boundUp th_boundDown th_saying th_up' th_down' th_world' th_tight' th_sum' th_now') (some (.int r0)) A) av s 0 0 A) (F0 m 16 ls [])) (fun x1 : Int32 => ∀ (H : Heap) (locs : List Loc) (ls : Array Slot), va_P D vwCl (w_X9_never tc q_th q_th_text q_th_saying q_th_signs q_th_sets q_th_told q_th_up q_th_down q_th_world q_th_tight q_th_sum q_th_now n_th_saying n_th_up n_th_down n_th_world n_th_tight n_th_sum n_th_now th_thrown th_typed th_next th_token th_place th_value th_fault th_many th_signMany th_setMany th_corners th_isLoaded th_loaded th_widened th_wide th_boundUp th_boundDown th_saying th_up th_down th_world th_tight th_sum th_now) H → va_D A (w_X9_never tc q_th q_th_text q_th_saying q_th_signs q_th_sets q_th_told q_th_up q_th_down q_th_world q_th_tight q_th_sum q_th_now n_th_saying n_th_up n_th_down n_th_world n_th_tight n_th_sum n_th_now th_thrown th_typed th_next th_token th_place th_value th_fault th_many th_signMany th_setMany th_corners th_isLoaded th_loaded th_widened th_wide th_boundUp th_boundDown th_saying th_up th_down th_world th_tight th_sum th_now) → va_S A s.heap H locs → lv_has ls 4 [(1, .int x1)] → W p l e ({ frames := 6, cells := 0, slots := 0, locals := 158 } : Room) s m av below meth c H locs 0 0 (MQ below (st_Q D (w_X9_never tc q_th q_th_text q_th_saying q_th_signs q_th_sets q_th_told q_th_up q_th_down q_th_world q_th_tight q_th_sum q_th_now n_th_saying n_th_up n_th_down n_th_world n_th_tight n_th_sum n_th_now th_thrown' th_typed th_next th_token th_place th_value th_fault th_many th_signMany th_setMany th_corners' th_isLoaded' th_loaded' th_widened' th_wide th_boundUp th_boundDown th_saying th_up' th_down' th_world' th_tight' th_sum' th_now') (some (.int r0)) A) av s 0 0 A) (F0 m 74 ls [])) ?_
    rintro ⟨x1, x2⟩ o h ih hz H locs ls hP hD hS hl
    have L26 : ∀ (x2 : Int32) (th_thrown : Int32) (th_corners : Int32) (th_isLoaded : Int32) (th_loaded : Int32) (th_widened : Int32) (th_up : Nat → Int64) (th_down : Nat → Int64) (th_world : Nat → Int32) (th_tight : Nat → Int32) (th_sum : Nat → Int64) (th_now : Nat → Int64), ∀ (k : Nat) (s26 : Int32 × Int32) (r : Int32), lp (f_X9_never_L26 n_th_up th_up x2) k s26 = some r → (fun x1 : Int32 => ∀ (H : Heap) (locs : List Loc) (ls : Array Slot), va_P D vwCl (w_X9_never tc q_th q_th_text q_th_saying q_th_signs q_th_sets q_th_told q_th_up q_th_down q_th_world q_th_tight q_th_sum q_th_now n_th_saying n_th_up n_th_down n_th_world n_th_tight n_th_sum n_th_now th_thrown th_typed th_next th_token th_place th_value th_fault th_many th_signMany th_setMany th_corners th_isLoaded th_loaded th_widened th_wide th_boundUp th_boundDown th_saying th_up th_down th_world th_tight th_sum th_now) H → va_D A (w_X9_never tc q_th q_th_text q_th_saying q_th_signs q_th_sets q_th_told q_th_up q_th_down q_th_world q_th_tight q_th_sum q_th_now n_th_saying n_th_up n_th_down n_th_world n_th_tight n_th_sum n_th_now th_thrown th_typed th_next th_token th_place th_value th_fault th_many th_signMany th_setMany th_corners th_isLoaded th_loaded th_widened th_wide th_boundUp th_boundDown th_saying th_up th_down th_world th_tight th_sum th_now) → va_S A s.heap H locs → lv_has ls 4 [(0, .ref q_th), (1, .int x1), (2, .int x2)] → W p l e ({ frames := 6, cells := 0, slots := 0, locals := 158 } : Room) s m av below meth c H locs 0 0 (MQ below (st_Q D (w_X9_never tc q_th q_th_text q_th_saying q_th_signs q_th_sets q_th_told q_th_up q_th_down q_th_world q_th_tight q_th_sum q_th_now n_th_saying n_th_up n_th_down n_th_world n_th_tight n_th_sum n_th_now th_thrown' th_typed th_next th_token th_place th_value th_fault th_many th_signMany th_setMany th_corners' th_isLoaded' th_loaded' th_widened' th_wide th_boundUp th_boundDown th_saying th_up' th_down' th_world' th_tight' th_sum' th_now') (some (.int r0)) A) av s 0 0 A) (F0 m 68 ls [])) r → (fun s26 : Int32 × Int32 => match s26 with | (x1, x3) => ∀ (H : Heap) (locs : List Loc) (ls : Array Slot), va_P D vwCl (w_X9_never tc q_th q_th_text q_th_saying q_th_signs q_th_sets q_th_told q_th_up q_th_down q_th_world q_th_tight q_th_sum q_th_now n_th_saying n_th_up n_th_down n_th_world n_th_tight n_th_sum n_th_now th_thrown th_typed th_next th_token th_place th_value th_fault th_many th_signMany th_setMany th_corners th_isLoaded th_loaded th_widened th_wide th_boundUp th_boundDown th_saying th_up th_down th_world th_tight th_sum th_now) H → va_D A (w_X9_never tc q_th q_th_text q_th_saying q_th_signs q_th_sets q_th_told q_th_up q_th_down q_th_world q_th_tight q_th_sum q_th_now n_th_saying n_th_up n_th_down n_th_world n_th_tight n_th_sum n_th_now th_thrown th_typed th_next th_token th_place th_value th_fault th_many th_signMany th_setMany th_corners th_isLoaded th_loaded th_widened th_wide th_boundUp th_boundDown th_saying th_up th_down th_world th_tight th_sum th_now) → va_S A s.heap H locs → lv_has ls 4 [(0, .ref q_th), (1, .int x1), (2, .int x2), (3, .int x3)] → W p l e ({ frames := 6, cells := 0, slots := 0, locals := 158 } : Room) s m av below meth c H locs 0 0 (MQ below (st_Q D (w_X9_never tc q_th q_th_text q_th_saying q_th_signs q_th_sets q_th_told q_th_up q_th_down q_th_world q_th_tight q_th_sum q_th_now n_th_saying n_th_up n_th_down n_th_world n_th_tight n_th_sum n_th_now th_thrown' th_typed th_next th_token th_place th_value th_fault th_many th_signMany th_setMany th_corners' th_isLoaded' th_loaded' th_widened' th_wide th_boundUp th_boundDown th_saying th_up' th_down' th_world' th_tight' th_sum' th_now') (some (.int r0)) A) av s 0 0 A) (F0 m 26 ls [])) s26 := by
      intro x2 th_thrown th_corners th_isLoaded th_loaded th_widened th_up th_down th_world th_tight th_sum th_now
      refine lp_W (f_X9_never_L26 n_th_up th_up x2) (fun s26 : Int32 × Int32 => match s26 with | (x1, x3) => ∀ (H : Heap) (locs : List Loc) (ls : Array Slot), va_P D vwCl (w_X9_never tc q_th q_th_text q_th_saying q_th_signs q_th_sets q_th_told q_th_up q_th_down q_th_world q_th_tight q_th_sum q_th_now n_th_saying n_th_up n_th_down n_th_world n_th_tight n_th_sum n_th_now th_thrown th_typed th_next th_token th_place th_value th_fault th_many th_signMany th_setMany th_corners th_isLoaded th_loaded th_widened th_wide th_boundUp th_boundDown th_saying th_up th_down th_world th_tight th_sum th_now) H → va_D A (w_X9_never tc q_th q_th_text q_th_saying q_th_signs q_th_sets q_th_told q_th_up q_th_down q_th_world q_th_tight q_th_sum q_th_now n_th_saying n_th_up n_th_down n_th_world n_th_tight n_th_sum n_th_now th_thrown th_typed th_next th_token th_place th_value th_fault th_many th_signMany th_setMany th_corners th_isLoaded th_loaded th_widened th_wide th_boundUp th_boundDown th_saying th_up th_down th_world th_tight th_sum th_now) → va_S A s.heap H locs → lv_has ls 4 [(0, .ref q_th), (1, .int x1), (2, .int x2), (3, .int x3)] → W p l e ({ frames := 6, cells := 0, slots := 0, locals := 158 } : Room) s m av below meth c H locs 0 0 (MQ below (st_Q D (w_X9_never tc q_th q_th_text q_th_saying q_th_signs q_th_sets q_th_told q_th_up q_th_down q_th_world q_th_tight q_th_sum q_th_now n_th_saying n_th_up n_th_down n_th_world n_th_tight n_th_sum n_th_now th_thrown' th_typed th_next th_token th_place th_value th_fault th_many th_signMany th_setMany th_corners' th_isLoaded' th_loaded' th_widened' th_wide th_boundUp th_boundDown th_saying th_up' th_down' th_world' th_tight' th_sum' th_now') (some (.int r0)) A) av s 0 0 A) (F0 m 26 ls [])) (fun x1 : Int32 => ∀ (H : Heap) (locs : List Loc) (ls : Array Slot), va_P D vwCl (w_X9_never tc q_th q_th_text q_th_saying q_th_signs q_th_sets q_th_told q_th_up q_th_down q_th_world q_th_tight q_th_sum q_th_now n_th_saying n_th_up n_th_down n_th_world n_th_tight n_th_sum n_th_now th_thrown th_typed th_next th_token th_place th_value th_fault th_many th_signMany th_setMany th_corners th_isLoaded th_loaded th_widened th_wide th_boundUp th_boundDown th_saying th_up th_down th_world th_tight th_sum th_now) H → va_D A (w_X9_never tc q_th q_th_text q_th_saying q_th_signs q_th_sets q_th_told q_th_up q_th_down q_th_world q_th_tight q_th_sum q_th_now n_th_saying n_th_up n_th_down n_th_world n_th_tight n_th_sum n_th_now th_thrown th_typed th_next th_token th_place th_value th_fault th_many th_signMany th_setMany th_corners th_isLoaded th_loaded th_widened th_wide th_boundUp th_boundDown th_saying th_up th_down th_world th_tight th_sum th_now) → va_S A s.heap H locs → lv_has ls 4 [(0, .ref q_th), (1, .int x1), (2, .int x2)] → W p l e ({ frames := 6, cells := 0, slots := 0, locals := 158 } : Room) s m av below meth c H locs 0 0 (MQ below (st_Q D (w_X9_never tc q_th q_th_text q_th_saying q_th_signs q_th_sets q_th_told q_th_up q_th_down q_th_world q_th_tight q_th_sum q_th_now n_th_saying n_th_up n_th_down n_th_world n_th_tight n_th_sum n_th_now th_thrown' th_typed th_next th_token th_place th_value th_fault th_many th_signMany th_setMany th_corners' th_isLoaded' th_loaded' th_widened' th_wide th_boundUp th_boundDown th_saying th_up' th_down' th_world' th_tight' th_sum' th_now') (some (.int r0)) A) av s 0 0 A) (F0 m 68 ls [])) ?_
      rintro ⟨x1, x3⟩ o h ih hz H locs ls hP hD hS hl
      unfold f_X9_never_L26 at h
      refine lv_iload_n hx hb dX9_never_26 rfl (lv_at hl 3 rfl) ?_
      refine lv_bipush (v := (8 : Int32)) hx hb dX9_never_27 (by decide) ?_
      refine lv_icmp_ge (tgt := 68) hx hb dX9_never_29 (by decide) (fun c1 => ?_) (fun c1 => ?_)
      · replace h := ifp c1 h
        cases h
        exact hz _ rfl _ _ _ hP hD hS (lv_sub hl [0, 1, 2] rfl)
      · replace h := ifn c1 h
        refine lv_iload_n hx hb dX9_never_32 rfl (lv_at hl 1 rfl) ?_
        refine lv_aload_n hx hb dX9_never_33 rfl (lv_at hl 0 rfl) ?_
        refine va_get (D := D) (ci := 9) (v := .ref q_th_up) (C := RX9) (T := TX9) (N := 28) hx hb hts hinX9 hown hK hP 0 rfl rfl 18 (by decide) (hts (.fieldLink RX9 26 "ChanceBoundsModel" "up" "[J") (by decide +kernel)) (fun _ h9 => h9) rfl dX9_never_34 ?_
        refine lv_bipush (v := (8 : Int32)) hx hb dX9_never_37 (by decide) ?_
        refine lv_iload_n hx hb dX9_never_39 rfl (lv_at hl 2 rfl) ?_
        refine lv_imul hx hb dX9_never_40 ?_
        refine lv_iload_n hx hb dX9_never_41 rfl (lv_at hl 3 rfl) ?_
        refine lv_iadd hx hb dX9_never_42 ?_
        obtain ⟨g2, h⟩ := gd_ok h
        refine va_lald hx hb hK hP 2 1 rfl rfl g2 dX9_never_43 ?_
        refine lv_lconst (v := (0 : Int64)) hx hb dX9_never_44 (by decide) ?_
        refine W.lcmp hx hb dX9_never_45 ?_
        refine lv_if_le (tgt := 57) hx hb dX9_never_46 (by decide) (fun c3 => ?_) (fun c3 => ?_)
        · replace h := ifp c3 h
          refine lv_sipush (v := (255 : Int32)) hx hb dX9_never_57 (by decide) ?_
          refine lv_iand hx hb dX9_never_60 ?_
          refine lv_istore_n (lv' := [(1, .int (x1 &&& (255 : Int32))), (0, .ref q_th), (2, .int x2), (3, .int x3)]) hx hb dX9_never_61 rfl hl (by decide) rfl (fun ls hl => ?_)
          refine lv_iinc (v := x3 + 1) (lv' := [(3, .int (x3 + 1)), (1, .int (x1 &&& (255 : Int32))), (0, .ref q_th), (2, .int x2)]) hx hb dX9_never_62 hl (k := 3) rfl rfl (by decide) rfl (fun ls hl => ?_)
          refine lv_goto (tgt := 26) hx hb dX9_never_65 (by decide) ?_
          cases h
          exact ih _ rfl _ _ _ hP hD hS (lv_sub hl [2, 1, 3, 0] rfl)
        · replace h := ifn c3 h
          refine lv_iconst (v := (1 : Int32)) hx hb dX9_never_49 (by decide) ?_
          refine lv_iload_n hx hb dX9_never_50 rfl (lv_at hl 3 rfl) ?_
          refine lv_ishl hx hb dX9_never_51 ?_
          refine lv_iconst (v := (-1 : Int32)) hx hb dX9_never_52 (by decide) ?_
          refine lv_ixor hx hb dX9_never_53 ?_
          refine lv_goto (tgt := 60) hx hb dX9_never_54 (by decide) ?_
          refine lv_iand hx hb dX9_never_60 ?_
          refine lv_istore_n (lv' := [(1, .int (x1 &&& (((1 : Int32) <<< (x3 &&& 31)) ^^^ (-1 : Int32)))), (0, .ref q_th), (2, .int x2), (3, .int x3)]) hx hb dX9_never_61 rfl hl (by decide) rfl (fun ls hl => ?_)
          refine lv_iinc (v := x3 + 1) (lv' := [(3, .int (x3 + 1)), (1, .int (x1 &&& (((1 : Int32) <<< (x3 &&& 31)) ^^^ (-1 : Int32)))), (0, .ref q_th), (2, .int x2)]) hx hb dX9_never_62 hl (k := 3) rfl rfl (by decide) rfl (fun ls hl => ?_)
          refine lv_goto (tgt := 26) hx hb dX9_never_65 (by decide) ?_
          cases h
          exact ih _ rfl _ _ _ hP hD hS (lv_sub hl [2, 1, 3, 0] rfl)
    unfold f_X9_never_L16 at h
    refine lv_iload_n hx hb dX9_never_16 rfl (lv_at hl 2 rfl) ?_
    refine lv_aload_n hx hb dX9_never_17 rfl (lv_at hl 0 rfl) ?_
    refine va_get (D := D) (ci := 9) (v := .int th_corners) (C := RX9) (T := TX9) (N := 28) hx hb hts hinX9 hown hK hP 0 rfl rfl 15 (by decide) (hts (.fieldLink RX9 150 "ChanceBoundsModel" "corners" "I") (by decide +kernel)) (fun _ h9 => h9) rfl dX9_never_18 ?_
    refine lv_icmp_ge (tgt := 74) hx hb dX9_never_21 (by decide) (fun c4 => ?_) (fun c4 => ?_)
    · replace h := ifp c4 h
      cases h
      exact hz _ rfl _ _ _ hP hD hS (lv_sub hl [1] rfl)
    · replace h := ifn c4 h
      refine lv_iconst (v := (0 : Int32)) hx hb dX9_never_24 (by decide) ?_
      refine lv_istore_n (lv' := [(3, .int (0 : Int32)), (0, .ref q_th), (1, .int x1), (2, .int x2)]) hx hb dX9_never_25 rfl hl (by decide) rfl (fun ls hl => ?_)
      obtain ⟨z5_0, hl5, h⟩ := bd_ok h
      refine L26 x2 th_thrown th_corners th_isLoaded th_loaded th_widened th_up th_down th_world th_tight th_sum th_now K _ _ hl5 ?_ _ _ _ hP hD hS (lv_sub hl [1, 2, 3, 0] rfl)
      intro H locs ls hP hD hS hl
      refine lv_iinc (v := x2 + 1) (lv' := [(2, .int (x2 + 1)), (0, .ref q_th), (1, .int z5_0)]) hx hb dX9_never_68 hl (k := 2) rfl rfl (by decide) rfl (fun ls hl => ?_)
      refine lv_goto (tgt := 16) hx hb dX9_never_71 (by decide) ?_
      cases h
      exact ih _ rfl _ _ _ hP hD hS (lv_sub hl [1, 2, 0] rfl)
  unfold f_X9_never at h
  refine lv_aload_n hx hb dX9_never_0 rfl (lv_at hl 0 rfl) ?_
  refine lv_iconst (v := (0 : Int32)) hx hb dX9_never_1 (by decide) ?_
  refine va_put (D := D) (ci := 9) (v := .int (0 : Int32)) (ty := .int) (C := RX9) (T := TX9) (N := 28) hx hb hts hinX9 tyX9 tyX9_ok nmX9 hown hK hP hD hS 0 rfl rfl 0 (by decide) (hts (.fieldLink RX9 45 "ChanceBoundsModel" "thrown" "I") (by decide +kernel)) (fun _ h9 => h9) rfl (by decide +kernel) rfl rfl (Nat.le_of_ble_eq_true rfl) dX9_never_2 (fun H locs hP hD hS => ?_)
  have hP : va_P D vwCl (w_X9_never tc q_th q_th_text q_th_saying q_th_signs q_th_sets q_th_told q_th_up q_th_down q_th_world q_th_tight q_th_sum q_th_now n_th_saying n_th_up n_th_down n_th_world n_th_tight n_th_sum n_th_now (0 : Int32) th_typed th_next th_token th_place th_value th_fault th_many th_signMany th_setMany th_corners th_isLoaded th_loaded th_widened th_wide th_boundUp th_boundDown th_saying th_up th_down th_world th_tight th_sum th_now) H := hP
  have hD : va_D A (w_X9_never tc q_th q_th_text q_th_saying q_th_signs q_th_sets q_th_told q_th_up q_th_down q_th_world q_th_tight q_th_sum q_th_now n_th_saying n_th_up n_th_down n_th_world n_th_tight n_th_sum n_th_now (0 : Int32) th_typed th_next th_token th_place th_value th_fault th_many th_signMany th_setMany th_corners th_isLoaded th_loaded th_widened th_wide th_boundUp th_boundDown th_saying th_up th_down th_world th_tight th_sum th_now) := hD
  refine lv_aload_n hx hb dX9_never_5 rfl (lv_at hl 0 rfl) ?_
  obtain ⟨⟨z6_0, z6_1, z6_2, z6_3, z6_4, z6_5, z6_6, z6_7, z6_8, z6_9, z6_10⟩, hc6, h⟩ := bd_ok h
  refine st_callV (As := []) (rest := []) (pos := (List.range' 0 8)) ⟨hx, hb, hml, hown, hts⟩ (s_X9_loadsOn (l := l) (D := D) (tc := tc) hEok q_th q_th_text q_th_saying q_th_signs q_th_sets q_th_told q_th_up q_th_down q_th_world q_th_tight q_th_sum q_th_now n_th_saying n_th_up n_th_down n_th_world n_th_tight n_th_sum n_th_now (0 : Int32) th_typed th_next th_token th_place th_value th_fault th_many th_signMany th_setMany th_corners th_isLoaded th_loaded th_widened th_wide th_boundUp th_boundDown th_saying th_up th_down th_world th_tight th_sum th_now K z6_0 z6_1 z6_2 z6_3 z6_4 z6_5 z6_6 z6_7 z6_8 z6_9 z6_10 hc6) (cwV 0 hts gX9_never_X9_loadsOn rfl rfl rfl (by decide +kernel) ⟨Nat.le_of_ble_eq_true rfl, Nat.le_of_ble_eq_true rfl⟩) (st_recv (ci := 9) (q0 := 0) hK hP rfl rfl) hEok hE hK hN hP hD hS hA (st_segpos (m := 8) (by rfl) (by rfl) (by rfl)) (st_seg_nd _ _) (wa_X9_loadsOn.trans wa_X9_loadsOn.symm) rfl hl.1 rfl (Nat.le_of_ble_eq_true rfl) dX9_never_6 ⟨Nat.zero_le _, Nat.zero_le _⟩ (fun H locs hP hD hS => ?_)
  have hP : va_P D vwCl (w_X9_never tc q_th q_th_text q_th_saying q_th_signs q_th_sets q_th_told q_th_up q_th_down q_th_world q_th_tight q_th_sum q_th_now n_th_saying n_th_up n_th_down n_th_world n_th_tight n_th_sum n_th_now (0 : Int32) th_typed th_next th_token th_place th_value th_fault th_many th_signMany th_setMany z6_1 z6_2 z6_3 z6_4 th_wide th_boundUp th_boundDown th_saying z6_5 z6_6 z6_7 z6_8 z6_9 z6_10) H := st_segP (w0 := (w_X9_loadsOn tc q_th q_th_text q_th_saying q_th_signs q_th_sets q_th_told q_th_up q_th_down q_th_world q_th_tight q_th_sum q_th_now n_th_saying n_th_up n_th_down n_th_world n_th_tight n_th_sum n_th_now (0 : Int32) th_typed th_next th_token th_place th_value th_fault th_many th_signMany th_setMany th_corners th_isLoaded th_loaded th_widened th_wide th_boundUp th_boundDown th_saying th_up th_down th_world th_tight th_sum th_now)) (m := 8) (by rfl) (by rfl) (by rfl) (by rfl) (by rfl) hP
  have hD : va_D A (w_X9_never tc q_th q_th_text q_th_saying q_th_signs q_th_sets q_th_told q_th_up q_th_down q_th_world q_th_tight q_th_sum q_th_now n_th_saying n_th_up n_th_down n_th_world n_th_tight n_th_sum n_th_now (0 : Int32) th_typed th_next th_token th_place th_value th_fault th_many th_signMany th_setMany z6_1 z6_2 z6_3 z6_4 th_wide th_boundUp th_boundDown th_saying z6_5 z6_6 z6_7 z6_8 z6_9 z6_10) := st_segD (w0 := (w_X9_loadsOn tc q_th q_th_text q_th_saying q_th_signs q_th_sets q_th_told q_th_up q_th_down q_th_world q_th_tight q_th_sum q_th_now n_th_saying n_th_up n_th_down n_th_world n_th_tight n_th_sum n_th_now (0 : Int32) th_typed th_next th_token th_place th_value th_fault th_many th_signMany th_setMany th_corners th_isLoaded th_loaded th_widened th_wide th_boundUp th_boundDown th_saying th_up th_down th_world th_tight th_sum th_now)) (m := 8) (by rfl) (by rfl) (by rfl) (by rfl) (by rfl) hD
  refine lv_pop hx hb dX9_never_9 rfl ?_
  refine lv_sipush (v := (255 : Int32)) hx hb dX9_never_10 (by decide) ?_
  refine lv_istore_n (lv' := [(1, .int (255 : Int32)), (0, .ref q_th)]) hx hb dX9_never_13 rfl hl (by decide) rfl (fun ls hl => ?_)
  refine lv_iconst (v := (0 : Int32)) hx hb dX9_never_14 (by decide) ?_
  refine lv_istore_n (lv' := [(2, .int (0 : Int32)), (1, .int (255 : Int32)), (0, .ref q_th)]) hx hb dX9_never_15 rfl hl (by decide) rfl (fun ls hl => ?_)
  obtain ⟨z7_0, hl7, h⟩ := bd_ok h
  refine L16 (0 : Int32) z6_1 z6_2 z6_3 z6_4 z6_5 z6_6 z6_7 z6_8 z6_9 z6_10 K _ _ hl7 ?_ _ _ _ hP hD hS (lv_sub hl [2, 1, 0] rfl)
  intro H locs ls hP hD hS hl
  refine lv_iload_n hx hb dX9_never_74 rfl (lv_at hl 0 rfl) ?_
  simp only [Option.some.injEq, Prod.mk.injEq] at h
  obtain ⟨rfl, rfl, rfl, rfl, rfl, rfl, rfl, rfl, rfl, rfl, rfl, rfl⟩ := h
  exact st_iret hx hb hr hlocks hP hD hS dX9_never_75

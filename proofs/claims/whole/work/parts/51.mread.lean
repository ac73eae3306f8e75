def f_X9_advances_L0 (n_th_text : Nat) (th_typed : Int32) (th_text : Nat → Int32) (s0 : Int32) : Option ((Int32) ⊕ (Int32)) :=
  (fun th_next => 
    (f_X9_byteAt n_th_text th_typed th_text th_next).bind fun z1_0 =>
    if z1_0 = (32 : Int32) then
      some (.inr (th_next + (1 : Int32)))
    else
      some (.inl th_next)
  ) s0
def f_X9_advances_L66 (n_th_text : Nat) (th_typed : Int32) (th_text : Nat → Int32) (s66 : Int32) : Option ((Int32) ⊕ (Int32)) :=
  (fun th_next => 
    (f_X9_byteAt n_th_text th_typed th_text th_next).bind fun z3_0 =>
    (f_X9_in z3_0 (97 : Int32) (122 : Int32)).bind fun z4_0 =>
    if z4_0 = (0 : Int32) then
      some (.inl th_next)
    else
      some (.inr (th_next + (1 : Int32)))
  ) s66
def f_X9_advances_L185 (n_th_text : Nat) (th_typed : Int32) (th_text : Nat → Int32) (s185 : Int32 × Int32) : Option ((Int32 × Int32) ⊕ (Int32 × Int32)) :=
  match s185 with
  | (th_next, th_value) =>
    (f_X9_byteAt n_th_text th_typed th_text th_next).bind fun z6_0 =>
    (f_X9_in z6_0 (48 : Int32) (57 : Int32)).bind fun z7_0 =>
    if z7_0 = (0 : Int32) then
      some (.inl (th_next, th_value))
    else
      if th_value ≤ (999 : Int32) then
        (f_X9_byteAt n_th_text th_typed th_text th_next).bind fun z10_0 =>
        some (.inr (th_next + (1 : Int32), (((10 : Int32) * th_value) + z10_0) - (48 : Int32)))
      else
        some (.inr (th_next + (1 : Int32), th_value))
def f_X9_advances_J354 (th_next : Int32) (th_place : Int32) (th_value : Int32) : Option (Int32 × Int32 × Int32 × Int32) :=
  if (1 : Int32) = (0 : Int32) then
    some (th_next, (5 : Int32), th_place, th_value)
  else
    some (th_next, (4 : Int32), th_place, th_value)
def f_X9_advances (K : Nat) (n_th_text : Nat) (th_typed : Int32) (th_next : Int32) (th_value : Int32) (th_text : Nat → Int32) : Option (Int32 × Int32 × Int32 × Int32) :=
  (f_X9_byteAt n_th_text th_typed th_text th_next).bind fun z12_0 =>
  if z12_0 = (32 : Int32) then
    (lp (f_X9_advances_L0 n_th_text th_typed th_text) K (th_next + (1 : Int32))).bind fun z43_0 =>
    (f_X9_byteAt n_th_text th_typed th_text z43_0).bind fun z44_0 =>
    if (0 : Int32) ≤ z44_0 then
      (f_X9_in z44_0 (97 : Int32) (122 : Int32)).bind fun z46_0 =>
      if z46_0 = (0 : Int32) then
        (f_X9_in z44_0 (48 : Int32) (57 : Int32)).bind fun z48_0 =>
        if z48_0 = (0 : Int32) then
          if z44_0 = (33 : Int32) then
            f_X9_advances_J354 (z43_0 + (1 : Int32)) z43_0 z44_0
          else
            if z44_0 = (38 : Int32) then
              f_X9_advances_J354 (z43_0 + (1 : Int32)) z43_0 z44_0
            else
              if z44_0 = (124 : Int32) then
                f_X9_advances_J354 (z43_0 + (1 : Int32)) z43_0 z44_0
              else
                if z44_0 = (40 : Int32) then
                  f_X9_advances_J354 (z43_0 + (1 : Int32)) z43_0 z44_0
                else
                  if z44_0 = (41 : Int32) then
                    f_X9_advances_J354 (z43_0 + (1 : Int32)) z43_0 z44_0
                  else
                    if z44_0 = (45 : Int32) then
                      f_X9_advances_J354 (z43_0 + (1 : Int32)) z43_0 z44_0
                    else
                      if z44_0 = (59 : Int32) then
                        f_X9_advances_J354 (z43_0 + (1 : Int32)) z43_0 z44_0
                      else
                        if (0 : Int32) = (0 : Int32) then
                          some (z43_0 + (1 : Int32), (5 : Int32), z43_0, z44_0)
                        else
                          some (z43_0 + (1 : Int32), (4 : Int32), z43_0, z44_0)
        else
          (lp (f_X9_advances_L185 n_th_text th_typed th_text) K (z43_0, (0 : Int32))).bind fun z58 => match z58 with
          | (z58_0, z58_1) =>
            if (999 : Int32) < z58_1 then
              some (z58_0, (5 : Int32), z43_0, z58_1)
            else
              if z44_0 = (48 : Int32) then
                if (z58_0 - z43_0) ≤ (1 : Int32) then
                  some (z58_0, (3 : Int32), z43_0, z58_1)
                else
                  some (z58_0, (5 : Int32), z43_0, z58_1)
              else
                some (z58_0, (3 : Int32), z43_0, z58_1)
      else
        (lp (f_X9_advances_L66 n_th_text th_typed th_text) K z43_0).bind fun z62_0 =>
        if (z62_0 - z43_0) = (1 : Int32) then
          if (100 : Int32) ≤ z44_0 then
            if (z62_0 - z43_0) = (2 : Int32) then
              if z44_0 = (105 : Int32) then
                if (z43_0 + (1 : Int32)) < 0 ∨ n_th_text ≤ (z43_0 + (1 : Int32)).toNatClampNeg then none else
                if (th_text (z43_0 + (1 : Int32)).toNatClampNeg) = (102 : Int32) then
                  some (z62_0, (2 : Int32), z43_0, z44_0 - (97 : Int32))
                else
                  some (z62_0, (5 : Int32), z43_0, z44_0 - (97 : Int32))
              else
                some (z62_0, (5 : Int32), z43_0, z44_0 - (97 : Int32))
            else
              some (z62_0, (5 : Int32), z43_0, z44_0 - (97 : Int32))
          else
            some (z62_0, (1 : Int32), z43_0, z44_0 - (97 : Int32))
        else
          if (z62_0 - z43_0) = (2 : Int32) then
            if z44_0 = (105 : Int32) then
              if (z43_0 + (1 : Int32)) < 0 ∨ n_th_text ≤ (z43_0 + (1 : Int32)).toNatClampNeg then none else
              if (th_text (z43_0 + (1 : Int32)).toNatClampNeg) = (102 : Int32) then
                some (z62_0, (2 : Int32), z43_0, z44_0 - (97 : Int32))
              else
                some (z62_0, (5 : Int32), z43_0, z44_0 - (97 : Int32))
            else
              some (z62_0, (5 : Int32), z43_0, z44_0 - (97 : Int32))
          else
            some (z62_0, (5 : Int32), z43_0, z44_0 - (97 : Int32))
    else
      some (z43_0, (0 : Int32), z43_0, th_value)
  else
    (f_X9_byteAt n_th_text th_typed th_text th_next).bind fun z14_0 =>
    if (0 : Int32) ≤ z14_0 then
      (f_X9_in z14_0 (97 : Int32) (122 : Int32)).bind fun z16_0 =>
      if z16_0 = (0 : Int32) then
        (f_X9_in z14_0 (48 : Int32) (57 : Int32)).bind fun z18_0 =>
        if z18_0 = (0 : Int32) then
          if z14_0 = (33 : Int32) then
            f_X9_advances_J354 (th_next + (1 : Int32)) th_next z14_0
          else
            if z14_0 = (38 : Int32) then
              f_X9_advances_J354 (th_next + (1 : Int32)) th_next z14_0
            else
              if z14_0 = (124 : Int32) then
                f_X9_advances_J354 (th_next + (1 : Int32)) th_next z14_0
              else
                if z14_0 = (40 : Int32) then
                  f_X9_advances_J354 (th_next + (1 : Int32)) th_next z14_0
                else
                  if z14_0 = (41 : Int32) then
                    f_X9_advances_J354 (th_next + (1 : Int32)) th_next z14_0
                  else
                    if z14_0 = (45 : Int32) then
                      f_X9_advances_J354 (th_next + (1 : Int32)) th_next z14_0
                    else
                      if z14_0 = (59 : Int32) then
                        f_X9_advances_J354 (th_next + (1 : Int32)) th_next z14_0
                      else
                        if (0 : Int32) = (0 : Int32) then
                          some (th_next + (1 : Int32), (5 : Int32), th_next, z14_0)
                        else
                          some (th_next + (1 : Int32), (4 : Int32), th_next, z14_0)
        else
          (lp (f_X9_advances_L185 n_th_text th_typed th_text) K (th_next, (0 : Int32))).bind fun z28 => match z28 with
          | (z28_0, z28_1) =>
            if (999 : Int32) < z28_1 then
              some (z28_0, (5 : Int32), th_next, z28_1)
            else
              if z14_0 = (48 : Int32) then
                if (z28_0 - th_next) ≤ (1 : Int32) then
                  some (z28_0, (3 : Int32), th_next, z28_1)
                else
                  some (z28_0, (5 : Int32), th_next, z28_1)
              else
                some (z28_0, (3 : Int32), th_next, z28_1)
      else
        (lp (f_X9_advances_L66 n_th_text th_typed th_text) K th_next).bind fun z32_0 =>
        if (z32_0 - th_next) = (1 : Int32) then
          if (100 : Int32) ≤ z14_0 then
            if (z32_0 - th_next) = (2 : Int32) then
              if z14_0 = (105 : Int32) then
                if (th_next + (1 : Int32)) < 0 ∨ n_th_text ≤ (th_next + (1 : Int32)).toNatClampNeg then none else
                if (th_text (th_next + (1 : Int32)).toNatClampNeg) = (102 : Int32) then
                  some (z32_0, (2 : Int32), th_next, z14_0 - (97 : Int32))
                else
                  some (z32_0, (5 : Int32), th_next, z14_0 - (97 : Int32))
              else
                some (z32_0, (5 : Int32), th_next, z14_0 - (97 : Int32))
            else
              some (z32_0, (5 : Int32), th_next, z14_0 - (97 : Int32))
          else
            some (z32_0, (1 : Int32), th_next, z14_0 - (97 : Int32))
        else
          if (z32_0 - th_next) = (2 : Int32) then
            if z14_0 = (105 : Int32) then
              if (th_next + (1 : Int32)) < 0 ∨ n_th_text ≤ (th_next + (1 : Int32)).toNatClampNeg then none else
              if (th_text (th_next + (1 : Int32)).toNatClampNeg) = (102 : Int32) then
                some (z32_0, (2 : Int32), th_next, z14_0 - (97 : Int32))
              else
                some (z32_0, (5 : Int32), th_next, z14_0 - (97 : Int32))
            else
              some (z32_0, (5 : Int32), th_next, z14_0 - (97 : Int32))
          else
            some (z32_0, (5 : Int32), th_next, z14_0 - (97 : Int32))
    else
      some (th_next, (0 : Int32), th_next, th_value)
abbrev w_X9_advances (tc : Nat → ClassId) (q_th : Nat) (q_th_text : Nat) (q_th_saying : Nat) (q_th_signs : Nat) (q_th_sets : Nat) (q_th_told : Nat) (q_th_up : Nat) (q_th_down : Nat) (q_th_world : Nat) (q_th_tight : Nat) (q_th_sum : Nat) (q_th_now : Nat) (n_th_text : Nat) (th_thrown : Int32) (th_typed : Int32) (th_next : Int32) (th_token : Int32) (th_place : Int32) (th_value : Int32) (th_fault : Int32) (th_many : Int32) (th_signMany : Int32) (th_setMany : Int32) (th_corners : Int32) (th_isLoaded : Int32) (th_loaded : Int32) (th_widened : Int32) (th_wide : Int32) (th_boundUp : Int64) (th_boundDown : Int64) (th_text : Nat → Int32) : va_W := [(q_th, .inr (9, [.int th_thrown, .ref q_th_text, .int th_typed, .int th_next, .int th_token, .int th_place, .int th_value, .int th_fault, .int th_many, .ref q_th_saying, .ref q_th_signs, .ref q_th_sets, .int th_signMany, .int th_setMany, .ref q_th_told, .int th_corners, .int th_isLoaded, .int th_loaded, .ref q_th_up, .ref q_th_down, .ref q_th_world, .ref q_th_tight, .ref q_th_sum, .ref q_th_now, .int th_widened, .int th_wide, .long th_boundUp, .long th_boundDown])), (q_th_text, .inl (tc 0, n_th_text, .inl th_text))]
set_option maxHeartbeats 4000000 in
set_option maxRecDepth 100000 in
theorem s_X9_advances {l : Launch} {E : (Nat → Prop) → State → Prop} (hEok : st_Eok E) {D : va_G} {tc : Nat → ClassId} (q_th : Nat) (q_th_text : Nat) (q_th_saying : Nat) (q_th_signs : Nat) (q_th_sets : Nat) (q_th_told : Nat) (q_th_up : Nat) (q_th_down : Nat) (q_th_world : Nat) (q_th_tight : Nat) (q_th_sum : Nat) (q_th_now : Nat) (n_th_text : Nat) (th_thrown : Int32) (th_typed : Int32) (th_next : Int32) (th_token : Int32) (th_place : Int32) (th_value : Int32) (th_fault : Int32) (th_many : Int32) (th_signMany : Int32) (th_setMany : Int32) (th_corners : Int32) (th_isLoaded : Int32) (th_loaded : Int32) (th_widened : Int32) (th_wide : Int32) (th_boundUp : Int64) (th_boundDown : Int64) (th_text : Nat → Int32) (K : Nat) (th_next' : Int32) (th_token' : Int32) (th_place' : Int32) (th_value' : Int32) (h : f_X9_advances K n_th_text th_typed th_next th_value th_text = some (th_next', th_token', th_place', th_value')) : st l yX9_advances wsX9_advances ({ frames := 1, cells := 0, slots := 0, locals := 22 }) E D tc [.ref q_th] (w_X9_advances tc q_th q_th_text q_th_saying q_th_signs q_th_sets q_th_told q_th_up q_th_down q_th_world q_th_tight q_th_sum q_th_now n_th_text th_thrown th_typed th_next th_token th_place th_value th_fault th_many th_signMany th_setMany th_corners th_isLoaded th_loaded th_widened th_wide th_boundUp th_boundDown th_text) none (w_X9_advances tc q_th q_th_text q_th_saying q_th_signs q_th_sets q_th_told q_th_up q_th_down q_th_world q_th_tight q_th_sum q_th_now n_th_text th_thrown th_typed th_next' th_token' th_place' th_value' th_fault th_many th_signMany th_setMany th_corners th_isLoaded th_loaded th_widened th_wide th_boundUp th_boundDown th_text) := by
  refine st_enter (cc := cX9_advances) (maxL := 3) (ret := none) (by decide) rfl (Nat.le_of_ble_eq_true rfl) ?_
  intro p e s m below meth c A ls hx hb hr hml hts hown hlocks hK hN hE hA hP hD hS hl
  have hl : lv_has ls 3 [(0, .ref q_th)] := hl
  have hinX9 : ∀ w ∈ wsX90, w ∈ wsX9_advances := by decide +kernel
  generalize hav : ([.ref q_th] : List Value).toArray = av at hts ⊢
  have L0 : ∀ (th_token : Int32) (th_place : Int32) (th_value : Int32), ∀ (k : Nat) (s0 : Int32) (r : Int32), lp (f_X9_advances_L0 n_th_text th_typed th_text) k s0 = some r → (fun th_next : Int32 => ∀ (H : Heap) (locs : List Loc) (ls : Array Slot), va_P D vwCl (w_X9_advances tc q_th q_th_text q_th_saying q_th_signs q_th_sets q_th_told q_th_up q_th_down q_th_world q_th_tight q_th_sum q_th_now n_th_text th_thrown th_typed th_next th_token th_place th_value th_fault th_many th_signMany th_setMany th_corners th_isLoaded th_loaded th_widened th_wide th_boundUp th_boundDown th_text) H → va_D A (w_X9_advances tc q_th q_th_text q_th_saying q_th_signs q_th_sets q_th_told q_th_up q_th_down q_th_world q_th_tight q_th_sum q_th_now n_th_text th_thrown th_typed th_next th_token th_place th_value th_fault th_many th_signMany th_setMany th_corners th_isLoaded th_loaded th_widened th_wide th_boundUp th_boundDown th_text) → va_S A s.heap H locs → lv_has ls 3 [(0, .ref q_th)] → W p l e ({ frames := 1, cells := 0, slots := 0, locals := 22 } : Room) s m av below meth c H locs 0 0 (MQ below (st_Q D (w_X9_advances tc q_th q_th_text q_th_saying q_th_signs q_th_sets q_th_told q_th_up q_th_down q_th_world q_th_tight q_th_sum q_th_now n_th_text th_thrown th_typed th_next' th_token' th_place' th_value' th_fault th_many th_signMany th_setMany th_corners th_isLoaded th_loaded th_widened th_wide th_boundUp th_boundDown th_text) none A) av s 0 0 A) (F0 m 26 ls [])) r → (fun th_next : Int32 => ∀ (H : Heap) (locs : List Loc) (ls : Array Slot), va_P D vwCl (w_X9_advances tc q_th q_th_text q_th_saying q_th_signs q_th_sets q_th_told q_th_up q_th_down q_th_world q_th_tight q_th_sum q_th_now n_th_text th_thrown th_typed th_next th_token th_place th_value th_fault th_many th_signMany th_setMany th_corners th_isLoaded th_loaded th_widened th_wide th_boundUp th_boundDown th_text) H → va_D A (w_X9_advances tc q_th q_th_text q_th_saying q_th_signs q_th_sets q_th_told q_th_up q_th_down q_th_world q_th_tight q_th_sum q_th_now n_th_text th_thrown th_typed th_next th_token th_place th_value th_fault th_many th_signMany th_setMany th_corners th_isLoaded th_loaded th_widened th_wide th_boundUp th_boundDown th_text) → va_S A s.heap H locs → lv_has ls 3 [(0, .ref q_th)] → W p l e ({ frames := 1, cells := 0, slots := 0, locals := 22 } : Room) s m av below meth c H locs 0 0 (MQ below (st_Q D (w_X9_advances tc q_th q_th_text q_th_saying q_th_signs q_th_sets q_th_told q_th_up q_th_down q_th_world q_th_tight q_th_sum q_th_now n_th_text th_thrown th_typed th_next' th_token' th_place' th_value' th_fault th_many th_signMany th_setMany th_corners th_isLoaded th_loaded th_widened th_wide th_boundUp th_boundDown th_text) none A) av s 0 0 A) (F0 m 0 ls [])) s0 := by
    intro th_token th_place th_value
    refine lp_W (f_X9_advances_L0 n_th_text th_typed th_text) (fun th_next : Int32 => ∀ (H : Heap) (locs : List Loc) (ls : Array Slot), va_P D vwCl (w_X9_advances tc q_th q_th_text q_th_saying q_th_signs q_th_sets q_th_told q_th_up q_th_down q_th_world q_th_tight q_th_sum q_th_now n_th_text th_thrown th_typed th_next th_token th_place th_value th_fault th_many th_signMany th_setMany th_corners th_isLoaded th_loaded th_widened th_wide th_boundUp th_boundDown th_text) H → va_D A (w_X9_advances tc q_th q_th_text q_th_saying q_th_signs q_th_sets q_th_told q_th_up q_th_down q_th_world q_th_tight q_th_sum q_th_now n_th_text th_thrown th_typed th_next th_token th_place th_value th_fault th_many th_signMany th_setMany th_corners th_isLoaded th_loaded th_widened th_wide th_boundUp th_boundDown th_text) → va_S A s.heap H locs → lv_has ls 3 [(0, .ref q_th)] → W p l e ({ frames := 1, cells := 0, slots := 0, locals := 22 } : Room) s m av below meth c H locs 0 0 (MQ below (st_Q D (w_X9_advances tc q_th q_th_text q_th_saying q_th_signs q_th_sets q_th_told q_th_up q_th_down q_th_world q_th_tight q_th_sum q_th_now n_th_text th_thrown th_typed th_next' th_token' th_place' th_value' th_fault th_many th_signMany th_setMany th_corners th_isLoaded th_loaded th_widened th_wide th_boundUp th_boundDown th_text) none A) av s 0 0 A) (F0 m 0 ls [])) (fun th_next : Int32 => ∀ (H : Heap) (locs : List Loc) (ls : Array Slot), va_P D vwCl (w_X9_advances tc q_th q_th_text q_th_saying q_th_signs q_th_sets q_th_told q_th_up q_th_down q_th_world q_th_tight q_th_sum q_th_now n_th_text th_thrown th_typed th_next th_token th_place th_value th_fault th_many th_signMany th_setMany th_corners th_isLoaded th_loaded th_widened th_wide th_boundUp th_boundDown th_text) H → va_D A (w_X9_advances tc q_th q_th_text q_th_saying q_th_signs q_th_sets q_th_told q_th_up q_th_down q_th_world q_th_tight q_th_sum q_th_now n_th_text th_thrown th_typed th_next th_token th_place th_value th_fault th_many th_signMany th_setMany th_corners th_isLoaded th_loaded th_widened th_wide th_boundUp th_boundDown th_text) → va_S A s.heap H locs → lv_has ls 3 [(0, .ref q_th)] → W p l e ({ frames := 1, cells := 0, slots := 0, locals := 22 } : Room) s m av below meth c H locs 0 0 (MQ below (st_Q D (w_X9_advances tc q_th q_th_text q_th_saying q_th_signs q_th_sets q_th_told q_th_up q_th_down q_th_world q_th_tight q_th_sum q_th_now n_th_text th_thrown th_typed th_next' th_token' th_place' th_value' th_fault th_many th_signMany th_setMany th_corners th_isLoaded th_loaded th_widened th_wide th_boundUp th_boundDown th_text) none A) av s 0 0 A) (F0 m 26 ls [])) ?_
    rintro th_next o h ih hz H locs ls hP hD hS hl
    unfold f_X9_advances_L0 at h
    refine lv_aload_n hx hb dX9_advances_0 rfl (lv_at hl 0 rfl) ?_
    refine lv_aload_n hx hb dX9_advances_1 rfl (lv_at hl 0 rfl) ?_
    refine va_get (D := D) (ci := 9) (v := .int th_next) (C := RX9) (T := TX9) (N := 28) hx hb hts hinX9 hown hK hP 0 rfl rfl 3 (by decide) (hts (.fieldLink RX9 61 "ChanceBoundsModel" "next" "I") (by decide +kernel)) (fun _ h9 => h9) rfl dX9_advances_2 ?_
    obtain ⟨z1_0, hc1, h⟩ := bd_ok h
    refine st_callV (As := [.int th_next]) (rest := []) (pos := [0, 1]) ⟨hx, hb, hml, hown, hts⟩ (s_X9_byteAt (l := l) (D := D) (tc := tc) hEok q_th q_th_text q_th_saying q_th_signs q_th_sets q_th_told q_th_up q_th_down q_th_world q_th_tight q_th_sum q_th_now n_th_text th_thrown th_typed th_next th_token th_place th_value th_fault th_many th_signMany th_setMany th_corners th_isLoaded th_loaded th_widened th_wide th_boundUp th_boundDown th_text th_next z1_0 hc1) (cwV 1 hts gX9_advances_X9_byteAt rfl rfl rfl (by decide +kernel) ⟨Nat.le_of_ble_eq_true rfl, Nat.le_of_ble_eq_true rfl⟩) (st_recv (ci := 9) (q0 := 0) hK hP rfl rfl) hEok hE hK hN hP hD hS hA rfl rfl rfl rfl hl.1 rfl (Nat.le_of_ble_eq_true rfl) dX9_advances_5 ⟨Nat.zero_le _, Nat.zero_le _⟩ (fun H locs hP hD hS => ?_)
    have hP : va_P D vwCl (w_X9_advances tc q_th q_th_text q_th_saying q_th_signs q_th_sets q_th_told q_th_up q_th_down q_th_world q_th_tight q_th_sum q_th_now n_th_text th_thrown th_typed th_next th_token th_place th_value th_fault th_many th_signMany th_setMany th_corners th_isLoaded th_loaded th_widened th_wide th_boundUp th_boundDown th_text) H := hP
    have hD : va_D A (w_X9_advances tc q_th q_th_text q_th_saying q_th_signs q_th_sets q_th_told q_th_up q_th_down q_th_world q_th_tight q_th_sum q_th_now n_th_text th_thrown th_typed th_next th_token th_place th_value th_fault th_many th_signMany th_setMany th_corners th_isLoaded th_loaded th_widened th_wide th_boundUp th_boundDown th_text) := hD
    refine lv_bipush (v := (32 : Int32)) hx hb dX9_advances_8 (by decide) ?_
    refine lv_icmp_ne (tgt := 26) hx hb dX9_advances_10 (by decide) (fun c2 => ?_) (fun c2 => ?_)
    · replace h := ifn c2 h
      cases h
      exact hz _ rfl _ _ _ hP hD hS (lv_sub hl [0] rfl)
    · replace h := ifp c2 h
      refine lv_aload_n hx hb dX9_advances_13 rfl (lv_at hl 0 rfl) ?_
      refine lv_dup hx hb dX9_advances_14 rfl ?_
      refine va_get (D := D) (ci := 9) (v := .int th_next) (C := RX9) (T := TX9) (N := 28) hx hb hts hinX9 hown hK hP 0 rfl rfl 3 (by decide) (hts (.fieldLink RX9 61 "ChanceBoundsModel" "next" "I") (by decide +kernel)) (fun _ h9 => h9) rfl dX9_advances_15 ?_
      refine lv_iconst (v := (1 : Int32)) hx hb dX9_advances_18 (by decide) ?_
      refine lv_iadd hx hb dX9_advances_19 ?_
      refine va_put (D := D) (ci := 9) (v := .int (th_next + (1 : Int32))) (ty := .int) (C := RX9) (T := TX9) (N := 28) hx hb hts hinX9 tyX9 tyX9_ok nmX9 hown hK hP hD hS 0 rfl rfl 3 (by decide) (hts (.fieldLink RX9 61 "ChanceBoundsModel" "next" "I") (by decide +kernel)) (fun _ h9 => h9) rfl (by decide +kernel) rfl rfl (Nat.le_of_ble_eq_true rfl) dX9_advances_20 (fun H locs hP hD hS => ?_)
      have hP : va_P D vwCl (w_X9_advances tc q_th q_th_text q_th_saying q_th_signs q_th_sets q_th_told q_th_up q_th_down q_th_world q_th_tight q_th_sum q_th_now n_th_text th_thrown th_typed (th_next + (1 : Int32)) th_token th_place th_value th_fault th_many th_signMany th_setMany th_corners th_isLoaded th_loaded th_widened th_wide th_boundUp th_boundDown th_text) H := hP
      have hD : va_D A (w_X9_advances tc q_th q_th_text q_th_saying q_th_signs q_th_sets q_th_told q_th_up q_th_down q_th_world q_th_tight q_th_sum q_th_now n_th_text th_thrown th_typed (th_next + (1 : Int32)) th_token th_place th_value th_fault th_many th_signMany th_setMany th_corners th_isLoaded th_loaded th_widened th_wide th_boundUp th_boundDown th_text) := hD
      refine lv_goto (tgt := 0) hx hb dX9_advances_23 (by decide) ?_
      cases h
      exact ih _ rfl _ _ _ hP hD hS (lv_sub hl [0] rfl)
  have L66 : ∀ (x1 : Int32) (th_token : Int32) (th_place : Int32) (th_value : Int32), ∀ (k : Nat) (s66 : Int32) (r : Int32), lp (f_X9_advances_L66 n_th_text th_typed th_text) k s66 = some r → (fun th_next : Int32 => ∀ (H : Heap) (locs : List Loc) (ls : Array Slot), va_P D vwCl (w_X9_advances tc q_th q_th_text q_th_saying q_th_signs q_th_sets q_th_told q_th_up q_th_down q_th_world q_th_tight q_th_sum q_th_now n_th_text th_thrown th_typed th_next th_token th_place th_value th_fault th_many th_signMany th_setMany th_corners th_isLoaded th_loaded th_widened th_wide th_boundUp th_boundDown th_text) H → va_D A (w_X9_advances tc q_th q_th_text q_th_saying q_th_signs q_th_sets q_th_told q_th_up q_th_down q_th_world q_th_tight q_th_sum q_th_now n_th_text th_thrown th_typed th_next th_token th_place th_value th_fault th_many th_signMany th_setMany th_corners th_isLoaded th_loaded th_widened th_wide th_boundUp th_boundDown th_text) → va_S A s.heap H locs → lv_has ls 3 [(0, .ref q_th), (1, .int x1)] → W p l e ({ frames := 1, cells := 0, slots := 0, locals := 22 } : Room) s m av below meth c H locs 0 0 (MQ below (st_Q D (w_X9_advances tc q_th q_th_text q_th_saying q_th_signs q_th_sets q_th_told q_th_up q_th_down q_th_world q_th_tight q_th_sum q_th_now n_th_text th_thrown th_typed th_next' th_token' th_place' th_value' th_fault th_many th_signMany th_setMany th_corners th_isLoaded th_loaded th_widened th_wide th_boundUp th_boundDown th_text) none A) av s 0 0 A) (F0 m 97 ls [])) r → (fun th_next : Int32 => ∀ (H : Heap) (locs : List Loc) (ls : Array Slot), va_P D vwCl (w_X9_advances tc q_th q_th_text q_th_saying q_th_signs q_th_sets q_th_told q_th_up q_th_down q_th_world q_th_tight q_th_sum q_th_now n_th_text th_thrown th_typed th_next th_token th_place th_value th_fault th_many th_signMany th_setMany th_corners th_isLoaded th_loaded th_widened th_wide th_boundUp th_boundDown th_text) H → va_D A (w_X9_advances tc q_th q_th_text q_th_saying q_th_signs q_th_sets q_th_told q_th_up q_th_down q_th_world q_th_tight q_th_sum q_th_now n_th_text th_thrown th_typed th_next th_token th_place th_value th_fault th_many th_signMany th_setMany th_corners th_isLoaded th_loaded th_widened th_wide th_boundUp th_boundDown th_text) → va_S A s.heap H locs → lv_has ls 3 [(0, .ref q_th), (1, .int x1)] → W p l e ({ frames := 1, cells := 0, slots := 0, locals := 22 } : Room) s m av below meth c H locs 0 0 (MQ below (st_Q D (w_X9_advances tc q_th q_th_text q_th_saying q_th_signs q_th_sets q_th_told q_th_up q_th_down q_th_world q_th_tight q_th_sum q_th_now n_th_text th_thrown th_typed th_next' th_token' th_place' th_value' th_fault th_many th_signMany th_setMany th_corners th_isLoaded th_loaded th_widened th_wide th_boundUp th_boundDown th_text) none A) av s 0 0 A) (F0 m 66 ls [])) s66 := by
    intro x1 th_token th_place th_value
    refine lp_W (f_X9_advances_L66 n_th_text th_typed th_text) (fun th_next : Int32 => ∀ (H : Heap) (locs : List Loc) (ls : Array Slot), va_P D vwCl (w_X9_advances tc q_th q_th_text q_th_saying q_th_signs q_th_sets q_th_told q_th_up q_th_down q_th_world q_th_tight q_th_sum q_th_now n_th_text th_thrown th_typed th_next th_token th_place th_value th_fault th_many th_signMany th_setMany th_corners th_isLoaded th_loaded th_widened th_wide th_boundUp th_boundDown th_text) H → va_D A (w_X9_advances tc q_th q_th_text q_th_saying q_th_signs q_th_sets q_th_told q_th_up q_th_down q_th_world q_th_tight q_th_sum q_th_now n_th_text th_thrown th_typed th_next th_token th_place th_value th_fault th_many th_signMany th_setMany th_corners th_isLoaded th_loaded th_widened th_wide th_boundUp th_boundDown th_text) → va_S A s.heap H locs → lv_has ls 3 [(0, .ref q_th), (1, .int x1)] → W p l e ({ frames := 1, cells := 0, slots := 0, locals := 22 } : Room) s m av below meth c H locs 0 0 (MQ below (st_Q D (w_X9_advances tc q_th q_th_text q_th_saying q_th_signs q_th_sets q_th_told q_th_up q_th_down q_th_world q_th_tight q_th_sum q_th_now n_th_text th_thrown th_typed th_next' th_token' th_place' th_value' th_fault th_many th_signMany th_setMany th_corners th_isLoaded th_loaded th_widened th_wide th_boundUp th_boundDown th_text) none A) av s 0 0 A) (F0 m 66 ls [])) (fun th_next : Int32 => ∀ (H : Heap) (locs : List Loc) (ls : Array Slot), va_P D vwCl (w_X9_advances tc q_th q_th_text q_th_saying q_th_signs q_th_sets q_th_told q_th_up q_th_down q_th_world q_th_tight q_th_sum q_th_now n_th_text th_thrown th_typed th_next th_token th_place th_value th_fault th_many th_signMany th_setMany th_corners th_isLoaded th_loaded th_widened th_wide th_boundUp th_boundDown th_text) H → va_D A (w_X9_advances tc q_th q_th_text q_th_saying q_th_signs q_th_sets q_th_told q_th_up q_th_down q_th_world q_th_tight q_th_sum q_th_now n_th_text th_thrown th_typed th_next th_token th_place th_value th_fault th_many th_signMany th_setMany th_corners th_isLoaded th_loaded th_widened th_wide th_boundUp th_boundDown th_text) → va_S A s.heap H locs → lv_has ls 3 [(0, .ref q_th), (1, .int x1)] → W p l e ({ frames := 1, cells := 0, slots := 0, locals := 22 } : Room) s m av below meth c H locs 0 0 (MQ below (st_Q D (w_X9_advances tc q_th q_th_text q_th_saying q_th_signs q_th_sets q_th_told q_th_up q_th_down q_th_world q_th_tight q_th_sum q_th_now n_th_text th_thrown th_typed th_next' th_token' th_place' th_value' th_fault th_many th_signMany th_setMany th_corners th_isLoaded th_loaded th_widened th_wide th_boundUp th_boundDown th_text) none A) av s 0 0 A) (F0 m 97 ls [])) ?_
    rintro th_next o h ih hz H locs ls hP hD hS hl
    unfold f_X9_advances_L66 at h
    refine lv_aload_n hx hb dX9_advances_66 rfl (lv_at hl 0 rfl) ?_
    refine lv_aload_n hx hb dX9_advances_67 rfl (lv_at hl 0 rfl) ?_
    refine va_get (D := D) (ci := 9) (v := .int th_next) (C := RX9) (T := TX9) (N := 28) hx hb hts hinX9 hown hK hP 0 rfl rfl 3 (by decide) (hts (.fieldLink RX9 61 "ChanceBoundsModel" "next" "I") (by decide +kernel)) (fun _ h9 => h9) rfl dX9_advances_68 ?_
    obtain ⟨z3_0, hc3, h⟩ := bd_ok h
    refine st_callV (As := [.int th_next]) (rest := []) (pos := [0, 1]) ⟨hx, hb, hml, hown, hts⟩ (s_X9_byteAt (l := l) (D := D) (tc := tc) hEok q_th q_th_text q_th_saying q_th_signs q_th_sets q_th_told q_th_up q_th_down q_th_world q_th_tight q_th_sum q_th_now n_th_text th_thrown th_typed th_next th_token th_place th_value th_fault th_many th_signMany th_setMany th_corners th_isLoaded th_loaded th_widened th_wide th_boundUp th_boundDown th_text th_next z3_0 hc3) (cwV 1 hts gX9_advances_X9_byteAt rfl rfl rfl (by decide +kernel) ⟨Nat.le_of_ble_eq_true rfl, Nat.le_of_ble_eq_true rfl⟩) (st_recv (ci := 9) (q0 := 0) hK hP rfl rfl) hEok hE hK hN hP hD hS hA rfl rfl rfl rfl hl.1 rfl (Nat.le_of_ble_eq_true rfl) dX9_advances_71 ⟨Nat.zero_le _, Nat.zero_le _⟩ (fun H locs hP hD hS => ?_)
    have hP : va_P D vwCl (w_X9_advances tc q_th q_th_text q_th_saying q_th_signs q_th_sets q_th_told q_th_up q_th_down q_th_world q_th_tight q_th_sum q_th_now n_th_text th_thrown th_typed th_next th_token th_place th_value th_fault th_many th_signMany th_setMany th_corners th_isLoaded th_loaded th_widened th_wide th_boundUp th_boundDown th_text) H := hP
    have hD : va_D A (w_X9_advances tc q_th q_th_text q_th_saying q_th_signs q_th_sets q_th_told q_th_up q_th_down q_th_world q_th_tight q_th_sum q_th_now n_th_text th_thrown th_typed th_next th_token th_place th_value th_fault th_many th_signMany th_setMany th_corners th_isLoaded th_loaded th_widened th_wide th_boundUp th_boundDown th_text) := hD
    refine lv_bipush (v := (97 : Int32)) hx hb dX9_advances_74 (by decide) ?_
    refine lv_bipush (v := (122 : Int32)) hx hb dX9_advances_76 (by decide) ?_
    obtain ⟨z4_0, hc4, h⟩ := bd_ok h
    refine st_callS (As := [.int z3_0, .int (97 : Int32), .int (122 : Int32)]) (rest := []) (pos := []) ⟨hx, hb, hml, hown, hts⟩ (s_X9_in (l := l) (D := D) (tc := tc) hEok z3_0 (97 : Int32) (122 : Int32) z4_0 hc4) (va_cwS 3 hts gX9_advances_X9_in rfl rfl rfl (by decide +kernel) ⟨Nat.le_of_ble_eq_true rfl, Nat.le_of_ble_eq_true rfl⟩) hEok hE hK hN hP hD hS hA rfl rfl rfl rfl hl.1 rfl (Nat.le_of_ble_eq_true rfl) dX9_advances_78 ⟨Nat.zero_le _, Nat.zero_le _⟩ (fun H locs hP hD hS => ?_)
    have hP : va_P D vwCl (w_X9_advances tc q_th q_th_text q_th_saying q_th_signs q_th_sets q_th_told q_th_up q_th_down q_th_world q_th_tight q_th_sum q_th_now n_th_text th_thrown th_typed th_next th_token th_place th_value th_fault th_many th_signMany th_setMany th_corners th_isLoaded th_loaded th_widened th_wide th_boundUp th_boundDown th_text) H := hP
    have hD : va_D A (w_X9_advances tc q_th q_th_text q_th_saying q_th_signs q_th_sets q_th_told q_th_up q_th_down q_th_world q_th_tight q_th_sum q_th_now n_th_text th_thrown th_typed th_next th_token th_place th_value th_fault th_many th_signMany th_setMany th_corners th_isLoaded th_loaded th_widened th_wide th_boundUp th_boundDown th_text) := hD
    refine lv_if_eq (tgt := 97) hx hb dX9_advances_81 (by decide) (fun c5 => ?_) (fun c5 => ?_)
    · replace h := ifp c5 h
      cases h
      exact hz _ rfl _ _ _ hP hD hS (lv_sub hl [0, 1] rfl)
    · replace h := ifn c5 h
      refine lv_aload_n hx hb dX9_advances_84 rfl (lv_at hl 0 rfl) ?_
      refine lv_dup hx hb dX9_advances_85 rfl ?_
      refine va_get (D := D) (ci := 9) (v := .int th_next) (C := RX9) (T := TX9) (N := 28) hx hb hts hinX9 hown hK hP 0 rfl rfl 3 (by decide) (hts (.fieldLink RX9 61 "ChanceBoundsModel" "next" "I") (by decide +kernel)) (fun _ h9 => h9) rfl dX9_advances_86 ?_
      refine lv_iconst (v := (1 : Int32)) hx hb dX9_advances_89 (by decide) ?_
      refine lv_iadd hx hb dX9_advances_90 ?_
      refine va_put (D := D) (ci := 9) (v := .int (th_next + (1 : Int32))) (ty := .int) (C := RX9) (T := TX9) (N := 28) hx hb hts hinX9 tyX9 tyX9_ok nmX9 hown hK hP hD hS 0 rfl rfl 3 (by decide) (hts (.fieldLink RX9 61 "ChanceBoundsModel" "next" "I") (by decide +kernel)) (fun _ h9 => h9) rfl (by decide +kernel) rfl rfl (Nat.le_of_ble_eq_true rfl) dX9_advances_91 (fun H locs hP hD hS => ?_)
      have hP : va_P D vwCl (w_X9_advances tc q_th q_th_text q_th_saying q_th_signs q_th_sets q_th_told q_th_up q_th_down q_th_world q_th_tight q_th_sum q_th_now n_th_text th_thrown th_typed (th_next + (1 : Int32)) th_token th_place th_value th_fault th_many th_signMany th_setMany th_corners th_isLoaded th_loaded th_widened th_wide th_boundUp th_boundDown th_text) H := hP
      have hD : va_D A (w_X9_advances tc q_th q_th_text q_th_saying q_th_signs q_th_sets q_th_told q_th_up q_th_down q_th_world q_th_tight q_th_sum q_th_now n_th_text th_thrown th_typed (th_next + (1 : Int32)) th_token th_place th_value th_fault th_many th_signMany th_setMany th_corners th_isLoaded th_loaded th_widened th_wide th_boundUp th_boundDown th_text) := hD
      refine lv_goto (tgt := 66) hx hb dX9_advances_94 (by decide) ?_
      cases h
      exact ih _ rfl _ _ _ hP hD hS (lv_sub hl [0, 1] rfl)
  have L185 : ∀ (x1 : Int32) (th_token : Int32) (th_place : Int32), ∀ (k : Nat) (s185 : Int32 × Int32) (r : Int32 × Int32), lp (f_X9_advances_L185 n_th_text th_typed th_text) k s185 = some r → (fun y185 : Int32 × Int32 => match y185 with | (th_next, th_value) => ∀ (H : Heap) (locs : List Loc) (ls : Array Slot), va_P D vwCl (w_X9_advances tc q_th q_th_text q_th_saying q_th_signs q_th_sets q_th_told q_th_up q_th_down q_th_world q_th_tight q_th_sum q_th_now n_th_text th_thrown th_typed th_next th_token th_place th_value th_fault th_many th_signMany th_setMany th_corners th_isLoaded th_loaded th_widened th_wide th_boundUp th_boundDown th_text) H → va_D A (w_X9_advances tc q_th q_th_text q_th_saying q_th_signs q_th_sets q_th_told q_th_up q_th_down q_th_world q_th_tight q_th_sum q_th_now n_th_text th_thrown th_typed th_next th_token th_place th_value th_fault th_many th_signMany th_setMany th_corners th_isLoaded th_loaded th_widened th_wide th_boundUp th_boundDown th_text) → va_S A s.heap H locs → lv_has ls 3 [(0, .ref q_th), (1, .int x1)] → W p l e ({ frames := 1, cells := 0, slots := 0, locals := 22 } : Room) s m av below meth c H locs 0 0 (MQ below (st_Q D (w_X9_advances tc q_th q_th_text q_th_saying q_th_signs q_th_sets q_th_told q_th_up q_th_down q_th_world q_th_tight q_th_sum q_th_now n_th_text th_thrown th_typed th_next' th_token' th_place' th_value' th_fault th_many th_signMany th_setMany th_corners th_isLoaded th_loaded th_widened th_wide th_boundUp th_boundDown th_text) none A) av s 0 0 A) (F0 m 256 ls [])) r → (fun s185 : Int32 × Int32 => match s185 with | (th_next, th_value) => ∀ (H : Heap) (locs : List Loc) (ls : Array Slot), va_P D vwCl (w_X9_advances tc q_th q_th_text q_th_saying q_th_signs q_th_sets q_th_told q_th_up q_th_down q_th_world q_th_tight q_th_sum q_th_now n_th_text th_thrown th_typed th_next th_token th_place th_value th_fault th_many th_signMany th_setMany th_corners th_isLoaded th_loaded th_widened th_wide th_boundUp th_boundDown th_text) H → va_D A (w_X9_advances tc q_th q_th_text q_th_saying q_th_signs q_th_sets q_th_told q_th_up q_th_down q_th_world q_th_tight q_th_sum q_th_now n_th_text th_thrown th_typed th_next th_token th_place th_value th_fault th_many th_signMany th_setMany th_corners th_isLoaded th_loaded th_widened th_wide th_boundUp th_boundDown th_text) → va_S A s.heap H locs → lv_has ls 3 [(0, .ref q_th), (1, .int x1)] → W p l e ({ frames := 1, cells := 0, slots := 0, locals := 22 } : Room) s m av below meth c H locs 0 0 (MQ below (st_Q D (w_X9_advances tc q_th q_th_text q_th_saying q_th_signs q_th_sets q_th_told q_th_up q_th_down q_th_world q_th_tight q_th_sum q_th_now n_th_text th_thrown th_typed th_next' th_token' th_place' th_value' th_fault th_many th_signMany th_setMany th_corners th_isLoaded th_loaded th_widened th_wide th_boundUp th_boundDown th_text) none A) av s 0 0 A) (F0 m 185 ls [])) s185 := by
    intro x1 th_token th_place
    refine lp_W (f_X9_advances_L185 n_th_text th_typed th_text) (fun s185 : Int32 × Int32 => match s185 with | (th_next, th_value) => ∀ (H : Heap) (locs : List Loc) (ls : Array Slot), va_P D vwCl (w_X9_advances tc q_th q_th_text q_th_saying q_th_signs q_th_sets q_th_told q_th_up q_th_down q_th_world q_th_tight q_th_sum q_th_now n_th_text th_thrown th_typed th_next th_token th_place th_value th_fault th_many th_signMany th_setMany th_corners th_isLoaded th_loaded th_widened th_wide th_boundUp th_boundDown th_text) H → va_D A (w_X9_advances tc q_th q_th_text q_th_saying q_th_signs q_th_sets q_th_told q_th_up q_th_down q_th_world q_th_tight q_th_sum q_th_now n_th_text th_thrown th_typed th_next th_token th_place th_value th_fault th_many th_signMany th_setMany th_corners th_isLoaded th_loaded th_widened th_wide th_boundUp th_boundDown th_text) → va_S A s.heap H locs → lv_has ls 3 [(0, .ref q_th), (1, .int x1)] → W p l e ({ frames := 1, cells := 0, slots := 0, locals := 22 } : Room) s m av below meth c H locs 0 0 (MQ below (st_Q D (w_X9_advances tc q_th q_th_text q_th_saying q_th_signs q_th_sets q_th_told q_th_up q_th_down q_th_world q_th_tight q_th_sum q_th_now n_th_text th_thrown th_typed th_next' th_token' th_place' th_value' th_fault th_many th_signMany th_setMany th_corners th_isLoaded th_loaded th_widened th_wide th_boundUp th_boundDown th_text) none A) av s 0 0 A) (F0 m 185 ls [])) (fun y185 : Int32 × Int32 => match y185 with | (th_next, th_value) => ∀ (H : Heap) (locs : List Loc) (ls : Array Slot), va_P D vwCl (w_X9_advances tc q_th q_th_text q_th_saying q_th_signs q_th_sets q_th_told q_th_up q_th_down q_th_world q_th_tight q_th_sum q_th_now n_th_text th_thrown th_typed th_next th_token th_place th_value th_fault th_many th_signMany th_setMany th_corners th_isLoaded th_loaded th_widened th_wide th_boundUp th_boundDown th_text) H → va_D A (w_X9_advances tc q_th q_th_text q_th_saying q_th_signs q_th_sets q_th_told q_th_up q_th_down q_th_world q_th_tight q_th_sum q_th_now n_th_text th_thrown th_typed th_next th_token th_place th_value th_fault th_many th_signMany th_setMany th_corners th_isLoaded th_loaded th_widened th_wide th_boundUp th_boundDown th_text) → va_S A s.heap H locs → lv_has ls 3 [(0, .ref q_th), (1, .int x1)] → W p l e ({ frames := 1, cells := 0, slots := 0, locals := 22 } : Room) s m av below meth c H locs 0 0 (MQ below (st_Q D (w_X9_advances tc q_th q_th_text q_th_saying q_th_signs q_th_sets q_th_told q_th_up q_th_down q_th_world q_th_tight q_th_sum q_th_now n_th_text th_thrown th_typed th_next' th_token' th_place' th_value' th_fault th_many th_signMany th_setMany th_corners th_isLoaded th_loaded th_widened th_wide th_boundUp th_boundDown th_text) none A) av s 0 0 A) (F0 m 256 ls [])) ?_
    rintro ⟨th_next, th_value⟩ o h ih hz H locs ls hP hD hS hl
    unfold f_X9_advances_L185 at h
    refine lv_aload_n hx hb dX9_advances_185 rfl (lv_at hl 0 rfl) ?_
    refine lv_aload_n hx hb dX9_advances_186 rfl (lv_at hl 0 rfl) ?_
    refine va_get (D := D) (ci := 9) (v := .int th_next) (C := RX9) (T := TX9) (N := 28) hx hb hts hinX9 hown hK hP 0 rfl rfl 3 (by decide) (hts (.fieldLink RX9 61 "ChanceBoundsModel" "next" "I") (by decide +kernel)) (fun _ h9 => h9) rfl dX9_advances_187 ?_
    obtain ⟨z6_0, hc6, h⟩ := bd_ok h
    refine st_callV (As := [.int th_next]) (rest := []) (pos := [0, 1]) ⟨hx, hb, hml, hown, hts⟩ (s_X9_byteAt (l := l) (D := D) (tc := tc) hEok q_th q_th_text q_th_saying q_th_signs q_th_sets q_th_told q_th_up q_th_down q_th_world q_th_tight q_th_sum q_th_now n_th_text th_thrown th_typed th_next th_token th_place th_value th_fault th_many th_signMany th_setMany th_corners th_isLoaded th_loaded th_widened th_wide th_boundUp th_boundDown th_text th_next z6_0 hc6) (cwV 1 hts gX9_advances_X9_byteAt rfl rfl rfl (by decide +kernel) ⟨Nat.le_of_ble_eq_true rfl, Nat.le_of_ble_eq_true rfl⟩) (st_recv (ci := 9) (q0 := 0) hK hP rfl rfl) hEok hE hK hN hP hD hS hA rfl rfl rfl rfl hl.1 rfl (Nat.le_of_ble_eq_true rfl) dX9_advances_190 ⟨Nat.zero_le _, Nat.zero_le _⟩ (fun H locs hP hD hS => ?_)
    have hP : va_P D vwCl (w_X9_advances tc q_th q_th_text q_th_saying q_th_signs q_th_sets q_th_told q_th_up q_th_down q_th_world q_th_tight q_th_sum q_th_now n_th_text th_thrown th_typed th_next th_token th_place th_value th_fault th_many th_signMany th_setMany th_corners th_isLoaded th_loaded th_widened th_wide th_boundUp th_boundDown th_text) H := hP
    have hD : va_D A (w_X9_advances tc q_th q_th_text q_th_saying q_th_signs q_th_sets q_th_told q_th_up q_th_down q_th_world q_th_tight q_th_sum q_th_now n_th_text th_thrown th_typed th_next th_token th_place th_value th_fault th_many th_signMany th_setMany th_corners th_isLoaded th_loaded th_widened th_wide th_boundUp th_boundDown th_text) := hD
    refine lv_bipush (v := (48 : Int32)) hx hb dX9_advances_193 (by decide) ?_
    refine lv_bipush (v := (57 : Int32)) hx hb dX9_advances_195 (by decide) ?_
    obtain ⟨z7_0, hc7, h⟩ := bd_ok h
    refine st_callS (As := [.int z6_0, .int (48 : Int32), .int (57 : Int32)]) (rest := []) (pos := []) ⟨hx, hb, hml, hown, hts⟩ (s_X9_in (l := l) (D := D) (tc := tc) hEok z6_0 (48 : Int32) (57 : Int32) z7_0 hc7) (va_cwS 3 hts gX9_advances_X9_in rfl rfl rfl (by decide +kernel) ⟨Nat.le_of_ble_eq_true rfl, Nat.le_of_ble_eq_true rfl⟩) hEok hE hK hN hP hD hS hA rfl rfl rfl rfl hl.1 rfl (Nat.le_of_ble_eq_true rfl) dX9_advances_197 ⟨Nat.zero_le _, Nat.zero_le _⟩ (fun H locs hP hD hS => ?_)
    have hP : va_P D vwCl (w_X9_advances tc q_th q_th_text q_th_saying q_th_signs q_th_sets q_th_told q_th_up q_th_down q_th_world q_th_tight q_th_sum q_th_now n_th_text th_thrown th_typed th_next th_token th_place th_value th_fault th_many th_signMany th_setMany th_corners th_isLoaded th_loaded th_widened th_wide th_boundUp th_boundDown th_text) H := hP
    have hD : va_D A (w_X9_advances tc q_th q_th_text q_th_saying q_th_signs q_th_sets q_th_told q_th_up q_th_down q_th_world q_th_tight q_th_sum q_th_now n_th_text th_thrown th_typed th_next th_token th_place th_value th_fault th_many th_signMany th_setMany th_corners th_isLoaded th_loaded th_widened th_wide th_boundUp th_boundDown th_text) := hD
    refine lv_if_eq (tgt := 256) hx hb dX9_advances_200 (by decide) (fun c8 => ?_) (fun c8 => ?_)
    · replace h := ifp c8 h
      cases h
      exact hz _ rfl _ _ _ hP hD hS (lv_sub hl [0, 1] rfl)
    · replace h := ifn c8 h
      refine lv_aload_n hx hb dX9_advances_203 rfl (lv_at hl 0 rfl) ?_
      refine lv_aload_n hx hb dX9_advances_204 rfl (lv_at hl 0 rfl) ?_
      refine va_get (D := D) (ci := 9) (v := .int th_value) (C := RX9) (T := TX9) (N := 28) hx hb hts hinX9 hown hK hP 0 rfl rfl 6 (by decide) (hts (.fieldLink RX9 74 "ChanceBoundsModel" "value" "I") (by decide +kernel)) (fun _ h9 => h9) rfl dX9_advances_205 ?_
      refine lv_sipush (v := (999 : Int32)) hx hb dX9_advances_208 (by decide) ?_
      refine lv_icmp_le (tgt := 221) hx hb dX9_advances_211 (by decide) (fun c9 => ?_) (fun c9 => ?_)
      · replace h := ifp c9 h
        refine lv_bipush (v := (10 : Int32)) hx hb dX9_advances_221 (by decide) ?_
        refine lv_aload_n hx hb dX9_advances_223 rfl (lv_at hl 0 rfl) ?_
        refine va_get (D := D) (ci := 9) (v := .int th_value) (C := RX9) (T := TX9) (N := 28) hx hb hts hinX9 hown hK hP 0 rfl rfl 6 (by decide) (hts (.fieldLink RX9 74 "ChanceBoundsModel" "value" "I") (by decide +kernel)) (fun _ h9 => h9) rfl dX9_advances_224 ?_
        refine lv_imul hx hb dX9_advances_227 ?_
        refine lv_aload_n hx hb dX9_advances_228 rfl (lv_at hl 0 rfl) ?_
        refine lv_aload_n hx hb dX9_advances_229 rfl (lv_at hl 0 rfl) ?_
        refine va_get (D := D) (ci := 9) (v := .int th_next) (C := RX9) (T := TX9) (N := 28) hx hb hts hinX9 hown hK hP 0 rfl rfl 3 (by decide) (hts (.fieldLink RX9 61 "ChanceBoundsModel" "next" "I") (by decide +kernel)) (fun _ h9 => h9) rfl dX9_advances_230 ?_
        obtain ⟨z10_0, hc10, h⟩ := bd_ok h
        refine st_callV (As := [.int th_next]) (rest := [.int ((10 : Int32) * th_value), .ref q_th]) (pos := [0, 1]) ⟨hx, hb, hml, hown, hts⟩ (s_X9_byteAt (l := l) (D := D) (tc := tc) hEok q_th q_th_text q_th_saying q_th_signs q_th_sets q_th_told q_th_up q_th_down q_th_world q_th_tight q_th_sum q_th_now n_th_text th_thrown th_typed th_next th_token th_place th_value th_fault th_many th_signMany th_setMany th_corners th_isLoaded th_loaded th_widened th_wide th_boundUp th_boundDown th_text th_next z10_0 hc10) (cwV 1 hts gX9_advances_X9_byteAt rfl rfl rfl (by decide +kernel) ⟨Nat.le_of_ble_eq_true rfl, Nat.le_of_ble_eq_true rfl⟩) (st_recv (ci := 9) (q0 := 0) hK hP rfl rfl) hEok hE hK hN hP hD hS hA rfl rfl rfl rfl hl.1 rfl (Nat.le_of_ble_eq_true rfl) dX9_advances_233 ⟨Nat.zero_le _, Nat.zero_le _⟩ (fun H locs hP hD hS => ?_)
        have hP : va_P D vwCl (w_X9_advances tc q_th q_th_text q_th_saying q_th_signs q_th_sets q_th_told q_th_up q_th_down q_th_world q_th_tight q_th_sum q_th_now n_th_text th_thrown th_typed th_next th_token th_place th_value th_fault th_many th_signMany th_setMany th_corners th_isLoaded th_loaded th_widened th_wide th_boundUp th_boundDown th_text) H := hP
        have hD : va_D A (w_X9_advances tc q_th q_th_text q_th_saying q_th_signs q_th_sets q_th_told q_th_up q_th_down q_th_world q_th_tight q_th_sum q_th_now n_th_text th_thrown th_typed th_next th_token th_place th_value th_fault th_many th_signMany th_setMany th_corners th_isLoaded th_loaded th_widened th_wide th_boundUp th_boundDown th_text) := hD
        refine lv_iadd hx hb dX9_advances_236 ?_
        refine lv_bipush (v := (48 : Int32)) hx hb dX9_advances_237 (by decide) ?_
        refine lv_isub hx hb dX9_advances_239 ?_
        refine va_put (D := D) (ci := 9) (v := .int ((((10 : Int32) * th_value) + z10_0) - (48 : Int32))) (ty := .int) (C := RX9) (T := TX9) (N := 28) hx hb hts hinX9 tyX9 tyX9_ok nmX9 hown hK hP hD hS 0 rfl rfl 6 (by decide) (hts (.fieldLink RX9 74 "ChanceBoundsModel" "value" "I") (by decide +kernel)) (fun _ h9 => h9) rfl (by decide +kernel) rfl rfl (Nat.le_of_ble_eq_true rfl) dX9_advances_240 (fun H locs hP hD hS => ?_)
        have hP : va_P D vwCl (w_X9_advances tc q_th q_th_text q_th_saying q_th_signs q_th_sets q_th_told q_th_up q_th_down q_th_world q_th_tight q_th_sum q_th_now n_th_text th_thrown th_typed th_next th_token th_place ((((10 : Int32) * th_value) + z10_0) - (48 : Int32)) th_fault th_many th_signMany th_setMany th_corners th_isLoaded th_loaded th_widened th_wide th_boundUp th_boundDown th_text) H := hP
        have hD : va_D A (w_X9_advances tc q_th q_th_text q_th_saying q_th_signs q_th_sets q_th_told q_th_up q_th_down q_th_world q_th_tight q_th_sum q_th_now n_th_text th_thrown th_typed th_next th_token th_place ((((10 : Int32) * th_value) + z10_0) - (48 : Int32)) th_fault th_many th_signMany th_setMany th_corners th_isLoaded th_loaded th_widened th_wide th_boundUp th_boundDown th_text) := hD
        refine lv_aload_n hx hb dX9_advances_243 rfl (lv_at hl 0 rfl) ?_
        refine lv_dup hx hb dX9_advances_244 rfl ?_
        refine va_get (D := D) (ci := 9) (v := .int th_next) (C := RX9) (T := TX9) (N := 28) hx hb hts hinX9 hown hK hP 0 rfl rfl 3 (by decide) (hts (.fieldLink RX9 61 "ChanceBoundsModel" "next" "I") (by decide +kernel)) (fun _ h9 => h9) rfl dX9_advances_245 ?_
        refine lv_iconst (v := (1 : Int32)) hx hb dX9_advances_248 (by decide) ?_
        refine lv_iadd hx hb dX9_advances_249 ?_
        refine va_put (D := D) (ci := 9) (v := .int (th_next + (1 : Int32))) (ty := .int) (C := RX9) (T := TX9) (N := 28) hx hb hts hinX9 tyX9 tyX9_ok nmX9 hown hK hP hD hS 0 rfl rfl 3 (by decide) (hts (.fieldLink RX9 61 "ChanceBoundsModel" "next" "I") (by decide +kernel)) (fun _ h9 => h9) rfl (by decide +kernel) rfl rfl (Nat.le_of_ble_eq_true rfl) dX9_advances_250 (fun H locs hP hD hS => ?_)
        have hP : va_P D vwCl (w_X9_advances tc q_th q_th_text q_th_saying q_th_signs q_th_sets q_th_told q_th_up q_th_down q_th_world q_th_tight q_th_sum q_th_now n_th_text th_thrown th_typed (th_next + (1 : Int32)) th_token th_place ((((10 : Int32) * th_value) + z10_0) - (48 : Int32)) th_fault th_many th_signMany th_setMany th_corners th_isLoaded th_loaded th_widened th_wide th_boundUp th_boundDown th_text) H := hP
        have hD : va_D A (w_X9_advances tc q_th q_th_text q_th_saying q_th_signs q_th_sets q_th_told q_th_up q_th_down q_th_world q_th_tight q_th_sum q_th_now n_th_text th_thrown th_typed (th_next + (1 : Int32)) th_token th_place ((((10 : Int32) * th_value) + z10_0) - (48 : Int32)) th_fault th_many th_signMany th_setMany th_corners th_isLoaded th_loaded th_widened th_wide th_boundUp th_boundDown th_text) := hD
        refine lv_goto (tgt := 185) hx hb dX9_advances_253 (by decide) ?_
        cases h
        exact ih _ rfl _ _ _ hP hD hS (lv_sub hl [0, 1] rfl)
      · replace h := ifn c9 h
        refine lv_aload_n hx hb dX9_advances_214 rfl (lv_at hl 0 rfl) ?_
        refine va_get (D := D) (ci := 9) (v := .int th_value) (C := RX9) (T := TX9) (N := 28) hx hb hts hinX9 hown hK hP 0 rfl rfl 6 (by decide) (hts (.fieldLink RX9 74 "ChanceBoundsModel" "value" "I") (by decide +kernel)) (fun _ h9 => h9) rfl dX9_advances_215 ?_
        refine lv_goto (tgt := 240) hx hb dX9_advances_218 (by decide) ?_
        refine va_put (D := D) (ci := 9) (v := .int th_value) (ty := .int) (C := RX9) (T := TX9) (N := 28) hx hb hts hinX9 tyX9 tyX9_ok nmX9 hown hK hP hD hS 0 rfl rfl 6 (by decide) (hts (.fieldLink RX9 74 "ChanceBoundsModel" "value" "I") (by decide +kernel)) (fun _ h9 => h9) rfl (by decide +kernel) rfl rfl (Nat.le_of_ble_eq_true rfl) dX9_advances_240 (fun H locs hP hD hS => ?_)
        have hP : va_P D vwCl (w_X9_advances tc q_th q_th_text q_th_saying q_th_signs q_th_sets q_th_told q_th_up q_th_down q_th_world q_th_tight q_th_sum q_th_now n_th_text th_thrown th_typed th_next th_token th_place th_value th_fault th_many th_signMany th_setMany th_corners th_isLoaded th_loaded th_widened th_wide th_boundUp th_boundDown th_text) H := hP
        have hD : va_D A (w_X9_advances tc q_th q_th_text q_th_saying q_th_signs q_th_sets q_th_told q_th_up q_th_down q_th_world q_th_tight q_th_sum q_th_now n_th_text th_thrown th_typed th_next th_token th_place th_value th_fault th_many th_signMany th_setMany th_corners th_isLoaded th_loaded th_widened th_wide th_boundUp th_boundDown th_text) := hD
        refine lv_aload_n hx hb dX9_advances_243 rfl (lv_at hl 0 rfl) ?_
        refine lv_dup hx hb dX9_advances_244 rfl ?_
        refine va_get (D := D) (ci := 9) (v := .int th_next) (C := RX9) (T := TX9) (N := 28) hx hb hts hinX9 hown hK hP 0 rfl rfl 3 (by decide) (hts (.fieldLink RX9 61 "ChanceBoundsModel" "next" "I") (by decide +kernel)) (fun _ h9 => h9) rfl dX9_advances_245 ?_
        refine lv_iconst (v := (1 : Int32)) hx hb dX9_advances_248 (by decide) ?_
        refine lv_iadd hx hb dX9_advances_249 ?_
        refine va_put (D := D) (ci := 9) (v := .int (th_next + (1 : Int32))) (ty := .int) (C := RX9) (T := TX9) (N := 28) hx hb hts hinX9 tyX9 tyX9_ok nmX9 hown hK hP hD hS 0 rfl rfl 3 (by decide) (hts (.fieldLink RX9 61 "ChanceBoundsModel" "next" "I") (by decide +kernel)) (fun _ h9 => h9) rfl (by decide +kernel) rfl rfl (Nat.le_of_ble_eq_true rfl) dX9_advances_250 (fun H locs hP hD hS => ?_)
        have hP : va_P D vwCl (w_X9_advances tc q_th q_th_text q_th_saying q_th_signs q_th_sets q_th_told q_th_up q_th_down q_th_world q_th_tight q_th_sum q_th_now n_th_text th_thrown th_typed (th_next + (1 : Int32)) th_token th_place th_value th_fault th_many th_signMany th_setMany th_corners th_isLoaded th_loaded th_widened th_wide th_boundUp th_boundDown th_text) H := hP
        have hD : va_D A (w_X9_advances tc q_th q_th_text q_th_saying q_th_signs q_th_sets q_th_told q_th_up q_th_down q_th_world q_th_tight q_th_sum q_th_now n_th_text th_thrown th_typed (th_next + (1 : Int32)) th_token th_place th_value th_fault th_many th_signMany th_setMany th_corners th_isLoaded th_loaded th_widened th_wide th_boundUp th_boundDown th_text) := hD
        refine lv_goto (tgt := 185) hx hb dX9_advances_253 (by decide) ?_
        cases h
        exact ih _ rfl _ _ _ hP hD hS (lv_sub hl [0, 1] rfl)
  have J354 : ∀ (th_next : Int32) (th_token : Int32) (th_place : Int32) (th_value : Int32) (H : Heap) (locs : List Loc) (ls : Array Slot), f_X9_advances_J354 th_next th_place th_value = some (th_next', th_token', th_place', th_value') → va_P D vwCl (w_X9_advances tc q_th q_th_text q_th_saying q_th_signs q_th_sets q_th_told q_th_up q_th_down q_th_world q_th_tight q_th_sum q_th_now n_th_text th_thrown th_typed th_next th_token th_place th_value th_fault th_many th_signMany th_setMany th_corners th_isLoaded th_loaded th_widened th_wide th_boundUp th_boundDown th_text) H → va_D A (w_X9_advances tc q_th q_th_text q_th_saying q_th_signs q_th_sets q_th_told q_th_up q_th_down q_th_world q_th_tight q_th_sum q_th_now n_th_text th_thrown th_typed th_next th_token th_place th_value th_fault th_many th_signMany th_setMany th_corners th_isLoaded th_loaded th_widened th_wide th_boundUp th_boundDown th_text) → va_S A s.heap H locs → lv_has ls 3 [(0, .ref q_th)] → W p l e ({ frames := 1, cells := 0, slots := 0, locals := 22 } : Room) s m av below meth c H locs 0 0 (MQ below (st_Q D (w_X9_advances tc q_th q_th_text q_th_saying q_th_signs q_th_sets q_th_told q_th_up q_th_down q_th_world q_th_tight q_th_sum q_th_now n_th_text th_thrown th_typed th_next' th_token' th_place' th_value' th_fault th_many th_signMany th_setMany th_corners th_isLoaded th_loaded th_widened th_wide th_boundUp th_boundDown th_text) none A) av s 0 0 A) (F0 m 354 ls []) := by
    intro th_next th_token th_place th_value H locs ls h hP hD hS hl
    unfold f_X9_advances_J354 at h
    refine lv_iconst (v := (1 : Int32)) hx hb dX9_advances_354 (by decide) ?_
    refine lv_goto (tgt := 359) hx hb dX9_advances_355 (by decide) ?_
    refine lv_istore_n (lv' := [(2, .int (1 : Int32)), (0, .ref q_th)]) hx hb dX9_advances_359 rfl hl (by decide) rfl (fun ls hl => ?_)
    refine lv_aload_n hx hb dX9_advances_360 rfl (lv_at hl 1 rfl) ?_
    refine lv_iload_n hx hb dX9_advances_361 rfl (lv_at hl 0 rfl) ?_
    refine lv_if_eq (tgt := 369) hx hb dX9_advances_362 (by decide) (fun c11 => ?_) (fun c11 => ?_)
    · replace h := ifp c11 h
      refine lv_iconst (v := (5 : Int32)) hx hb dX9_advances_369 (by decide) ?_
      refine va_put (D := D) (ci := 9) (v := .int (5 : Int32)) (ty := .int) (C := RX9) (T := TX9) (N := 28) hx hb hts hinX9 tyX9 tyX9_ok nmX9 hown hK hP hD hS 0 rfl rfl 4 (by decide) (hts (.fieldLink RX9 71 "ChanceBoundsModel" "token" "I") (by decide +kernel)) (fun _ h9 => h9) rfl (by decide +kernel) rfl rfl (Nat.le_of_ble_eq_true rfl) dX9_advances_370 (fun H locs hP hD hS => ?_)
      have hP : va_P D vwCl (w_X9_advances tc q_th q_th_text q_th_saying q_th_signs q_th_sets q_th_told q_th_up q_th_down q_th_world q_th_tight q_th_sum q_th_now n_th_text th_thrown th_typed th_next (5 : Int32) th_place th_value th_fault th_many th_signMany th_setMany th_corners th_isLoaded th_loaded th_widened th_wide th_boundUp th_boundDown th_text) H := hP
      have hD : va_D A (w_X9_advances tc q_th q_th_text q_th_saying q_th_signs q_th_sets q_th_told q_th_up q_th_down q_th_world q_th_tight q_th_sum q_th_now n_th_text th_thrown th_typed th_next (5 : Int32) th_place th_value th_fault th_many th_signMany th_setMany th_corners th_isLoaded th_loaded th_widened th_wide th_boundUp th_boundDown th_text) := hD
      cases h
      exact st_vret hx hb hr hlocks hP hD hS dX9_advances_373
    · replace h := ifn c11 h
      refine lv_iconst (v := (4 : Int32)) hx hb dX9_advances_365 (by decide) ?_
      refine lv_goto (tgt := 370) hx hb dX9_advances_366 (by decide) ?_
      refine va_put (D := D) (ci := 9) (v := .int (4 : Int32)) (ty := .int) (C := RX9) (T := TX9) (N := 28) hx hb hts hinX9 tyX9 tyX9_ok nmX9 hown hK hP hD hS 0 rfl rfl 4 (by decide) (hts (.fieldLink RX9 71 "ChanceBoundsModel" "token" "I") (by decide +kernel)) (fun _ h9 => h9) rfl (by decide +kernel) rfl rfl (Nat.le_of_ble_eq_true rfl) dX9_advances_370 (fun H locs hP hD hS => ?_)
      have hP : va_P D vwCl (w_X9_advances tc q_th q_th_text q_th_saying q_th_signs q_th_sets q_th_told q_th_up q_th_down q_th_world q_th_tight q_th_sum q_th_now n_th_text th_thrown th_typed th_next (4 : Int32) th_place th_value th_fault th_many th_signMany th_setMany th_corners th_isLoaded th_loaded th_widened th_wide th_boundUp th_boundDown th_text) H := hP
      have hD : va_D A (w_X9_advances tc q_th q_th_text q_th_saying q_th_signs q_th_sets q_th_told q_th_up q_th_down q_th_world q_th_tight q_th_sum q_th_now n_th_text th_thrown th_typed th_next (4 : Int32) th_place th_value th_fault th_many th_signMany th_setMany th_corners th_isLoaded th_loaded th_widened th_wide th_boundUp th_boundDown th_text) := hD
      cases h
      exact st_vret hx hb hr hlocks hP hD hS dX9_advances_373
  unfold f_X9_advances at h
  refine lv_aload_n hx hb dX9_advances_0 rfl (lv_at hl 0 rfl) ?_
  refine lv_aload_n hx hb dX9_advances_1 rfl (lv_at hl 0 rfl) ?_
  refine va_get (D := D) (ci := 9) (v := .int th_next) (C := RX9) (T := TX9) (N := 28) hx hb hts hinX9 hown hK hP 0 rfl rfl 3 (by decide) (hts (.fieldLink RX9 61 "ChanceBoundsModel" "next" "I") (by decide +kernel)) (fun _ h9 => h9) rfl dX9_advances_2 ?_
  obtain ⟨z12_0, hc12, h⟩ := bd_ok h
  refine st_callV (As := [.int th_next]) (rest := []) (pos := [0, 1]) ⟨hx, hb, hml, hown, hts⟩ (s_X9_byteAt (l := l) (D := D) (tc := tc) hEok q_th q_th_text q_th_saying q_th_signs q_th_sets q_th_told q_th_up q_th_down q_th_world q_th_tight q_th_sum q_th_now n_th_text th_thrown th_typed th_next th_token th_place th_value th_fault th_many th_signMany th_setMany th_corners th_isLoaded th_loaded th_widened th_wide th_boundUp th_boundDown th_text th_next z12_0 hc12) (cwV 1 hts gX9_advances_X9_byteAt rfl rfl rfl (by decide +kernel) ⟨Nat.le_of_ble_eq_true rfl, Nat.le_of_ble_eq_true rfl⟩) (st_recv (ci := 9) (q0 := 0) hK hP rfl rfl) hEok hE hK hN hP hD hS hA rfl rfl rfl rfl hl.1 rfl (Nat.le_of_ble_eq_true rfl) dX9_advances_5 ⟨Nat.zero_le _, Nat.zero_le _⟩ (fun H locs hP hD hS => ?_)
  have hP : va_P D vwCl (w_X9_advances tc q_th q_th_text q_th_saying q_th_signs q_th_sets q_th_told q_th_up q_th_down q_th_world q_th_tight q_th_sum q_th_now n_th_text th_thrown th_typed th_next th_token th_place th_value th_fault th_many th_signMany th_setMany th_corners th_isLoaded th_loaded th_widened th_wide th_boundUp th_boundDown th_text) H := hP
  have hD : va_D A (w_X9_advances tc q_th q_th_text q_th_saying q_th_signs q_th_sets q_th_told q_th_up q_th_down q_th_world q_th_tight q_th_sum q_th_now n_th_text th_thrown th_typed th_next th_token th_place th_value th_fault th_many th_signMany th_setMany th_corners th_isLoaded th_loaded th_widened th_wide th_boundUp th_boundDown th_text) := hD
  refine lv_bipush (v := (32 : Int32)) hx hb dX9_advances_8 (by decide) ?_
  refine lv_icmp_ne (tgt := 26) hx hb dX9_advances_10 (by decide) (fun c13 => ?_) (fun c13 => ?_)
  · replace h := ifn c13 h
    refine lv_aload_n hx hb dX9_advances_26 rfl (lv_at hl 0 rfl) ?_
    refine lv_aload_n hx hb dX9_advances_27 rfl (lv_at hl 0 rfl) ?_
    refine va_get (D := D) (ci := 9) (v := .int th_next) (C := RX9) (T := TX9) (N := 28) hx hb hts hinX9 hown hK hP 0 rfl rfl 3 (by decide) (hts (.fieldLink RX9 61 "ChanceBoundsModel" "next" "I") (by decide +kernel)) (fun _ h9 => h9) rfl dX9_advances_28 ?_
    refine va_put (D := D) (ci := 9) (v := .int th_next) (ty := .int) (C := RX9) (T := TX9) (N := 28) hx hb hts hinX9 tyX9 tyX9_ok nmX9 hown hK hP hD hS 0 rfl rfl 5 (by decide) (hts (.fieldLink RX9 68 "ChanceBoundsModel" "place" "I") (by decide +kernel)) (fun _ h9 => h9) rfl (by decide +kernel) rfl rfl (Nat.le_of_ble_eq_true rfl) dX9_advances_31 (fun H locs hP hD hS => ?_)
    have hP : va_P D vwCl (w_X9_advances tc q_th q_th_text q_th_saying q_th_signs q_th_sets q_th_told q_th_up q_th_down q_th_world q_th_tight q_th_sum q_th_now n_th_text th_thrown th_typed th_next th_token th_next th_value th_fault th_many th_signMany th_setMany th_corners th_isLoaded th_loaded th_widened th_wide th_boundUp th_boundDown th_text) H := hP
    have hD : va_D A (w_X9_advances tc q_th q_th_text q_th_saying q_th_signs q_th_sets q_th_told q_th_up q_th_down q_th_world q_th_tight q_th_sum q_th_now n_th_text th_thrown th_typed th_next th_token th_next th_value th_fault th_many th_signMany th_setMany th_corners th_isLoaded th_loaded th_widened th_wide th_boundUp th_boundDown th_text) := hD
    refine lv_aload_n hx hb dX9_advances_34 rfl (lv_at hl 0 rfl) ?_
    refine lv_aload_n hx hb dX9_advances_35 rfl (lv_at hl 0 rfl) ?_
    refine va_get (D := D) (ci := 9) (v := .int th_next) (C := RX9) (T := TX9) (N := 28) hx hb hts hinX9 hown hK hP 0 rfl rfl 3 (by decide) (hts (.fieldLink RX9 61 "ChanceBoundsModel" "next" "I") (by decide +kernel)) (fun _ h9 => h9) rfl dX9_advances_36 ?_
    obtain ⟨z14_0, hc14, h⟩ := bd_ok h
    refine st_callV (As := [.int th_next]) (rest := []) (pos := [0, 1]) ⟨hx, hb, hml, hown, hts⟩ (s_X9_byteAt (l := l) (D := D) (tc := tc) hEok q_th q_th_text q_th_saying q_th_signs q_th_sets q_th_told q_th_up q_th_down q_th_world q_th_tight q_th_sum q_th_now n_th_text th_thrown th_typed th_next th_token th_next th_value th_fault th_many th_signMany th_setMany th_corners th_isLoaded th_loaded th_widened th_wide th_boundUp th_boundDown th_text th_next z14_0 hc14) (cwV 1 hts gX9_advances_X9_byteAt rfl rfl rfl (by decide +kernel) ⟨Nat.le_of_ble_eq_true rfl, Nat.le_of_ble_eq_true rfl⟩) (st_recv (ci := 9) (q0 := 0) hK hP rfl rfl) hEok hE hK hN hP hD hS hA rfl rfl rfl rfl hl.1 rfl (Nat.le_of_ble_eq_true rfl) dX9_advances_39 ⟨Nat.zero_le _, Nat.zero_le _⟩ (fun H locs hP hD hS => ?_)
    have hP : va_P D vwCl (w_X9_advances tc q_th q_th_text q_th_saying q_th_signs q_th_sets q_th_told q_th_up q_th_down q_th_world q_th_tight q_th_sum q_th_now n_th_text th_thrown th_typed th_next th_token th_next th_value th_fault th_many th_signMany th_setMany th_corners th_isLoaded th_loaded th_widened th_wide th_boundUp th_boundDown th_text) H := hP
    have hD : va_D A (w_X9_advances tc q_th q_th_text q_th_saying q_th_signs q_th_sets q_th_told q_th_up q_th_down q_th_world q_th_tight q_th_sum q_th_now n_th_text th_thrown th_typed th_next th_token th_next th_value th_fault th_many th_signMany th_setMany th_corners th_isLoaded th_loaded th_widened th_wide th_boundUp th_boundDown th_text) := hD
    refine lv_istore_n (lv' := [(1, .int z14_0), (0, .ref q_th)]) hx hb dX9_advances_42 rfl hl (by decide) rfl (fun ls hl => ?_)
    refine lv_iload_n hx hb dX9_advances_43 rfl (lv_at hl 0 rfl) ?_
    refine lv_if_ge (tgt := 55) hx hb dX9_advances_44 (by decide) (fun c15 => ?_) (fun c15 => ?_)
    · replace h := ifp c15 h
      refine lv_iload_n hx hb dX9_advances_55 rfl (lv_at hl 0 rfl) ?_
      refine lv_bipush (v := (97 : Int32)) hx hb dX9_advances_56 (by decide) ?_
      refine lv_bipush (v := (122 : Int32)) hx hb dX9_advances_58 (by decide) ?_
      obtain ⟨z16_0, hc16, h⟩ := bd_ok h
      refine st_callS (As := [.int z14_0, .int (97 : Int32), .int (122 : Int32)]) (rest := []) (pos := []) ⟨hx, hb, hml, hown, hts⟩ (s_X9_in (l := l) (D := D) (tc := tc) hEok z14_0 (97 : Int32) (122 : Int32) z16_0 hc16) (va_cwS 3 hts gX9_advances_X9_in rfl rfl rfl (by decide +kernel) ⟨Nat.le_of_ble_eq_true rfl, Nat.le_of_ble_eq_true rfl⟩) hEok hE hK hN hP hD hS hA rfl rfl rfl rfl hl.1 rfl (Nat.le_of_ble_eq_true rfl) dX9_advances_60 ⟨Nat.zero_le _, Nat.zero_le _⟩ (fun H locs hP hD hS => ?_)
      have hP : va_P D vwCl (w_X9_advances tc q_th q_th_text q_th_saying q_th_signs q_th_sets q_th_told q_th_up q_th_down q_th_world q_th_tight q_th_sum q_th_now n_th_text th_thrown th_typed th_next th_token th_next th_value th_fault th_many th_signMany th_setMany th_corners th_isLoaded th_loaded th_widened th_wide th_boundUp th_boundDown th_text) H := hP
      have hD : va_D A (w_X9_advances tc q_th q_th_text q_th_saying q_th_signs q_th_sets q_th_told q_th_up q_th_down q_th_world q_th_tight q_th_sum q_th_now n_th_text th_thrown th_typed th_next th_token th_next th_value th_fault th_many th_signMany th_setMany th_corners th_isLoaded th_loaded th_widened th_wide th_boundUp th_boundDown th_text) := hD
      refine lv_if_eq (tgt := 169) hx hb dX9_advances_63 (by decide) (fun c17 => ?_) (fun c17 => ?_)
      · replace h := ifp c17 h
        refine lv_iload_n hx hb dX9_advances_169 rfl (lv_at hl 0 rfl) ?_
        refine lv_bipush (v := (48 : Int32)) hx hb dX9_advances_170 (by decide) ?_
        refine lv_bipush (v := (57 : Int32)) hx hb dX9_advances_172 (by decide) ?_
        obtain ⟨z18_0, hc18, h⟩ := bd_ok h
        refine st_callS (As := [.int z14_0, .int (48 : Int32), .int (57 : Int32)]) (rest := []) (pos := []) ⟨hx, hb, hml, hown, hts⟩ (s_X9_in (l := l) (D := D) (tc := tc) hEok z14_0 (48 : Int32) (57 : Int32) z18_0 hc18) (va_cwS 3 hts gX9_advances_X9_in rfl rfl rfl (by decide +kernel) ⟨Nat.le_of_ble_eq_true rfl, Nat.le_of_ble_eq_true rfl⟩) hEok hE hK hN hP hD hS hA rfl rfl rfl rfl hl.1 rfl (Nat.le_of_ble_eq_true rfl) dX9_advances_174 ⟨Nat.zero_le _, Nat.zero_le _⟩ (fun H locs hP hD hS => ?_)
        have hP : va_P D vwCl (w_X9_advances tc q_th q_th_text q_th_saying q_th_signs q_th_sets q_th_told q_th_up q_th_down q_th_world q_th_tight q_th_sum q_th_now n_th_text th_thrown th_typed th_next th_token th_next th_value th_fault th_many th_signMany th_setMany th_corners th_isLoaded th_loaded th_widened th_wide th_boundUp th_boundDown th_text) H := hP
        have hD : va_D A (w_X9_advances tc q_th q_th_text q_th_saying q_th_signs q_th_sets q_th_told q_th_up q_th_down q_th_world q_th_tight q_th_sum q_th_now n_th_text th_thrown th_typed th_next th_token th_next th_value th_fault th_many th_signMany th_setMany th_corners th_isLoaded th_loaded th_widened th_wide th_boundUp th_boundDown th_text) := hD
        refine lv_if_eq (tgt := 297) hx hb dX9_advances_177 (by decide) (fun c19 => ?_) (fun c19 => ?_)
        · replace h := ifp c19 h
          refine lv_aload_n hx hb dX9_advances_297 rfl (lv_at hl 1 rfl) ?_
          refine lv_iload_n hx hb dX9_advances_298 rfl (lv_at hl 0 rfl) ?_
          refine va_put (D := D) (ci := 9) (v := .int z14_0) (ty := .int) (C := RX9) (T := TX9) (N := 28) hx hb hts hinX9 tyX9 tyX9_ok nmX9 hown hK hP hD hS 0 rfl rfl 6 (by decide) (hts (.fieldLink RX9 74 "ChanceBoundsModel" "value" "I") (by decide +kernel)) (fun _ h9 => h9) rfl (by decide +kernel) rfl rfl (Nat.le_of_ble_eq_true rfl) dX9_advances_299 (fun H locs hP hD hS => ?_)
          have hP : va_P D vwCl (w_X9_advances tc q_th q_th_text q_th_saying q_th_signs q_th_sets q_th_told q_th_up q_th_down q_th_world q_th_tight q_th_sum q_th_now n_th_text th_thrown th_typed th_next th_token th_next z14_0 th_fault th_many th_signMany th_setMany th_corners th_isLoaded th_loaded th_widened th_wide th_boundUp th_boundDown th_text) H := hP
          have hD : va_D A (w_X9_advances tc q_th q_th_text q_th_saying q_th_signs q_th_sets q_th_told q_th_up q_th_down q_th_world q_th_tight q_th_sum q_th_now n_th_text th_thrown th_typed th_next th_token th_next z14_0 th_fault th_many th_signMany th_setMany th_corners th_isLoaded th_loaded th_widened th_wide th_boundUp th_boundDown th_text) := hD
          refine lv_aload_n hx hb dX9_advances_302 rfl (lv_at hl 1 rfl) ?_
          refine lv_dup hx hb dX9_advances_303 rfl ?_
          refine va_get (D := D) (ci := 9) (v := .int th_next) (C := RX9) (T := TX9) (N := 28) hx hb hts hinX9 hown hK hP 0 rfl rfl 3 (by decide) (hts (.fieldLink RX9 61 "ChanceBoundsModel" "next" "I") (by decide +kernel)) (fun _ h9 => h9) rfl dX9_advances_304 ?_
          refine lv_iconst (v := (1 : Int32)) hx hb dX9_advances_307 (by decide) ?_
          refine lv_iadd hx hb dX9_advances_308 ?_
          refine va_put (D := D) (ci := 9) (v := .int (th_next + (1 : Int32))) (ty := .int) (C := RX9) (T := TX9) (N := 28) hx hb hts hinX9 tyX9 tyX9_ok nmX9 hown hK hP hD hS 0 rfl rfl 3 (by decide) (hts (.fieldLink RX9 61 "ChanceBoundsModel" "next" "I") (by decide +kernel)) (fun _ h9 => h9) rfl (by decide +kernel) rfl rfl (Nat.le_of_ble_eq_true rfl) dX9_advances_309 (fun H locs hP hD hS => ?_)
          have hP : va_P D vwCl (w_X9_advances tc q_th q_th_text q_th_saying q_th_signs q_th_sets q_th_told q_th_up q_th_down q_th_world q_th_tight q_th_sum q_th_now n_th_text th_thrown th_typed (th_next + (1 : Int32)) th_token th_next z14_0 th_fault th_many th_signMany th_setMany th_corners th_isLoaded th_loaded th_widened th_wide th_boundUp th_boundDown th_text) H := hP
          have hD : va_D A (w_X9_advances tc q_th q_th_text q_th_saying q_th_signs q_th_sets q_th_told q_th_up q_th_down q_th_world q_th_tight q_th_sum q_th_now n_th_text th_thrown th_typed (th_next + (1 : Int32)) th_token th_next z14_0 th_fault th_many th_signMany th_setMany th_corners th_isLoaded th_loaded th_widened th_wide th_boundUp th_boundDown th_text) := hD
          refine lv_iload_n hx hb dX9_advances_312 rfl (lv_at hl 0 rfl) ?_
          refine lv_bipush (v := (33 : Int32)) hx hb dX9_advances_313 (by decide) ?_
          refine lv_icmp_eq (tgt := 354) hx hb dX9_advances_315 (by decide) (fun c20 => ?_) (fun c20 => ?_)
          · replace h := ifp c20 h
            exact J354 (th_next + (1 : Int32)) th_token th_next z14_0 _ _ _ h hP hD hS (lv_sub hl [1] rfl)
          · replace h := ifn c20 h
            refine lv_iload_n hx hb dX9_advances_318 rfl (lv_at hl 0 rfl) ?_
            refine lv_bipush (v := (38 : Int32)) hx hb dX9_advances_319 (by decide) ?_
            refine lv_icmp_eq (tgt := 354) hx hb dX9_advances_321 (by decide) (fun c21 => ?_) (fun c21 => ?_)
            · replace h := ifp c21 h
              exact J354 (th_next + (1 : Int32)) th_token th_next z14_0 _ _ _ h hP hD hS (lv_sub hl [1] rfl)
            · replace h := ifn c21 h
              refine lv_iload_n hx hb dX9_advances_324 rfl (lv_at hl 0 rfl) ?_
              refine lv_bipush (v := (124 : Int32)) hx hb dX9_advances_325 (by decide) ?_
              refine lv_icmp_eq (tgt := 354) hx hb dX9_advances_327 (by decide) (fun c22 => ?_) (fun c22 => ?_)
              · replace h := ifp c22 h
                exact J354 (th_next + (1 : Int32)) th_token th_next z14_0 _ _ _ h hP hD hS (lv_sub hl [1] rfl)
              · replace h := ifn c22 h
                refine lv_iload_n hx hb dX9_advances_330 rfl (lv_at hl 0 rfl) ?_
                refine lv_bipush (v := (40 : Int32)) hx hb dX9_advances_331 (by decide) ?_
                refine lv_icmp_eq (tgt := 354) hx hb dX9_advances_333 (by decide) (fun c23 => ?_) (fun c23 => ?_)
                · replace h := ifp c23 h
                  exact J354 (th_next + (1 : Int32)) th_token th_next z14_0 _ _ _ h hP hD hS (lv_sub hl [1] rfl)
                · replace h := ifn c23 h
                  refine lv_iload_n hx hb dX9_advances_336 rfl (lv_at hl 0 rfl) ?_
                  refine lv_bipush (v := (41 : Int32)) hx hb dX9_advances_337 (by decide) ?_
                  refine lv_icmp_eq (tgt := 354) hx hb dX9_advances_339 (by decide) (fun c24 => ?_) (fun c24 => ?_)
                  · replace h := ifp c24 h
                    exact J354 (th_next + (1 : Int32)) th_token th_next z14_0 _ _ _ h hP hD hS (lv_sub hl [1] rfl)
                  · replace h := ifn c24 h
                    refine lv_iload_n hx hb dX9_advances_342 rfl (lv_at hl 0 rfl) ?_
                    refine lv_bipush (v := (45 : Int32)) hx hb dX9_advances_343 (by decide) ?_
                    refine lv_icmp_eq (tgt := 354) hx hb dX9_advances_345 (by decide) (fun c25 => ?_) (fun c25 => ?_)
                    · replace h := ifp c25 h
                      exact J354 (th_next + (1 : Int32)) th_token th_next z14_0 _ _ _ h hP hD hS (lv_sub hl [1] rfl)
                    · replace h := ifn c25 h
                      refine lv_iload_n hx hb dX9_advances_348 rfl (lv_at hl 0 rfl) ?_
                      refine lv_bipush (v := (59 : Int32)) hx hb dX9_advances_349 (by decide) ?_
                      refine lv_icmp_ne (tgt := 358) hx hb dX9_advances_351 (by decide) (fun c26 => ?_) (fun c26 => ?_)
                      · replace h := ifn c26 h
                        refine lv_iconst (v := (0 : Int32)) hx hb dX9_advances_358 (by decide) ?_
                        refine lv_istore_n (lv' := [(2, .int (0 : Int32)), (1, .int z14_0), (0, .ref q_th)]) hx hb dX9_advances_359 rfl hl (by decide) rfl (fun ls hl => ?_)
                        refine lv_aload_n hx hb dX9_advances_360 rfl (lv_at hl 2 rfl) ?_
                        refine lv_iload_n hx hb dX9_advances_361 rfl (lv_at hl 0 rfl) ?_
                        refine lv_if_eq (tgt := 369) hx hb dX9_advances_362 (by decide) (fun c27 => ?_) (fun c27 => ?_)
                        · replace h := ifp c27 h
                          refine lv_iconst (v := (5 : Int32)) hx hb dX9_advances_369 (by decide) ?_
                          refine va_put (D := D) (ci := 9) (v := .int (5 : Int32)) (ty := .int) (C := RX9) (T := TX9) (N := 28) hx hb hts hinX9 tyX9 tyX9_ok nmX9 hown hK hP hD hS 0 rfl rfl 4 (by decide) (hts (.fieldLink RX9 71 "ChanceBoundsModel" "token" "I") (by decide +kernel)) (fun _ h9 => h9) rfl (by decide +kernel) rfl rfl (Nat.le_of_ble_eq_true rfl) dX9_advances_370 (fun H locs hP hD hS => ?_)
                          have hP : va_P D vwCl (w_X9_advances tc q_th q_th_text q_th_saying q_th_signs q_th_sets q_th_told q_th_up q_th_down q_th_world q_th_tight q_th_sum q_th_now n_th_text th_thrown th_typed (th_next + (1 : Int32)) (5 : Int32) th_next z14_0 th_fault th_many th_signMany th_setMany th_corners th_isLoaded th_loaded th_widened th_wide th_boundUp th_boundDown th_text) H := hP
                          have hD : va_D A (w_X9_advances tc q_th q_th_text q_th_saying q_th_signs q_th_sets q_th_told q_th_up q_th_down q_th_world q_th_tight q_th_sum q_th_now n_th_text th_thrown th_typed (th_next + (1 : Int32)) (5 : Int32) th_next z14_0 th_fault th_many th_signMany th_setMany th_corners th_isLoaded th_loaded th_widened th_wide th_boundUp th_boundDown th_text) := hD
                          cases h
                          exact st_vret hx hb hr hlocks hP hD hS dX9_advances_373
                        · replace h := ifn c27 h
                          refine lv_iconst (v := (4 : Int32)) hx hb dX9_advances_365 (by decide) ?_
                          refine lv_goto (tgt := 370) hx hb dX9_advances_366 (by decide) ?_
                          refine va_put (D := D) (ci := 9) (v := .int (4 : Int32)) (ty := .int) (C := RX9) (T := TX9) (N := 28) hx hb hts hinX9 tyX9 tyX9_ok nmX9 hown hK hP hD hS 0 rfl rfl 4 (by decide) (hts (.fieldLink RX9 71 "ChanceBoundsModel" "token" "I") (by decide +kernel)) (fun _ h9 => h9) rfl (by decide +kernel) rfl rfl (Nat.le_of_ble_eq_true rfl) dX9_advances_370 (fun H locs hP hD hS => ?_)
                          have hP : va_P D vwCl (w_X9_advances tc q_th q_th_text q_th_saying q_th_signs q_th_sets q_th_told q_th_up q_th_down q_th_world q_th_tight q_th_sum q_th_now n_th_text th_thrown th_typed (th_next + (1 : Int32)) (4 : Int32) th_next z14_0 th_fault th_many th_signMany th_setMany th_corners th_isLoaded th_loaded th_widened th_wide th_boundUp th_boundDown th_text) H := hP
                          have hD : va_D A (w_X9_advances tc q_th q_th_text q_th_saying q_th_signs q_th_sets q_th_told q_th_up q_th_down q_th_world q_th_tight q_th_sum q_th_now n_th_text th_thrown th_typed (th_next + (1 : Int32)) (4 : Int32) th_next z14_0 th_fault th_many th_signMany th_setMany th_corners th_isLoaded th_loaded th_widened th_wide th_boundUp th_boundDown th_text) := hD
                          cases h
                          exact st_vret hx hb hr hlocks hP hD hS dX9_advances_373
                      · replace h := ifp c26 h
                        exact J354 (th_next + (1 : Int32)) th_token th_next z14_0 _ _ _ h hP hD hS (lv_sub hl [1] rfl)
        · replace h := ifn c19 h
          refine lv_aload_n hx hb dX9_advances_180 rfl (lv_at hl 1 rfl) ?_
          refine lv_iconst (v := (0 : Int32)) hx hb dX9_advances_181 (by decide) ?_
          refine va_put (D := D) (ci := 9) (v := .int (0 : Int32)) (ty := .int) (C := RX9) (T := TX9) (N := 28) hx hb hts hinX9 tyX9 tyX9_ok nmX9 hown hK hP hD hS 0 rfl rfl 6 (by decide) (hts (.fieldLink RX9 74 "ChanceBoundsModel" "value" "I") (by decide +kernel)) (fun _ h9 => h9) rfl (by decide +kernel) rfl rfl (Nat.le_of_ble_eq_true rfl) dX9_advances_182 (fun H locs hP hD hS => ?_)
          have hP : va_P D vwCl (w_X9_advances tc q_th q_th_text q_th_saying q_th_signs q_th_sets q_th_told q_th_up q_th_down q_th_world q_th_tight q_th_sum q_th_now n_th_text th_thrown th_typed th_next th_token th_next (0 : Int32) th_fault th_many th_signMany th_setMany th_corners th_isLoaded th_loaded th_widened th_wide th_boundUp th_boundDown th_text) H := hP
          have hD : va_D A (w_X9_advances tc q_th q_th_text q_th_saying q_th_signs q_th_sets q_th_told q_th_up q_th_down q_th_world q_th_tight q_th_sum q_th_now n_th_text th_thrown th_typed th_next th_token th_next (0 : Int32) th_fault th_many th_signMany th_setMany th_corners th_isLoaded th_loaded th_widened th_wide th_boundUp th_boundDown th_text) := hD
          obtain ⟨⟨z28_0, z28_1⟩, hl28, h⟩ := bd_ok h
          refine L185 z14_0 th_token th_next K _ _ hl28 ?_ _ _ _ hP hD hS (lv_sub hl [1, 0] rfl)
          intro H locs ls hP hD hS hl
          refine lv_aload_n hx hb dX9_advances_256 rfl (lv_at hl 0 rfl) ?_
          refine lv_aload_n hx hb dX9_advances_257 rfl (lv_at hl 0 rfl) ?_
          refine va_get (D := D) (ci := 9) (v := .int z28_1) (C := RX9) (T := TX9) (N := 28) hx hb hts hinX9 hown hK hP 0 rfl rfl 6 (by decide) (hts (.fieldLink RX9 74 "ChanceBoundsModel" "value" "I") (by decide +kernel)) (fun _ h9 => h9) rfl dX9_advances_258 ?_
          refine lv_sipush (v := (999 : Int32)) hx hb dX9_advances_261 (by decide) ?_
          refine lv_icmp_gt (tgt := 286) hx hb dX9_advances_264 (by decide) (fun c29 => ?_) (fun c29 => ?_)
          · replace h := ifp c29 h
            refine lv_iconst (v := (5 : Int32)) hx hb dX9_advances_286 (by decide) ?_
            refine lv_goto (tgt := 291) hx hb dX9_advances_287 (by decide) ?_
            refine va_put (D := D) (ci := 9) (v := .int (5 : Int32)) (ty := .int) (C := RX9) (T := TX9) (N := 28) hx hb hts hinX9 tyX9 tyX9_ok nmX9 hown hK hP hD hS 0 rfl rfl 4 (by decide) (hts (.fieldLink RX9 71 "ChanceBoundsModel" "token" "I") (by decide +kernel)) (fun _ h9 => h9) rfl (by decide +kernel) rfl rfl (Nat.le_of_ble_eq_true rfl) dX9_advances_291 (fun H locs hP hD hS => ?_)
            have hP : va_P D vwCl (w_X9_advances tc q_th q_th_text q_th_saying q_th_signs q_th_sets q_th_told q_th_up q_th_down q_th_world q_th_tight q_th_sum q_th_now n_th_text th_thrown th_typed z28_0 (5 : Int32) th_next z28_1 th_fault th_many th_signMany th_setMany th_corners th_isLoaded th_loaded th_widened th_wide th_boundUp th_boundDown th_text) H := hP
            have hD : va_D A (w_X9_advances tc q_th q_th_text q_th_saying q_th_signs q_th_sets q_th_told q_th_up q_th_down q_th_world q_th_tight q_th_sum q_th_now n_th_text th_thrown th_typed z28_0 (5 : Int32) th_next z28_1 th_fault th_many th_signMany th_setMany th_corners th_isLoaded th_loaded th_widened th_wide th_boundUp th_boundDown th_text) := hD
            refine lv_goto (tgt := 373) hx hb dX9_advances_294 (by decide) ?_
            cases h
            exact st_vret hx hb hr hlocks hP hD hS dX9_advances_373
          · replace h := ifn c29 h
            refine lv_iload_n hx hb dX9_advances_267 rfl (lv_at hl 1 rfl) ?_
            refine lv_bipush (v := (48 : Int32)) hx hb dX9_advances_268 (by decide) ?_
            refine lv_icmp_ne (tgt := 290) hx hb dX9_advances_270 (by decide) (fun c30 => ?_) (fun c30 => ?_)
            · replace h := ifn c30 h
              refine lv_iconst (v := (3 : Int32)) hx hb dX9_advances_290 (by decide) ?_
              refine va_put (D := D) (ci := 9) (v := .int (3 : Int32)) (ty := .int) (C := RX9) (T := TX9) (N := 28) hx hb hts hinX9 tyX9 tyX9_ok nmX9 hown hK hP hD hS 0 rfl rfl 4 (by decide) (hts (.fieldLink RX9 71 "ChanceBoundsModel" "token" "I") (by decide +kernel)) (fun _ h9 => h9) rfl (by decide +kernel) rfl rfl (Nat.le_of_ble_eq_true rfl) dX9_advances_291 (fun H locs hP hD hS => ?_)
              have hP : va_P D vwCl (w_X9_advances tc q_th q_th_text q_th_saying q_th_signs q_th_sets q_th_told q_th_up q_th_down q_th_world q_th_tight q_th_sum q_th_now n_th_text th_thrown th_typed z28_0 (3 : Int32) th_next z28_1 th_fault th_many th_signMany th_setMany th_corners th_isLoaded th_loaded th_widened th_wide th_boundUp th_boundDown th_text) H := hP
              have hD : va_D A (w_X9_advances tc q_th q_th_text q_th_saying q_th_signs q_th_sets q_th_told q_th_up q_th_down q_th_world q_th_tight q_th_sum q_th_now n_th_text th_thrown th_typed z28_0 (3 : Int32) th_next z28_1 th_fault th_many th_signMany th_setMany th_corners th_isLoaded th_loaded th_widened th_wide th_boundUp th_boundDown th_text) := hD
              refine lv_goto (tgt := 373) hx hb dX9_advances_294 (by decide) ?_
              cases h
              exact st_vret hx hb hr hlocks hP hD hS dX9_advances_373
            · replace h := ifp c30 h
              refine lv_aload_n hx hb dX9_advances_273 rfl (lv_at hl 0 rfl) ?_
              refine va_get (D := D) (ci := 9) (v := .int z28_0) (C := RX9) (T := TX9) (N := 28) hx hb hts hinX9 hown hK hP 0 rfl rfl 3 (by decide) (hts (.fieldLink RX9 61 "ChanceBoundsModel" "next" "I") (by decide +kernel)) (fun _ h9 => h9) rfl dX9_advances_274 ?_
              refine lv_aload_n hx hb dX9_advances_277 rfl (lv_at hl 0 rfl) ?_
              refine va_get (D := D) (ci := 9) (v := .int th_next) (C := RX9) (T := TX9) (N := 28) hx hb hts hinX9 hown hK hP 0 rfl rfl 5 (by decide) (hts (.fieldLink RX9 68 "ChanceBoundsModel" "place" "I") (by decide +kernel)) (fun _ h9 => h9) rfl dX9_advances_278 ?_
              refine lv_isub hx hb dX9_advances_281 ?_
              refine lv_iconst (v := (1 : Int32)) hx hb dX9_advances_282 (by decide) ?_
              refine lv_icmp_le (tgt := 290) hx hb dX9_advances_283 (by decide) (fun c31 => ?_) (fun c31 => ?_)
              · replace h := ifp c31 h
                refine lv_iconst (v := (3 : Int32)) hx hb dX9_advances_290 (by decide) ?_
                refine va_put (D := D) (ci := 9) (v := .int (3 : Int32)) (ty := .int) (C := RX9) (T := TX9) (N := 28) hx hb hts hinX9 tyX9 tyX9_ok nmX9 hown hK hP hD hS 0 rfl rfl 4 (by decide) (hts (.fieldLink RX9 71 "ChanceBoundsModel" "token" "I") (by decide +kernel)) (fun _ h9 => h9) rfl (by decide +kernel) rfl rfl (Nat.le_of_ble_eq_true rfl) dX9_advances_291 (fun H locs hP hD hS => ?_)
                have hP : va_P D vwCl (w_X9_advances tc q_th q_th_text q_th_saying q_th_signs q_th_sets q_th_told q_th_up q_th_down q_th_world q_th_tight q_th_sum q_th_now n_th_text th_thrown th_typed z28_0 (3 : Int32) th_next z28_1 th_fault th_many th_signMany th_setMany th_corners th_isLoaded th_loaded th_widened th_wide th_boundUp th_boundDown th_text) H := hP
                have hD : va_D A (w_X9_advances tc q_th q_th_text q_th_saying q_th_signs q_th_sets q_th_told q_th_up q_th_down q_th_world q_th_tight q_th_sum q_th_now n_th_text th_thrown th_typed z28_0 (3 : Int32) th_next z28_1 th_fault th_many th_signMany th_setMany th_corners th_isLoaded th_loaded th_widened th_wide th_boundUp th_boundDown th_text) := hD
                refine lv_goto (tgt := 373) hx hb dX9_advances_294 (by decide) ?_
                cases h
                exact st_vret hx hb hr hlocks hP hD hS dX9_advances_373
              · replace h := ifn c31 h
                refine lv_iconst (v := (5 : Int32)) hx hb dX9_advances_286 (by decide) ?_
                refine lv_goto (tgt := 291) hx hb dX9_advances_287 (by decide) ?_
                refine va_put (D := D) (ci := 9) (v := .int (5 : Int32)) (ty := .int) (C := RX9) (T := TX9) (N := 28) hx hb hts hinX9 tyX9 tyX9_ok nmX9 hown hK hP hD hS 0 rfl rfl 4 (by decide) (hts (.fieldLink RX9 71 "ChanceBoundsModel" "token" "I") (by decide +kernel)) (fun _ h9 => h9) rfl (by decide +kernel) rfl rfl (Nat.le_of_ble_eq_true rfl) dX9_advances_291 (fun H locs hP hD hS => ?_)
                have hP : va_P D vwCl (w_X9_advances tc q_th q_th_text q_th_saying q_th_signs q_th_sets q_th_told q_th_up q_th_down q_th_world q_th_tight q_th_sum q_th_now n_th_text th_thrown th_typed z28_0 (5 : Int32) th_next z28_1 th_fault th_many th_signMany th_setMany th_corners th_isLoaded th_loaded th_widened th_wide th_boundUp th_boundDown th_text) H := hP
                have hD : va_D A (w_X9_advances tc q_th q_th_text q_th_saying q_th_signs q_th_sets q_th_told q_th_up q_th_down q_th_world q_th_tight q_th_sum q_th_now n_th_text th_thrown th_typed z28_0 (5 : Int32) th_next z28_1 th_fault th_many th_signMany th_setMany th_corners th_isLoaded th_loaded th_widened th_wide th_boundUp th_boundDown th_text) := hD
                refine lv_goto (tgt := 373) hx hb dX9_advances_294 (by decide) ?_
                cases h
                exact st_vret hx hb hr hlocks hP hD hS dX9_advances_373
      · replace h := ifn c17 h
        obtain ⟨z32_0, hl32, h⟩ := bd_ok h
        refine L66 z14_0 th_token th_next th_value K _ _ hl32 ?_ _ _ _ hP hD hS (lv_sub hl [1, 0] rfl)
        intro H locs ls hP hD hS hl
        refine lv_aload_n hx hb dX9_advances_97 rfl (lv_at hl 0 rfl) ?_
        refine va_get (D := D) (ci := 9) (v := .int z32_0) (C := RX9) (T := TX9) (N := 28) hx hb hts hinX9 hown hK hP 0 rfl rfl 3 (by decide) (hts (.fieldLink RX9 61 "ChanceBoundsModel" "next" "I") (by decide +kernel)) (fun _ h9 => h9) rfl dX9_advances_98 ?_
        refine lv_aload_n hx hb dX9_advances_101 rfl (lv_at hl 0 rfl) ?_
        refine va_get (D := D) (ci := 9) (v := .int th_next) (C := RX9) (T := TX9) (N := 28) hx hb hts hinX9 hown hK hP 0 rfl rfl 5 (by decide) (hts (.fieldLink RX9 68 "ChanceBoundsModel" "place" "I") (by decide +kernel)) (fun _ h9 => h9) rfl dX9_advances_102 ?_
        refine lv_isub hx hb dX9_advances_105 ?_
        refine lv_istore_n (lv' := [(2, .int (z32_0 - th_next)), (0, .ref q_th), (1, .int z14_0)]) hx hb dX9_advances_106 rfl hl (by decide) rfl (fun ls hl => ?_)
        refine lv_aload_n hx hb dX9_advances_107 rfl (lv_at hl 1 rfl) ?_
        refine lv_iload_n hx hb dX9_advances_108 rfl (lv_at hl 2 rfl) ?_
        refine lv_bipush (v := (97 : Int32)) hx hb dX9_advances_109 (by decide) ?_
        refine lv_isub hx hb dX9_advances_111 ?_
        refine va_put (D := D) (ci := 9) (v := .int (z14_0 - (97 : Int32))) (ty := .int) (C := RX9) (T := TX9) (N := 28) hx hb hts hinX9 tyX9 tyX9_ok nmX9 hown hK hP hD hS 0 rfl rfl 6 (by decide) (hts (.fieldLink RX9 74 "ChanceBoundsModel" "value" "I") (by decide +kernel)) (fun _ h9 => h9) rfl (by decide +kernel) rfl rfl (Nat.le_of_ble_eq_true rfl) dX9_advances_112 (fun H locs hP hD hS => ?_)
        have hP : va_P D vwCl (w_X9_advances tc q_th q_th_text q_th_saying q_th_signs q_th_sets q_th_told q_th_up q_th_down q_th_world q_th_tight q_th_sum q_th_now n_th_text th_thrown th_typed z32_0 th_token th_next (z14_0 - (97 : Int32)) th_fault th_many th_signMany th_setMany th_corners th_isLoaded th_loaded th_widened th_wide th_boundUp th_boundDown th_text) H := hP
        have hD : va_D A (w_X9_advances tc q_th q_th_text q_th_saying q_th_signs q_th_sets q_th_told q_th_up q_th_down q_th_world q_th_tight q_th_sum q_th_now n_th_text th_thrown th_typed z32_0 th_token th_next (z14_0 - (97 : Int32)) th_fault th_many th_signMany th_setMany th_corners th_isLoaded th_loaded th_widened th_wide th_boundUp th_boundDown th_text) := hD
        refine lv_aload_n hx hb dX9_advances_115 rfl (lv_at hl 1 rfl) ?_
        refine lv_iload_n hx hb dX9_advances_116 rfl (lv_at hl 0 rfl) ?_
        refine lv_iconst (v := (1 : Int32)) hx hb dX9_advances_117 (by decide) ?_
        refine lv_icmp_ne (tgt := 131) hx hb dX9_advances_118 (by decide) (fun c33 => ?_) (fun c33 => ?_)
        · replace h := ifn c33 h
          refine lv_iload_n hx hb dX9_advances_131 rfl (lv_at hl 0 rfl) ?_
          refine lv_iconst (v := (2 : Int32)) hx hb dX9_advances_132 (by decide) ?_
          refine lv_icmp_ne (tgt := 162) hx hb dX9_advances_133 (by decide) (fun c34 => ?_) (fun c34 => ?_)
          · replace h := ifn c34 h
            refine lv_iconst (v := (5 : Int32)) hx hb dX9_advances_162 (by decide) ?_
            refine va_put (D := D) (ci := 9) (v := .int (5 : Int32)) (ty := .int) (C := RX9) (T := TX9) (N := 28) hx hb hts hinX9 tyX9 tyX9_ok nmX9 hown hK hP hD hS 0 rfl rfl 4 (by decide) (hts (.fieldLink RX9 71 "ChanceBoundsModel" "token" "I") (by decide +kernel)) (fun _ h9 => h9) rfl (by decide +kernel) rfl rfl (Nat.le_of_ble_eq_true rfl) dX9_advances_163 (fun H locs hP hD hS => ?_)
            have hP : va_P D vwCl (w_X9_advances tc q_th q_th_text q_th_saying q_th_signs q_th_sets q_th_told q_th_up q_th_down q_th_world q_th_tight q_th_sum q_th_now n_th_text th_thrown th_typed z32_0 (5 : Int32) th_next (z14_0 - (97 : Int32)) th_fault th_many th_signMany th_setMany th_corners th_isLoaded th_loaded th_widened th_wide th_boundUp th_boundDown th_text) H := hP
            have hD : va_D A (w_X9_advances tc q_th q_th_text q_th_saying q_th_signs q_th_sets q_th_told q_th_up q_th_down q_th_world q_th_tight q_th_sum q_th_now n_th_text th_thrown th_typed z32_0 (5 : Int32) th_next (z14_0 - (97 : Int32)) th_fault th_many th_signMany th_setMany th_corners th_isLoaded th_loaded th_widened th_wide th_boundUp th_boundDown th_text) := hD
            refine lv_goto (tgt := 373) hx hb dX9_advances_166 (by decide) ?_
            cases h
            exact st_vret hx hb hr hlocks hP hD hS dX9_advances_373
          · replace h := ifp c34 h
            refine lv_iload_n hx hb dX9_advances_136 rfl (lv_at hl 2 rfl) ?_
            refine lv_bipush (v := (105 : Int32)) hx hb dX9_advances_137 (by decide) ?_
            refine lv_icmp_ne (tgt := 162) hx hb dX9_advances_139 (by decide) (fun c35 => ?_) (fun c35 => ?_)
            · replace h := ifn c35 h
              refine lv_iconst (v := (5 : Int32)) hx hb dX9_advances_162 (by decide) ?_
              refine va_put (D := D) (ci := 9) (v := .int (5 : Int32)) (ty := .int) (C := RX9) (T := TX9) (N := 28) hx hb hts hinX9 tyX9 tyX9_ok nmX9 hown hK hP hD hS 0 rfl rfl 4 (by decide) (hts (.fieldLink RX9 71 "ChanceBoundsModel" "token" "I") (by decide +kernel)) (fun _ h9 => h9) rfl (by decide +kernel) rfl rfl (Nat.le_of_ble_eq_true rfl) dX9_advances_163 (fun H locs hP hD hS => ?_)
              have hP : va_P D vwCl (w_X9_advances tc q_th q_th_text q_th_saying q_th_signs q_th_sets q_th_told q_th_up q_th_down q_th_world q_th_tight q_th_sum q_th_now n_th_text th_thrown th_typed z32_0 (5 : Int32) th_next (z14_0 - (97 : Int32)) th_fault th_many th_signMany th_setMany th_corners th_isLoaded th_loaded th_widened th_wide th_boundUp th_boundDown th_text) H := hP
              have hD : va_D A (w_X9_advances tc q_th q_th_text q_th_saying q_th_signs q_th_sets q_th_told q_th_up q_th_down q_th_world q_th_tight q_th_sum q_th_now n_th_text th_thrown th_typed z32_0 (5 : Int32) th_next (z14_0 - (97 : Int32)) th_fault th_many th_signMany th_setMany th_corners th_isLoaded th_loaded th_widened th_wide th_boundUp th_boundDown th_text) := hD
              refine lv_goto (tgt := 373) hx hb dX9_advances_166 (by decide) ?_
              cases h
              exact st_vret hx hb hr hlocks hP hD hS dX9_advances_373
            · replace h := ifp c35 h
              refine lv_aload_n hx hb dX9_advances_142 rfl (lv_at hl 1 rfl) ?_
              refine va_get (D := D) (ci := 9) (v := .ref q_th_text) (C := RX9) (T := TX9) (N := 28) hx hb hts hinX9 hown hK hP 0 rfl rfl 1 (by decide) (hts (.fieldLink RX9 7 "ChanceBoundsModel" "text" "[I") (by decide +kernel)) (fun _ h9 => h9) rfl dX9_advances_143 ?_
              refine lv_aload_n hx hb dX9_advances_146 rfl (lv_at hl 1 rfl) ?_
              refine va_get (D := D) (ci := 9) (v := .int th_next) (C := RX9) (T := TX9) (N := 28) hx hb hts hinX9 hown hK hP 0 rfl rfl 5 (by decide) (hts (.fieldLink RX9 68 "ChanceBoundsModel" "place" "I") (by decide +kernel)) (fun _ h9 => h9) rfl dX9_advances_147 ?_
              refine lv_iconst (v := (1 : Int32)) hx hb dX9_advances_150 (by decide) ?_
              refine lv_iadd hx hb dX9_advances_151 ?_
              obtain ⟨g36, h⟩ := gd_ok h
              refine va_iald hx hb hK hP 1 0 rfl rfl g36 dX9_advances_152 ?_
              refine lv_bipush (v := (102 : Int32)) hx hb dX9_advances_153 (by decide) ?_
              refine lv_icmp_ne (tgt := 162) hx hb dX9_advances_155 (by decide) (fun c37 => ?_) (fun c37 => ?_)
              · replace h := ifn c37 h
                refine lv_iconst (v := (5 : Int32)) hx hb dX9_advances_162 (by decide) ?_
                refine va_put (D := D) (ci := 9) (v := .int (5 : Int32)) (ty := .int) (C := RX9) (T := TX9) (N := 28) hx hb hts hinX9 tyX9 tyX9_ok nmX9 hown hK hP hD hS 0 rfl rfl 4 (by decide) (hts (.fieldLink RX9 71 "ChanceBoundsModel" "token" "I") (by decide +kernel)) (fun _ h9 => h9) rfl (by decide +kernel) rfl rfl (Nat.le_of_ble_eq_true rfl) dX9_advances_163 (fun H locs hP hD hS => ?_)
                have hP : va_P D vwCl (w_X9_advances tc q_th q_th_text q_th_saying q_th_signs q_th_sets q_th_told q_th_up q_th_down q_th_world q_th_tight q_th_sum q_th_now n_th_text th_thrown th_typed z32_0 (5 : Int32) th_next (z14_0 - (97 : Int32)) th_fault th_many th_signMany th_setMany th_corners th_isLoaded th_loaded th_widened th_wide th_boundUp th_boundDown th_text) H := hP
                have hD : va_D A (w_X9_advances tc q_th q_th_text q_th_saying q_th_signs q_th_sets q_th_told q_th_up q_th_down q_th_world q_th_tight q_th_sum q_th_now n_th_text th_thrown th_typed z32_0 (5 : Int32) th_next (z14_0 - (97 : Int32)) th_fault th_many th_signMany th_setMany th_corners th_isLoaded th_loaded th_widened th_wide th_boundUp th_boundDown th_text) := hD
                refine lv_goto (tgt := 373) hx hb dX9_advances_166 (by decide) ?_
                cases h
                exact st_vret hx hb hr hlocks hP hD hS dX9_advances_373
              · replace h := ifp c37 h
                refine lv_iconst (v := (2 : Int32)) hx hb dX9_advances_158 (by decide) ?_
                refine lv_goto (tgt := 163) hx hb dX9_advances_159 (by decide) ?_
                refine va_put (D := D) (ci := 9) (v := .int (2 : Int32)) (ty := .int) (C := RX9) (T := TX9) (N := 28) hx hb hts hinX9 tyX9 tyX9_ok nmX9 hown hK hP hD hS 0 rfl rfl 4 (by decide) (hts (.fieldLink RX9 71 "ChanceBoundsModel" "token" "I") (by decide +kernel)) (fun _ h9 => h9) rfl (by decide +kernel) rfl rfl (Nat.le_of_ble_eq_true rfl) dX9_advances_163 (fun H locs hP hD hS => ?_)
                have hP : va_P D vwCl (w_X9_advances tc q_th q_th_text q_th_saying q_th_signs q_th_sets q_th_told q_th_up q_th_down q_th_world q_th_tight q_th_sum q_th_now n_th_text th_thrown th_typed z32_0 (2 : Int32) th_next (z14_0 - (97 : Int32)) th_fault th_many th_signMany th_setMany th_corners th_isLoaded th_loaded th_widened th_wide th_boundUp th_boundDown th_text) H := hP
                have hD : va_D A (w_X9_advances tc q_th q_th_text q_th_saying q_th_signs q_th_sets q_th_told q_th_up q_th_down q_th_world q_th_tight q_th_sum q_th_now n_th_text th_thrown th_typed z32_0 (2 : Int32) th_next (z14_0 - (97 : Int32)) th_fault th_many th_signMany th_setMany th_corners th_isLoaded th_loaded th_widened th_wide th_boundUp th_boundDown th_text) := hD
                refine lv_goto (tgt := 373) hx hb dX9_advances_166 (by decide) ?_
                cases h
                exact st_vret hx hb hr hlocks hP hD hS dX9_advances_373
        · replace h := ifp c33 h
          refine lv_iload_n hx hb dX9_advances_121 rfl (lv_at hl 2 rfl) ?_
          refine lv_bipush (v := (100 : Int32)) hx hb dX9_advances_122 (by decide) ?_
          refine lv_icmp_ge (tgt := 131) hx hb dX9_advances_124 (by decide) (fun c38 => ?_) (fun c38 => ?_)
          · replace h := ifp c38 h
            refine lv_iload_n hx hb dX9_advances_131 rfl (lv_at hl 0 rfl) ?_
            refine lv_iconst (v := (2 : Int32)) hx hb dX9_advances_132 (by decide) ?_
            refine lv_icmp_ne (tgt := 162) hx hb dX9_advances_133 (by decide) (fun c39 => ?_) (fun c39 => ?_)
            · replace h := ifn c39 h
              refine lv_iconst (v := (5 : Int32)) hx hb dX9_advances_162 (by decide) ?_
              refine va_put (D := D) (ci := 9) (v := .int (5 : Int32)) (ty := .int) (C := RX9) (T := TX9) (N := 28) hx hb hts hinX9 tyX9 tyX9_ok nmX9 hown hK hP hD hS 0 rfl rfl 4 (by decide) (hts (.fieldLink RX9 71 "ChanceBoundsModel" "token" "I") (by decide +kernel)) (fun _ h9 => h9) rfl (by decide +kernel) rfl rfl (Nat.le_of_ble_eq_true rfl) dX9_advances_163 (fun H locs hP hD hS => ?_)
              have hP : va_P D vwCl (w_X9_advances tc q_th q_th_text q_th_saying q_th_signs q_th_sets q_th_told q_th_up q_th_down q_th_world q_th_tight q_th_sum q_th_now n_th_text th_thrown th_typed z32_0 (5 : Int32) th_next (z14_0 - (97 : Int32)) th_fault th_many th_signMany th_setMany th_corners th_isLoaded th_loaded th_widened th_wide th_boundUp th_boundDown th_text) H := hP
              have hD : va_D A (w_X9_advances tc q_th q_th_text q_th_saying q_th_signs q_th_sets q_th_told q_th_up q_th_down q_th_world q_th_tight q_th_sum q_th_now n_th_text th_thrown th_typed z32_0 (5 : Int32) th_next (z14_0 - (97 : Int32)) th_fault th_many th_signMany th_setMany th_corners th_isLoaded th_loaded th_widened th_wide th_boundUp th_boundDown th_text) := hD
              refine lv_goto (tgt := 373) hx hb dX9_advances_166 (by decide) ?_
              cases h
              exact st_vret hx hb hr hlocks hP hD hS dX9_advances_373
            · replace h := ifp c39 h
              refine lv_iload_n hx hb dX9_advances_136 rfl (lv_at hl 2 rfl) ?_
              refine lv_bipush (v := (105 : Int32)) hx hb dX9_advances_137 (by decide) ?_
              refine lv_icmp_ne (tgt := 162) hx hb dX9_advances_139 (by decide) (fun c40 => ?_) (fun c40 => ?_)
              · replace h := ifn c40 h
                refine lv_iconst (v := (5 : Int32)) hx hb dX9_advances_162 (by decide) ?_
                refine va_put (D := D) (ci := 9) (v := .int (5 : Int32)) (ty := .int) (C := RX9) (T := TX9) (N := 28) hx hb hts hinX9 tyX9 tyX9_ok nmX9 hown hK hP hD hS 0 rfl rfl 4 (by decide) (hts (.fieldLink RX9 71 "ChanceBoundsModel" "token" "I") (by decide +kernel)) (fun _ h9 => h9) rfl (by decide +kernel) rfl rfl (Nat.le_of_ble_eq_true rfl) dX9_advances_163 (fun H locs hP hD hS => ?_)
                have hP : va_P D vwCl (w_X9_advances tc q_th q_th_text q_th_saying q_th_signs q_th_sets q_th_told q_th_up q_th_down q_th_world q_th_tight q_th_sum q_th_now n_th_text th_thrown th_typed z32_0 (5 : Int32) th_next (z14_0 - (97 : Int32)) th_fault th_many th_signMany th_setMany th_corners th_isLoaded th_loaded th_widened th_wide th_boundUp th_boundDown th_text) H := hP
                have hD : va_D A (w_X9_advances tc q_th q_th_text q_th_saying q_th_signs q_th_sets q_th_told q_th_up q_th_down q_th_world q_th_tight q_th_sum q_th_now n_th_text th_thrown th_typed z32_0 (5 : Int32) th_next (z14_0 - (97 : Int32)) th_fault th_many th_signMany th_setMany th_corners th_isLoaded th_loaded th_widened th_wide th_boundUp th_boundDown th_text) := hD
                refine lv_goto (tgt := 373) hx hb dX9_advances_166 (by decide) ?_
                cases h
                exact st_vret hx hb hr hlocks hP hD hS dX9_advances_373
              · replace h := ifp c40 h
                refine lv_aload_n hx hb dX9_advances_142 rfl (lv_at hl 1 rfl) ?_
                refine va_get (D := D) (ci := 9) (v := .ref q_th_text) (C := RX9) (T := TX9) (N := 28) hx hb hts hinX9 hown hK hP 0 rfl rfl 1 (by decide) (hts (.fieldLink RX9 7 "ChanceBoundsModel" "text" "[I") (by decide +kernel)) (fun _ h9 => h9) rfl dX9_advances_143 ?_
                refine lv_aload_n hx hb dX9_advances_146 rfl (lv_at hl 1 rfl) ?_
                refine va_get (D := D) (ci := 9) (v := .int th_next) (C := RX9) (T := TX9) (N := 28) hx hb hts hinX9 hown hK hP 0 rfl rfl 5 (by decide) (hts (.fieldLink RX9 68 "ChanceBoundsModel" "place" "I") (by decide +kernel)) (fun _ h9 => h9) rfl dX9_advances_147 ?_
                refine lv_iconst (v := (1 : Int32)) hx hb dX9_advances_150 (by decide) ?_
                refine lv_iadd hx hb dX9_advances_151 ?_
                obtain ⟨g41, h⟩ := gd_ok h
                refine va_iald hx hb hK hP 1 0 rfl rfl g41 dX9_advances_152 ?_
                refine lv_bipush (v := (102 : Int32)) hx hb dX9_advances_153 (by decide) ?_
                refine lv_icmp_ne (tgt := 162) hx hb dX9_advances_155 (by decide) (fun c42 => ?_) (fun c42 => ?_)
                · replace h := ifn c42 h
                  refine lv_iconst (v := (5 : Int32)) hx hb dX9_advances_162 (by decide) ?_
                  refine va_put (D := D) (ci := 9) (v := .int (5 : Int32)) (ty := .int) (C := RX9) (T := TX9) (N := 28) hx hb hts hinX9 tyX9 tyX9_ok nmX9 hown hK hP hD hS 0 rfl rfl 4 (by decide) (hts (.fieldLink RX9 71 "ChanceBoundsModel" "token" "I") (by decide +kernel)) (fun _ h9 => h9) rfl (by decide +kernel) rfl rfl (Nat.le_of_ble_eq_true rfl) dX9_advances_163 (fun H locs hP hD hS => ?_)
                  have hP : va_P D vwCl (w_X9_advances tc q_th q_th_text q_th_saying q_th_signs q_th_sets q_th_told q_th_up q_th_down q_th_world q_th_tight q_th_sum q_th_now n_th_text th_thrown th_typed z32_0 (5 : Int32) th_next (z14_0 - (97 : Int32)) th_fault th_many th_signMany th_setMany th_corners th_isLoaded th_loaded th_widened th_wide th_boundUp th_boundDown th_text) H := hP
                  have hD : va_D A (w_X9_advances tc q_th q_th_text q_th_saying q_th_signs q_th_sets q_th_told q_th_up q_th_down q_th_world q_th_tight q_th_sum q_th_now n_th_text th_thrown th_typed z32_0 (5 : Int32) th_next (z14_0 - (97 : Int32)) th_fault th_many th_signMany th_setMany th_corners th_isLoaded th_loaded th_widened th_wide th_boundUp th_boundDown th_text) := hD
                  refine lv_goto (tgt := 373) hx hb dX9_advances_166 (by decide) ?_
                  cases h
                  exact st_vret hx hb hr hlocks hP hD hS dX9_advances_373
                · replace h := ifp c42 h
                  refine lv_iconst (v := (2 : Int32)) hx hb dX9_advances_158 (by decide) ?_
                  refine lv_goto (tgt := 163) hx hb dX9_advances_159 (by decide) ?_
                  refine va_put (D := D) (ci := 9) (v := .int (2 : Int32)) (ty := .int) (C := RX9) (T := TX9) (N := 28) hx hb hts hinX9 tyX9 tyX9_ok nmX9 hown hK hP hD hS 0 rfl rfl 4 (by decide) (hts (.fieldLink RX9 71 "ChanceBoundsModel" "token" "I") (by decide +kernel)) (fun _ h9 => h9) rfl (by decide +kernel) rfl rfl (Nat.le_of_ble_eq_true rfl) dX9_advances_163 (fun H locs hP hD hS => ?_)
                  have hP : va_P D vwCl (w_X9_advances tc q_th q_th_text q_th_saying q_th_signs q_th_sets q_th_told q_th_up q_th_down q_th_world q_th_tight q_th_sum q_th_now n_th_text th_thrown th_typed z32_0 (2 : Int32) th_next (z14_0 - (97 : Int32)) th_fault th_many th_signMany th_setMany th_corners th_isLoaded th_loaded th_widened th_wide th_boundUp th_boundDown th_text) H := hP
                  have hD : va_D A (w_X9_advances tc q_th q_th_text q_th_saying q_th_signs q_th_sets q_th_told q_th_up q_th_down q_th_world q_th_tight q_th_sum q_th_now n_th_text th_thrown th_typed z32_0 (2 : Int32) th_next (z14_0 - (97 : Int32)) th_fault th_many th_signMany th_setMany th_corners th_isLoaded th_loaded th_widened th_wide th_boundUp th_boundDown th_text) := hD
                  refine lv_goto (tgt := 373) hx hb dX9_advances_166 (by decide) ?_
                  cases h
                  exact st_vret hx hb hr hlocks hP hD hS dX9_advances_373
          · replace h := ifn c38 h
            refine lv_iconst (v := (1 : Int32)) hx hb dX9_advances_127 (by decide) ?_
            refine lv_goto (tgt := 163) hx hb dX9_advances_128 (by decide) ?_
            refine va_put (D := D) (ci := 9) (v := .int (1 : Int32)) (ty := .int) (C := RX9) (T := TX9) (N := 28) hx hb hts hinX9 tyX9 tyX9_ok nmX9 hown hK hP hD hS 0 rfl rfl 4 (by decide) (hts (.fieldLink RX9 71 "ChanceBoundsModel" "token" "I") (by decide +kernel)) (fun _ h9 => h9) rfl (by decide +kernel) rfl rfl (Nat.le_of_ble_eq_true rfl) dX9_advances_163 (fun H locs hP hD hS => ?_)
            have hP : va_P D vwCl (w_X9_advances tc q_th q_th_text q_th_saying q_th_signs q_th_sets q_th_told q_th_up q_th_down q_th_world q_th_tight q_th_sum q_th_now n_th_text th_thrown th_typed z32_0 (1 : Int32) th_next (z14_0 - (97 : Int32)) th_fault th_many th_signMany th_setMany th_corners th_isLoaded th_loaded th_widened th_wide th_boundUp th_boundDown th_text) H := hP
            have hD : va_D A (w_X9_advances tc q_th q_th_text q_th_saying q_th_signs q_th_sets q_th_told q_th_up q_th_down q_th_world q_th_tight q_th_sum q_th_now n_th_text th_thrown th_typed z32_0 (1 : Int32) th_next (z14_0 - (97 : Int32)) th_fault th_many th_signMany th_setMany th_corners th_isLoaded th_loaded th_widened th_wide th_boundUp th_boundDown th_text) := hD
            refine lv_goto (tgt := 373) hx hb dX9_advances_166 (by decide) ?_
            cases h
            exact st_vret hx hb hr hlocks hP hD hS dX9_advances_373
    · replace h := ifn c15 h
      refine lv_aload_n hx hb dX9_advances_47 rfl (lv_at hl 1 rfl) ?_
      refine lv_iconst (v := (0 : Int32)) hx hb dX9_advances_48 (by decide) ?_
      refine va_put (D := D) (ci := 9) (v := .int (0 : Int32)) (ty := .int) (C := RX9) (T := TX9) (N := 28) hx hb hts hinX9 tyX9 tyX9_ok nmX9 hown hK hP hD hS 0 rfl rfl 4 (by decide) (hts (.fieldLink RX9 71 "ChanceBoundsModel" "token" "I") (by decide +kernel)) (fun _ h9 => h9) rfl (by decide +kernel) rfl rfl (Nat.le_of_ble_eq_true rfl) dX9_advances_49 (fun H locs hP hD hS => ?_)
      have hP : va_P D vwCl (w_X9_advances tc q_th q_th_text q_th_saying q_th_signs q_th_sets q_th_told q_th_up q_th_down q_th_world q_th_tight q_th_sum q_th_now n_th_text th_thrown th_typed th_next (0 : Int32) th_next th_value th_fault th_many th_signMany th_setMany th_corners th_isLoaded th_loaded th_widened th_wide th_boundUp th_boundDown th_text) H := hP
      have hD : va_D A (w_X9_advances tc q_th q_th_text q_th_saying q_th_signs q_th_sets q_th_told q_th_up q_th_down q_th_world q_th_tight q_th_sum q_th_now n_th_text th_thrown th_typed th_next (0 : Int32) th_next th_value th_fault th_many th_signMany th_setMany th_corners th_isLoaded th_loaded th_widened th_wide th_boundUp th_boundDown th_text) := hD
      refine lv_goto (tgt := 373) hx hb dX9_advances_52 (by decide) ?_
      cases h
      exact st_vret hx hb hr hlocks hP hD hS dX9_advances_373
  · replace h := ifp c13 h
    refine lv_aload_n hx hb dX9_advances_13 rfl (lv_at hl 0 rfl) ?_
    refine lv_dup hx hb dX9_advances_14 rfl ?_
    refine va_get (D := D) (ci := 9) (v := .int th_next) (C := RX9) (T := TX9) (N := 28) hx hb hts hinX9 hown hK hP 0 rfl rfl 3 (by decide) (hts (.fieldLink RX9 61 "ChanceBoundsModel" "next" "I") (by decide +kernel)) (fun _ h9 => h9) rfl dX9_advances_15 ?_
    refine lv_iconst (v := (1 : Int32)) hx hb dX9_advances_18 (by decide) ?_
    refine lv_iadd hx hb dX9_advances_19 ?_
    refine va_put (D := D) (ci := 9) (v := .int (th_next + (1 : Int32))) (ty := .int) (C := RX9) (T := TX9) (N := 28) hx hb hts hinX9 tyX9 tyX9_ok nmX9 hown hK hP hD hS 0 rfl rfl 3 (by decide) (hts (.fieldLink RX9 61 "ChanceBoundsModel" "next" "I") (by decide +kernel)) (fun _ h9 => h9) rfl (by decide +kernel) rfl rfl (Nat.le_of_ble_eq_true rfl) dX9_advances_20 (fun H locs hP hD hS => ?_)
    have hP : va_P D vwCl (w_X9_advances tc q_th q_th_text q_th_saying q_th_signs q_th_sets q_th_told q_th_up q_th_down q_th_world q_th_tight q_th_sum q_th_now n_th_text th_thrown th_typed (th_next + (1 : Int32)) th_token th_place th_value th_fault th_many th_signMany th_setMany th_corners th_isLoaded th_loaded th_widened th_wide th_boundUp th_boundDown th_text) H := hP
    have hD : va_D A (w_X9_advances tc q_th q_th_text q_th_saying q_th_signs q_th_sets q_th_told q_th_up q_th_down q_th_world q_th_tight q_th_sum q_th_now n_th_text th_thrown th_typed (th_next + (1 : Int32)) th_token th_place th_value th_fault th_many th_signMany th_setMany th_corners th_isLoaded th_loaded th_widened th_wide th_boundUp th_boundDown th_text) := hD
    refine lv_goto (tgt := 0) hx hb dX9_advances_23 (by decide) ?_
    obtain ⟨z43_0, hl43, h⟩ := bd_ok h
    refine L0 th_token th_place th_value K _ _ hl43 ?_ _ _ _ hP hD hS (lv_sub hl [0] rfl)
    intro H locs ls hP hD hS hl
    refine lv_aload_n hx hb dX9_advances_26 rfl (lv_at hl 0 rfl) ?_
    refine lv_aload_n hx hb dX9_advances_27 rfl (lv_at hl 0 rfl) ?_
    refine va_get (D := D) (ci := 9) (v := .int z43_0) (C := RX9) (T := TX9) (N := 28) hx hb hts hinX9 hown hK hP 0 rfl rfl 3 (by decide) (hts (.fieldLink RX9 61 "ChanceBoundsModel" "next" "I") (by decide +kernel)) (fun _ h9 => h9) rfl dX9_advances_28 ?_
    refine va_put (D := D) (ci := 9) (v := .int z43_0) (ty := .int) (C := RX9) (T := TX9) (N := 28) hx hb hts hinX9 tyX9 tyX9_ok nmX9 hown hK hP hD hS 0 rfl rfl 5 (by decide) (hts (.fieldLink RX9 68 "ChanceBoundsModel" "place" "I") (by decide +kernel)) (fun _ h9 => h9) rfl (by decide +kernel) rfl rfl (Nat.le_of_ble_eq_true rfl) dX9_advances_31 (fun H locs hP hD hS => ?_)
    have hP : va_P D vwCl (w_X9_advances tc q_th q_th_text q_th_saying q_th_signs q_th_sets q_th_told q_th_up q_th_down q_th_world q_th_tight q_th_sum q_th_now n_th_text th_thrown th_typed z43_0 th_token z43_0 th_value th_fault th_many th_signMany th_setMany th_corners th_isLoaded th_loaded th_widened th_wide th_boundUp th_boundDown th_text) H := hP
    have hD : va_D A (w_X9_advances tc q_th q_th_text q_th_saying q_th_signs q_th_sets q_th_told q_th_up q_th_down q_th_world q_th_tight q_th_sum q_th_now n_th_text th_thrown th_typed z43_0 th_token z43_0 th_value th_fault th_many th_signMany th_setMany th_corners th_isLoaded th_loaded th_widened th_wide th_boundUp th_boundDown th_text) := hD
    refine lv_aload_n hx hb dX9_advances_34 rfl (lv_at hl 0 rfl) ?_
    refine lv_aload_n hx hb dX9_advances_35 rfl (lv_at hl 0 rfl) ?_
    refine va_get (D := D) (ci := 9) (v := .int z43_0) (C := RX9) (T := TX9) (N := 28) hx hb hts hinX9 hown hK hP 0 rfl rfl 3 (by decide) (hts (.fieldLink RX9 61 "ChanceBoundsModel" "next" "I") (by decide +kernel)) (fun _ h9 => h9) rfl dX9_advances_36 ?_
    obtain ⟨z44_0, hc44, h⟩ := bd_ok h
    refine st_callV (As := [.int z43_0]) (rest := []) (pos := [0, 1]) ⟨hx, hb, hml, hown, hts⟩ (s_X9_byteAt (l := l) (D := D) (tc := tc) hEok q_th q_th_text q_th_saying q_th_signs q_th_sets q_th_told q_th_up q_th_down q_th_world q_th_tight q_th_sum q_th_now n_th_text th_thrown th_typed z43_0 th_token z43_0 th_value th_fault th_many th_signMany th_setMany th_corners th_isLoaded th_loaded th_widened th_wide th_boundUp th_boundDown th_text z43_0 z44_0 hc44) (cwV 1 hts gX9_advances_X9_byteAt rfl rfl rfl (by decide +kernel) ⟨Nat.le_of_ble_eq_true rfl, Nat.le_of_ble_eq_true rfl⟩) (st_recv (ci := 9) (q0 := 0) hK hP rfl rfl) hEok hE hK hN hP hD hS hA rfl rfl rfl rfl hl.1 rfl (Nat.le_of_ble_eq_true rfl) dX9_advances_39 ⟨Nat.zero_le _, Nat.zero_le _⟩ (fun H locs hP hD hS => ?_)
    have hP : va_P D vwCl (w_X9_advances tc q_th q_th_text q_th_saying q_th_signs q_th_sets q_th_told q_th_up q_th_down q_th_world q_th_tight q_th_sum q_th_now n_th_text th_thrown th_typed z43_0 th_token z43_0 th_value th_fault th_many th_signMany th_setMany th_corners th_isLoaded th_loaded th_widened th_wide th_boundUp th_boundDown th_text) H := hP
    have hD : va_D A (w_X9_advances tc q_th q_th_text q_th_saying q_th_signs q_th_sets q_th_told q_th_up q_th_down q_th_world q_th_tight q_th_sum q_th_now n_th_text th_thrown th_typed z43_0 th_token z43_0 th_value th_fault th_many th_signMany th_setMany th_corners th_isLoaded th_loaded th_widened th_wide th_boundUp th_boundDown th_text) := hD
    refine lv_istore_n (lv' := [(1, .int z44_0), (0, .ref q_th)]) hx hb dX9_advances_42 rfl hl (by decide) rfl (fun ls hl => ?_)
    refine lv_iload_n hx hb dX9_advances_43 rfl (lv_at hl 0 rfl) ?_
    refine lv_if_ge (tgt := 55) hx hb dX9_advances_44 (by decide) (fun c45 => ?_) (fun c45 => ?_)
    · replace h := ifp c45 h
      refine lv_iload_n hx hb dX9_advances_55 rfl (lv_at hl 0 rfl) ?_
      refine lv_bipush (v := (97 : Int32)) hx hb dX9_advances_56 (by decide) ?_
      refine lv_bipush (v := (122 : Int32)) hx hb dX9_advances_58 (by decide) ?_
      obtain ⟨z46_0, hc46, h⟩ := bd_ok h
      refine st_callS (As := [.int z44_0, .int (97 : Int32), .int (122 : Int32)]) (rest := []) (pos := []) ⟨hx, hb, hml, hown, hts⟩ (s_X9_in (l := l) (D := D) (tc := tc) hEok z44_0 (97 : Int32) (122 : Int32) z46_0 hc46) (va_cwS 3 hts gX9_advances_X9_in rfl rfl rfl (by decide +kernel) ⟨Nat.le_of_ble_eq_true rfl, Nat.le_of_ble_eq_true rfl⟩) hEok hE hK hN hP hD hS hA rfl rfl rfl rfl hl.1 rfl (Nat.le_of_ble_eq_true rfl) dX9_advances_60 ⟨Nat.zero_le _, Nat.zero_le _⟩ (fun H locs hP hD hS => ?_)
      have hP : va_P D vwCl (w_X9_advances tc q_th q_th_text q_th_saying q_th_signs q_th_sets q_th_told q_th_up q_th_down q_th_world q_th_tight q_th_sum q_th_now n_th_text th_thrown th_typed z43_0 th_token z43_0 th_value th_fault th_many th_signMany th_setMany th_corners th_isLoaded th_loaded th_widened th_wide th_boundUp th_boundDown th_text) H := hP
      have hD : va_D A (w_X9_advances tc q_th q_th_text q_th_saying q_th_signs q_th_sets q_th_told q_th_up q_th_down q_th_world q_th_tight q_th_sum q_th_now n_th_text th_thrown th_typed z43_0 th_token z43_0 th_value th_fault th_many th_signMany th_setMany th_corners th_isLoaded th_loaded th_widened th_wide th_boundUp th_boundDown th_text) := hD
      refine lv_if_eq (tgt := 169) hx hb dX9_advances_63 (by decide) (fun c47 => ?_) (fun c47 => ?_)
      · replace h := ifp c47 h
        refine lv_iload_n hx hb dX9_advances_169 rfl (lv_at hl 0 rfl) ?_
        refine lv_bipush (v := (48 : Int32)) hx hb dX9_advances_170 (by decide) ?_
        refine lv_bipush (v := (57 : Int32)) hx hb dX9_advances_172 (by decide) ?_
        obtain ⟨z48_0, hc48, h⟩ := bd_ok h
        refine st_callS (As := [.int z44_0, .int (48 : Int32), .int (57 : Int32)]) (rest := []) (pos := []) ⟨hx, hb, hml, hown, hts⟩ (s_X9_in (l := l) (D := D) (tc := tc) hEok z44_0 (48 : Int32) (57 : Int32) z48_0 hc48) (va_cwS 3 hts gX9_advances_X9_in rfl rfl rfl (by decide +kernel) ⟨Nat.le_of_ble_eq_true rfl, Nat.le_of_ble_eq_true rfl⟩) hEok hE hK hN hP hD hS hA rfl rfl rfl rfl hl.1 rfl (Nat.le_of_ble_eq_true rfl) dX9_advances_174 ⟨Nat.zero_le _, Nat.zero_le _⟩ (fun H locs hP hD hS => ?_)
        have hP : va_P D vwCl (w_X9_advances tc q_th q_th_text q_th_saying q_th_signs q_th_sets q_th_told q_th_up q_th_down q_th_world q_th_tight q_th_sum q_th_now n_th_text th_thrown th_typed z43_0 th_token z43_0 th_value th_fault th_many th_signMany th_setMany th_corners th_isLoaded th_loaded th_widened th_wide th_boundUp th_boundDown th_text) H := hP
        have hD : va_D A (w_X9_advances tc q_th q_th_text q_th_saying q_th_signs q_th_sets q_th_told q_th_up q_th_down q_th_world q_th_tight q_th_sum q_th_now n_th_text th_thrown th_typed z43_0 th_token z43_0 th_value th_fault th_many th_signMany th_setMany th_corners th_isLoaded th_loaded th_widened th_wide th_boundUp th_boundDown th_text) := hD
        refine lv_if_eq (tgt := 297) hx hb dX9_advances_177 (by decide) (fun c49 => ?_) (fun c49 => ?_)
        · replace h := ifp c49 h
          refine lv_aload_n hx hb dX9_advances_297 rfl (lv_at hl 1 rfl) ?_
          refine lv_iload_n hx hb dX9_advances_298 rfl (lv_at hl 0 rfl) ?_
          refine va_put (D := D) (ci := 9) (v := .int z44_0) (ty := .int) (C := RX9) (T := TX9) (N := 28) hx hb hts hinX9 tyX9 tyX9_ok nmX9 hown hK hP hD hS 0 rfl rfl 6 (by decide) (hts (.fieldLink RX9 74 "ChanceBoundsModel" "value" "I") (by decide +kernel)) (fun _ h9 => h9) rfl (by decide +kernel) rfl rfl (Nat.le_of_ble_eq_true rfl) dX9_advances_299 (fun H locs hP hD hS => ?_)
          have hP : va_P D vwCl (w_X9_advances tc q_th q_th_text q_th_saying q_th_signs q_th_sets q_th_told q_th_up q_th_down q_th_world q_th_tight q_th_sum q_th_now n_th_text th_thrown th_typed z43_0 th_token z43_0 z44_0 th_fault th_many th_signMany th_setMany th_corners th_isLoaded th_loaded th_widened th_wide th_boundUp th_boundDown th_text) H := hP
          have hD : va_D A (w_X9_advances tc q_th q_th_text q_th_saying q_th_signs q_th_sets q_th_told q_th_up q_th_down q_th_world q_th_tight q_th_sum q_th_now n_th_text th_thrown th_typed z43_0 th_token z43_0 z44_0 th_fault th_many th_signMany th_setMany th_corners th_isLoaded th_loaded th_widened th_wide th_boundUp th_boundDown th_text) := hD
          refine lv_aload_n hx hb dX9_advances_302 rfl (lv_at hl 1 rfl) ?_
          refine lv_dup hx hb dX9_advances_303 rfl ?_
          refine va_get (D := D) (ci := 9) (v := .int z43_0) (C := RX9) (T := TX9) (N := 28) hx hb hts hinX9 hown hK hP 0 rfl rfl 3 (by decide) (hts (.fieldLink RX9 61 "ChanceBoundsModel" "next" "I") (by decide +kernel)) (fun _ h9 => h9) rfl dX9_advances_304 ?_
          refine lv_iconst (v := (1 : Int32)) hx hb dX9_advances_307 (by decide) ?_
          refine lv_iadd hx hb dX9_advances_308 ?_
          refine va_put (D := D) (ci := 9) (v := .int (z43_0 + (1 : Int32))) (ty := .int) (C := RX9) (T := TX9) (N := 28) hx hb hts hinX9 tyX9 tyX9_ok nmX9 hown hK hP hD hS 0 rfl rfl 3 (by decide) (hts (.fieldLink RX9 61 "ChanceBoundsModel" "next" "I") (by decide +kernel)) (fun _ h9 => h9) rfl (by decide +kernel) rfl rfl (Nat.le_of_ble_eq_true rfl) dX9_advances_309 (fun H locs hP hD hS => ?_)
          have hP : va_P D vwCl (w_X9_advances tc q_th q_th_text q_th_saying q_th_signs q_th_sets q_th_told q_th_up q_th_down q_th_world q_th_tight q_th_sum q_th_now n_th_text th_thrown th_typed (z43_0 + (1 : Int32)) th_token z43_0 z44_0 th_fault th_many th_signMany th_setMany th_corners th_isLoaded th_loaded th_widened th_wide th_boundUp th_boundDown th_text) H := hP
          have hD : va_D A (w_X9_advances tc q_th q_th_text q_th_saying q_th_signs q_th_sets q_th_told q_th_up q_th_down q_th_world q_th_tight q_th_sum q_th_now n_th_text th_thrown th_typed (z43_0 + (1 : Int32)) th_token z43_0 z44_0 th_fault th_many th_signMany th_setMany th_corners th_isLoaded th_loaded th_widened th_wide th_boundUp th_boundDown th_text) := hD
          refine lv_iload_n hx hb dX9_advances_312 rfl (lv_at hl 0 rfl) ?_
          refine lv_bipush (v := (33 : Int32)) hx hb dX9_advances_313 (by decide) ?_
          refine lv_icmp_eq (tgt := 354) hx hb dX9_advances_315 (by decide) (fun c50 => ?_) (fun c50 => ?_)
          · replace h := ifp c50 h
            exact J354 (z43_0 + (1 : Int32)) th_token z43_0 z44_0 _ _ _ h hP hD hS (lv_sub hl [1] rfl)
          · replace h := ifn c50 h
            refine lv_iload_n hx hb dX9_advances_318 rfl (lv_at hl 0 rfl) ?_
            refine lv_bipush (v := (38 : Int32)) hx hb dX9_advances_319 (by decide) ?_
            refine lv_icmp_eq (tgt := 354) hx hb dX9_advances_321 (by decide) (fun c51 => ?_) (fun c51 => ?_)
            · replace h := ifp c51 h
              exact J354 (z43_0 + (1 : Int32)) th_token z43_0 z44_0 _ _ _ h hP hD hS (lv_sub hl [1] rfl)
            · replace h := ifn c51 h
              refine lv_iload_n hx hb dX9_advances_324 rfl (lv_at hl 0 rfl) ?_
              refine lv_bipush (v := (124 : Int32)) hx hb dX9_advances_325 (by decide) ?_
              refine lv_icmp_eq (tgt := 354) hx hb dX9_advances_327 (by decide) (fun c52 => ?_) (fun c52 => ?_)
              · replace h := ifp c52 h
                exact J354 (z43_0 + (1 : Int32)) th_token z43_0 z44_0 _ _ _ h hP hD hS (lv_sub hl [1] rfl)
              · replace h := ifn c52 h
                refine lv_iload_n hx hb dX9_advances_330 rfl (lv_at hl 0 rfl) ?_
                refine lv_bipush (v := (40 : Int32)) hx hb dX9_advances_331 (by decide) ?_
                refine lv_icmp_eq (tgt := 354) hx hb dX9_advances_333 (by decide) (fun c53 => ?_) (fun c53 => ?_)
                · replace h := ifp c53 h
                  exact J354 (z43_0 + (1 : Int32)) th_token z43_0 z44_0 _ _ _ h hP hD hS (lv_sub hl [1] rfl)
                · replace h := ifn c53 h
                  refine lv_iload_n hx hb dX9_advances_336 rfl (lv_at hl 0 rfl) ?_
                  refine lv_bipush (v := (41 : Int32)) hx hb dX9_advances_337 (by decide) ?_
                  refine lv_icmp_eq (tgt := 354) hx hb dX9_advances_339 (by decide) (fun c54 => ?_) (fun c54 => ?_)
                  · replace h := ifp c54 h
                    exact J354 (z43_0 + (1 : Int32)) th_token z43_0 z44_0 _ _ _ h hP hD hS (lv_sub hl [1] rfl)
                  · replace h := ifn c54 h
                    refine lv_iload_n hx hb dX9_advances_342 rfl (lv_at hl 0 rfl) ?_
                    refine lv_bipush (v := (45 : Int32)) hx hb dX9_advances_343 (by decide) ?_
                    refine lv_icmp_eq (tgt := 354) hx hb dX9_advances_345 (by decide) (fun c55 => ?_) (fun c55 => ?_)
                    · replace h := ifp c55 h
                      exact J354 (z43_0 + (1 : Int32)) th_token z43_0 z44_0 _ _ _ h hP hD hS (lv_sub hl [1] rfl)
                    · replace h := ifn c55 h
                      refine lv_iload_n hx hb dX9_advances_348 rfl (lv_at hl 0 rfl) ?_
                      refine lv_bipush (v := (59 : Int32)) hx hb dX9_advances_349 (by decide) ?_
                      refine lv_icmp_ne (tgt := 358) hx hb dX9_advances_351 (by decide) (fun c56 => ?_) (fun c56 => ?_)
                      · replace h := ifn c56 h
                        refine lv_iconst (v := (0 : Int32)) hx hb dX9_advances_358 (by decide) ?_
                        refine lv_istore_n (lv' := [(2, .int (0 : Int32)), (1, .int z44_0), (0, .ref q_th)]) hx hb dX9_advances_359 rfl hl (by decide) rfl (fun ls hl => ?_)
                        refine lv_aload_n hx hb dX9_advances_360 rfl (lv_at hl 2 rfl) ?_
                        refine lv_iload_n hx hb dX9_advances_361 rfl (lv_at hl 0 rfl) ?_
                        refine lv_if_eq (tgt := 369) hx hb dX9_advances_362 (by decide) (fun c57 => ?_) (fun c57 => ?_)
                        · replace h := ifp c57 h
                          refine lv_iconst (v := (5 : Int32)) hx hb dX9_advances_369 (by decide) ?_
                          refine va_put (D := D) (ci := 9) (v := .int (5 : Int32)) (ty := .int) (C := RX9) (T := TX9) (N := 28) hx hb hts hinX9 tyX9 tyX9_ok nmX9 hown hK hP hD hS 0 rfl rfl 4 (by decide) (hts (.fieldLink RX9 71 "ChanceBoundsModel" "token" "I") (by decide +kernel)) (fun _ h9 => h9) rfl (by decide +kernel) rfl rfl (Nat.le_of_ble_eq_true rfl) dX9_advances_370 (fun H locs hP hD hS => ?_)
                          have hP : va_P D vwCl (w_X9_advances tc q_th q_th_text q_th_saying q_th_signs q_th_sets q_th_told q_th_up q_th_down q_th_world q_th_tight q_th_sum q_th_now n_th_text th_thrown th_typed (z43_0 + (1 : Int32)) (5 : Int32) z43_0 z44_0 th_fault th_many th_signMany th_setMany th_corners th_isLoaded th_loaded th_widened th_wide th_boundUp th_boundDown th_text) H := hP
                          have hD : va_D A (w_X9_advances tc q_th q_th_text q_th_saying q_th_signs q_th_sets q_th_told q_th_up q_th_down q_th_world q_th_tight q_th_sum q_th_now n_th_text th_thrown th_typed (z43_0 + (1 : Int32)) (5 : Int32) z43_0 z44_0 th_fault th_many th_signMany th_setMany th_corners th_isLoaded th_loaded th_widened th_wide th_boundUp th_boundDown th_text) := hD
                          cases h
                          exact st_vret hx hb hr hlocks hP hD hS dX9_advances_373
                        · replace h := ifn c57 h
                          refine lv_iconst (v := (4 : Int32)) hx hb dX9_advances_365 (by decide) ?_
                          refine lv_goto (tgt := 370) hx hb dX9_advances_366 (by decide) ?_
                          refine va_put (D := D) (ci := 9) (v := .int (4 : Int32)) (ty := .int) (C := RX9) (T := TX9) (N := 28) hx hb hts hinX9 tyX9 tyX9_ok nmX9 hown hK hP hD hS 0 rfl rfl 4 (by decide) (hts (.fieldLink RX9 71 "ChanceBoundsModel" "token" "I") (by decide +kernel)) (fun _ h9 => h9) rfl (by decide +kernel) rfl rfl (Nat.le_of_ble_eq_true rfl) dX9_advances_370 (fun H locs hP hD hS => ?_)
                          have hP : va_P D vwCl (w_X9_advances tc q_th q_th_text q_th_saying q_th_signs q_th_sets q_th_told q_th_up q_th_down q_th_world q_th_tight q_th_sum q_th_now n_th_text th_thrown th_typed (z43_0 + (1 : Int32)) (4 : Int32) z43_0 z44_0 th_fault th_many th_signMany th_setMany th_corners th_isLoaded th_loaded th_widened th_wide th_boundUp th_boundDown th_text) H := hP
                          have hD : va_D A (w_X9_advances tc q_th q_th_text q_th_saying q_th_signs q_th_sets q_th_told q_th_up q_th_down q_th_world q_th_tight q_th_sum q_th_now n_th_text th_thrown th_typed (z43_0 + (1 : Int32)) (4 : Int32) z43_0 z44_0 th_fault th_many th_signMany th_setMany th_corners th_isLoaded th_loaded th_widened th_wide th_boundUp th_boundDown th_text) := hD
                          cases h
                          exact st_vret hx hb hr hlocks hP hD hS dX9_advances_373
                      · replace h := ifp c56 h
                        exact J354 (z43_0 + (1 : Int32)) th_token z43_0 z44_0 _ _ _ h hP hD hS (lv_sub hl [1] rfl)
        · replace h := ifn c49 h
          refine lv_aload_n hx hb dX9_advances_180 rfl (lv_at hl 1 rfl) ?_
          refine lv_iconst (v := (0 : Int32)) hx hb dX9_advances_181 (by decide) ?_
          refine va_put (D := D) (ci := 9) (v := .int (0 : Int32)) (ty := .int) (C := RX9) (T := TX9) (N := 28) hx hb hts hinX9 tyX9 tyX9_ok nmX9 hown hK hP hD hS 0 rfl rfl 6 (by decide) (hts (.fieldLink RX9 74 "ChanceBoundsModel" "value" "I") (by decide +kernel)) (fun _ h9 => h9) rfl (by decide +kernel) rfl rfl (Nat.le_of_ble_eq_true rfl) dX9_advances_182 (fun H locs hP hD hS => ?_)
          have hP : va_P D vwCl (w_X9_advances tc q_th q_th_text q_th_saying q_th_signs q_th_sets q_th_told q_th_up q_th_down q_th_world q_th_tight q_th_sum q_th_now n_th_text th_thrown th_typed z43_0 th_token z43_0 (0 : Int32) th_fault th_many th_signMany th_setMany th_corners th_isLoaded th_loaded th_widened th_wide th_boundUp th_boundDown th_text) H := hP
          have hD : va_D A (w_X9_advances tc q_th q_th_text q_th_saying q_th_signs q_th_sets q_th_told q_th_up q_th_down q_th_world q_th_tight q_th_sum q_th_now n_th_text th_thrown th_typed z43_0 th_token z43_0 (0 : Int32) th_fault th_many th_signMany th_setMany th_corners th_isLoaded th_loaded th_widened th_wide th_boundUp th_boundDown th_text) := hD
          obtain ⟨⟨z58_0, z58_1⟩, hl58, h⟩ := bd_ok h
          refine L185 z44_0 th_token z43_0 K _ _ hl58 ?_ _ _ _ hP hD hS (lv_sub hl [1, 0] rfl)
          intro H locs ls hP hD hS hl
          refine lv_aload_n hx hb dX9_advances_256 rfl (lv_at hl 0 rfl) ?_
          refine lv_aload_n hx hb dX9_advances_257 rfl (lv_at hl 0 rfl) ?_
          refine va_get (D := D) (ci := 9) (v := .int z58_1) (C := RX9) (T := TX9) (N := 28) hx hb hts hinX9 hown hK hP 0 rfl rfl 6 (by decide) (hts (.fieldLink RX9 74 "ChanceBoundsModel" "value" "I") (by decide +kernel)) (fun _ h9 => h9) rfl dX9_advances_258 ?_
          refine lv_sipush (v := (999 : Int32)) hx hb dX9_advances_261 (by decide) ?_
          refine lv_icmp_gt (tgt := 286) hx hb dX9_advances_264 (by decide) (fun c59 => ?_) (fun c59 => ?_)
          · replace h := ifp c59 h
            refine lv_iconst (v := (5 : Int32)) hx hb dX9_advances_286 (by decide) ?_
            refine lv_goto (tgt := 291) hx hb dX9_advances_287 (by decide) ?_
            refine va_put (D := D) (ci := 9) (v := .int (5 : Int32)) (ty := .int) (C := RX9) (T := TX9) (N := 28) hx hb hts hinX9 tyX9 tyX9_ok nmX9 hown hK hP hD hS 0 rfl rfl 4 (by decide) (hts (.fieldLink RX9 71 "ChanceBoundsModel" "token" "I") (by decide +kernel)) (fun _ h9 => h9) rfl (by decide +kernel) rfl rfl (Nat.le_of_ble_eq_true rfl) dX9_advances_291 (fun H locs hP hD hS => ?_)
            have hP : va_P D vwCl (w_X9_advances tc q_th q_th_text q_th_saying q_th_signs q_th_sets q_th_told q_th_up q_th_down q_th_world q_th_tight q_th_sum q_th_now n_th_text th_thrown th_typed z58_0 (5 : Int32) z43_0 z58_1 th_fault th_many th_signMany th_setMany th_corners th_isLoaded th_loaded th_widened th_wide th_boundUp th_boundDown th_text) H := hP
            have hD : va_D A (w_X9_advances tc q_th q_th_text q_th_saying q_th_signs q_th_sets q_th_told q_th_up q_th_down q_th_world q_th_tight q_th_sum q_th_now n_th_text th_thrown th_typed z58_0 (5 : Int32) z43_0 z58_1 th_fault th_many th_signMany th_setMany th_corners th_isLoaded th_loaded th_widened th_wide th_boundUp th_boundDown th_text) := hD
            refine lv_goto (tgt := 373) hx hb dX9_advances_294 (by decide) ?_
            cases h
            exact st_vret hx hb hr hlocks hP hD hS dX9_advances_373
          · replace h := ifn c59 h
            refine lv_iload_n hx hb dX9_advances_267 rfl (lv_at hl 1 rfl) ?_
            refine lv_bipush (v := (48 : Int32)) hx hb dX9_advances_268 (by decide) ?_
            refine lv_icmp_ne (tgt := 290) hx hb dX9_advances_270 (by decide) (fun c60 => ?_) (fun c60 => ?_)
            · replace h := ifn c60 h
              refine lv_iconst (v := (3 : Int32)) hx hb dX9_advances_290 (by decide) ?_
              refine va_put (D := D) (ci := 9) (v := .int (3 : Int32)) (ty := .int) (C := RX9) (T := TX9) (N := 28) hx hb hts hinX9 tyX9 tyX9_ok nmX9 hown hK hP hD hS 0 rfl rfl 4 (by decide) (hts (.fieldLink RX9 71 "ChanceBoundsModel" "token" "I") (by decide +kernel)) (fun _ h9 => h9) rfl (by decide +kernel) rfl rfl (Nat.le_of_ble_eq_true rfl) dX9_advances_291 (fun H locs hP hD hS => ?_)
              have hP : va_P D vwCl (w_X9_advances tc q_th q_th_text q_th_saying q_th_signs q_th_sets q_th_told q_th_up q_th_down q_th_world q_th_tight q_th_sum q_th_now n_th_text th_thrown th_typed z58_0 (3 : Int32) z43_0 z58_1 th_fault th_many th_signMany th_setMany th_corners th_isLoaded th_loaded th_widened th_wide th_boundUp th_boundDown th_text) H := hP
              have hD : va_D A (w_X9_advances tc q_th q_th_text q_th_saying q_th_signs q_th_sets q_th_told q_th_up q_th_down q_th_world q_th_tight q_th_sum q_th_now n_th_text th_thrown th_typed z58_0 (3 : Int32) z43_0 z58_1 th_fault th_many th_signMany th_setMany th_corners th_isLoaded th_loaded th_widened th_wide th_boundUp th_boundDown th_text) := hD
              refine lv_goto (tgt := 373) hx hb dX9_advances_294 (by decide) ?_
              cases h
              exact st_vret hx hb hr hlocks hP hD hS dX9_advances_373
            · replace h := ifp c60 h
              refine lv_aload_n hx hb dX9_advances_273 rfl (lv_at hl 0 rfl) ?_
              refine va_get (D := D) (ci := 9) (v := .int z58_0) (C := RX9) (T := TX9) (N := 28) hx hb hts hinX9 hown hK hP 0 rfl rfl 3 (by decide) (hts (.fieldLink RX9 61 "ChanceBoundsModel" "next" "I") (by decide +kernel)) (fun _ h9 => h9) rfl dX9_advances_274 ?_
              refine lv_aload_n hx hb dX9_advances_277 rfl (lv_at hl 0 rfl) ?_
              refine va_get (D := D) (ci := 9) (v := .int z43_0) (C := RX9) (T := TX9) (N := 28) hx hb hts hinX9 hown hK hP 0 rfl rfl 5 (by decide) (hts (.fieldLink RX9 68 "ChanceBoundsModel" "place" "I") (by decide +kernel)) (fun _ h9 => h9) rfl dX9_advances_278 ?_
              refine lv_isub hx hb dX9_advances_281 ?_
              refine lv_iconst (v := (1 : Int32)) hx hb dX9_advances_282 (by decide) ?_
              refine lv_icmp_le (tgt := 290) hx hb dX9_advances_283 (by decide) (fun c61 => ?_) (fun c61 => ?_)
              · replace h := ifp c61 h
                refine lv_iconst (v := (3 : Int32)) hx hb dX9_advances_290 (by decide) ?_
                refine va_put (D := D) (ci := 9) (v := .int (3 : Int32)) (ty := .int) (C := RX9) (T := TX9) (N := 28) hx hb hts hinX9 tyX9 tyX9_ok nmX9 hown hK hP hD hS 0 rfl rfl 4 (by decide) (hts (.fieldLink RX9 71 "ChanceBoundsModel" "token" "I") (by decide +kernel)) (fun _ h9 => h9) rfl (by decide +kernel) rfl rfl (Nat.le_of_ble_eq_true rfl) dX9_advances_291 (fun H locs hP hD hS => ?_)
                have hP : va_P D vwCl (w_X9_advances tc q_th q_th_text q_th_saying q_th_signs q_th_sets q_th_told q_th_up q_th_down q_th_world q_th_tight q_th_sum q_th_now n_th_text th_thrown th_typed z58_0 (3 : Int32) z43_0 z58_1 th_fault th_many th_signMany th_setMany th_corners th_isLoaded th_loaded th_widened th_wide th_boundUp th_boundDown th_text) H := hP
                have hD : va_D A (w_X9_advances tc q_th q_th_text q_th_saying q_th_signs q_th_sets q_th_told q_th_up q_th_down q_th_world q_th_tight q_th_sum q_th_now n_th_text th_thrown th_typed z58_0 (3 : Int32) z43_0 z58_1 th_fault th_many th_signMany th_setMany th_corners th_isLoaded th_loaded th_widened th_wide th_boundUp th_boundDown th_text) := hD
                refine lv_goto (tgt := 373) hx hb dX9_advances_294 (by decide) ?_
                cases h
                exact st_vret hx hb hr hlocks hP hD hS dX9_advances_373
              · replace h := ifn c61 h
                refine lv_iconst (v := (5 : Int32)) hx hb dX9_advances_286 (by decide) ?_
                refine lv_goto (tgt := 291) hx hb dX9_advances_287 (by decide) ?_
                refine va_put (D := D) (ci := 9) (v := .int (5 : Int32)) (ty := .int) (C := RX9) (T := TX9) (N := 28) hx hb hts hinX9 tyX9 tyX9_ok nmX9 hown hK hP hD hS 0 rfl rfl 4 (by decide) (hts (.fieldLink RX9 71 "ChanceBoundsModel" "token" "I") (by decide +kernel)) (fun _ h9 => h9) rfl (by decide +kernel) rfl rfl (Nat.le_of_ble_eq_true rfl) dX9_advances_291 (fun H locs hP hD hS => ?_)
                have hP : va_P D vwCl (w_X9_advances tc q_th q_th_text q_th_saying q_th_signs q_th_sets q_th_told q_th_up q_th_down q_th_world q_th_tight q_th_sum q_th_now n_th_text th_thrown th_typed z58_0 (5 : Int32) z43_0 z58_1 th_fault th_many th_signMany th_setMany th_corners th_isLoaded th_loaded th_widened th_wide th_boundUp th_boundDown th_text) H := hP
                have hD : va_D A (w_X9_advances tc q_th q_th_text q_th_saying q_th_signs q_th_sets q_th_told q_th_up q_th_down q_th_world q_th_tight q_th_sum q_th_now n_th_text th_thrown th_typed z58_0 (5 : Int32) z43_0 z58_1 th_fault th_many th_signMany th_setMany th_corners th_isLoaded th_loaded th_widened th_wide th_boundUp th_boundDown th_text) := hD
                refine lv_goto (tgt := 373) hx hb dX9_advances_294 (by decide) ?_
                cases h
                exact st_vret hx hb hr hlocks hP hD hS dX9_advances_373
      · replace h := ifn c47 h
        obtain ⟨z62_0, hl62, h⟩ := bd_ok h
        refine L66 z44_0 th_token z43_0 th_value K _ _ hl62 ?_ _ _ _ hP hD hS (lv_sub hl [1, 0] rfl)
        intro H locs ls hP hD hS hl
        refine lv_aload_n hx hb dX9_advances_97 rfl (lv_at hl 0 rfl) ?_
        refine va_get (D := D) (ci := 9) (v := .int z62_0) (C := RX9) (T := TX9) (N := 28) hx hb hts hinX9 hown hK hP 0 rfl rfl 3 (by decide) (hts (.fieldLink RX9 61 "ChanceBoundsModel" "next" "I") (by decide +kernel)) (fun _ h9 => h9) rfl dX9_advances_98 ?_
        refine lv_aload_n hx hb dX9_advances_101 rfl (lv_at hl 0 rfl) ?_
        refine va_get (D := D) (ci := 9) (v := .int z43_0) (C := RX9) (T := TX9) (N := 28) hx hb hts hinX9 hown hK hP 0 rfl rfl 5 (by decide) (hts (.fieldLink RX9 68 "ChanceBoundsModel" "place" "I") (by decide +kernel)) (fun _ h9 => h9) rfl dX9_advances_102 ?_
        refine lv_isub hx hb dX9_advances_105 ?_
        refine lv_istore_n (lv' := [(2, .int (z62_0 - z43_0)), (0, .ref q_th), (1, .int z44_0)]) hx hb dX9_advances_106 rfl hl (by decide) rfl (fun ls hl => ?_)
        refine lv_aload_n hx hb dX9_advances_107 rfl (lv_at hl 1 rfl) ?_
        refine lv_iload_n hx hb dX9_advances_108 rfl (lv_at hl 2 rfl) ?_
        refine lv_bipush (v := (97 : Int32)) hx hb dX9_advances_109 (by decide) ?_
        refine lv_isub hx hb dX9_advances_111 ?_
        refine va_put (D := D) (ci := 9) (v := .int (z44_0 - (97 : Int32))) (ty := .int) (C := RX9) (T := TX9) (N := 28) hx hb hts hinX9 tyX9 tyX9_ok nmX9 hown hK hP hD hS 0 rfl rfl 6 (by decide) (hts (.fieldLink RX9 74 "ChanceBoundsModel" "value" "I") (by decide +kernel)) (fun _ h9 => h9) rfl (by decide +kernel) rfl rfl (Nat.le_of_ble_eq_true rfl) dX9_advances_112 (fun H locs hP hD hS => ?_)
        have hP : va_P D vwCl (w_X9_advances tc q_th q_th_text q_th_saying q_th_signs q_th_sets q_th_told q_th_up q_th_down q_th_world q_th_tight q_th_sum q_th_now n_th_text th_thrown th_typed z62_0 th_token z43_0 (z44_0 - (97 : Int32)) th_fault th_many th_signMany th_setMany th_corners th_isLoaded th_loaded th_widened th_wide th_boundUp th_boundDown th_text) H := hP
        have hD : va_D A (w_X9_advances tc q_th q_th_text q_th_saying q_th_signs q_th_sets q_th_told q_th_up q_th_down q_th_world q_th_tight q_th_sum q_th_now n_th_text th_thrown th_typed z62_0 th_token z43_0 (z44_0 - (97 : Int32)) th_fault th_many th_signMany th_setMany th_corners th_isLoaded th_loaded th_widened th_wide th_boundUp th_boundDown th_text) := hD
        refine lv_aload_n hx hb dX9_advances_115 rfl (lv_at hl 1 rfl) ?_
        refine lv_iload_n hx hb dX9_advances_116 rfl (lv_at hl 0 rfl) ?_
        refine lv_iconst (v := (1 : Int32)) hx hb dX9_advances_117 (by decide) ?_
        refine lv_icmp_ne (tgt := 131) hx hb dX9_advances_118 (by decide) (fun c63 => ?_) (fun c63 => ?_)
        · replace h := ifn c63 h
          refine lv_iload_n hx hb dX9_advances_131 rfl (lv_at hl 0 rfl) ?_
          refine lv_iconst (v := (2 : Int32)) hx hb dX9_advances_132 (by decide) ?_
          refine lv_icmp_ne (tgt := 162) hx hb dX9_advances_133 (by decide) (fun c64 => ?_) (fun c64 => ?_)
          · replace h := ifn c64 h
            refine lv_iconst (v := (5 : Int32)) hx hb dX9_advances_162 (by decide) ?_
            refine va_put (D := D) (ci := 9) (v := .int (5 : Int32)) (ty := .int) (C := RX9) (T := TX9) (N := 28) hx hb hts hinX9 tyX9 tyX9_ok nmX9 hown hK hP hD hS 0 rfl rfl 4 (by decide) (hts (.fieldLink RX9 71 "ChanceBoundsModel" "token" "I") (by decide +kernel)) (fun _ h9 => h9) rfl (by decide +kernel) rfl rfl (Nat.le_of_ble_eq_true rfl) dX9_advances_163 (fun H locs hP hD hS => ?_)
            have hP : va_P D vwCl (w_X9_advances tc q_th q_th_text q_th_saying q_th_signs q_th_sets q_th_told q_th_up q_th_down q_th_world q_th_tight q_th_sum q_th_now n_th_text th_thrown th_typed z62_0 (5 : Int32) z43_0 (z44_0 - (97 : Int32)) th_fault th_many th_signMany th_setMany th_corners th_isLoaded th_loaded th_widened th_wide th_boundUp th_boundDown th_text) H := hP
            have hD : va_D A (w_X9_advances tc q_th q_th_text q_th_saying q_th_signs q_th_sets q_th_told q_th_up q_th_down q_th_world q_th_tight q_th_sum q_th_now n_th_text th_thrown th_typed z62_0 (5 : Int32) z43_0 (z44_0 - (97 : Int32)) th_fault th_many th_signMany th_setMany th_corners th_isLoaded th_loaded th_widened th_wide th_boundUp th_boundDown th_text) := hD
            refine lv_goto (tgt := 373) hx hb dX9_advances_166 (by decide) ?_
            cases h
            exact st_vret hx hb hr hlocks hP hD hS dX9_advances_373
          · replace h := ifp c64 h
            refine lv_iload_n hx hb dX9_advances_136 rfl (lv_at hl 2 rfl) ?_
            refine lv_bipush (v := (105 : Int32)) hx hb dX9_advances_137 (by decide) ?_
            refine lv_icmp_ne (tgt := 162) hx hb dX9_advances_139 (by decide) (fun c65 => ?_) (fun c65 => ?_)
            · replace h := ifn c65 h
              refine lv_iconst (v := (5 : Int32)) hx hb dX9_advances_162 (by decide) ?_
              refine va_put (D := D) (ci := 9) (v := .int (5 : Int32)) (ty := .int) (C := RX9) (T := TX9) (N := 28) hx hb hts hinX9 tyX9 tyX9_ok nmX9 hown hK hP hD hS 0 rfl rfl 4 (by decide) (hts (.fieldLink RX9 71 "ChanceBoundsModel" "token" "I") (by decide +kernel)) (fun _ h9 => h9) rfl (by decide +kernel) rfl rfl (Nat.le_of_ble_eq_true rfl) dX9_advances_163 (fun H locs hP hD hS => ?_)
              have hP : va_P D vwCl (w_X9_advances tc q_th q_th_text q_th_saying q_th_signs q_th_sets q_th_told q_th_up q_th_down q_th_world q_th_tight q_th_sum q_th_now n_th_text th_thrown th_typed z62_0 (5 : Int32) z43_0 (z44_0 - (97 : Int32)) th_fault th_many th_signMany th_setMany th_corners th_isLoaded th_loaded th_widened th_wide th_boundUp th_boundDown th_text) H := hP
              have hD : va_D A (w_X9_advances tc q_th q_th_text q_th_saying q_th_signs q_th_sets q_th_told q_th_up q_th_down q_th_world q_th_tight q_th_sum q_th_now n_th_text th_thrown th_typed z62_0 (5 : Int32) z43_0 (z44_0 - (97 : Int32)) th_fault th_many th_signMany th_setMany th_corners th_isLoaded th_loaded th_widened th_wide th_boundUp th_boundDown th_text) := hD
              refine lv_goto (tgt := 373) hx hb dX9_advances_166 (by decide) ?_
              cases h
              exact st_vret hx hb hr hlocks hP hD hS dX9_advances_373
            · replace h := ifp c65 h
              refine lv_aload_n hx hb dX9_advances_142 rfl (lv_at hl 1 rfl) ?_
              refine va_get (D := D) (ci := 9) (v := .ref q_th_text) (C := RX9) (T := TX9) (N := 28) hx hb hts hinX9 hown hK hP 0 rfl rfl 1 (by decide) (hts (.fieldLink RX9 7 "ChanceBoundsModel" "text" "[I") (by decide +kernel)) (fun _ h9 => h9) rfl dX9_advances_143 ?_
              refine lv_aload_n hx hb dX9_advances_146 rfl (lv_at hl 1 rfl) ?_
              refine va_get (D := D) (ci := 9) (v := .int z43_0) (C := RX9) (T := TX9) (N := 28) hx hb hts hinX9 hown hK hP 0 rfl rfl 5 (by decide) (hts (.fieldLink RX9 68 "ChanceBoundsModel" "place" "I") (by decide +kernel)) (fun _ h9 => h9) rfl dX9_advances_147 ?_
              refine lv_iconst (v := (1 : Int32)) hx hb dX9_advances_150 (by decide) ?_
              refine lv_iadd hx hb dX9_advances_151 ?_
              obtain ⟨g66, h⟩ := gd_ok h
              refine va_iald hx hb hK hP 1 0 rfl rfl g66 dX9_advances_152 ?_
              refine lv_bipush (v := (102 : Int32)) hx hb dX9_advances_153 (by decide) ?_
              refine lv_icmp_ne (tgt := 162) hx hb dX9_advances_155 (by decide) (fun c67 => ?_) (fun c67 => ?_)
              · replace h := ifn c67 h
                refine lv_iconst (v := (5 : Int32)) hx hb dX9_advances_162 (by decide) ?_
                refine va_put (D := D) (ci := 9) (v := .int (5 : Int32)) (ty := .int) (C := RX9) (T := TX9) (N := 28) hx hb hts hinX9 tyX9 tyX9_ok nmX9 hown hK hP hD hS 0 rfl rfl 4 (by decide) (hts (.fieldLink RX9 71 "ChanceBoundsModel" "token" "I") (by decide +kernel)) (fun _ h9 => h9) rfl (by decide +kernel) rfl rfl (Nat.le_of_ble_eq_true rfl) dX9_advances_163 (fun H locs hP hD hS => ?_)
                have hP : va_P D vwCl (w_X9_advances tc q_th q_th_text q_th_saying q_th_signs q_th_sets q_th_told q_th_up q_th_down q_th_world q_th_tight q_th_sum q_th_now n_th_text th_thrown th_typed z62_0 (5 : Int32) z43_0 (z44_0 - (97 : Int32)) th_fault th_many th_signMany th_setMany th_corners th_isLoaded th_loaded th_widened th_wide th_boundUp th_boundDown th_text) H := hP
                have hD : va_D A (w_X9_advances tc q_th q_th_text q_th_saying q_th_signs q_th_sets q_th_told q_th_up q_th_down q_th_world q_th_tight q_th_sum q_th_now n_th_text th_thrown th_typed z62_0 (5 : Int32) z43_0 (z44_0 - (97 : Int32)) th_fault th_many th_signMany th_setMany th_corners th_isLoaded th_loaded th_widened th_wide th_boundUp th_boundDown th_text) := hD
                refine lv_goto (tgt := 373) hx hb dX9_advances_166 (by decide) ?_
                cases h
                exact st_vret hx hb hr hlocks hP hD hS dX9_advances_373
              · replace h := ifp c67 h
                refine lv_iconst (v := (2 : Int32)) hx hb dX9_advances_158 (by decide) ?_
                refine lv_goto (tgt := 163) hx hb dX9_advances_159 (by decide) ?_
                refine va_put (D := D) (ci := 9) (v := .int (2 : Int32)) (ty := .int) (C := RX9) (T := TX9) (N := 28) hx hb hts hinX9 tyX9 tyX9_ok nmX9 hown hK hP hD hS 0 rfl rfl 4 (by decide) (hts (.fieldLink RX9 71 "ChanceBoundsModel" "token" "I") (by decide +kernel)) (fun _ h9 => h9) rfl (by decide +kernel) rfl rfl (Nat.le_of_ble_eq_true rfl) dX9_advances_163 (fun H locs hP hD hS => ?_)
                have hP : va_P D vwCl (w_X9_advances tc q_th q_th_text q_th_saying q_th_signs q_th_sets q_th_told q_th_up q_th_down q_th_world q_th_tight q_th_sum q_th_now n_th_text th_thrown th_typed z62_0 (2 : Int32) z43_0 (z44_0 - (97 : Int32)) th_fault th_many th_signMany th_setMany th_corners th_isLoaded th_loaded th_widened th_wide th_boundUp th_boundDown th_text) H := hP
                have hD : va_D A (w_X9_advances tc q_th q_th_text q_th_saying q_th_signs q_th_sets q_th_told q_th_up q_th_down q_th_world q_th_tight q_th_sum q_th_now n_th_text th_thrown th_typed z62_0 (2 : Int32) z43_0 (z44_0 - (97 : Int32)) th_fault th_many th_signMany th_setMany th_corners th_isLoaded th_loaded th_widened th_wide th_boundUp th_boundDown th_text) := hD
                refine lv_goto (tgt := 373) hx hb dX9_advances_166 (by decide) ?_
                cases h
                exact st_vret hx hb hr hlocks hP hD hS dX9_advances_373
        · replace h := ifp c63 h
          refine lv_iload_n hx hb dX9_advances_121 rfl (lv_at hl 2 rfl) ?_
          refine lv_bipush (v := (100 : Int32)) hx hb dX9_advances_122 (by decide) ?_
          refine lv_icmp_ge (tgt := 131) hx hb dX9_advances_124 (by decide) (fun c68 => ?_) (fun c68 => ?_)
          · replace h := ifp c68 h
            refine lv_iload_n hx hb dX9_advances_131 rfl (lv_at hl 0 rfl) ?_
            refine lv_iconst (v := (2 : Int32)) hx hb dX9_advances_132 (by decide) ?_
            refine lv_icmp_ne (tgt := 162) hx hb dX9_advances_133 (by decide) (fun c69 => ?_) (fun c69 => ?_)
            · replace h := ifn c69 h
              refine lv_iconst (v := (5 : Int32)) hx hb dX9_advances_162 (by decide) ?_
              refine va_put (D := D) (ci := 9) (v := .int (5 : Int32)) (ty := .int) (C := RX9) (T := TX9) (N := 28) hx hb hts hinX9 tyX9 tyX9_ok nmX9 hown hK hP hD hS 0 rfl rfl 4 (by decide) (hts (.fieldLink RX9 71 "ChanceBoundsModel" "token" "I") (by decide +kernel)) (fun _ h9 => h9) rfl (by decide +kernel) rfl rfl (Nat.le_of_ble_eq_true rfl) dX9_advances_163 (fun H locs hP hD hS => ?_)
              have hP : va_P D vwCl (w_X9_advances tc q_th q_th_text q_th_saying q_th_signs q_th_sets q_th_told q_th_up q_th_down q_th_world q_th_tight q_th_sum q_th_now n_th_text th_thrown th_typed z62_0 (5 : Int32) z43_0 (z44_0 - (97 : Int32)) th_fault th_many th_signMany th_setMany th_corners th_isLoaded th_loaded th_widened th_wide th_boundUp th_boundDown th_text) H := hP
              have hD : va_D A (w_X9_advances tc q_th q_th_text q_th_saying q_th_signs q_th_sets q_th_told q_th_up q_th_down q_th_world q_th_tight q_th_sum q_th_now n_th_text th_thrown th_typed z62_0 (5 : Int32) z43_0 (z44_0 - (97 : Int32)) th_fault th_many th_signMany th_setMany th_corners th_isLoaded th_loaded th_widened th_wide th_boundUp th_boundDown th_text) := hD
              refine lv_goto (tgt := 373) hx hb dX9_advances_166 (by decide) ?_
              cases h
              exact st_vret hx hb hr hlocks hP hD hS dX9_advances_373
            · replace h := ifp c69 h
              refine lv_iload_n hx hb dX9_advances_136 rfl (lv_at hl 2 rfl) ?_
              refine lv_bipush (v := (105 : Int32)) hx hb dX9_advances_137 (by decide) ?_
              refine lv_icmp_ne (tgt := 162) hx hb dX9_advances_139 (by decide) (fun c70 => ?_) (fun c70 => ?_)
              · replace h := ifn c70 h
                refine lv_iconst (v := (5 : Int32)) hx hb dX9_advances_162 (by decide) ?_
                refine va_put (D := D) (ci := 9) (v := .int (5 : Int32)) (ty := .int) (C := RX9) (T := TX9) (N := 28) hx hb hts hinX9 tyX9 tyX9_ok nmX9 hown hK hP hD hS 0 rfl rfl 4 (by decide) (hts (.fieldLink RX9 71 "ChanceBoundsModel" "token" "I") (by decide +kernel)) (fun _ h9 => h9) rfl (by decide +kernel) rfl rfl (Nat.le_of_ble_eq_true rfl) dX9_advances_163 (fun H locs hP hD hS => ?_)
                have hP : va_P D vwCl (w_X9_advances tc q_th q_th_text q_th_saying q_th_signs q_th_sets q_th_told q_th_up q_th_down q_th_world q_th_tight q_th_sum q_th_now n_th_text th_thrown th_typed z62_0 (5 : Int32) z43_0 (z44_0 - (97 : Int32)) th_fault th_many th_signMany th_setMany th_corners th_isLoaded th_loaded th_widened th_wide th_boundUp th_boundDown th_text) H := hP
                have hD : va_D A (w_X9_advances tc q_th q_th_text q_th_saying q_th_signs q_th_sets q_th_told q_th_up q_th_down q_th_world q_th_tight q_th_sum q_th_now n_th_text th_thrown th_typed z62_0 (5 : Int32) z43_0 (z44_0 - (97 : Int32)) th_fault th_many th_signMany th_setMany th_corners th_isLoaded th_loaded th_widened th_wide th_boundUp th_boundDown th_text) := hD
                refine lv_goto (tgt := 373) hx hb dX9_advances_166 (by decide) ?_
                cases h
                exact st_vret hx hb hr hlocks hP hD hS dX9_advances_373
              · replace h := ifp c70 h
                refine lv_aload_n hx hb dX9_advances_142 rfl (lv_at hl 1 rfl) ?_
                refine va_get (D := D) (ci := 9) (v := .ref q_th_text) (C := RX9) (T := TX9) (N := 28) hx hb hts hinX9 hown hK hP 0 rfl rfl 1 (by decide) (hts (.fieldLink RX9 7 "ChanceBoundsModel" "text" "[I") (by decide +kernel)) (fun _ h9 => h9) rfl dX9_advances_143 ?_
                refine lv_aload_n hx hb dX9_advances_146 rfl (lv_at hl 1 rfl) ?_
                refine va_get (D := D) (ci := 9) (v := .int z43_0) (C := RX9) (T := TX9) (N := 28) hx hb hts hinX9 hown hK hP 0 rfl rfl 5 (by decide) (hts (.fieldLink RX9 68 "ChanceBoundsModel" "place" "I") (by decide +kernel)) (fun _ h9 => h9) rfl dX9_advances_147 ?_
                refine lv_iconst (v := (1 : Int32)) hx hb dX9_advances_150 (by decide) ?_
                refine lv_iadd hx hb dX9_advances_151 ?_
                obtain ⟨g71, h⟩ := gd_ok h
                refine va_iald hx hb hK hP 1 0 rfl rfl g71 dX9_advances_152 ?_
                refine lv_bipush (v := (102 : Int32)) hx hb dX9_advances_153 (by decide) ?_
                refine lv_icmp_ne (tgt := 162) hx hb dX9_advances_155 (by decide) (fun c72 => ?_) (fun c72 => ?_)
                · replace h := ifn c72 h
                  refine lv_iconst (v := (5 : Int32)) hx hb dX9_advances_162 (by decide) ?_
                  refine va_put (D := D) (ci := 9) (v := .int (5 : Int32)) (ty := .int) (C := RX9) (T := TX9) (N := 28) hx hb hts hinX9 tyX9 tyX9_ok nmX9 hown hK hP hD hS 0 rfl rfl 4 (by decide) (hts (.fieldLink RX9 71 "ChanceBoundsModel" "token" "I") (by decide +kernel)) (fun _ h9 => h9) rfl (by decide +kernel) rfl rfl (Nat.le_of_ble_eq_true rfl) dX9_advances_163 (fun H locs hP hD hS => ?_)
                  have hP : va_P D vwCl (w_X9_advances tc q_th q_th_text q_th_saying q_th_signs q_th_sets q_th_told q_th_up q_th_down q_th_world q_th_tight q_th_sum q_th_now n_th_text th_thrown th_typed z62_0 (5 : Int32) z43_0 (z44_0 - (97 : Int32)) th_fault th_many th_signMany th_setMany th_corners th_isLoaded th_loaded th_widened th_wide th_boundUp th_boundDown th_text) H := hP
                  have hD : va_D A (w_X9_advances tc q_th q_th_text q_th_saying q_th_signs q_th_sets q_th_told q_th_up q_th_down q_th_world q_th_tight q_th_sum q_th_now n_th_text th_thrown th_typed z62_0 (5 : Int32) z43_0 (z44_0 - (97 : Int32)) th_fault th_many th_signMany th_setMany th_corners th_isLoaded th_loaded th_widened th_wide th_boundUp th_boundDown th_text) := hD
                  refine lv_goto (tgt := 373) hx hb dX9_advances_166 (by decide) ?_
                  cases h
                  exact st_vret hx hb hr hlocks hP hD hS dX9_advances_373
                · replace h := ifp c72 h
                  refine lv_iconst (v := (2 : Int32)) hx hb dX9_advances_158 (by decide) ?_
                  refine lv_goto (tgt := 163) hx hb dX9_advances_159 (by decide) ?_
                  refine va_put (D := D) (ci := 9) (v := .int (2 : Int32)) (ty := .int) (C := RX9) (T := TX9) (N := 28) hx hb hts hinX9 tyX9 tyX9_ok nmX9 hown hK hP hD hS 0 rfl rfl 4 (by decide) (hts (.fieldLink RX9 71 "ChanceBoundsModel" "token" "I") (by decide +kernel)) (fun _ h9 => h9) rfl (by decide +kernel) rfl rfl (Nat.le_of_ble_eq_true rfl) dX9_advances_163 (fun H locs hP hD hS => ?_)
                  have hP : va_P D vwCl (w_X9_advances tc q_th q_th_text q_th_saying q_th_signs q_th_sets q_th_told q_th_up q_th_down q_th_world q_th_tight q_th_sum q_th_now n_th_text th_thrown th_typed z62_0 (2 : Int32) z43_0 (z44_0 - (97 : Int32)) th_fault th_many th_signMany th_setMany th_corners th_isLoaded th_loaded th_widened th_wide th_boundUp th_boundDown th_text) H := hP
                  have hD : va_D A (w_X9_advances tc q_th q_th_text q_th_saying q_th_signs q_th_sets q_th_told q_th_up q_th_down q_th_world q_th_tight q_th_sum q_th_now n_th_text th_thrown th_typed z62_0 (2 : Int32) z43_0 (z44_0 - (97 : Int32)) th_fault th_many th_signMany th_setMany th_corners th_isLoaded th_loaded th_widened th_wide th_boundUp th_boundDown th_text) := hD
                  refine lv_goto (tgt := 373) hx hb dX9_advances_166 (by decide) ?_
                  cases h
                  exact st_vret hx hb hr hlocks hP hD hS dX9_advances_373
          · replace h := ifn c68 h
            refine lv_iconst (v := (1 : Int32)) hx hb dX9_advances_127 (by decide) ?_
            refine lv_goto (tgt := 163) hx hb dX9_advances_128 (by decide) ?_
            refine va_put (D := D) (ci := 9) (v := .int (1 : Int32)) (ty := .int) (C := RX9) (T := TX9) (N := 28) hx hb hts hinX9 tyX9 tyX9_ok nmX9 hown hK hP hD hS 0 rfl rfl 4 (by decide) (hts (.fieldLink RX9 71 "ChanceBoundsModel" "token" "I") (by decide +kernel)) (fun _ h9 => h9) rfl (by decide +kernel) rfl rfl (Nat.le_of_ble_eq_true rfl) dX9_advances_163 (fun H locs hP hD hS => ?_)
            have hP : va_P D vwCl (w_X9_advances tc q_th q_th_text q_th_saying q_th_signs q_th_sets q_th_told q_th_up q_th_down q_th_world q_th_tight q_th_sum q_th_now n_th_text th_thrown th_typed z62_0 (1 : Int32) z43_0 (z44_0 - (97 : Int32)) th_fault th_many th_signMany th_setMany th_corners th_isLoaded th_loaded th_widened th_wide th_boundUp th_boundDown th_text) H := hP
            have hD : va_D A (w_X9_advances tc q_th q_th_text q_th_saying q_th_signs q_th_sets q_th_told q_th_up q_th_down q_th_world q_th_tight q_th_sum q_th_now n_th_text th_thrown th_typed z62_0 (1 : Int32) z43_0 (z44_0 - (97 : Int32)) th_fault th_many th_signMany th_setMany th_corners th_isLoaded th_loaded th_widened th_wide th_boundUp th_boundDown th_text) := hD
            refine lv_goto (tgt := 373) hx hb dX9_advances_166 (by decide) ?_
            cases h
            exact st_vret hx hb hr hlocks hP hD hS dX9_advances_373
    · replace h := ifn c45 h
      refine lv_aload_n hx hb dX9_advances_47 rfl (lv_at hl 1 rfl) ?_
      refine lv_iconst (v := (0 : Int32)) hx hb dX9_advances_48 (by decide) ?_
      refine va_put (D := D) (ci := 9) (v := .int (0 : Int32)) (ty := .int) (C := RX9) (T := TX9) (N := 28) hx hb hts hinX9 tyX9 tyX9_ok nmX9 hown hK hP hD hS 0 rfl rfl 4 (by decide) (hts (.fieldLink RX9 71 "ChanceBoundsModel" "token" "I") (by decide +kernel)) (fun _ h9 => h9) rfl (by decide +kernel) rfl rfl (Nat.le_of_ble_eq_true rfl) dX9_advances_49 (fun H locs hP hD hS => ?_)
      have hP : va_P D vwCl (w_X9_advances tc q_th q_th_text q_th_saying q_th_signs q_th_sets q_th_told q_th_up q_th_down q_th_world q_th_tight q_th_sum q_th_now n_th_text th_thrown th_typed z43_0 (0 : Int32) z43_0 th_value th_fault th_many th_signMany th_setMany th_corners th_isLoaded th_loaded th_widened th_wide th_boundUp th_boundDown th_text) H := hP
      have hD : va_D A (w_X9_advances tc q_th q_th_text q_th_saying q_th_signs q_th_sets q_th_told q_th_up q_th_down q_th_world q_th_tight q_th_sum q_th_now n_th_text th_thrown th_typed z43_0 (0 : Int32) z43_0 th_value th_fault th_many th_signMany th_setMany th_corners th_isLoaded th_loaded th_widened th_wide th_boundUp th_boundDown th_text) := hD
      refine lv_goto (tgt := 373) hx hb dX9_advances_52 (by decide) ?_
      cases h
      exact st_vret hx hb hr hlocks hP hD hS dX9_advances_373
def f_X9_formula_J228 (n_th_signs : Nat) (n_th_sets : Nat) (th_signMany : Int32) (th_setMany : Int32) (th_signs : Nat → Int32) (th_sets : Nat → Int32) : Option ((Int32 × Int32 × (Nat → Int32)) ⊕ (Int32 × Int32 × (Nat → Int32))) :=
  (f_X9_joins n_th_signs n_th_sets th_signMany th_setMany th_signs th_sets).bind fun z1 => match z1 with
  | (z1_0, z1_1, z1_2) =>
    some (.inr (z1_0, z1_1, z1_2))
def f_X9_formula_L182 (n_th_signs : Nat) (n_th_sets : Nat) (th_signs : Nat → Int32) (x5 : Int32) (s182 : Int32 × Int32 × (Nat → Int32)) : Option ((Int32 × Int32 × (Nat → Int32)) ⊕ (Int32 × Int32 × (Nat → Int32))) :=
  match s182 with
  | (th_signMany, th_setMany, th_sets) =>
    if th_signMany ≤ (0 : Int32) then
      some (.inl (th_signMany, th_setMany, th_sets))
    else
      if (th_signMany - (1 : Int32)) < 0 ∨ n_th_signs ≤ (th_signMany - (1 : Int32)).toNatClampNeg then none else
      if (th_signs (th_signMany - (1 : Int32)).toNatClampNeg) = (38 : Int32) then
        f_X9_formula_J228 n_th_signs n_th_sets th_signMany th_setMany th_signs th_sets
      else
        if (th_signMany - (1 : Int32)) < 0 ∨ n_th_signs ≤ (th_signMany - (1 : Int32)).toNatClampNeg then none else
        if (th_signs (th_signMany - (1 : Int32)).toNatClampNeg) = (124 : Int32) then
          if x5 = (124 : Int32) then
            f_X9_formula_J228 n_th_signs n_th_sets th_signMany th_setMany th_signs th_sets
          else
            some (.inl (th_signMany, th_setMany, th_sets))
        else
          some (.inl (th_signMany, th_setMany, th_sets))
def f_X9_formula_L283 (n_th_signs : Nat) (n_th_sets : Nat) (th_signs : Nat → Int32) (s283 : Int32 × Int32 × (Nat → Int32)) : Option ((Int32 × Int32 × (Nat → Int32)) ⊕ (Int32 × Int32 × (Nat → Int32))) :=
  match s283 with
  | (th_signMany, th_setMany, th_sets) =>
    if (th_signMany - (1 : Int32)) < 0 ∨ n_th_signs ≤ (th_signMany - (1 : Int32)).toNatClampNeg then none else
    if (th_signs (th_signMany - (1 : Int32)).toNatClampNeg) = (40 : Int32) then
      some (.inl (th_signMany, th_setMany, th_sets))
    else
      (f_X9_joins n_th_signs n_th_sets th_signMany th_setMany th_signs th_sets).bind fun z10 => match z10 with
      | (z10_0, z10_1, z10_2) =>
        some (.inr (z10_0, z10_1, z10_2))
def f_X9_formula_L329 (n_th_signs : Nat) (n_th_sets : Nat) (th_setMany : Int32) (th_signs : Nat → Int32) (x3 : Int32) (s329 : Int32 × Int32 × (Nat → Int32)) : Option ((Int32 × Int32 × (Nat → Int32)) ⊕ (Int32 × Int32 × (Nat → Int32))) :=
  match s329 with
  | (x2, th_signMany, th_sets) =>
    if x3 = (0 : Int32) then
      if th_signMany ≤ (0 : Int32) then
        some (.inl (x2, th_signMany, th_sets))
      else
        if (th_signMany - (1 : Int32)) < 0 ∨ n_th_signs ≤ (th_signMany - (1 : Int32)).toNatClampNeg then none else
        if (th_signs (th_signMany - (1 : Int32)).toNatClampNeg) = (33 : Int32) then
          if (th_setMany - (1 : Int32)) < 0 ∨ n_th_sets ≤ (th_setMany - (1 : Int32)).toNatClampNeg then none else
          if (th_setMany - (1 : Int32)) < 0 ∨ n_th_sets ≤ (th_setMany - (1 : Int32)).toNatClampNeg then none else
          some (.inr (x2 + (-1), th_signMany - (1 : Int32), upd th_sets (th_setMany - (1 : Int32)).toNatClampNeg ((255 : Int32) &&& ((th_sets (th_setMany - (1 : Int32)).toNatClampNeg) ^^^ (-1 : Int32)))))
        else
          some (.inl (x2, th_signMany, th_sets))
    else
      some (.inl (x2, th_signMany, th_sets))
def f_X9_formula_J329 (K : Nat) (n_th_signs : Nat) (n_th_sets : Nat) (th_next : Int32) (th_token : Int32) (th_place : Int32) (th_value : Int32) (th_fault : Int32) (th_signMany : Int32) (th_setMany : Int32) (th_signs : Nat → Int32) (th_sets : Nat → Int32) (x1 : Int32) (x2 : Int32) (x3 : Int32) (x4 : Int32) : Option ((Int32 × Int32 × Int32 × Int32 × Int32 × Int32 × Int32 × (Nat → Int32) × (Nat → Int32)) ⊕ (Int32 × Int32 × Int32 × Int32 × Int32 × Int32 × Int32 × Int32 × Int32 × Int32 × Int32 × (Nat → Int32) × (Nat → Int32))) :=
  if x3 = (0 : Int32) then
    if th_signMany ≤ (0 : Int32) then
      some (.inr (x1, x2, x3, x4, th_next, th_token, th_place, th_value, th_fault, th_signMany, th_setMany, th_signs, th_sets))
    else
      if (th_signMany - (1 : Int32)) < 0 ∨ n_th_signs ≤ (th_signMany - (1 : Int32)).toNatClampNeg then none else
      if (th_signs (th_signMany - (1 : Int32)).toNatClampNeg) = (33 : Int32) then
        if (th_setMany - (1 : Int32)) < 0 ∨ n_th_sets ≤ (th_setMany - (1 : Int32)).toNatClampNeg then none else
        if (th_setMany - (1 : Int32)) < 0 ∨ n_th_sets ≤ (th_setMany - (1 : Int32)).toNatClampNeg then none else
        (lp (f_X9_formula_L329 n_th_signs n_th_sets th_setMany th_signs x3) K (x2 + (-1), th_signMany - (1 : Int32), upd th_sets (th_setMany - (1 : Int32)).toNatClampNeg ((255 : Int32) &&& ((th_sets (th_setMany - (1 : Int32)).toNatClampNeg) ^^^ (-1 : Int32))))).bind fun z23 => match z23 with
        | (z23_0, z23_1, z23_2) =>
          some (.inr (x1, z23_0, x3, x4, th_next, th_token, th_place, th_value, th_fault, z23_1, th_setMany, th_signs, z23_2))
      else
        some (.inr (x1, x2, x3, x4, th_next, th_token, th_place, th_value, th_fault, th_signMany, th_setMany, th_signs, th_sets))
  else
    some (.inr (x1, x2, x3, x4, th_next, th_token, th_place, th_value, th_fault, th_signMany, th_setMany, th_signs, th_sets))
def f_X9_formula_J326 (K : Nat) (n_th_signs : Nat) (n_th_sets : Nat) (th_next : Int32) (th_token : Int32) (th_place : Int32) (th_value : Int32) (th_fault : Int32) (th_signMany : Int32) (th_setMany : Int32) (th_signs : Nat → Int32) (th_sets : Nat → Int32) (x1 : Int32) (x2 : Int32) (x3 : Int32) : Option ((Int32 × Int32 × Int32 × Int32 × Int32 × Int32 × Int32 × (Nat → Int32) × (Nat → Int32)) ⊕ (Int32 × Int32 × Int32 × Int32 × Int32 × Int32 × Int32 × Int32 × Int32 × Int32 × Int32 × (Nat → Int32) × (Nat → Int32))) :=
  (lp (f_X9_formula_L329 n_th_signs n_th_sets th_setMany th_signs x3) K (x2, th_signMany, th_sets)).bind fun z24 => match z24 with
  | (z24_0, z24_1, z24_2) =>
    some (.inr (x1, z24_0, x3, (0 : Int32), th_next, th_token, th_place, th_value, th_fault, z24_1, th_setMany, th_signs, z24_2))
def f_X9_formula_J176 (K : Nat) (n_th_text : Nat) (n_th_signs : Nat) (n_th_sets : Nat) (th_typed : Int32) (th_next : Int32) (th_value : Int32) (th_fault : Int32) (th_signMany : Int32) (th_setMany : Int32) (th_text : Nat → Int32) (th_signs : Nat → Int32) (th_sets : Nat → Int32) (x1 : Int32) (x2 : Int32) (x4 : Int32) : Option ((Int32 × Int32 × Int32 × Int32 × Int32 × Int32 × Int32 × (Nat → Int32) × (Nat → Int32)) ⊕ (Int32 × Int32 × Int32 × Int32 × Int32 × Int32 × Int32 × Int32 × Int32 × Int32 × Int32 × (Nat → Int32) × (Nat → Int32))) :=
  (lp (f_X9_formula_L182 n_th_signs n_th_sets th_signs th_value) K (th_signMany, th_setMany, th_sets)).bind fun z25 => match z25 with
  | (z25_0, z25_1, z25_2) =>
    if z25_0 < 0 ∨ n_th_signs ≤ z25_0.toNatClampNeg then none else
    (f_X9_advances K n_th_text th_typed th_next th_value th_text).bind fun z27 => match z27 with
    | (z27_0, z27_1, z27_2, z27_3) =>
      (lp (f_X9_formula_L329 n_th_signs n_th_sets z25_1 (upd th_signs z25_0.toNatClampNeg th_value) (1 : Int32)) K (x2, z25_0 + (1 : Int32), z25_2)).bind fun z28 => match z28 with
      | (z28_0, z28_1, z28_2) =>
        some (.inr (x1, z28_0, (1 : Int32), x4, z27_0, z27_1, z27_2, z27_3, th_fault, z28_1, z25_1, upd th_signs z25_0.toNatClampNeg th_value, z28_2))
def f_X9_formula_J151 (K : Nat) (n_th_signs : Nat) (n_th_sets : Nat) (th_next : Int32) (th_token : Int32) (th_place : Int32) (th_value : Int32) (th_fault : Int32) (th_signMany : Int32) (th_setMany : Int32) (th_signs : Nat → Int32) (th_sets : Nat → Int32) (x1 : Int32) (x2 : Int32) (x3 : Int32) (x4 : Int32) : Option ((Int32 × Int32 × Int32 × Int32 × Int32 × Int32 × Int32 × (Nat → Int32) × (Nat → Int32)) ⊕ (Int32 × Int32 × Int32 × Int32 × Int32 × Int32 × Int32 × Int32 × Int32 × Int32 × Int32 × (Nat → Int32) × (Nat → Int32))) :=
  (f_X9_fails th_place th_fault).bind fun z29_0 =>
  (lp (f_X9_formula_L329 n_th_signs n_th_sets th_setMany th_signs x3) K (x2, th_signMany, th_sets)).bind fun z30 => match z30 with
  | (z30_0, z30_1, z30_2) =>
    some (.inr (x1, z30_0, x3, x4, th_next, th_token, th_place, th_value, z29_0, z30_1, th_setMany, th_signs, z30_2))
def f_X9_formula_J112 (K : Nat) (n_th_text : Nat) (n_th_signs : Nat) (n_th_sets : Nat) (th_typed : Int32) (th_next : Int32) (th_token : Int32) (th_place : Int32) (th_value : Int32) (th_fault : Int32) (th_signMany : Int32) (th_setMany : Int32) (th_text : Nat → Int32) (th_signs : Nat → Int32) (th_sets : Nat → Int32) (x1 : Int32) (x2 : Int32) (x3 : Int32) (x4 : Int32) : Option ((Int32 × Int32 × Int32 × Int32 × Int32 × Int32 × Int32 × (Nat → Int32) × (Nat → Int32)) ⊕ (Int32 × Int32 × Int32 × Int32 × Int32 × Int32 × Int32 × Int32 × Int32 × Int32 × Int32 × (Nat → Int32) × (Nat → Int32))) :=
  if (6 : Int32) ≤ x2 then
    f_X9_formula_J151 K n_th_signs n_th_sets th_next th_token th_place th_value th_fault th_signMany th_setMany th_signs th_sets x1 x2 x3 x4
  else
    if th_signMany < 0 ∨ n_th_signs ≤ th_signMany.toNatClampNeg then none else
    (f_X9_advances K n_th_text th_typed th_next th_value th_text).bind fun z33 => match z33 with
    | (z33_0, z33_1, z33_2, z33_3) =>
      (lp (f_X9_formula_L329 n_th_signs n_th_sets th_setMany (upd th_signs th_signMany.toNatClampNeg th_value) x3) K (x2 + 1, th_signMany + (1 : Int32), th_sets)).bind fun z34 => match z34 with
      | (z34_0, z34_1, z34_2) =>
        some (.inr (x1, z34_0, x3, x4, z33_0, z33_1, z33_2, z33_3, th_fault, z34_1, th_setMany, upd th_signs th_signMany.toNatClampNeg th_value, z34_2))
def f_X9_formula_J94 (K : Nat) (n_th_text : Nat) (n_th_signs : Nat) (n_th_sets : Nat) (th_typed : Int32) (th_next : Int32) (th_token : Int32) (th_place : Int32) (th_value : Int32) (th_fault : Int32) (th_signMany : Int32) (th_setMany : Int32) (th_text : Nat → Int32) (th_signs : Nat → Int32) (th_sets : Nat → Int32) (x1 : Int32) (x2 : Int32) (x3 : Int32) (x4 : Int32) : Option ((Int32 × Int32 × Int32 × Int32 × Int32 × Int32 × Int32 × (Nat → Int32) × (Nat → Int32)) ⊕ (Int32 × Int32 × Int32 × Int32 × Int32 × Int32 × Int32 × Int32 × Int32 × Int32 × Int32 × (Nat → Int32) × (Nat → Int32))) :=
  (f_X9_isSign th_token th_value th_fault (33 : Int32)).bind fun z35_0 =>
  if z35_0 = (0 : Int32) then
    (f_X9_isSign th_token th_value th_fault (40 : Int32)).bind fun z37_0 =>
    if z37_0 = (0 : Int32) then
      f_X9_formula_J151 K n_th_signs n_th_sets th_next th_token th_place th_value th_fault th_signMany th_setMany th_signs th_sets x1 x2 x3 x4
    else
      f_X9_formula_J112 K n_th_text n_th_signs n_th_sets th_typed th_next th_token th_place th_value th_fault th_signMany th_setMany th_text th_signs th_sets x1 x2 x3 x4
  else
    f_X9_formula_J112 K n_th_text n_th_signs n_th_sets th_typed th_next th_token th_place th_value th_fault th_signMany th_setMany th_text th_signs th_sets x1 x2 x3 x4
def f_X9_formula_L19 (K : Nat) (n_th_text : Nat) (n_th_signs : Nat) (n_th_sets : Nat) (th_typed : Int32) (th_text : Nat → Int32) (s19 : Int32 × Int32 × Int32 × Int32 × Int32 × Int32 × Int32 × Int32 × Int32 × Int32 × Int32 × (Nat → Int32) × (Nat → Int32)) : Option ((Int32 × Int32 × Int32 × Int32 × Int32 × Int32 × Int32 × (Nat → Int32) × (Nat → Int32)) ⊕ (Int32 × Int32 × Int32 × Int32 × Int32 × Int32 × Int32 × Int32 × Int32 × Int32 × Int32 × (Nat → Int32) × (Nat → Int32))) :=
  match s19 with
  | (x1, x2, x3, x4, th_next, th_token, th_place, th_value, th_fault, th_signMany, th_setMany, th_signs, th_sets) =>
    if x4 = (0 : Int32) then
      some (.inl (th_next, th_token, th_place, th_value, th_fault, th_signMany, th_setMany, th_signs, th_sets))
    else
      (f_X9_isWell th_fault).bind fun z40_0 =>
      if z40_0 = (0 : Int32) then
        some (.inl (th_next, th_token, th_place, th_value, th_fault, th_signMany, th_setMany, th_signs, th_sets))
      else
        if x3 = (0 : Int32) then
          (f_X9_isSign th_token th_value th_fault (38 : Int32)).bind fun z43_0 =>
          if z43_0 = (0 : Int32) then
            (f_X9_isSign th_token th_value th_fault (124 : Int32)).bind fun z45_0 =>
            if z45_0 = (0 : Int32) then
              (f_X9_isSign th_token th_value th_fault (41 : Int32)).bind fun z47_0 =>
              if z47_0 = (0 : Int32) then
                f_X9_formula_J326 K n_th_signs n_th_sets th_next th_token th_place th_value th_fault th_signMany th_setMany th_signs th_sets x1 x2 x3
              else
                (f_X9_bracket K n_th_signs th_signMany th_signs).bind fun z49_0 =>
                if z49_0 = (-9 : Int32) then
                  f_X9_formula_J326 K n_th_signs n_th_sets th_next th_token th_place th_value th_fault th_signMany th_setMany th_signs th_sets x1 x2 x3
                else
                  (lp (f_X9_formula_L283 n_th_signs n_th_sets th_signs) K (th_signMany, th_setMany, th_sets)).bind fun z51 => match z51 with
                  | (z51_0, z51_1, z51_2) =>
                    (f_X9_advances K n_th_text th_typed th_next th_value th_text).bind fun z52 => match z52 with
                    | (z52_0, z52_1, z52_2, z52_3) =>
                      (lp (f_X9_formula_L329 n_th_signs n_th_sets z51_1 th_signs x3) K (x2 + (-1), z51_0 - (1 : Int32), z51_2)).bind fun z53 => match z53 with
                      | (z53_0, z53_1, z53_2) =>
                        some (.inr (x1, z53_0, x3, x4, z52_0, z52_1, z52_2, z52_3, th_fault, z53_1, z51_1, th_signs, z53_2))
            else
              f_X9_formula_J176 K n_th_text n_th_signs n_th_sets th_typed th_next th_value th_fault th_signMany th_setMany th_text th_signs th_sets x1 x2 x4
          else
            f_X9_formula_J176 K n_th_text n_th_signs n_th_sets th_typed th_next th_value th_fault th_signMany th_setMany th_text th_signs th_sets x1 x2 x4
        else
          (f_X9_isWell th_fault).bind fun z54_0 =>
          if z54_0 = (0 : Int32) then
            f_X9_formula_J94 K n_th_text n_th_signs n_th_sets th_typed th_next th_token th_place th_value th_fault th_signMany th_setMany th_text th_signs th_sets x1 x2 x3 x4
          else
            if th_token = (1 : Int32) then
              if (12 : Int32) ≤ x1 then
                f_X9_formula_J94 K n_th_text n_th_signs n_th_sets th_typed th_next th_token th_place th_value th_fault th_signMany th_setMany th_text th_signs th_sets x1 x2 x3 x4
              else
                (f_X9_letter th_value).bind fun z58_0 =>
                if th_setMany < 0 ∨ n_th_sets ≤ th_setMany.toNatClampNeg then none else
                (f_X9_advances K n_th_text th_typed th_next th_value th_text).bind fun z60 => match z60 with
                | (z60_0, z60_1, z60_2, z60_3) =>
                  (lp (f_X9_formula_L329 n_th_signs n_th_sets (th_setMany + (1 : Int32)) th_signs (0 : Int32)) K (x2, th_signMany, upd th_sets th_setMany.toNatClampNeg z58_0)).bind fun z61 => match z61 with
                  | (z61_0, z61_1, z61_2) =>
                    some (.inr (x1 + 1, z61_0, (0 : Int32), x4, z60_0, z60_1, z60_2, z60_3, th_fault, z61_1, th_setMany + (1 : Int32), th_signs, z61_2))
            else
              f_X9_formula_J94 K n_th_text n_th_signs n_th_sets th_typed th_next th_token th_place th_value th_fault th_signMany th_setMany th_text th_signs th_sets x1 x2 x3 x4
def f_X9_formula_L420 (n_th_signs : Nat) (n_th_sets : Nat) (th_fault : Int32) (th_signs : Nat → Int32) (s420 : Int32 × Int32 × (Nat → Int32)) : Option ((Int32 × Int32 × (Nat → Int32)) ⊕ (Int32 × Int32 × (Nat → Int32))) :=
  match s420 with
  | (th_signMany, th_setMany, th_sets) =>
    (f_X9_isWell th_fault).bind fun z62_0 =>
    if z62_0 = (0 : Int32) then
      some (.inl (th_signMany, th_setMany, th_sets))
    else
      if th_signMany ≤ (0 : Int32) then
        some (.inl (th_signMany, th_setMany, th_sets))
      else
        (f_X9_joins n_th_signs n_th_sets th_signMany th_setMany th_signs th_sets).bind fun z65 => match z65 with
        | (z65_0, z65_1, z65_2) =>
          some (.inr (z65_0, z65_1, z65_2))
def f_X9_formula_J420 (K : Nat) (n_th_signs : Nat) (n_th_sets : Nat) (th_next : Int32) (th_token : Int32) (th_place : Int32) (th_value : Int32) (th_fault : Int32) (th_signMany : Int32) (th_setMany : Int32) (th_signs : Nat → Int32) (th_sets : Nat → Int32) : Option (Int32 × Int32 × Int32 × Int32 × Int32 × Int32 × Int32 × Int32 × (Nat → Int32) × (Nat → Int32)) :=
  (f_X9_isWell th_fault).bind fun z66_0 =>
  if z66_0 = (0 : Int32) then
    (f_X9_isWell th_fault).bind fun z68_0 =>
    if z68_0 = (0 : Int32) then
      some ((0 : Int32), th_next, th_token, th_place, th_value, th_fault, th_signMany, th_setMany, th_signs, th_sets)
    else
      if (0 : Int32) < 0 ∨ n_th_sets ≤ (0 : Int32).toNatClampNeg then none else
      some (th_sets (0 : Int32).toNatClampNeg, th_next, th_token, th_place, th_value, th_fault, th_signMany, th_setMany, th_signs, th_sets)
  else
    if th_signMany ≤ (0 : Int32) then
      (f_X9_isWell th_fault).bind fun z72_0 =>
      if z72_0 = (0 : Int32) then
        some ((0 : Int32), th_next, th_token, th_place, th_value, th_fault, th_signMany, th_setMany, th_signs, th_sets)
      else
        if (0 : Int32) < 0 ∨ n_th_sets ≤ (0 : Int32).toNatClampNeg then none else
        some (th_sets (0 : Int32).toNatClampNeg, th_next, th_token, th_place, th_value, th_fault, th_signMany, th_setMany, th_signs, th_sets)
    else
      (f_X9_joins n_th_signs n_th_sets th_signMany th_setMany th_signs th_sets).bind fun z75 => match z75 with
      | (z75_0, z75_1, z75_2) =>
        (lp (f_X9_formula_L420 n_th_signs n_th_sets th_fault th_signs) K (z75_0, z75_1, z75_2)).bind fun z76 => match z76 with
        | (z76_0, z76_1, z76_2) =>
          (f_X9_isWell th_fault).bind fun z77_0 =>
          if z77_0 = (0 : Int32) then
            some ((0 : Int32), th_next, th_token, th_place, th_value, th_fault, z76_0, z76_1, th_signs, z76_2)
          else
            if (0 : Int32) < 0 ∨ n_th_sets ≤ (0 : Int32).toNatClampNeg then none else
            some (z76_2 (0 : Int32).toNatClampNeg, th_next, th_token, th_place, th_value, th_fault, z76_0, z76_1, th_signs, z76_2)
def f_X9_formula (K : Nat) (n_th_text : Nat) (n_th_signs : Nat) (n_th_sets : Nat) (th_typed : Int32) (th_next : Int32) (th_token : Int32) (th_place : Int32) (th_value : Int32) (th_fault : Int32) (th_text : Nat → Int32) (th_signs : Nat → Int32) (th_sets : Nat → Int32) : Option (Int32 × Int32 × Int32 × Int32 × Int32 × Int32 × Int32 × Int32 × (Nat → Int32) × (Nat → Int32)) :=
  (lp (f_X9_formula_L19 K n_th_text n_th_signs n_th_sets th_typed th_text) K ((0 : Int32), (0 : Int32), (1 : Int32), (1 : Int32), th_next, th_token, th_place, th_value, th_fault, (0 : Int32), (0 : Int32), th_signs, th_sets)).bind fun z80 => match z80 with
  | (z80_0, z80_1, z80_2, z80_3, z80_4, z80_5, z80_6, z80_7, z80_8) =>
    (f_X9_isWell z80_4).bind fun z81_0 =>
    if z81_0 = (0 : Int32) then
      (lp (f_X9_formula_L420 n_th_signs n_th_sets z80_4 z80_7) K (z80_5, z80_6, z80_8)).bind fun z83 => match z83 with
      | (z83_0, z83_1, z83_2) =>
        (f_X9_isWell z80_4).bind fun z84_0 =>
        if z84_0 = (0 : Int32) then
          some ((0 : Int32), z80_0, z80_1, z80_2, z80_3, z80_4, z83_0, z83_1, z80_7, z83_2)
        else
          if (0 : Int32) < 0 ∨ n_th_sets ≤ (0 : Int32).toNatClampNeg then none else
          some (z83_2 (0 : Int32).toNatClampNeg, z80_0, z80_1, z80_2, z80_3, z80_4, z83_0, z83_1, z80_7, z83_2)
    else
      (f_X9_bracket K n_th_signs z80_5 z80_7).bind fun z87_0 =>
      if z87_0 = (-9 : Int32) then
        (lp (f_X9_formula_L420 n_th_signs n_th_sets z80_4 z80_7) K (z80_5, z80_6, z80_8)).bind fun z89 => match z89 with
        | (z89_0, z89_1, z89_2) =>
          (f_X9_isWell z80_4).bind fun z90_0 =>
          if z90_0 = (0 : Int32) then
            some ((0 : Int32), z80_0, z80_1, z80_2, z80_3, z80_4, z89_0, z89_1, z80_7, z89_2)
          else
            if (0 : Int32) < 0 ∨ n_th_sets ≤ (0 : Int32).toNatClampNeg then none else
            some (z89_2 (0 : Int32).toNatClampNeg, z80_0, z80_1, z80_2, z80_3, z80_4, z89_0, z89_1, z80_7, z89_2)
      else
        (f_X9_fails z80_2 z80_4).bind fun z93_0 =>
        (lp (f_X9_formula_L420 n_th_signs n_th_sets z93_0 z80_7) K (z80_5, z80_6, z80_8)).bind fun z94 => match z94 with
        | (z94_0, z94_1, z94_2) =>
          (f_X9_isWell z93_0).bind fun z95_0 =>
          if z95_0 = (0 : Int32) then
            some ((0 : Int32), z80_0, z80_1, z80_2, z80_3, z93_0, z94_0, z94_1, z80_7, z94_2)
          else
            if (0 : Int32) < 0 ∨ n_th_sets ≤ (0 : Int32).toNatClampNeg then none else
            some (z94_2 (0 : Int32).toNatClampNeg, z80_0, z80_1, z80_2, z80_3, z93_0, z94_0, z94_1, z80_7, z94_2)
abbrev w_X9_formula (tc : Nat → ClassId) (q_th : Nat) (q_th_text : Nat) (q_th_saying : Nat) (q_th_signs : Nat) (q_th_sets : Nat) (q_th_told : Nat) (q_th_up : Nat) (q_th_down : Nat) (q_th_world : Nat) (q_th_tight : Nat) (q_th_sum : Nat) (q_th_now : Nat) (n_th_text : Nat) (n_th_signs : Nat) (n_th_sets : Nat) (th_thrown : Int32) (th_typed : Int32) (th_next : Int32) (th_token : Int32) (th_place : Int32) (th_value : Int32) (th_fault : Int32) (th_many : Int32) (th_signMany : Int32) (th_setMany : Int32) (th_corners : Int32) (th_isLoaded : Int32) (th_loaded : Int32) (th_widened : Int32) (th_wide : Int32) (th_boundUp : Int64) (th_boundDown : Int64) (th_text : Nat → Int32) (th_signs : Nat → Int32) (th_sets : Nat → Int32) : va_W := [(q_th, .inr (9, [.int th_thrown, .ref q_th_text, .int th_typed, .int th_next, .int th_token, .int th_place, .int th_value, .int th_fault, .int th_many, .ref q_th_saying, .ref q_th_signs, .ref q_th_sets, .int th_signMany, .int th_setMany, .ref q_th_told, .int th_corners, .int th_isLoaded, .int th_loaded, .ref q_th_up, .ref q_th_down, .ref q_th_world, .ref q_th_tight, .ref q_th_sum, .ref q_th_now, .int th_widened, .int th_wide, .long th_boundUp, .long th_boundDown])), (q_th_text, .inl (tc 0, n_th_text, .inl th_text)), (q_th_signs, .inl (tc 0, n_th_signs, .inl th_signs)), (q_th_sets, .inl (tc 0, n_th_sets, .inl th_sets))]
set_option maxHeartbeats 4000000 in
set_option maxRecDepth 100000 in
theorem s_X9_formula {l : Launch} {E : (Nat → Prop) → State → Prop} (hEok : st_Eok E) {D : va_G} {tc : Nat → ClassId} (q_th : Nat) (q_th_text : Nat) (q_th_saying : Nat) (q_th_signs : Nat) (q_th_sets : Nat) (q_th_told : Nat) (q_th_up : Nat) (q_th_down : Nat) (q_th_world : Nat) (q_th_tight : Nat) (q_th_sum : Nat) (q_th_now : Nat) (n_th_text : Nat) (n_th_signs : Nat) (n_th_sets : Nat) (th_thrown : Int32) (th_typed : Int32) (th_next : Int32) (th_token : Int32) (th_place : Int32) (th_value : Int32) (th_fault : Int32) (th_many : Int32) (th_signMany : Int32) (th_setMany : Int32) (th_corners : Int32) (th_isLoaded : Int32) (th_loaded : Int32) (th_widened : Int32) (th_wide : Int32) (th_boundUp : Int64) (th_boundDown : Int64) (th_text : Nat → Int32) (th_signs : Nat → Int32) (th_sets : Nat → Int32) (K : Nat) (r0 : Int32) (th_next' : Int32) (th_token' : Int32) (th_place' : Int32) (th_value' : Int32) (th_fault' : Int32) (th_signMany' : Int32) (th_setMany' : Int32) (th_signs' : Nat → Int32) (th_sets' : Nat → Int32) (h : f_X9_formula K n_th_text n_th_signs n_th_sets th_typed th_next th_token th_place th_value th_fault th_text th_signs th_sets = some (r0, th_next', th_token', th_place', th_value', th_fault', th_signMany', th_setMany', th_signs', th_sets')) : st l yX9_formula wsX9_formula ({ frames := 2, cells := 0, slots := 0, locals := 44 }) E D tc [.ref q_th] (w_X9_formula tc q_th q_th_text q_th_saying q_th_signs q_th_sets q_th_told q_th_up q_th_down q_th_world q_th_tight q_th_sum q_th_now n_th_text n_th_signs n_th_sets th_thrown th_typed th_next th_token th_place th_value th_fault th_many th_signMany th_setMany th_corners th_isLoaded th_loaded th_widened th_wide th_boundUp th_boundDown th_text th_signs th_sets) (some (.int r0)) (w_X9_formula tc q_th q_th_text q_th_saying q_th_signs q_th_sets q_th_told q_th_up q_th_down q_th_world q_th_tight q_th_sum q_th_now n_th_text n_th_signs n_th_sets th_thrown th_typed th_next' th_token' th_place' th_value' th_fault' th_many th_signMany' th_setMany' th_corners th_isLoaded th_loaded th_widened th_wide th_boundUp th_boundDown th_text th_signs' th_sets') := by
  refine st_enter (cc := cX9_formula) (maxL := 6) (ret := (some .int)) (by decide) rfl (Nat.le_of_ble_eq_true rfl) ?_
  intro p e s m below meth c A ls hx hb hr hml hts hown hlocks hK hN hE hA hP hD hS hl
  have hl : lv_has ls 6 [(0, .ref q_th)] := hl
  have hinX9 : ∀ w ∈ wsX90, w ∈ wsX9_formula := by decide +kernel
  generalize hav : ([.ref q_th] : List Value).toArray = av at hts ⊢
  have L19 : ∀ (_ : Unit), ∀ (k : Nat) (s19 : Int32 × Int32 × Int32 × Int32 × Int32 × Int32 × Int32 × Int32 × Int32 × Int32 × Int32 × (Nat → Int32) × (Nat → Int32)) (r : Int32 × Int32 × Int32 × Int32 × Int32 × Int32 × Int32 × (Nat → Int32) × (Nat → Int32)), lp (f_X9_formula_L19 K n_th_text n_th_signs n_th_sets th_typed th_text) k s19 = some r → (fun y19 : Int32 × Int32 × Int32 × Int32 × Int32 × Int32 × Int32 × (Nat → Int32) × (Nat → Int32) => match y19 with | (th_next, th_token, th_place, th_value, th_fault, th_signMany, th_setMany, th_signs, th_sets) => ∀ (H : Heap) (locs : List Loc) (ls : Array Slot), va_P D vwCl (w_X9_formula tc q_th q_th_text q_th_saying q_th_signs q_th_sets q_th_told q_th_up q_th_down q_th_world q_th_tight q_th_sum q_th_now n_th_text n_th_signs n_th_sets th_thrown th_typed th_next th_token th_place th_value th_fault th_many th_signMany th_setMany th_corners th_isLoaded th_loaded th_widened th_wide th_boundUp th_boundDown th_text th_signs th_sets) H → va_D A (w_X9_formula tc q_th q_th_text q_th_saying q_th_signs q_th_sets q_th_told q_th_up q_th_down q_th_world q_th_tight q_th_sum q_th_now n_th_text n_th_signs n_th_sets th_thrown th_typed th_next th_token th_place th_value th_fault th_many th_signMany th_setMany th_corners th_isLoaded th_loaded th_widened th_wide th_boundUp th_boundDown th_text th_signs th_sets) → va_S A s.heap H locs → lv_has ls 6 [(0, .ref q_th)] → W p l e ({ frames := 2, cells := 0, slots := 0, locals := 44 } : Room) s m av below meth c H locs 0 0 (MQ below (st_Q D (w_X9_formula tc q_th q_th_text q_th_saying q_th_signs q_th_sets q_th_told q_th_up q_th_down q_th_world q_th_tight q_th_sum q_th_now n_th_text n_th_signs n_th_sets th_thrown th_typed th_next' th_token' th_place' th_value' th_fault' th_many th_signMany' th_setMany' th_corners th_isLoaded th_loaded th_widened th_wide th_boundUp th_boundDown th_text th_signs' th_sets') (some (.int r0)) A) av s 0 0 A) (F0 m 400 ls [])) r → (fun s19 : Int32 × Int32 × Int32 × Int32 × Int32 × Int32 × Int32 × Int32 × Int32 × Int32 × Int32 × (Nat → Int32) × (Nat → Int32) => match s19 with | (x1, x2, x3, x4, th_next, th_token, th_place, th_value, th_fault, th_signMany, th_setMany, th_signs, th_sets) => ∀ (H : Heap) (locs : List Loc) (ls : Array Slot), va_P D vwCl (w_X9_formula tc q_th q_th_text q_th_saying q_th_signs q_th_sets q_th_told q_th_up q_th_down q_th_world q_th_tight q_th_sum q_th_now n_th_text n_th_signs n_th_sets th_thrown th_typed th_next th_token th_place th_value th_fault th_many th_signMany th_setMany th_corners th_isLoaded th_loaded th_widened th_wide th_boundUp th_boundDown th_text th_signs th_sets) H → va_D A (w_X9_formula tc q_th q_th_text q_th_saying q_th_signs q_th_sets q_th_told q_th_up q_th_down q_th_world q_th_tight q_th_sum q_th_now n_th_text n_th_signs n_th_sets th_thrown th_typed th_next th_token th_place th_value th_fault th_many th_signMany th_setMany th_corners th_isLoaded th_loaded th_widened th_wide th_boundUp th_boundDown th_text th_signs th_sets) → va_S A s.heap H locs → lv_has ls 6 [(0, .ref q_th), (1, .int x1), (2, .int x2), (3, .int x3), (4, .int x4)] → W p l e ({ frames := 2, cells := 0, slots := 0, locals := 44 } : Room) s m av below meth c H locs 0 0 (MQ below (st_Q D (w_X9_formula tc q_th q_th_text q_th_saying q_th_signs q_th_sets q_th_told q_th_up q_th_down q_th_world q_th_tight q_th_sum q_th_now n_th_text n_th_signs n_th_sets th_thrown th_typed th_next' th_token' th_place' th_value' th_fault' th_many th_signMany' th_setMany' th_corners th_isLoaded th_loaded th_widened th_wide th_boundUp th_boundDown th_text th_signs' th_sets') (some (.int r0)) A) av s 0 0 A) (F0 m 19 ls [])) s19 := by
    intro _
    refine lp_W (f_X9_formula_L19 K n_th_text n_th_signs n_th_sets th_typed th_text) (fun s19 : Int32 × Int32 × Int32 × Int32 × Int32 × Int32 × Int32 × Int32 × Int32 × Int32 × Int32 × (Nat → Int32) × (Nat → Int32) => match s19 with | (x1, x2, x3, x4, th_next, th_token, th_place, th_value, th_fault, th_signMany, th_setMany, th_signs, th_sets) => ∀ (H : Heap) (locs : List Loc) (ls : Array Slot), va_P D vwCl (w_X9_formula tc q_th q_th_text q_th_saying q_th_signs q_th_sets q_th_told q_th_up q_th_down q_th_world q_th_tight q_th_sum q_th_now n_th_text n_th_signs n_th_sets th_thrown th_typed th_next th_token th_place th_value th_fault th_many th_signMany th_setMany th_corners th_isLoaded th_loaded th_widened th_wide th_boundUp th_boundDown th_text th_signs th_sets) H → va_D A (w_X9_formula tc q_th q_th_text q_th_saying q_th_signs q_th_sets q_th_told q_th_up q_th_down q_th_world q_th_tight q_th_sum q_th_now n_th_text n_th_signs n_th_sets th_thrown th_typed th_next th_token th_place th_value th_fault th_many th_signMany th_setMany th_corners th_isLoaded th_loaded th_widened th_wide th_boundUp th_boundDown th_text th_signs th_sets) → va_S A s.heap H locs → lv_has ls 6 [(0, .ref q_th), (1, .int x1), (2, .int x2), (3, .int x3), (4, .int x4)] → W p l e ({ frames := 2, cells := 0, slots := 0, locals := 44 } : Room) s m av below meth c H locs 0 0 (MQ below (st_Q D (w_X9_formula tc q_th q_th_text q_th_saying q_th_signs q_th_sets q_th_told q_th_up q_th_down q_th_world q_th_tight q_th_sum q_th_now n_th_text n_th_signs n_th_sets th_thrown th_typed th_next' th_token' th_place' th_value' th_fault' th_many th_signMany' th_setMany' th_corners th_isLoaded th_loaded th_widened th_wide th_boundUp th_boundDown th_text th_signs' th_sets') (some (.int r0)) A) av s 0 0 A) (F0 m 19 ls [])) (fun y19 : Int32 × Int32 × Int32 × Int32 × Int32 × Int32 × Int32 × (Nat → Int32) × (Nat → Int32) => match y19 with | (th_next, th_token, th_place, th_value, th_fault, th_signMany, th_setMany, th_signs, th_sets) => ∀ (H : Heap) (locs : List Loc) (ls : Array Slot), va_P D vwCl (w_X9_formula tc q_th q_th_text q_th_saying q_th_signs q_th_sets q_th_told q_th_up q_th_down q_th_world q_th_tight q_th_sum q_th_now n_th_text n_th_signs n_th_sets th_thrown th_typed th_next th_token th_place th_value th_fault th_many th_signMany th_setMany th_corners th_isLoaded th_loaded th_widened th_wide th_boundUp th_boundDown th_text th_signs th_sets) H → va_D A (w_X9_formula tc q_th q_th_text q_th_saying q_th_signs q_th_sets q_th_told q_th_up q_th_down q_th_world q_th_tight q_th_sum q_th_now n_th_text n_th_signs n_th_sets th_thrown th_typed th_next th_token th_place th_value th_fault th_many th_signMany th_setMany th_corners th_isLoaded th_loaded th_widened th_wide th_boundUp th_boundDown th_text th_signs th_sets) → va_S A s.heap H locs → lv_has ls 6 [(0, .ref q_th)] → W p l e ({ frames := 2, cells := 0, slots := 0, locals := 44 } : Room) s m av below meth c H locs 0 0 (MQ below (st_Q D (w_X9_formula tc q_th q_th_text q_th_saying q_th_signs q_th_sets q_th_told q_th_up q_th_down q_th_world q_th_tight q_th_sum q_th_now n_th_text n_th_signs n_th_sets th_thrown th_typed th_next' th_token' th_place' th_value' th_fault' th_many th_signMany' th_setMany' th_corners th_isLoaded th_loaded th_widened th_wide th_boundUp th_boundDown th_text th_signs' th_sets') (some (.int r0)) A) av s 0 0 A) (F0 m 400 ls [])) ?_
    rintro ⟨x1, x2, x3, x4, th_next, th_token, th_place, th_value, th_fault, th_signMany, th_setMany, th_signs, th_sets⟩ o h ih hz H locs ls hP hD hS hl
    have L182 : ∀ (x1 : Int32) (x2 : Int32) (x4 : Int32) (x5 : Int32) (th_next : Int32) (th_token : Int32) (th_place : Int32) (th_value : Int32) (th_fault : Int32) (th_signs : Nat → Int32), ∀ (k : Nat) (s182 : Int32 × Int32 × (Nat → Int32)) (r : Int32 × Int32 × (Nat → Int32)), lp (f_X9_formula_L182 n_th_signs n_th_sets th_signs x5) k s182 = some r → (fun y182 : Int32 × Int32 × (Nat → Int32) => match y182 with | (th_signMany, th_setMany, th_sets) => ∀ (H : Heap) (locs : List Loc) (ls : Array Slot), va_P D vwCl (w_X9_formula tc q_th q_th_text q_th_saying q_th_signs q_th_sets q_th_told q_th_up q_th_down q_th_world q_th_tight q_th_sum q_th_now n_th_text n_th_signs n_th_sets th_thrown th_typed th_next th_token th_place th_value th_fault th_many th_signMany th_setMany th_corners th_isLoaded th_loaded th_widened th_wide th_boundUp th_boundDown th_text th_signs th_sets) H → va_D A (w_X9_formula tc q_th q_th_text q_th_saying q_th_signs q_th_sets q_th_told q_th_up q_th_down q_th_world q_th_tight q_th_sum q_th_now n_th_text n_th_signs n_th_sets th_thrown th_typed th_next th_token th_place th_value th_fault th_many th_signMany th_setMany th_corners th_isLoaded th_loaded th_widened th_wide th_boundUp th_boundDown th_text th_signs th_sets) → va_S A s.heap H locs → lv_has ls 6 [(0, .ref q_th), (1, .int x1), (2, .int x2), (4, .int x4), (5, .int x5)] → W p l e ({ frames := 2, cells := 0, slots := 0, locals := 44 } : Room) s m av below meth c H locs 0 0 (MQ below (st_Q D (w_X9_formula tc q_th q_th_text q_th_saying q_th_signs q_th_sets q_th_told q_th_up q_th_down q_th_world q_th_tight q_th_sum q_th_now n_th_text n_th_signs n_th_sets th_thrown th_typed th_next' th_token' th_place' th_value' th_fault' th_many th_signMany' th_setMany' th_corners th_isLoaded th_loaded th_widened th_wide th_boundUp th_boundDown th_text th_signs' th_sets') (some (.int r0)) A) av s 0 0 A) (F0 m 235 ls [])) r → (fun s182 : Int32 × Int32 × (Nat → Int32) => match s182 with | (th_signMany, th_setMany, th_sets) => ∀ (H : Heap) (locs : List Loc) (ls : Array Slot), va_P D vwCl (w_X9_formula tc q_th q_th_text q_th_saying q_th_signs q_th_sets q_th_told q_th_up q_th_down q_th_world q_th_tight q_th_sum q_th_now n_th_text n_th_signs n_th_sets th_thrown th_typed th_next th_token th_place th_value th_fault th_many th_signMany th_setMany th_corners th_isLoaded th_loaded th_widened th_wide th_boundUp th_boundDown th_text th_signs th_sets) H → va_D A (w_X9_formula tc q_th q_th_text q_th_saying q_th_signs q_th_sets q_th_told q_th_up q_th_down q_th_world q_th_tight q_th_sum q_th_now n_th_text n_th_signs n_th_sets th_thrown th_typed th_next th_token th_place th_value th_fault th_many th_signMany th_setMany th_corners th_isLoaded th_loaded th_widened th_wide th_boundUp th_boundDown th_text th_signs th_sets) → va_S A s.heap H locs → lv_has ls 6 [(0, .ref q_th), (1, .int x1), (2, .int x2), (4, .int x4), (5, .int x5)] → W p l e ({ frames := 2, cells := 0, slots := 0, locals := 44 } : Room) s m av below meth c H locs 0 0 (MQ below (st_Q D (w_X9_formula tc q_th q_th_text q_th_saying q_th_signs q_th_sets q_th_told q_th_up q_th_down q_th_world q_th_tight q_th_sum q_th_now n_th_text n_th_signs n_th_sets th_thrown th_typed th_next' th_token' th_place' th_value' th_fault' th_many th_signMany' th_setMany' th_corners th_isLoaded th_loaded th_widened th_wide th_boundUp th_boundDown th_text th_signs' th_sets') (some (.int r0)) A) av s 0 0 A) (F0 m 182 ls [])) s182 := by
      intro x1 x2 x4 x5 th_next th_token th_place th_value th_fault th_signs
      refine lp_W (f_X9_formula_L182 n_th_signs n_th_sets th_signs x5) (fun s182 : Int32 × Int32 × (Nat → Int32) => match s182 with | (th_signMany, th_setMany, th_sets) => ∀ (H : Heap) (locs : List Loc) (ls : Array Slot), va_P D vwCl (w_X9_formula tc q_th q_th_text q_th_saying q_th_signs q_th_sets q_th_told q_th_up q_th_down q_th_world q_th_tight q_th_sum q_th_now n_th_text n_th_signs n_th_sets th_thrown th_typed th_next th_token th_place th_value th_fault th_many th_signMany th_setMany th_corners th_isLoaded th_loaded th_widened th_wide th_boundUp th_boundDown th_text th_signs th_sets) H → va_D A (w_X9_formula tc q_th q_th_text q_th_saying q_th_signs q_th_sets q_th_told q_th_up q_th_down q_th_world q_th_tight q_th_sum q_th_now n_th_text n_th_signs n_th_sets th_thrown th_typed th_next th_token th_place th_value th_fault th_many th_signMany th_setMany th_corners th_isLoaded th_loaded th_widened th_wide th_boundUp th_boundDown th_text th_signs th_sets) → va_S A s.heap H locs → lv_has ls 6 [(0, .ref q_th), (1, .int x1), (2, .int x2), (4, .int x4), (5, .int x5)] → W p l e ({ frames := 2, cells := 0, slots := 0, locals := 44 } : Room) s m av below meth c H locs 0 0 (MQ below (st_Q D (w_X9_formula tc q_th q_th_text q_th_saying q_th_signs q_th_sets q_th_told q_th_up q_th_down q_th_world q_th_tight q_th_sum q_th_now n_th_text n_th_signs n_th_sets th_thrown th_typed th_next' th_token' th_place' th_value' th_fault' th_many th_signMany' th_setMany' th_corners th_isLoaded th_loaded th_widened th_wide th_boundUp th_boundDown th_text th_signs' th_sets') (some (.int r0)) A) av s 0 0 A) (F0 m 182 ls [])) (fun y182 : Int32 × Int32 × (Nat → Int32) => match y182 with | (th_signMany, th_setMany, th_sets) => ∀ (H : Heap) (locs : List Loc) (ls : Array Slot), va_P D vwCl (w_X9_formula tc q_th q_th_text q_th_saying q_th_signs q_th_sets q_th_told q_th_up q_th_down q_th_world q_th_tight q_th_sum q_th_now n_th_text n_th_signs n_th_sets th_thrown th_typed th_next th_token th_place th_value th_fault th_many th_signMany th_setMany th_corners th_isLoaded th_loaded th_widened th_wide th_boundUp th_boundDown th_text th_signs th_sets) H → va_D A (w_X9_formula tc q_th q_th_text q_th_saying q_th_signs q_th_sets q_th_told q_th_up q_th_down q_th_world q_th_tight q_th_sum q_th_now n_th_text n_th_signs n_th_sets th_thrown th_typed th_next th_token th_place th_value th_fault th_many th_signMany th_setMany th_corners th_isLoaded th_loaded th_widened th_wide th_boundUp th_boundDown th_text th_signs th_sets) → va_S A s.heap H locs → lv_has ls 6 [(0, .ref q_th), (1, .int x1), (2, .int x2), (4, .int x4), (5, .int x5)] → W p l e ({ frames := 2, cells := 0, slots := 0, locals := 44 } : Room) s m av below meth c H locs 0 0 (MQ below (st_Q D (w_X9_formula tc q_th q_th_text q_th_saying q_th_signs q_th_sets q_th_told q_th_up q_th_down q_th_world q_th_tight q_th_sum q_th_now n_th_text n_th_signs n_th_sets th_thrown th_typed th_next' th_token' th_place' th_value' th_fault' th_many th_signMany' th_setMany' th_corners th_isLoaded th_loaded th_widened th_wide th_boundUp th_boundDown th_text th_signs' th_sets') (some (.int r0)) A) av s 0 0 A) (F0 m 235 ls [])) ?_
      rintro ⟨th_signMany, th_setMany, th_sets⟩ o h ih hz H locs ls hP hD hS hl
      have J228 : ∀ (th_signMany : Int32) (th_setMany : Int32) (th_sets : Nat → Int32) (H : Heap) (locs : List Loc) (ls : Array Slot), f_X9_formula_J228 n_th_signs n_th_sets th_signMany th_setMany th_signs th_sets = some o → va_P D vwCl (w_X9_formula tc q_th q_th_text q_th_saying q_th_signs q_th_sets q_th_told q_th_up q_th_down q_th_world q_th_tight q_th_sum q_th_now n_th_text n_th_signs n_th_sets th_thrown th_typed th_next th_token th_place th_value th_fault th_many th_signMany th_setMany th_corners th_isLoaded th_loaded th_widened th_wide th_boundUp th_boundDown th_text th_signs th_sets) H → va_D A (w_X9_formula tc q_th q_th_text q_th_saying q_th_signs q_th_sets q_th_told q_th_up q_th_down q_th_world q_th_tight q_th_sum q_th_now n_th_text n_th_signs n_th_sets th_thrown th_typed th_next th_token th_place th_value th_fault th_many th_signMany th_setMany th_corners th_isLoaded th_loaded th_widened th_wide th_boundUp th_boundDown th_text th_signs th_sets) → va_S A s.heap H locs → lv_has ls 6 [(0, .ref q_th), (1, .int x1), (2, .int x2), (4, .int x4), (5, .int x5)] → W p l e ({ frames := 2, cells := 0, slots := 0, locals := 44 } : Room) s m av below meth c H locs 0 0 (MQ below (st_Q D (w_X9_formula tc q_th q_th_text q_th_saying q_th_signs q_th_sets q_th_told q_th_up q_th_down q_th_world q_th_tight q_th_sum q_th_now n_th_text n_th_signs n_th_sets th_thrown th_typed th_next' th_token' th_place' th_value' th_fault' th_many th_signMany' th_setMany' th_corners th_isLoaded th_loaded th_widened th_wide th_boundUp th_boundDown th_text th_signs' th_sets') (some (.int r0)) A) av s 0 0 A) (F0 m 228 ls []) := by
        intro th_signMany th_setMany th_sets H locs ls h hP hD hS hl
        unfold f_X9_formula_J228 at h
        refine lv_aload_n hx hb dX9_formula_228 rfl (lv_at hl 0 rfl) ?_
        obtain ⟨⟨z1_0, z1_1, z1_2⟩, hc1, h⟩ := bd_ok h
        refine st_callV (As := []) (rest := []) (pos := [0, 2, 3]) ⟨hx, hb, hml, hown, hts⟩ (s_X9_joins (l := l) (D := D) (tc := tc) hEok q_th q_th_text q_th_saying q_th_signs q_th_sets q_th_told q_th_up q_th_down q_th_world q_th_tight q_th_sum q_th_now n_th_signs n_th_sets th_thrown th_typed th_next th_token th_place th_value th_fault th_many th_signMany th_setMany th_corners th_isLoaded th_loaded th_widened th_wide th_boundUp th_boundDown th_signs th_sets z1_0 z1_1 z1_2 hc1) (cwV 0 hts gX9_formula_X9_joins rfl rfl rfl (by decide +kernel) ⟨Nat.le_of_ble_eq_true rfl, Nat.le_of_ble_eq_true rfl⟩) (st_recv (ci := 9) (q0 := 0) hK hP rfl rfl) hEok hE hK hN hP hD hS hA rfl rfl rfl rfl hl.1 rfl (Nat.le_of_ble_eq_true rfl) dX9_formula_229 ⟨Nat.zero_le _, Nat.zero_le _⟩ (fun H locs hP hD hS => ?_)
        have hP : va_P D vwCl (w_X9_formula tc q_th q_th_text q_th_saying q_th_signs q_th_sets q_th_told q_th_up q_th_down q_th_world q_th_tight q_th_sum q_th_now n_th_text n_th_signs n_th_sets th_thrown th_typed th_next th_token th_place th_value th_fault th_many z1_0 z1_1 th_corners th_isLoaded th_loaded th_widened th_wide th_boundUp th_boundDown th_text th_signs z1_2) H := hP
        have hD : va_D A (w_X9_formula tc q_th q_th_text q_th_saying q_th_signs q_th_sets q_th_told q_th_up q_th_down q_th_world q_th_tight q_th_sum q_th_now n_th_text n_th_signs n_th_sets th_thrown th_typed th_next th_token th_place th_value th_fault th_many z1_0 z1_1 th_corners th_isLoaded th_loaded th_widened th_wide th_boundUp th_boundDown th_text th_signs z1_2) := hD
        refine lv_goto (tgt := 182) hx hb dX9_formula_232 (by decide) ?_
        cases h
        exact ih _ rfl _ _ _ hP hD hS (lv_sub hl [0, 1, 2, 3, 4] rfl)
      unfold f_X9_formula_L182 at h
      refine lv_aload_n hx hb dX9_formula_182 rfl (lv_at hl 0 rfl) ?_
      refine va_get (D := D) (ci := 9) (v := .int th_signMany) (C := RX9) (T := TX9) (N := 28) hx hb hts hinX9 hown hK hP 0 rfl rfl 12 (by decide) (hts (.fieldLink RX9 84 "ChanceBoundsModel" "signMany" "I") (by decide +kernel)) (fun _ h9 => h9) rfl dX9_formula_183 ?_
      refine lv_if_le (tgt := 235) hx hb dX9_formula_186 (by decide) (fun c2 => ?_) (fun c2 => ?_)
      · replace h := ifp c2 h
        cases h
        exact hz _ rfl _ _ _ hP hD hS (lv_sub hl [0, 1, 2, 3, 4] rfl)
      · replace h := ifn c2 h
        refine lv_aload_n hx hb dX9_formula_189 rfl (lv_at hl 0 rfl) ?_
        refine va_get (D := D) (ci := 9) (v := .ref q_th_signs) (C := RX9) (T := TX9) (N := 28) hx hb hts hinX9 hown hK hP 0 rfl rfl 10 (by decide) (hts (.fieldLink RX9 16 "ChanceBoundsModel" "signs" "[I") (by decide +kernel)) (fun _ h9 => h9) rfl dX9_formula_190 ?_
        refine lv_aload_n hx hb dX9_formula_193 rfl (lv_at hl 0 rfl) ?_
        refine va_get (D := D) (ci := 9) (v := .int th_signMany) (C := RX9) (T := TX9) (N := 28) hx hb hts hinX9 hown hK hP 0 rfl rfl 12 (by decide) (hts (.fieldLink RX9 84 "ChanceBoundsModel" "signMany" "I") (by decide +kernel)) (fun _ h9 => h9) rfl dX9_formula_194 ?_
        refine lv_iconst (v := (1 : Int32)) hx hb dX9_formula_197 (by decide) ?_
        refine lv_isub hx hb dX9_formula_198 ?_
        obtain ⟨g3, h⟩ := gd_ok h
        refine va_iald hx hb hK hP 2 0 rfl rfl g3 dX9_formula_199 ?_
        refine lv_bipush (v := (38 : Int32)) hx hb dX9_formula_200 (by decide) ?_
        refine lv_icmp_eq (tgt := 228) hx hb dX9_formula_202 (by decide) (fun c4 => ?_) (fun c4 => ?_)
        · replace h := ifp c4 h
          exact J228 th_signMany th_setMany th_sets _ _ _ h hP hD hS (lv_sub hl [0, 1, 2, 3, 4] rfl)
        · replace h := ifn c4 h
          refine lv_aload_n hx hb dX9_formula_205 rfl (lv_at hl 0 rfl) ?_
          refine va_get (D := D) (ci := 9) (v := .ref q_th_signs) (C := RX9) (T := TX9) (N := 28) hx hb hts hinX9 hown hK hP 0 rfl rfl 10 (by decide) (hts (.fieldLink RX9 16 "ChanceBoundsModel" "signs" "[I") (by decide +kernel)) (fun _ h9 => h9) rfl dX9_formula_206 ?_
          refine lv_aload_n hx hb dX9_formula_209 rfl (lv_at hl 0 rfl) ?_
          refine va_get (D := D) (ci := 9) (v := .int th_signMany) (C := RX9) (T := TX9) (N := 28) hx hb hts hinX9 hown hK hP 0 rfl rfl 12 (by decide) (hts (.fieldLink RX9 84 "ChanceBoundsModel" "signMany" "I") (by decide +kernel)) (fun _ h9 => h9) rfl dX9_formula_210 ?_
          refine lv_iconst (v := (1 : Int32)) hx hb dX9_formula_213 (by decide) ?_
          refine lv_isub hx hb dX9_formula_214 ?_
          obtain ⟨g5, h⟩ := gd_ok h
          refine va_iald hx hb hK hP 2 0 rfl rfl g5 dX9_formula_215 ?_
          refine lv_bipush (v := (124 : Int32)) hx hb dX9_formula_216 (by decide) ?_
          refine lv_icmp_ne (tgt := 235) hx hb dX9_formula_218 (by decide) (fun c6 => ?_) (fun c6 => ?_)
          · replace h := ifn c6 h
            cases h
            exact hz _ rfl _ _ _ hP hD hS (lv_sub hl [0, 1, 2, 3, 4] rfl)
          · replace h := ifp c6 h
            refine lv_iload hx hb dX9_formula_221 (lv_at hl 4 rfl) ?_
            refine lv_bipush (v := (124 : Int32)) hx hb dX9_formula_223 (by decide) ?_
            refine lv_icmp_ne (tgt := 235) hx hb dX9_formula_225 (by decide) (fun c7 => ?_) (fun c7 => ?_)
            · replace h := ifn c7 h
              cases h
              exact hz _ rfl _ _ _ hP hD hS (lv_sub hl [0, 1, 2, 3, 4] rfl)
            · replace h := ifp c7 h
              exact J228 th_signMany th_setMany th_sets _ _ _ h hP hD hS (lv_sub hl [0, 1, 2, 3, 4] rfl)
    have L283 : ∀ (x1 : Int32) (x2 : Int32) (x3 : Int32) (x4 : Int32) (th_next : Int32) (th_token : Int32) (th_place : Int32) (th_value : Int32) (th_fault : Int32) (th_signs : Nat → Int32), ∀ (k : Nat) (s283 : Int32 × Int32 × (Nat → Int32)) (r : Int32 × Int32 × (Nat → Int32)), lp (f_X9_formula_L283 n_th_signs n_th_sets th_signs) k s283 = some r → (fun y283 : Int32 × Int32 × (Nat → Int32) => match y283 with | (th_signMany, th_setMany, th_sets) => ∀ (H : Heap) (locs : List Loc) (ls : Array Slot), va_P D vwCl (w_X9_formula tc q_th q_th_text q_th_saying q_th_signs q_th_sets q_th_told q_th_up q_th_down q_th_world q_th_tight q_th_sum q_th_now n_th_text n_th_signs n_th_sets th_thrown th_typed th_next th_token th_place th_value th_fault th_many th_signMany th_setMany th_corners th_isLoaded th_loaded th_widened th_wide th_boundUp th_boundDown th_text th_signs th_sets) H → va_D A (w_X9_formula tc q_th q_th_text q_th_saying q_th_signs q_th_sets q_th_told q_th_up q_th_down q_th_world q_th_tight q_th_sum q_th_now n_th_text n_th_signs n_th_sets th_thrown th_typed th_next th_token th_place th_value th_fault th_many th_signMany th_setMany th_corners th_isLoaded th_loaded th_widened th_wide th_boundUp th_boundDown th_text th_signs th_sets) → va_S A s.heap H locs → lv_has ls 6 [(0, .ref q_th), (1, .int x1), (2, .int x2), (3, .int x3), (4, .int x4)] → W p l e ({ frames := 2, cells := 0, slots := 0, locals := 44 } : Room) s m av below meth c H locs 0 0 (MQ below (st_Q D (w_X9_formula tc q_th q_th_text q_th_saying q_th_signs q_th_sets q_th_told q_th_up q_th_down q_th_world q_th_tight q_th_sum q_th_now n_th_text n_th_signs n_th_sets th_thrown th_typed th_next' th_token' th_place' th_value' th_fault' th_many th_signMany' th_setMany' th_corners th_isLoaded th_loaded th_widened th_wide th_boundUp th_boundDown th_text th_signs' th_sets') (some (.int r0)) A) av s 0 0 A) (F0 m 306 ls [])) r → (fun s283 : Int32 × Int32 × (Nat → Int32) => match s283 with | (th_signMany, th_setMany, th_sets) => ∀ (H : Heap) (locs : List Loc) (ls : Array Slot), va_P D vwCl (w_X9_formula tc q_th q_th_text q_th_saying q_th_signs q_th_sets q_th_told q_th_up q_th_down q_th_world q_th_tight q_th_sum q_th_now n_th_text n_th_signs n_th_sets th_thrown th_typed th_next th_token th_place th_value th_fault th_many th_signMany th_setMany th_corners th_isLoaded th_loaded th_widened th_wide th_boundUp th_boundDown th_text th_signs th_sets) H → va_D A (w_X9_formula tc q_th q_th_text q_th_saying q_th_signs q_th_sets q_th_told q_th_up q_th_down q_th_world q_th_tight q_th_sum q_th_now n_th_text n_th_signs n_th_sets th_thrown th_typed th_next th_token th_place th_value th_fault th_many th_signMany th_setMany th_corners th_isLoaded th_loaded th_widened th_wide th_boundUp th_boundDown th_text th_signs th_sets) → va_S A s.heap H locs → lv_has ls 6 [(0, .ref q_th), (1, .int x1), (2, .int x2), (3, .int x3), (4, .int x4)] → W p l e ({ frames := 2, cells := 0, slots := 0, locals := 44 } : Room) s m av below meth c H locs 0 0 (MQ below (st_Q D (w_X9_formula tc q_th q_th_text q_th_saying q_th_signs q_th_sets q_th_told q_th_up q_th_down q_th_world q_th_tight q_th_sum q_th_now n_th_text n_th_signs n_th_sets th_thrown th_typed th_next' th_token' th_place' th_value' th_fault' th_many th_signMany' th_setMany' th_corners th_isLoaded th_loaded th_widened th_wide th_boundUp th_boundDown th_text th_signs' th_sets') (some (.int r0)) A) av s 0 0 A) (F0 m 283 ls [])) s283 := by
      intro x1 x2 x3 x4 th_next th_token th_place th_value th_fault th_signs
      refine lp_W (f_X9_formula_L283 n_th_signs n_th_sets th_signs) (fun s283 : Int32 × Int32 × (Nat → Int32) => match s283 with | (th_signMany, th_setMany, th_sets) => ∀ (H : Heap) (locs : List Loc) (ls : Array Slot), va_P D vwCl (w_X9_formula tc q_th q_th_text q_th_saying q_th_signs q_th_sets q_th_told q_th_up q_th_down q_th_world q_th_tight q_th_sum q_th_now n_th_text n_th_signs n_th_sets th_thrown th_typed th_next th_token th_place th_value th_fault th_many th_signMany th_setMany th_corners th_isLoaded th_loaded th_widened th_wide th_boundUp th_boundDown th_text th_signs th_sets) H → va_D A (w_X9_formula tc q_th q_th_text q_th_saying q_th_signs q_th_sets q_th_told q_th_up q_th_down q_th_world q_th_tight q_th_sum q_th_now n_th_text n_th_signs n_th_sets th_thrown th_typed th_next th_token th_place th_value th_fault th_many th_signMany th_setMany th_corners th_isLoaded th_loaded th_widened th_wide th_boundUp th_boundDown th_text th_signs th_sets) → va_S A s.heap H locs → lv_has ls 6 [(0, .ref q_th), (1, .int x1), (2, .int x2), (3, .int x3), (4, .int x4)] → W p l e ({ frames := 2, cells := 0, slots := 0, locals := 44 } : Room) s m av below meth c H locs 0 0 (MQ below (st_Q D (w_X9_formula tc q_th q_th_text q_th_saying q_th_signs q_th_sets q_th_told q_th_up q_th_down q_th_world q_th_tight q_th_sum q_th_now n_th_text n_th_signs n_th_sets th_thrown th_typed th_next' th_token' th_place' th_value' th_fault' th_many th_signMany' th_setMany' th_corners th_isLoaded th_loaded th_widened th_wide th_boundUp th_boundDown th_text th_signs' th_sets') (some (.int r0)) A) av s 0 0 A) (F0 m 283 ls [])) (fun y283 : Int32 × Int32 × (Nat → Int32) => match y283 with | (th_signMany, th_setMany, th_sets) => ∀ (H : Heap) (locs : List Loc) (ls : Array Slot), va_P D vwCl (w_X9_formula tc q_th q_th_text q_th_saying q_th_signs q_th_sets q_th_told q_th_up q_th_down q_th_world q_th_tight q_th_sum q_th_now n_th_text n_th_signs n_th_sets th_thrown th_typed th_next th_token th_place th_value th_fault th_many th_signMany th_setMany th_corners th_isLoaded th_loaded th_widened th_wide th_boundUp th_boundDown th_text th_signs th_sets) H → va_D A (w_X9_formula tc q_th q_th_text q_th_saying q_th_signs q_th_sets q_th_told q_th_up q_th_down q_th_world q_th_tight q_th_sum q_th_now n_th_text n_th_signs n_th_sets th_thrown th_typed th_next th_token th_place th_value th_fault th_many th_signMany th_setMany th_corners th_isLoaded th_loaded th_widened th_wide th_boundUp th_boundDown th_text th_signs th_sets) → va_S A s.heap H locs → lv_has ls 6 [(0, .ref q_th), (1, .int x1), (2, .int x2), (3, .int x3), (4, .int x4)] → W p l e ({ frames := 2, cells := 0, slots := 0, locals := 44 } : Room) s m av below meth c H locs 0 0 (MQ below (st_Q D (w_X9_formula tc q_th q_th_text q_th_saying q_th_signs q_th_sets q_th_told q_th_up q_th_down q_th_world q_th_tight q_th_sum q_th_now n_th_text n_th_signs n_th_sets th_thrown th_typed th_next' th_token' th_place' th_value' th_fault' th_many th_signMany' th_setMany' th_corners th_isLoaded th_loaded th_widened th_wide th_boundUp th_boundDown th_text th_signs' th_sets') (some (.int r0)) A) av s 0 0 A) (F0 m 306 ls [])) ?_
      rintro ⟨th_signMany, th_setMany, th_sets⟩ o h ih hz H locs ls hP hD hS hl
      unfold f_X9_formula_L283 at h
      refine lv_aload_n hx hb dX9_formula_283 rfl (lv_at hl 0 rfl) ?_
      refine va_get (D := D) (ci := 9) (v := .ref q_th_signs) (C := RX9) (T := TX9) (N := 28) hx hb hts hinX9 hown hK hP 0 rfl rfl 10 (by decide) (hts (.fieldLink RX9 16 "ChanceBoundsModel" "signs" "[I") (by decide +kernel)) (fun _ h9 => h9) rfl dX9_formula_284 ?_
      refine lv_aload_n hx hb dX9_formula_287 rfl (lv_at hl 0 rfl) ?_
      refine va_get (D := D) (ci := 9) (v := .int th_signMany) (C := RX9) (T := TX9) (N := 28) hx hb hts hinX9 hown hK hP 0 rfl rfl 12 (by decide) (hts (.fieldLink RX9 84 "ChanceBoundsModel" "signMany" "I") (by decide +kernel)) (fun _ h9 => h9) rfl dX9_formula_288 ?_
      refine lv_iconst (v := (1 : Int32)) hx hb dX9_formula_291 (by decide) ?_
      refine lv_isub hx hb dX9_formula_292 ?_
      obtain ⟨g8, h⟩ := gd_ok h
      refine va_iald hx hb hK hP 2 0 rfl rfl g8 dX9_formula_293 ?_
      refine lv_bipush (v := (40 : Int32)) hx hb dX9_formula_294 (by decide) ?_
      refine lv_icmp_eq (tgt := 306) hx hb dX9_formula_296 (by decide) (fun c9 => ?_) (fun c9 => ?_)
      · replace h := ifp c9 h
        cases h
        exact hz _ rfl _ _ _ hP hD hS (lv_sub hl [0, 1, 2, 3, 4] rfl)
      · replace h := ifn c9 h
        refine lv_aload_n hx hb dX9_formula_299 rfl (lv_at hl 0 rfl) ?_
        obtain ⟨⟨z10_0, z10_1, z10_2⟩, hc10, h⟩ := bd_ok h
        refine st_callV (As := []) (rest := []) (pos := [0, 2, 3]) ⟨hx, hb, hml, hown, hts⟩ (s_X9_joins (l := l) (D := D) (tc := tc) hEok q_th q_th_text q_th_saying q_th_signs q_th_sets q_th_told q_th_up q_th_down q_th_world q_th_tight q_th_sum q_th_now n_th_signs n_th_sets th_thrown th_typed th_next th_token th_place th_value th_fault th_many th_signMany th_setMany th_corners th_isLoaded th_loaded th_widened th_wide th_boundUp th_boundDown th_signs th_sets z10_0 z10_1 z10_2 hc10) (cwV 0 hts gX9_formula_X9_joins rfl rfl rfl (by decide +kernel) ⟨Nat.le_of_ble_eq_true rfl, Nat.le_of_ble_eq_true rfl⟩) (st_recv (ci := 9) (q0 := 0) hK hP rfl rfl) hEok hE hK hN hP hD hS hA rfl rfl rfl rfl hl.1 rfl (Nat.le_of_ble_eq_true rfl) dX9_formula_300 ⟨Nat.zero_le _, Nat.zero_le _⟩ (fun H locs hP hD hS => ?_)
        have hP : va_P D vwCl (w_X9_formula tc q_th q_th_text q_th_saying q_th_signs q_th_sets q_th_told q_th_up q_th_down q_th_world q_th_tight q_th_sum q_th_now n_th_text n_th_signs n_th_sets th_thrown th_typed th_next th_token th_place th_value th_fault th_many z10_0 z10_1 th_corners th_isLoaded th_loaded th_widened th_wide th_boundUp th_boundDown th_text th_signs z10_2) H := hP
        have hD : va_D A (w_X9_formula tc q_th q_th_text q_th_saying q_th_signs q_th_sets q_th_told q_th_up q_th_down q_th_world q_th_tight q_th_sum q_th_now n_th_text n_th_signs n_th_sets th_thrown th_typed th_next th_token th_place th_value th_fault th_many z10_0 z10_1 th_corners th_isLoaded th_loaded th_widened th_wide th_boundUp th_boundDown th_text th_signs z10_2) := hD
        refine lv_goto (tgt := 283) hx hb dX9_formula_303 (by decide) ?_
        cases h
        exact ih _ rfl _ _ _ hP hD hS (lv_sub hl [0, 1, 2, 3, 4] rfl)
    have L329 : ∀ (x1 : Int32) (x3 : Int32) (x4 : Int32) (th_next : Int32) (th_token : Int32) (th_place : Int32) (th_value : Int32) (th_fault : Int32) (th_setMany : Int32) (th_signs : Nat → Int32), ∀ (k : Nat) (s329 : Int32 × Int32 × (Nat → Int32)) (r : Int32 × Int32 × (Nat → Int32)), lp (f_X9_formula_L329 n_th_signs n_th_sets th_setMany th_signs x3) k s329 = some r → (fun y329 : Int32 × Int32 × (Nat → Int32) => match y329 with | (x2, th_signMany, th_sets) => ∀ (H : Heap) (locs : List Loc) (ls : Array Slot), va_P D vwCl (w_X9_formula tc q_th q_th_text q_th_saying q_th_signs q_th_sets q_th_told q_th_up q_th_down q_th_world q_th_tight q_th_sum q_th_now n_th_text n_th_signs n_th_sets th_thrown th_typed th_next th_token th_place th_value th_fault th_many th_signMany th_setMany th_corners th_isLoaded th_loaded th_widened th_wide th_boundUp th_boundDown th_text th_signs th_sets) H → va_D A (w_X9_formula tc q_th q_th_text q_th_saying q_th_signs q_th_sets q_th_told q_th_up q_th_down q_th_world q_th_tight q_th_sum q_th_now n_th_text n_th_signs n_th_sets th_thrown th_typed th_next th_token th_place th_value th_fault th_many th_signMany th_setMany th_corners th_isLoaded th_loaded th_widened th_wide th_boundUp th_boundDown th_text th_signs th_sets) → va_S A s.heap H locs → lv_has ls 6 [(0, .ref q_th), (1, .int x1), (2, .int x2), (3, .int x3), (4, .int x4)] → W p l e ({ frames := 2, cells := 0, slots := 0, locals := 44 } : Room) s m av below meth c H locs 0 0 (MQ below (st_Q D (w_X9_formula tc q_th q_th_text q_th_saying q_th_signs q_th_sets q_th_told q_th_up q_th_down q_th_world q_th_tight q_th_sum q_th_now n_th_text n_th_signs n_th_sets th_thrown th_typed th_next' th_token' th_place' th_value' th_fault' th_many th_signMany' th_setMany' th_corners th_isLoaded th_loaded th_widened th_wide th_boundUp th_boundDown th_text th_signs' th_sets') (some (.int r0)) A) av s 0 0 A) (F0 m 19 ls [])) r → (fun s329 : Int32 × Int32 × (Nat → Int32) => match s329 with | (x2, th_signMany, th_sets) => ∀ (H : Heap) (locs : List Loc) (ls : Array Slot), va_P D vwCl (w_X9_formula tc q_th q_th_text q_th_saying q_th_signs q_th_sets q_th_told q_th_up q_th_down q_th_world q_th_tight q_th_sum q_th_now n_th_text n_th_signs n_th_sets th_thrown th_typed th_next th_token th_place th_value th_fault th_many th_signMany th_setMany th_corners th_isLoaded th_loaded th_widened th_wide th_boundUp th_boundDown th_text th_signs th_sets) H → va_D A (w_X9_formula tc q_th q_th_text q_th_saying q_th_signs q_th_sets q_th_told q_th_up q_th_down q_th_world q_th_tight q_th_sum q_th_now n_th_text n_th_signs n_th_sets th_thrown th_typed th_next th_token th_place th_value th_fault th_many th_signMany th_setMany th_corners th_isLoaded th_loaded th_widened th_wide th_boundUp th_boundDown th_text th_signs th_sets) → va_S A s.heap H locs → lv_has ls 6 [(0, .ref q_th), (1, .int x1), (2, .int x2), (3, .int x3), (4, .int x4)] → W p l e ({ frames := 2, cells := 0, slots := 0, locals := 44 } : Room) s m av below meth c H locs 0 0 (MQ below (st_Q D (w_X9_formula tc q_th q_th_text q_th_saying q_th_signs q_th_sets q_th_told q_th_up q_th_down q_th_world q_th_tight q_th_sum q_th_now n_th_text n_th_signs n_th_sets th_thrown th_typed th_next' th_token' th_place' th_value' th_fault' th_many th_signMany' th_setMany' th_corners th_isLoaded th_loaded th_widened th_wide th_boundUp th_boundDown th_text th_signs' th_sets') (some (.int r0)) A) av s 0 0 A) (F0 m 329 ls [])) s329 := by
      intro x1 x3 x4 th_next th_token th_place th_value th_fault th_setMany th_signs
      refine lp_W (f_X9_formula_L329 n_th_signs n_th_sets th_setMany th_signs x3) (fun s329 : Int32 × Int32 × (Nat → Int32) => match s329 with | (x2, th_signMany, th_sets) => ∀ (H : Heap) (locs : List Loc) (ls : Array Slot), va_P D vwCl (w_X9_formula tc q_th q_th_text q_th_saying q_th_signs q_th_sets q_th_told q_th_up q_th_down q_th_world q_th_tight q_th_sum q_th_now n_th_text n_th_signs n_th_sets th_thrown th_typed th_next th_token th_place th_value th_fault th_many th_signMany th_setMany th_corners th_isLoaded th_loaded th_widened th_wide th_boundUp th_boundDown th_text th_signs th_sets) H → va_D A (w_X9_formula tc q_th q_th_text q_th_saying q_th_signs q_th_sets q_th_told q_th_up q_th_down q_th_world q_th_tight q_th_sum q_th_now n_th_text n_th_signs n_th_sets th_thrown th_typed th_next th_token th_place th_value th_fault th_many th_signMany th_setMany th_corners th_isLoaded th_loaded th_widened th_wide th_boundUp th_boundDown th_text th_signs th_sets) → va_S A s.heap H locs → lv_has ls 6 [(0, .ref q_th), (1, .int x1), (2, .int x2), (3, .int x3), (4, .int x4)] → W p l e ({ frames := 2, cells := 0, slots := 0, locals := 44 } : Room) s m av below meth c H locs 0 0 (MQ below (st_Q D (w_X9_formula tc q_th q_th_text q_th_saying q_th_signs q_th_sets q_th_told q_th_up q_th_down q_th_world q_th_tight q_th_sum q_th_now n_th_text n_th_signs n_th_sets th_thrown th_typed th_next' th_token' th_place' th_value' th_fault' th_many th_signMany' th_setMany' th_corners th_isLoaded th_loaded th_widened th_wide th_boundUp th_boundDown th_text th_signs' th_sets') (some (.int r0)) A) av s 0 0 A) (F0 m 329 ls [])) (fun y329 : Int32 × Int32 × (Nat → Int32) => match y329 with | (x2, th_signMany, th_sets) => ∀ (H : Heap) (locs : List Loc) (ls : Array Slot), va_P D vwCl (w_X9_formula tc q_th q_th_text q_th_saying q_th_signs q_th_sets q_th_told q_th_up q_th_down q_th_world q_th_tight q_th_sum q_th_now n_th_text n_th_signs n_th_sets th_thrown th_typed th_next th_token th_place th_value th_fault th_many th_signMany th_setMany th_corners th_isLoaded th_loaded th_widened th_wide th_boundUp th_boundDown th_text th_signs th_sets) H → va_D A (w_X9_formula tc q_th q_th_text q_th_saying q_th_signs q_th_sets q_th_told q_th_up q_th_down q_th_world q_th_tight q_th_sum q_th_now n_th_text n_th_signs n_th_sets th_thrown th_typed th_next th_token th_place th_value th_fault th_many th_signMany th_setMany th_corners th_isLoaded th_loaded th_widened th_wide th_boundUp th_boundDown th_text th_signs th_sets) → va_S A s.heap H locs → lv_has ls 6 [(0, .ref q_th), (1, .int x1), (2, .int x2), (3, .int x3), (4, .int x4)] → W p l e ({ frames := 2, cells := 0, slots := 0, locals := 44 } : Room) s m av below meth c H locs 0 0 (MQ below (st_Q D (w_X9_formula tc q_th q_th_text q_th_saying q_th_signs q_th_sets q_th_told q_th_up q_th_down q_th_world q_th_tight q_th_sum q_th_now n_th_text n_th_signs n_th_sets th_thrown th_typed th_next' th_token' th_place' th_value' th_fault' th_many th_signMany' th_setMany' th_corners th_isLoaded th_loaded th_widened th_wide th_boundUp th_boundDown th_text th_signs' th_sets') (some (.int r0)) A) av s 0 0 A) (F0 m 19 ls [])) ?_
      rintro ⟨x2, th_signMany, th_sets⟩ o h ih hz H locs ls hP hD hS hl
      unfold f_X9_formula_L329 at h
      refine lv_iload_n hx hb dX9_formula_329 rfl (lv_at hl 3 rfl) ?_
      refine lv_if_ne (tgt := 19) hx hb dX9_formula_330 (by decide) (fun c11 => ?_) (fun c11 => ?_)
      · replace h := ifn c11 h
        cases h
        exact hz _ rfl _ _ _ hP hD hS (lv_sub hl [0, 1, 2, 3, 4] rfl)
      · replace h := ifp c11 h
        refine lv_aload_n hx hb dX9_formula_333 rfl (lv_at hl 0 rfl) ?_
        refine va_get (D := D) (ci := 9) (v := .int th_signMany) (C := RX9) (T := TX9) (N := 28) hx hb hts hinX9 hown hK hP 0 rfl rfl 12 (by decide) (hts (.fieldLink RX9 84 "ChanceBoundsModel" "signMany" "I") (by decide +kernel)) (fun _ h9 => h9) rfl dX9_formula_334 ?_
        refine lv_if_le (tgt := 19) hx hb dX9_formula_337 (by decide) (fun c12 => ?_) (fun c12 => ?_)
        · replace h := ifp c12 h
          cases h
          exact hz _ rfl _ _ _ hP hD hS (lv_sub hl [0, 1, 2, 3, 4] rfl)
        · replace h := ifn c12 h
          refine lv_aload_n hx hb dX9_formula_340 rfl (lv_at hl 0 rfl) ?_
          refine va_get (D := D) (ci := 9) (v := .ref q_th_signs) (C := RX9) (T := TX9) (N := 28) hx hb hts hinX9 hown hK hP 0 rfl rfl 10 (by decide) (hts (.fieldLink RX9 16 "ChanceBoundsModel" "signs" "[I") (by decide +kernel)) (fun _ h9 => h9) rfl dX9_formula_341 ?_
          refine lv_aload_n hx hb dX9_formula_344 rfl (lv_at hl 0 rfl) ?_
          refine va_get (D := D) (ci := 9) (v := .int th_signMany) (C := RX9) (T := TX9) (N := 28) hx hb hts hinX9 hown hK hP 0 rfl rfl 12 (by decide) (hts (.fieldLink RX9 84 "ChanceBoundsModel" "signMany" "I") (by decide +kernel)) (fun _ h9 => h9) rfl dX9_formula_345 ?_
          refine lv_iconst (v := (1 : Int32)) hx hb dX9_formula_348 (by decide) ?_
          refine lv_isub hx hb dX9_formula_349 ?_
          obtain ⟨g13, h⟩ := gd_ok h
          refine va_iald hx hb hK hP 2 0 rfl rfl g13 dX9_formula_350 ?_
          refine lv_bipush (v := (33 : Int32)) hx hb dX9_formula_351 (by decide) ?_
          refine lv_icmp_ne (tgt := 19) hx hb dX9_formula_353 (by decide) (fun c14 => ?_) (fun c14 => ?_)
          · replace h := ifn c14 h
            cases h
            exact hz _ rfl _ _ _ hP hD hS (lv_sub hl [0, 1, 2, 3, 4] rfl)
          · replace h := ifp c14 h
            refine lv_aload_n hx hb dX9_formula_356 rfl (lv_at hl 0 rfl) ?_
            refine lv_dup hx hb dX9_formula_357 rfl ?_
            refine va_get (D := D) (ci := 9) (v := .int th_signMany) (C := RX9) (T := TX9) (N := 28) hx hb hts hinX9 hown hK hP 0 rfl rfl 12 (by decide) (hts (.fieldLink RX9 84 "ChanceBoundsModel" "signMany" "I") (by decide +kernel)) (fun _ h9 => h9) rfl dX9_formula_358 ?_
            refine lv_iconst (v := (1 : Int32)) hx hb dX9_formula_361 (by decide) ?_
            refine lv_isub hx hb dX9_formula_362 ?_
            refine va_put (D := D) (ci := 9) (v := .int (th_signMany - (1 : Int32))) (ty := .int) (C := RX9) (T := TX9) (N := 28) hx hb hts hinX9 tyX9 tyX9_ok nmX9 hown hK hP hD hS 0 rfl rfl 12 (by decide) (hts (.fieldLink RX9 84 "ChanceBoundsModel" "signMany" "I") (by decide +kernel)) (fun _ h9 => h9) rfl (by decide +kernel) rfl rfl (Nat.le_of_ble_eq_true rfl) dX9_formula_363 (fun H locs hP hD hS => ?_)
            have hP : va_P D vwCl (w_X9_formula tc q_th q_th_text q_th_saying q_th_signs q_th_sets q_th_told q_th_up q_th_down q_th_world q_th_tight q_th_sum q_th_now n_th_text n_th_signs n_th_sets th_thrown th_typed th_next th_token th_place th_value th_fault th_many (th_signMany - (1 : Int32)) th_setMany th_corners th_isLoaded th_loaded th_widened th_wide th_boundUp th_boundDown th_text th_signs th_sets) H := hP
            have hD : va_D A (w_X9_formula tc q_th q_th_text q_th_saying q_th_signs q_th_sets q_th_told q_th_up q_th_down q_th_world q_th_tight q_th_sum q_th_now n_th_text n_th_signs n_th_sets th_thrown th_typed th_next th_token th_place th_value th_fault th_many (th_signMany - (1 : Int32)) th_setMany th_corners th_isLoaded th_loaded th_widened th_wide th_boundUp th_boundDown th_text th_signs th_sets) := hD
            refine lv_iinc (v := x2 + (-1)) (lv' := [(2, .int (x2 + (-1))), (0, .ref q_th), (1, .int x1), (3, .int x3), (4, .int x4)]) hx hb dX9_formula_366 hl (k := 2) rfl rfl (by decide) rfl (fun ls hl => ?_)
            refine lv_aload_n hx hb dX9_formula_369 rfl (lv_at hl 1 rfl) ?_
            refine va_get (D := D) (ci := 9) (v := .ref q_th_sets) (C := RX9) (T := TX9) (N := 28) hx hb hts hinX9 hown hK hP 0 rfl rfl 11 (by decide) (hts (.fieldLink RX9 19 "ChanceBoundsModel" "sets" "[I") (by decide +kernel)) (fun _ h9 => h9) rfl dX9_formula_370 ?_
            refine lv_aload_n hx hb dX9_formula_373 rfl (lv_at hl 1 rfl) ?_
            refine va_get (D := D) (ci := 9) (v := .int th_setMany) (C := RX9) (T := TX9) (N := 28) hx hb hts hinX9 hown hK hP 0 rfl rfl 13 (by decide) (hts (.fieldLink RX9 87 "ChanceBoundsModel" "setMany" "I") (by decide +kernel)) (fun _ h9 => h9) rfl dX9_formula_374 ?_
            refine lv_iconst (v := (1 : Int32)) hx hb dX9_formula_377 (by decide) ?_
            refine lv_isub hx hb dX9_formula_378 ?_
            refine lv_sipush (v := (255 : Int32)) hx hb dX9_formula_379 (by decide) ?_
            refine lv_aload_n hx hb dX9_formula_382 rfl (lv_at hl 1 rfl) ?_
            refine va_get (D := D) (ci := 9) (v := .ref q_th_sets) (C := RX9) (T := TX9) (N := 28) hx hb hts hinX9 hown hK hP 0 rfl rfl 11 (by decide) (hts (.fieldLink RX9 19 "ChanceBoundsModel" "sets" "[I") (by decide +kernel)) (fun _ h9 => h9) rfl dX9_formula_383 ?_
            refine lv_aload_n hx hb dX9_formula_386 rfl (lv_at hl 1 rfl) ?_
            refine va_get (D := D) (ci := 9) (v := .int th_setMany) (C := RX9) (T := TX9) (N := 28) hx hb hts hinX9 hown hK hP 0 rfl rfl 13 (by decide) (hts (.fieldLink RX9 87 "ChanceBoundsModel" "setMany" "I") (by decide +kernel)) (fun _ h9 => h9) rfl dX9_formula_387 ?_
            refine lv_iconst (v := (1 : Int32)) hx hb dX9_formula_390 (by decide) ?_
            refine lv_isub hx hb dX9_formula_391 ?_
            obtain ⟨g15, h⟩ := gd_ok h
            refine va_iald hx hb hK hP 3 0 rfl rfl g15 dX9_formula_392 ?_
            refine lv_iconst (v := (-1 : Int32)) hx hb dX9_formula_393 (by decide) ?_
            refine lv_ixor hx hb dX9_formula_394 ?_
            refine lv_iand hx hb dX9_formula_395 ?_
            obtain ⟨g16, h⟩ := gd_ok h
            refine va_iast hx hb hK hP hD hS 3 0 rfl rfl g16 dX9_formula_396 (fun H locs hP hD hS => ?_)
            have hP : va_P D vwCl (w_X9_formula tc q_th q_th_text q_th_saying q_th_signs q_th_sets q_th_told q_th_up q_th_down q_th_world q_th_tight q_th_sum q_th_now n_th_text n_th_signs n_th_sets th_thrown th_typed th_next th_token th_place th_value th_fault th_many (th_signMany - (1 : Int32)) th_setMany th_corners th_isLoaded th_loaded th_widened th_wide th_boundUp th_boundDown th_text th_signs (upd th_sets (th_setMany - (1 : Int32)).toNatClampNeg ((255 : Int32) &&& ((th_sets (th_setMany - (1 : Int32)).toNatClampNeg) ^^^ (-1 : Int32))))) H := hP
            have hD : va_D A (w_X9_formula tc q_th q_th_text q_th_saying q_th_signs q_th_sets q_th_told q_th_up q_th_down q_th_world q_th_tight q_th_sum q_th_now n_th_text n_th_signs n_th_sets th_thrown th_typed th_next th_token th_place th_value th_fault th_many (th_signMany - (1 : Int32)) th_setMany th_corners th_isLoaded th_loaded th_widened th_wide th_boundUp th_boundDown th_text th_signs (upd th_sets (th_setMany - (1 : Int32)).toNatClampNeg ((255 : Int32) &&& ((th_sets (th_setMany - (1 : Int32)).toNatClampNeg) ^^^ (-1 : Int32))))) := hD
            refine lv_goto (tgt := 329) hx hb dX9_formula_397 (by decide) ?_
            cases h
            exact ih _ rfl _ _ _ hP hD hS (lv_sub hl [1, 2, 0, 3, 4] rfl)
    have J329 : ∀ (x1 : Int32) (x2 : Int32) (x3 : Int32) (x4 : Int32) (th_next : Int32) (th_token : Int32) (th_place : Int32) (th_value : Int32) (th_fault : Int32) (th_signMany : Int32) (th_setMany : Int32) (th_signs : Nat → Int32) (th_sets : Nat → Int32) (H : Heap) (locs : List Loc) (ls : Array Slot), f_X9_formula_J329 K n_th_signs n_th_sets th_next th_token th_place th_value th_fault th_signMany th_setMany th_signs th_sets x1 x2 x3 x4 = some o → va_P D vwCl (w_X9_formula tc q_th q_th_text q_th_saying q_th_signs q_th_sets q_th_told q_th_up q_th_down q_th_world q_th_tight q_th_sum q_th_now n_th_text n_th_signs n_th_sets th_thrown th_typed th_next th_token th_place th_value th_fault th_many th_signMany th_setMany th_corners th_isLoaded th_loaded th_widened th_wide th_boundUp th_boundDown th_text th_signs th_sets) H → va_D A (w_X9_formula tc q_th q_th_text q_th_saying q_th_signs q_th_sets q_th_told q_th_up q_th_down q_th_world q_th_tight q_th_sum q_th_now n_th_text n_th_signs n_th_sets th_thrown th_typed th_next th_token th_place th_value th_fault th_many th_signMany th_setMany th_corners th_isLoaded th_loaded th_widened th_wide th_boundUp th_boundDown th_text th_signs th_sets) → va_S A s.heap H locs → lv_has ls 6 [(0, .ref q_th), (1, .int x1), (2, .int x2), (3, .int x3), (4, .int x4)] → W p l e ({ frames := 2, cells := 0, slots := 0, locals := 44 } : Room) s m av below meth c H locs 0 0 (MQ below (st_Q D (w_X9_formula tc q_th q_th_text q_th_saying q_th_signs q_th_sets q_th_told q_th_up q_th_down q_th_world q_th_tight q_th_sum q_th_now n_th_text n_th_signs n_th_sets th_thrown th_typed th_next' th_token' th_place' th_value' th_fault' th_many th_signMany' th_setMany' th_corners th_isLoaded th_loaded th_widened th_wide th_boundUp th_boundDown th_text th_signs' th_sets') (some (.int r0)) A) av s 0 0 A) (F0 m 329 ls []) := by
      intro x1 x2 x3 x4 th_next th_token th_place th_value th_fault th_signMany th_setMany th_signs th_sets H locs ls h hP hD hS hl
      unfold f_X9_formula_J329 at h
      refine lv_iload_n hx hb dX9_formula_329 rfl (lv_at hl 3 rfl) ?_
      refine lv_if_ne (tgt := 19) hx hb dX9_formula_330 (by decide) (fun c17 => ?_) (fun c17 => ?_)
      · replace h := ifn c17 h
        cases h
        exact ih _ rfl _ _ _ hP hD hS (lv_sub hl [0, 1, 2, 3, 4] rfl)
      · replace h := ifp c17 h
        refine lv_aload_n hx hb dX9_formula_333 rfl (lv_at hl 0 rfl) ?_
        refine va_get (D := D) (ci := 9) (v := .int th_signMany) (C := RX9) (T := TX9) (N := 28) hx hb hts hinX9 hown hK hP 0 rfl rfl 12 (by decide) (hts (.fieldLink RX9 84 "ChanceBoundsModel" "signMany" "I") (by decide +kernel)) (fun _ h9 => h9) rfl dX9_formula_334 ?_
        refine lv_if_le (tgt := 19) hx hb dX9_formula_337 (by decide) (fun c18 => ?_) (fun c18 => ?_)
        · replace h := ifp c18 h
          cases h
          exact ih _ rfl _ _ _ hP hD hS (lv_sub hl [0, 1, 2, 3, 4] rfl)
        · replace h := ifn c18 h
          refine lv_aload_n hx hb dX9_formula_340 rfl (lv_at hl 0 rfl) ?_
          refine va_get (D := D) (ci := 9) (v := .ref q_th_signs) (C := RX9) (T := TX9) (N := 28) hx hb hts hinX9 hown hK hP 0 rfl rfl 10 (by decide) (hts (.fieldLink RX9 16 "ChanceBoundsModel" "signs" "[I") (by decide +kernel)) (fun _ h9 => h9) rfl dX9_formula_341 ?_
          refine lv_aload_n hx hb dX9_formula_344 rfl (lv_at hl 0 rfl) ?_
          refine va_get (D := D) (ci := 9) (v := .int th_signMany) (C := RX9) (T := TX9) (N := 28) hx hb hts hinX9 hown hK hP 0 rfl rfl 12 (by decide) (hts (.fieldLink RX9 84 "ChanceBoundsModel" "signMany" "I") (by decide +kernel)) (fun _ h9 => h9) rfl dX9_formula_345 ?_
          refine lv_iconst (v := (1 : Int32)) hx hb dX9_formula_348 (by decide) ?_
          refine lv_isub hx hb dX9_formula_349 ?_
          obtain ⟨g19, h⟩ := gd_ok h
          refine va_iald hx hb hK hP 2 0 rfl rfl g19 dX9_formula_350 ?_
          refine lv_bipush (v := (33 : Int32)) hx hb dX9_formula_351 (by decide) ?_
          refine lv_icmp_ne (tgt := 19) hx hb dX9_formula_353 (by decide) (fun c20 => ?_) (fun c20 => ?_)
          · replace h := ifn c20 h
            cases h
            exact ih _ rfl _ _ _ hP hD hS (lv_sub hl [0, 1, 2, 3, 4] rfl)
          · replace h := ifp c20 h
            refine lv_aload_n hx hb dX9_formula_356 rfl (lv_at hl 0 rfl) ?_
            refine lv_dup hx hb dX9_formula_357 rfl ?_
            refine va_get (D := D) (ci := 9) (v := .int th_signMany) (C := RX9) (T := TX9) (N := 28) hx hb hts hinX9 hown hK hP 0 rfl rfl 12 (by decide) (hts (.fieldLink RX9 84 "ChanceBoundsModel" "signMany" "I") (by decide +kernel)) (fun _ h9 => h9) rfl dX9_formula_358 ?_
            refine lv_iconst (v := (1 : Int32)) hx hb dX9_formula_361 (by decide) ?_
            refine lv_isub hx hb dX9_formula_362 ?_
            refine va_put (D := D) (ci := 9) (v := .int (th_signMany - (1 : Int32))) (ty := .int) (C := RX9) (T := TX9) (N := 28) hx hb hts hinX9 tyX9 tyX9_ok nmX9 hown hK hP hD hS 0 rfl rfl 12 (by decide) (hts (.fieldLink RX9 84 "ChanceBoundsModel" "signMany" "I") (by decide +kernel)) (fun _ h9 => h9) rfl (by decide +kernel) rfl rfl (Nat.le_of_ble_eq_true rfl) dX9_formula_363 (fun H locs hP hD hS => ?_)
            have hP : va_P D vwCl (w_X9_formula tc q_th q_th_text q_th_saying q_th_signs q_th_sets q_th_told q_th_up q_th_down q_th_world q_th_tight q_th_sum q_th_now n_th_text n_th_signs n_th_sets th_thrown th_typed th_next th_token th_place th_value th_fault th_many (th_signMany - (1 : Int32)) th_setMany th_corners th_isLoaded th_loaded th_widened th_wide th_boundUp th_boundDown th_text th_signs th_sets) H := hP
            have hD : va_D A (w_X9_formula tc q_th q_th_text q_th_saying q_th_signs q_th_sets q_th_told q_th_up q_th_down q_th_world q_th_tight q_th_sum q_th_now n_th_text n_th_signs n_th_sets th_thrown th_typed th_next th_token th_place th_value th_fault th_many (th_signMany - (1 : Int32)) th_setMany th_corners th_isLoaded th_loaded th_widened th_wide th_boundUp th_boundDown th_text th_signs th_sets) := hD
            refine lv_iinc (v := x2 + (-1)) (lv' := [(2, .int (x2 + (-1))), (0, .ref q_th), (1, .int x1), (3, .int x3), (4, .int x4)]) hx hb dX9_formula_366 hl (k := 2) rfl rfl (by decide) rfl (fun ls hl => ?_)
            refine lv_aload_n hx hb dX9_formula_369 rfl (lv_at hl 1 rfl) ?_
            refine va_get (D := D) (ci := 9) (v := .ref q_th_sets) (C := RX9) (T := TX9) (N := 28) hx hb hts hinX9 hown hK hP 0 rfl rfl 11 (by decide) (hts (.fieldLink RX9 19 "ChanceBoundsModel" "sets" "[I") (by decide +kernel)) (fun _ h9 => h9) rfl dX9_formula_370 ?_
            refine lv_aload_n hx hb dX9_formula_373 rfl (lv_at hl 1 rfl) ?_
            refine va_get (D := D) (ci := 9) (v := .int th_setMany) (C := RX9) (T := TX9) (N := 28) hx hb hts hinX9 hown hK hP 0 rfl rfl 13 (by decide) (hts (.fieldLink RX9 87 "ChanceBoundsModel" "setMany" "I") (by decide +kernel)) (fun _ h9 => h9) rfl dX9_formula_374 ?_
            refine lv_iconst (v := (1 : Int32)) hx hb dX9_formula_377 (by decide) ?_
            refine lv_isub hx hb dX9_formula_378 ?_
            refine lv_sipush (v := (255 : Int32)) hx hb dX9_formula_379 (by decide) ?_
            refine lv_aload_n hx hb dX9_formula_382 rfl (lv_at hl 1 rfl) ?_
            refine va_get (D := D) (ci := 9) (v := .ref q_th_sets) (C := RX9) (T := TX9) (N := 28) hx hb hts hinX9 hown hK hP 0 rfl rfl 11 (by decide) (hts (.fieldLink RX9 19 "ChanceBoundsModel" "sets" "[I") (by decide +kernel)) (fun _ h9 => h9) rfl dX9_formula_383 ?_
            refine lv_aload_n hx hb dX9_formula_386 rfl (lv_at hl 1 rfl) ?_
            refine va_get (D := D) (ci := 9) (v := .int th_setMany) (C := RX9) (T := TX9) (N := 28) hx hb hts hinX9 hown hK hP 0 rfl rfl 13 (by decide) (hts (.fieldLink RX9 87 "ChanceBoundsModel" "setMany" "I") (by decide +kernel)) (fun _ h9 => h9) rfl dX9_formula_387 ?_
            refine lv_iconst (v := (1 : Int32)) hx hb dX9_formula_390 (by decide) ?_
            refine lv_isub hx hb dX9_formula_391 ?_
            obtain ⟨g21, h⟩ := gd_ok h
            refine va_iald hx hb hK hP 3 0 rfl rfl g21 dX9_formula_392 ?_
            refine lv_iconst (v := (-1 : Int32)) hx hb dX9_formula_393 (by decide) ?_
            refine lv_ixor hx hb dX9_formula_394 ?_
            refine lv_iand hx hb dX9_formula_395 ?_
            obtain ⟨g22, h⟩ := gd_ok h
            refine va_iast hx hb hK hP hD hS 3 0 rfl rfl g22 dX9_formula_396 (fun H locs hP hD hS => ?_)
            have hP : va_P D vwCl (w_X9_formula tc q_th q_th_text q_th_saying q_th_signs q_th_sets q_th_told q_th_up q_th_down q_th_world q_th_tight q_th_sum q_th_now n_th_text n_th_signs n_th_sets th_thrown th_typed th_next th_token th_place th_value th_fault th_many (th_signMany - (1 : Int32)) th_setMany th_corners th_isLoaded th_loaded th_widened th_wide th_boundUp th_boundDown th_text th_signs (upd th_sets (th_setMany - (1 : Int32)).toNatClampNeg ((255 : Int32) &&& ((th_sets (th_setMany - (1 : Int32)).toNatClampNeg) ^^^ (-1 : Int32))))) H := hP
            have hD : va_D A (w_X9_formula tc q_th q_th_text q_th_saying q_th_signs q_th_sets q_th_told q_th_up q_th_down q_th_world q_th_tight q_th_sum q_th_now n_th_text n_th_signs n_th_sets th_thrown th_typed th_next th_token th_place th_value th_fault th_many (th_signMany - (1 : Int32)) th_setMany th_corners th_isLoaded th_loaded th_widened th_wide th_boundUp th_boundDown th_text th_signs (upd th_sets (th_setMany - (1 : Int32)).toNatClampNeg ((255 : Int32) &&& ((th_sets (th_setMany - (1 : Int32)).toNatClampNeg) ^^^ (-1 : Int32))))) := hD
            refine lv_goto (tgt := 329) hx hb dX9_formula_397 (by decide) ?_
            obtain ⟨⟨z23_0, z23_1, z23_2⟩, hl23, h⟩ := bd_ok h
            refine L329 x1 x3 x4 th_next th_token th_place th_value th_fault th_setMany th_signs K _ _ hl23 ?_ _ _ _ hP hD hS (lv_sub hl [1, 2, 0, 3, 4] rfl)
            intro H locs ls hP hD hS hl
            cases h
            exact ih _ rfl _ _ _ hP hD hS (lv_sub hl [0, 1, 2, 3, 4] rfl)
    have J326 : ∀ (x1 : Int32) (x2 : Int32) (x3 : Int32) (th_next : Int32) (th_token : Int32) (th_place : Int32) (th_value : Int32) (th_fault : Int32) (th_signMany : Int32) (th_setMany : Int32) (th_signs : Nat → Int32) (th_sets : Nat → Int32) (H : Heap) (locs : List Loc) (ls : Array Slot), f_X9_formula_J326 K n_th_signs n_th_sets th_next th_token th_place th_value th_fault th_signMany th_setMany th_signs th_sets x1 x2 x3 = some o → va_P D vwCl (w_X9_formula tc q_th q_th_text q_th_saying q_th_signs q_th_sets q_th_told q_th_up q_th_down q_th_world q_th_tight q_th_sum q_th_now n_th_text n_th_signs n_th_sets th_thrown th_typed th_next th_token th_place th_value th_fault th_many th_signMany th_setMany th_corners th_isLoaded th_loaded th_widened th_wide th_boundUp th_boundDown th_text th_signs th_sets) H → va_D A (w_X9_formula tc q_th q_th_text q_th_saying q_th_signs q_th_sets q_th_told q_th_up q_th_down q_th_world q_th_tight q_th_sum q_th_now n_th_text n_th_signs n_th_sets th_thrown th_typed th_next th_token th_place th_value th_fault th_many th_signMany th_setMany th_corners th_isLoaded th_loaded th_widened th_wide th_boundUp th_boundDown th_text th_signs th_sets) → va_S A s.heap H locs → lv_has ls 6 [(0, .ref q_th), (1, .int x1), (2, .int x2), (3, .int x3)] → W p l e ({ frames := 2, cells := 0, slots := 0, locals := 44 } : Room) s m av below meth c H locs 0 0 (MQ below (st_Q D (w_X9_formula tc q_th q_th_text q_th_saying q_th_signs q_th_sets q_th_told q_th_up q_th_down q_th_world q_th_tight q_th_sum q_th_now n_th_text n_th_signs n_th_sets th_thrown th_typed th_next' th_token' th_place' th_value' th_fault' th_many th_signMany' th_setMany' th_corners th_isLoaded th_loaded th_widened th_wide th_boundUp th_boundDown th_text th_signs' th_sets') (some (.int r0)) A) av s 0 0 A) (F0 m 326 ls []) := by
      intro x1 x2 x3 th_next th_token th_place th_value th_fault th_signMany th_setMany th_signs th_sets H locs ls h hP hD hS hl
      unfold f_X9_formula_J326 at h
      refine lv_iconst (v := (0 : Int32)) hx hb dX9_formula_326 (by decide) ?_
      refine lv_istore (lv' := [(4, .int (0 : Int32)), (0, .ref q_th), (1, .int x1), (2, .int x2), (3, .int x3)]) hx hb dX9_formula_327 hl (by decide) rfl (fun ls hl => ?_)
      obtain ⟨⟨z24_0, z24_1, z24_2⟩, hl24, h⟩ := bd_ok h
      refine L329 x1 x3 (0 : Int32) th_next th_token th_place th_value th_fault th_setMany th_signs K _ _ hl24 ?_ _ _ _ hP hD hS (lv_sub hl [1, 2, 3, 4, 0] rfl)
      intro H locs ls hP hD hS hl
      cases h
      exact ih _ rfl _ _ _ hP hD hS (lv_sub hl [0, 1, 2, 3, 4] rfl)
    have J176 : ∀ (x1 : Int32) (x2 : Int32) (x4 : Int32) (th_next : Int32) (th_token : Int32) (th_place : Int32) (th_value : Int32) (th_fault : Int32) (th_signMany : Int32) (th_setMany : Int32) (th_signs : Nat → Int32) (th_sets : Nat → Int32) (H : Heap) (locs : List Loc) (ls : Array Slot), f_X9_formula_J176 K n_th_text n_th_signs n_th_sets th_typed th_next th_value th_fault th_signMany th_setMany th_text th_signs th_sets x1 x2 x4 = some o → va_P D vwCl (w_X9_formula tc q_th q_th_text q_th_saying q_th_signs q_th_sets q_th_told q_th_up q_th_down q_th_world q_th_tight q_th_sum q_th_now n_th_text n_th_signs n_th_sets th_thrown th_typed th_next th_token th_place th_value th_fault th_many th_signMany th_setMany th_corners th_isLoaded th_loaded th_widened th_wide th_boundUp th_boundDown th_text th_signs th_sets) H → va_D A (w_X9_formula tc q_th q_th_text q_th_saying q_th_signs q_th_sets q_th_told q_th_up q_th_down q_th_world q_th_tight q_th_sum q_th_now n_th_text n_th_signs n_th_sets th_thrown th_typed th_next th_token th_place th_value th_fault th_many th_signMany th_setMany th_corners th_isLoaded th_loaded th_widened th_wide th_boundUp th_boundDown th_text th_signs th_sets) → va_S A s.heap H locs → lv_has ls 6 [(0, .ref q_th), (1, .int x1), (2, .int x2), (4, .int x4)] → W p l e ({ frames := 2, cells := 0, slots := 0, locals := 44 } : Room) s m av below meth c H locs 0 0 (MQ below (st_Q D (w_X9_formula tc q_th q_th_text q_th_saying q_th_signs q_th_sets q_th_told q_th_up q_th_down q_th_world q_th_tight q_th_sum q_th_now n_th_text n_th_signs n_th_sets th_thrown th_typed th_next' th_token' th_place' th_value' th_fault' th_many th_signMany' th_setMany' th_corners th_isLoaded th_loaded th_widened th_wide th_boundUp th_boundDown th_text th_signs' th_sets') (some (.int r0)) A) av s 0 0 A) (F0 m 176 ls []) := by
      intro x1 x2 x4 th_next th_token th_place th_value th_fault th_signMany th_setMany th_signs th_sets H locs ls h hP hD hS hl
      unfold f_X9_formula_J176 at h
      refine lv_aload_n hx hb dX9_formula_176 rfl (lv_at hl 0 rfl) ?_
      refine va_get (D := D) (ci := 9) (v := .int th_value) (C := RX9) (T := TX9) (N := 28) hx hb hts hinX9 hown hK hP 0 rfl rfl 6 (by decide) (hts (.fieldLink RX9 74 "ChanceBoundsModel" "value" "I") (by decide +kernel)) (fun _ h9 => h9) rfl dX9_formula_177 ?_
      refine lv_istore (lv' := [(5, .int th_value), (0, .ref q_th), (1, .int x1), (2, .int x2), (4, .int x4)]) hx hb dX9_formula_180 hl (by decide) rfl (fun ls hl => ?_)
      obtain ⟨⟨z25_0, z25_1, z25_2⟩, hl25, h⟩ := bd_ok h
      refine L182 x1 x2 x4 th_value th_next th_token th_place th_value th_fault th_signs K _ _ hl25 ?_ _ _ _ hP hD hS (lv_sub hl [1, 2, 3, 4, 0] rfl)
      intro H locs ls hP hD hS hl
      refine lv_aload_n hx hb dX9_formula_235 rfl (lv_at hl 0 rfl) ?_
      refine va_get (D := D) (ci := 9) (v := .ref q_th_signs) (C := RX9) (T := TX9) (N := 28) hx hb hts hinX9 hown hK hP 0 rfl rfl 10 (by decide) (hts (.fieldLink RX9 16 "ChanceBoundsModel" "signs" "[I") (by decide +kernel)) (fun _ h9 => h9) rfl dX9_formula_236 ?_
      refine lv_aload_n hx hb dX9_formula_239 rfl (lv_at hl 0 rfl) ?_
      refine va_get (D := D) (ci := 9) (v := .int z25_0) (C := RX9) (T := TX9) (N := 28) hx hb hts hinX9 hown hK hP 0 rfl rfl 12 (by decide) (hts (.fieldLink RX9 84 "ChanceBoundsModel" "signMany" "I") (by decide +kernel)) (fun _ h9 => h9) rfl dX9_formula_240 ?_
      refine lv_iload hx hb dX9_formula_243 (lv_at hl 4 rfl) ?_
      obtain ⟨g26, h⟩ := gd_ok h
      refine va_iast hx hb hK hP hD hS 2 0 rfl rfl g26 dX9_formula_245 (fun H locs hP hD hS => ?_)
      have hP : va_P D vwCl (w_X9_formula tc q_th q_th_text q_th_saying q_th_signs q_th_sets q_th_told q_th_up q_th_down q_th_world q_th_tight q_th_sum q_th_now n_th_text n_th_signs n_th_sets th_thrown th_typed th_next th_token th_place th_value th_fault th_many z25_0 z25_1 th_corners th_isLoaded th_loaded th_widened th_wide th_boundUp th_boundDown th_text (upd th_signs z25_0.toNatClampNeg th_value) z25_2) H := hP
      have hD : va_D A (w_X9_formula tc q_th q_th_text q_th_saying q_th_signs q_th_sets q_th_told q_th_up q_th_down q_th_world q_th_tight q_th_sum q_th_now n_th_text n_th_signs n_th_sets th_thrown th_typed th_next th_token th_place th_value th_fault th_many z25_0 z25_1 th_corners th_isLoaded th_loaded th_widened th_wide th_boundUp th_boundDown th_text (upd th_signs z25_0.toNatClampNeg th_value) z25_2) := hD
      refine lv_aload_n hx hb dX9_formula_246 rfl (lv_at hl 0 rfl) ?_
      refine lv_dup hx hb dX9_formula_247 rfl ?_
      refine va_get (D := D) (ci := 9) (v := .int z25_0) (C := RX9) (T := TX9) (N := 28) hx hb hts hinX9 hown hK hP 0 rfl rfl 12 (by decide) (hts (.fieldLink RX9 84 "ChanceBoundsModel" "signMany" "I") (by decide +kernel)) (fun _ h9 => h9) rfl dX9_formula_248 ?_
      refine lv_iconst (v := (1 : Int32)) hx hb dX9_formula_251 (by decide) ?_
      refine lv_iadd hx hb dX9_formula_252 ?_
      refine va_put (D := D) (ci := 9) (v := .int (z25_0 + (1 : Int32))) (ty := .int) (C := RX9) (T := TX9) (N := 28) hx hb hts hinX9 tyX9 tyX9_ok nmX9 hown hK hP hD hS 0 rfl rfl 12 (by decide) (hts (.fieldLink RX9 84 "ChanceBoundsModel" "signMany" "I") (by decide +kernel)) (fun _ h9 => h9) rfl (by decide +kernel) rfl rfl (Nat.le_of_ble_eq_true rfl) dX9_formula_253 (fun H locs hP hD hS => ?_)
      have hP : va_P D vwCl (w_X9_formula tc q_th q_th_text q_th_saying q_th_signs q_th_sets q_th_told q_th_up q_th_down q_th_world q_th_tight q_th_sum q_th_now n_th_text n_th_signs n_th_sets th_thrown th_typed th_next th_token th_place th_value th_fault th_many (z25_0 + (1 : Int32)) z25_1 th_corners th_isLoaded th_loaded th_widened th_wide th_boundUp th_boundDown th_text (upd th_signs z25_0.toNatClampNeg th_value) z25_2) H := hP
      have hD : va_D A (w_X9_formula tc q_th q_th_text q_th_saying q_th_signs q_th_sets q_th_told q_th_up q_th_down q_th_world q_th_tight q_th_sum q_th_now n_th_text n_th_signs n_th_sets th_thrown th_typed th_next th_token th_place th_value th_fault th_many (z25_0 + (1 : Int32)) z25_1 th_corners th_isLoaded th_loaded th_widened th_wide th_boundUp th_boundDown th_text (upd th_signs z25_0.toNatClampNeg th_value) z25_2) := hD
      refine lv_iconst (v := (1 : Int32)) hx hb dX9_formula_256 (by decide) ?_
      refine lv_istore_n (lv' := [(3, .int (1 : Int32)), (0, .ref q_th), (1, .int x1), (2, .int x2), (4, .int x4), (5, .int th_value)]) hx hb dX9_formula_257 rfl hl (by decide) rfl (fun ls hl => ?_)
      refine lv_aload_n hx hb dX9_formula_258 rfl (lv_at hl 1 rfl) ?_
      obtain ⟨⟨z27_0, z27_1, z27_2, z27_3⟩, hc27, h⟩ := bd_ok h
      refine st_callV (As := []) (rest := []) (pos := [0, 1]) ⟨hx, hb, hml, hown, hts⟩ (s_X9_advances (l := l) (D := D) (tc := tc) hEok q_th q_th_text q_th_saying q_th_signs q_th_sets q_th_told q_th_up q_th_down q_th_world q_th_tight q_th_sum q_th_now n_th_text th_thrown th_typed th_next th_token th_place th_value th_fault th_many (z25_0 + (1 : Int32)) z25_1 th_corners th_isLoaded th_loaded th_widened th_wide th_boundUp th_boundDown th_text K z27_0 z27_1 z27_2 z27_3 hc27) (cwV 0 hts gX9_formula_X9_advances rfl rfl rfl (by decide +kernel) ⟨Nat.le_of_ble_eq_true rfl, Nat.le_of_ble_eq_true rfl⟩) (st_recv (ci := 9) (q0 := 0) hK hP rfl rfl) hEok hE hK hN hP hD hS hA rfl rfl rfl rfl hl.1 rfl (Nat.le_of_ble_eq_true rfl) dX9_formula_259 ⟨Nat.zero_le _, Nat.zero_le _⟩ (fun H locs hP hD hS => ?_)
      have hP : va_P D vwCl (w_X9_formula tc q_th q_th_text q_th_saying q_th_signs q_th_sets q_th_told q_th_up q_th_down q_th_world q_th_tight q_th_sum q_th_now n_th_text n_th_signs n_th_sets th_thrown th_typed z27_0 z27_1 z27_2 z27_3 th_fault th_many (z25_0 + (1 : Int32)) z25_1 th_corners th_isLoaded th_loaded th_widened th_wide th_boundUp th_boundDown th_text (upd th_signs z25_0.toNatClampNeg th_value) z25_2) H := hP
      have hD : va_D A (w_X9_formula tc q_th q_th_text q_th_saying q_th_signs q_th_sets q_th_told q_th_up q_th_down q_th_world q_th_tight q_th_sum q_th_now n_th_text n_th_signs n_th_sets th_thrown th_typed z27_0 z27_1 z27_2 z27_3 th_fault th_many (z25_0 + (1 : Int32)) z25_1 th_corners th_isLoaded th_loaded th_widened th_wide th_boundUp th_boundDown th_text (upd th_signs z25_0.toNatClampNeg th_value) z25_2) := hD
      refine lv_goto (tgt := 329) hx hb dX9_formula_262 (by decide) ?_
      obtain ⟨⟨z28_0, z28_1, z28_2⟩, hl28, h⟩ := bd_ok h
      refine L329 x1 (1 : Int32) x4 z27_0 z27_1 z27_2 z27_3 th_fault z25_1 (upd th_signs z25_0.toNatClampNeg th_value) K _ _ hl28 ?_ _ _ _ hP hD hS (lv_sub hl [1, 2, 3, 0, 4] rfl)
      intro H locs ls hP hD hS hl
      cases h
      exact ih _ rfl _ _ _ hP hD hS (lv_sub hl [0, 1, 2, 3, 4] rfl)
    have J151 : ∀ (x1 : Int32) (x2 : Int32) (x3 : Int32) (x4 : Int32) (th_next : Int32) (th_token : Int32) (th_place : Int32) (th_value : Int32) (th_fault : Int32) (th_signMany : Int32) (th_setMany : Int32) (th_signs : Nat → Int32) (th_sets : Nat → Int32) (H : Heap) (locs : List Loc) (ls : Array Slot), f_X9_formula_J151 K n_th_signs n_th_sets th_next th_token th_place th_value th_fault th_signMany th_setMany th_signs th_sets x1 x2 x3 x4 = some o → va_P D vwCl (w_X9_formula tc q_th q_th_text q_th_saying q_th_signs q_th_sets q_th_told q_th_up q_th_down q_th_world q_th_tight q_th_sum q_th_now n_th_text n_th_signs n_th_sets th_thrown th_typed th_next th_token th_place th_value th_fault th_many th_signMany th_setMany th_corners th_isLoaded th_loaded th_widened th_wide th_boundUp th_boundDown th_text th_signs th_sets) H → va_D A (w_X9_formula tc q_th q_th_text q_th_saying q_th_signs q_th_sets q_th_told q_th_up q_th_down q_th_world q_th_tight q_th_sum q_th_now n_th_text n_th_signs n_th_sets th_thrown th_typed th_next th_token th_place th_value th_fault th_many th_signMany th_setMany th_corners th_isLoaded th_loaded th_widened th_wide th_boundUp th_boundDown th_text th_signs th_sets) → va_S A s.heap H locs → lv_has ls 6 [(0, .ref q_th), (1, .int x1), (2, .int x2), (3, .int x3), (4, .int x4)] → W p l e ({ frames := 2, cells := 0, slots := 0, locals := 44 } : Room) s m av below meth c H locs 0 0 (MQ below (st_Q D (w_X9_formula tc q_th q_th_text q_th_saying q_th_signs q_th_sets q_th_told q_th_up q_th_down q_th_world q_th_tight q_th_sum q_th_now n_th_text n_th_signs n_th_sets th_thrown th_typed th_next' th_token' th_place' th_value' th_fault' th_many th_signMany' th_setMany' th_corners th_isLoaded th_loaded th_widened th_wide th_boundUp th_boundDown th_text th_signs' th_sets') (some (.int r0)) A) av s 0 0 A) (F0 m 151 ls []) := by
      intro x1 x2 x3 x4 th_next th_token th_place th_value th_fault th_signMany th_setMany th_signs th_sets H locs ls h hP hD hS hl
      unfold f_X9_formula_J151 at h
      refine lv_aload_n hx hb dX9_formula_151 rfl (lv_at hl 0 rfl) ?_
      obtain ⟨z29_0, hc29, h⟩ := bd_ok h
      refine st_callV (As := []) (rest := []) (pos := [0]) ⟨hx, hb, hml, hown, hts⟩ (s_X9_fails (l := l) (D := D) (tc := tc) hEok q_th q_th_text q_th_saying q_th_signs q_th_sets q_th_told q_th_up q_th_down q_th_world q_th_tight q_th_sum q_th_now th_thrown th_typed th_next th_token th_place th_value th_fault th_many th_signMany th_setMany th_corners th_isLoaded th_loaded th_widened th_wide th_boundUp th_boundDown z29_0 hc29) (cwV 0 hts gX9_formula_X9_fails rfl rfl rfl (by decide +kernel) ⟨Nat.le_of_ble_eq_true rfl, Nat.le_of_ble_eq_true rfl⟩) (st_recv (ci := 9) (q0 := 0) hK hP rfl rfl) hEok hE hK hN hP hD hS hA rfl rfl rfl rfl hl.1 rfl (Nat.le_of_ble_eq_true rfl) dX9_formula_152 ⟨Nat.zero_le _, Nat.zero_le _⟩ (fun H locs hP hD hS => ?_)
      have hP : va_P D vwCl (w_X9_formula tc q_th q_th_text q_th_saying q_th_signs q_th_sets q_th_told q_th_up q_th_down q_th_world q_th_tight q_th_sum q_th_now n_th_text n_th_signs n_th_sets th_thrown th_typed th_next th_token th_place th_value z29_0 th_many th_signMany th_setMany th_corners th_isLoaded th_loaded th_widened th_wide th_boundUp th_boundDown th_text th_signs th_sets) H := hP
      have hD : va_D A (w_X9_formula tc q_th q_th_text q_th_saying q_th_signs q_th_sets q_th_told q_th_up q_th_down q_th_world q_th_tight q_th_sum q_th_now n_th_text n_th_signs n_th_sets th_thrown th_typed th_next th_token th_place th_value z29_0 th_many th_signMany th_setMany th_corners th_isLoaded th_loaded th_widened th_wide th_boundUp th_boundDown th_text th_signs th_sets) := hD
      refine lv_goto (tgt := 329) hx hb dX9_formula_155 (by decide) ?_
      obtain ⟨⟨z30_0, z30_1, z30_2⟩, hl30, h⟩ := bd_ok h
      refine L329 x1 x3 x4 th_next th_token th_place th_value z29_0 th_setMany th_signs K _ _ hl30 ?_ _ _ _ hP hD hS (lv_sub hl [0, 1, 2, 3, 4] rfl)
      intro H locs ls hP hD hS hl
      cases h
      exact ih _ rfl _ _ _ hP hD hS (lv_sub hl [0, 1, 2, 3, 4] rfl)
    have J112 : ∀ (x1 : Int32) (x2 : Int32) (x3 : Int32) (x4 : Int32) (th_next : Int32) (th_token : Int32) (th_place : Int32) (th_value : Int32) (th_fault : Int32) (th_signMany : Int32) (th_setMany : Int32) (th_signs : Nat → Int32) (th_sets : Nat → Int32) (H : Heap) (locs : List Loc) (ls : Array Slot), f_X9_formula_J112 K n_th_text n_th_signs n_th_sets th_typed th_next th_token th_place th_value th_fault th_signMany th_setMany th_text th_signs th_sets x1 x2 x3 x4 = some o → va_P D vwCl (w_X9_formula tc q_th q_th_text q_th_saying q_th_signs q_th_sets q_th_told q_th_up q_th_down q_th_world q_th_tight q_th_sum q_th_now n_th_text n_th_signs n_th_sets th_thrown th_typed th_next th_token th_place th_value th_fault th_many th_signMany th_setMany th_corners th_isLoaded th_loaded th_widened th_wide th_boundUp th_boundDown th_text th_signs th_sets) H → va_D A (w_X9_formula tc q_th q_th_text q_th_saying q_th_signs q_th_sets q_th_told q_th_up q_th_down q_th_world q_th_tight q_th_sum q_th_now n_th_text n_th_signs n_th_sets th_thrown th_typed th_next th_token th_place th_value th_fault th_many th_signMany th_setMany th_corners th_isLoaded th_loaded th_widened th_wide th_boundUp th_boundDown th_text th_signs th_sets) → va_S A s.heap H locs → lv_has ls 6 [(0, .ref q_th), (1, .int x1), (2, .int x2), (3, .int x3), (4, .int x4)] → W p l e ({ frames := 2, cells := 0, slots := 0, locals := 44 } : Room) s m av below meth c H locs 0 0 (MQ below (st_Q D (w_X9_formula tc q_th q_th_text q_th_saying q_th_signs q_th_sets q_th_told q_th_up q_th_down q_th_world q_th_tight q_th_sum q_th_now n_th_text n_th_signs n_th_sets th_thrown th_typed th_next' th_token' th_place' th_value' th_fault' th_many th_signMany' th_setMany' th_corners th_isLoaded th_loaded th_widened th_wide th_boundUp th_boundDown th_text th_signs' th_sets') (some (.int r0)) A) av s 0 0 A) (F0 m 112 ls []) := by
      intro x1 x2 x3 x4 th_next th_token th_place th_value th_fault th_signMany th_setMany th_signs th_sets H locs ls h hP hD hS hl
      unfold f_X9_formula_J112 at h
      refine lv_iload_n hx hb dX9_formula_112 rfl (lv_at hl 2 rfl) ?_
      refine lv_bipush (v := (6 : Int32)) hx hb dX9_formula_113 (by decide) ?_
      refine lv_icmp_ge (tgt := 151) hx hb dX9_formula_115 (by decide) (fun c31 => ?_) (fun c31 => ?_)
      · replace h := ifp c31 h
        exact J151 x1 x2 x3 x4 th_next th_token th_place th_value th_fault th_signMany th_setMany th_signs th_sets _ _ _ h hP hD hS (lv_sub hl [0, 1, 2, 3, 4] rfl)
      · replace h := ifn c31 h
        refine lv_aload_n hx hb dX9_formula_118 rfl (lv_at hl 0 rfl) ?_
        refine va_get (D := D) (ci := 9) (v := .ref q_th_signs) (C := RX9) (T := TX9) (N := 28) hx hb hts hinX9 hown hK hP 0 rfl rfl 10 (by decide) (hts (.fieldLink RX9 16 "ChanceBoundsModel" "signs" "[I") (by decide +kernel)) (fun _ h9 => h9) rfl dX9_formula_119 ?_
        refine lv_aload_n hx hb dX9_formula_122 rfl (lv_at hl 0 rfl) ?_
        refine va_get (D := D) (ci := 9) (v := .int th_signMany) (C := RX9) (T := TX9) (N := 28) hx hb hts hinX9 hown hK hP 0 rfl rfl 12 (by decide) (hts (.fieldLink RX9 84 "ChanceBoundsModel" "signMany" "I") (by decide +kernel)) (fun _ h9 => h9) rfl dX9_formula_123 ?_
        refine lv_aload_n hx hb dX9_formula_126 rfl (lv_at hl 0 rfl) ?_
        refine va_get (D := D) (ci := 9) (v := .int th_value) (C := RX9) (T := TX9) (N := 28) hx hb hts hinX9 hown hK hP 0 rfl rfl 6 (by decide) (hts (.fieldLink RX9 74 "ChanceBoundsModel" "value" "I") (by decide +kernel)) (fun _ h9 => h9) rfl dX9_formula_127 ?_
        obtain ⟨g32, h⟩ := gd_ok h
        refine va_iast hx hb hK hP hD hS 2 0 rfl rfl g32 dX9_formula_130 (fun H locs hP hD hS => ?_)
        have hP : va_P D vwCl (w_X9_formula tc q_th q_th_text q_th_saying q_th_signs q_th_sets q_th_told q_th_up q_th_down q_th_world q_th_tight q_th_sum q_th_now n_th_text n_th_signs n_th_sets th_thrown th_typed th_next th_token th_place th_value th_fault th_many th_signMany th_setMany th_corners th_isLoaded th_loaded th_widened th_wide th_boundUp th_boundDown th_text (upd th_signs th_signMany.toNatClampNeg th_value) th_sets) H := hP
        have hD : va_D A (w_X9_formula tc q_th q_th_text q_th_saying q_th_signs q_th_sets q_th_told q_th_up q_th_down q_th_world q_th_tight q_th_sum q_th_now n_th_text n_th_signs n_th_sets th_thrown th_typed th_next th_token th_place th_value th_fault th_many th_signMany th_setMany th_corners th_isLoaded th_loaded th_widened th_wide th_boundUp th_boundDown th_text (upd th_signs th_signMany.toNatClampNeg th_value) th_sets) := hD
        refine lv_aload_n hx hb dX9_formula_131 rfl (lv_at hl 0 rfl) ?_
        refine lv_dup hx hb dX9_formula_132 rfl ?_
        refine va_get (D := D) (ci := 9) (v := .int th_signMany) (C := RX9) (T := TX9) (N := 28) hx hb hts hinX9 hown hK hP 0 rfl rfl 12 (by decide) (hts (.fieldLink RX9 84 "ChanceBoundsModel" "signMany" "I") (by decide +kernel)) (fun _ h9 => h9) rfl dX9_formula_133 ?_
        refine lv_iconst (v := (1 : Int32)) hx hb dX9_formula_136 (by decide) ?_
        refine lv_iadd hx hb dX9_formula_137 ?_
        refine va_put (D := D) (ci := 9) (v := .int (th_signMany + (1 : Int32))) (ty := .int) (C := RX9) (T := TX9) (N := 28) hx hb hts hinX9 tyX9 tyX9_ok nmX9 hown hK hP hD hS 0 rfl rfl 12 (by decide) (hts (.fieldLink RX9 84 "ChanceBoundsModel" "signMany" "I") (by decide +kernel)) (fun _ h9 => h9) rfl (by decide +kernel) rfl rfl (Nat.le_of_ble_eq_true rfl) dX9_formula_138 (fun H locs hP hD hS => ?_)
        have hP : va_P D vwCl (w_X9_formula tc q_th q_th_text q_th_saying q_th_signs q_th_sets q_th_told q_th_up q_th_down q_th_world q_th_tight q_th_sum q_th_now n_th_text n_th_signs n_th_sets th_thrown th_typed th_next th_token th_place th_value th_fault th_many (th_signMany + (1 : Int32)) th_setMany th_corners th_isLoaded th_loaded th_widened th_wide th_boundUp th_boundDown th_text (upd th_signs th_signMany.toNatClampNeg th_value) th_sets) H := hP
        have hD : va_D A (w_X9_formula tc q_th q_th_text q_th_saying q_th_signs q_th_sets q_th_told q_th_up q_th_down q_th_world q_th_tight q_th_sum q_th_now n_th_text n_th_signs n_th_sets th_thrown th_typed th_next th_token th_place th_value th_fault th_many (th_signMany + (1 : Int32)) th_setMany th_corners th_isLoaded th_loaded th_widened th_wide th_boundUp th_boundDown th_text (upd th_signs th_signMany.toNatClampNeg th_value) th_sets) := hD
        refine lv_iinc (v := x2 + 1) (lv' := [(2, .int (x2 + 1)), (0, .ref q_th), (1, .int x1), (3, .int x3), (4, .int x4)]) hx hb dX9_formula_141 hl (k := 2) rfl rfl (by decide) rfl (fun ls hl => ?_)
        refine lv_aload_n hx hb dX9_formula_144 rfl (lv_at hl 1 rfl) ?_
        obtain ⟨⟨z33_0, z33_1, z33_2, z33_3⟩, hc33, h⟩ := bd_ok h
        refine st_callV (As := []) (rest := []) (pos := [0, 1]) ⟨hx, hb, hml, hown, hts⟩ (s_X9_advances (l := l) (D := D) (tc := tc) hEok q_th q_th_text q_th_saying q_th_signs q_th_sets q_th_told q_th_up q_th_down q_th_world q_th_tight q_th_sum q_th_now n_th_text th_thrown th_typed th_next th_token th_place th_value th_fault th_many (th_signMany + (1 : Int32)) th_setMany th_corners th_isLoaded th_loaded th_widened th_wide th_boundUp th_boundDown th_text K z33_0 z33_1 z33_2 z33_3 hc33) (cwV 0 hts gX9_formula_X9_advances rfl rfl rfl (by decide +kernel) ⟨Nat.le_of_ble_eq_true rfl, Nat.le_of_ble_eq_true rfl⟩) (st_recv (ci := 9) (q0 := 0) hK hP rfl rfl) hEok hE hK hN hP hD hS hA rfl rfl rfl rfl hl.1 rfl (Nat.le_of_ble_eq_true rfl) dX9_formula_145 ⟨Nat.zero_le _, Nat.zero_le _⟩ (fun H locs hP hD hS => ?_)
        have hP : va_P D vwCl (w_X9_formula tc q_th q_th_text q_th_saying q_th_signs q_th_sets q_th_told q_th_up q_th_down q_th_world q_th_tight q_th_sum q_th_now n_th_text n_th_signs n_th_sets th_thrown th_typed z33_0 z33_1 z33_2 z33_3 th_fault th_many (th_signMany + (1 : Int32)) th_setMany th_corners th_isLoaded th_loaded th_widened th_wide th_boundUp th_boundDown th_text (upd th_signs th_signMany.toNatClampNeg th_value) th_sets) H := hP
        have hD : va_D A (w_X9_formula tc q_th q_th_text q_th_saying q_th_signs q_th_sets q_th_told q_th_up q_th_down q_th_world q_th_tight q_th_sum q_th_now n_th_text n_th_signs n_th_sets th_thrown th_typed z33_0 z33_1 z33_2 z33_3 th_fault th_many (th_signMany + (1 : Int32)) th_setMany th_corners th_isLoaded th_loaded th_widened th_wide th_boundUp th_boundDown th_text (upd th_signs th_signMany.toNatClampNeg th_value) th_sets) := hD
        refine lv_goto (tgt := 329) hx hb dX9_formula_148 (by decide) ?_
        obtain ⟨⟨z34_0, z34_1, z34_2⟩, hl34, h⟩ := bd_ok h
        refine L329 x1 x3 x4 z33_0 z33_1 z33_2 z33_3 th_fault th_setMany (upd th_signs th_signMany.toNatClampNeg th_value) K _ _ hl34 ?_ _ _ _ hP hD hS (lv_sub hl [1, 2, 0, 3, 4] rfl)
        intro H locs ls hP hD hS hl
        cases h
        exact ih _ rfl _ _ _ hP hD hS (lv_sub hl [0, 1, 2, 3, 4] rfl)
    have J94 : ∀ (x1 : Int32) (x2 : Int32) (x3 : Int32) (x4 : Int32) (th_next : Int32) (th_token : Int32) (th_place : Int32) (th_value : Int32) (th_fault : Int32) (th_signMany : Int32) (th_setMany : Int32) (th_signs : Nat → Int32) (th_sets : Nat → Int32) (H : Heap) (locs : List Loc) (ls : Array Slot), f_X9_formula_J94 K n_th_text n_th_signs n_th_sets th_typed th_next th_token th_place th_value th_fault th_signMany th_setMany th_text th_signs th_sets x1 x2 x3 x4 = some o → va_P D vwCl (w_X9_formula tc q_th q_th_text q_th_saying q_th_signs q_th_sets q_th_told q_th_up q_th_down q_th_world q_th_tight q_th_sum q_th_now n_th_text n_th_signs n_th_sets th_thrown th_typed th_next th_token th_place th_value th_fault th_many th_signMany th_setMany th_corners th_isLoaded th_loaded th_widened th_wide th_boundUp th_boundDown th_text th_signs th_sets) H → va_D A (w_X9_formula tc q_th q_th_text q_th_saying q_th_signs q_th_sets q_th_told q_th_up q_th_down q_th_world q_th_tight q_th_sum q_th_now n_th_text n_th_signs n_th_sets th_thrown th_typed th_next th_token th_place th_value th_fault th_many th_signMany th_setMany th_corners th_isLoaded th_loaded th_widened th_wide th_boundUp th_boundDown th_text th_signs th_sets) → va_S A s.heap H locs → lv_has ls 6 [(0, .ref q_th), (1, .int x1), (2, .int x2), (3, .int x3), (4, .int x4)] → W p l e ({ frames := 2, cells := 0, slots := 0, locals := 44 } : Room) s m av below meth c H locs 0 0 (MQ below (st_Q D (w_X9_formula tc q_th q_th_text q_th_saying q_th_signs q_th_sets q_th_told q_th_up q_th_down q_th_world q_th_tight q_th_sum q_th_now n_th_text n_th_signs n_th_sets th_thrown th_typed th_next' th_token' th_place' th_value' th_fault' th_many th_signMany' th_setMany' th_corners th_isLoaded th_loaded th_widened th_wide th_boundUp th_boundDown th_text th_signs' th_sets') (some (.int r0)) A) av s 0 0 A) (F0 m 94 ls []) := by
      intro x1 x2 x3 x4 th_next th_token th_place th_value th_fault th_signMany th_setMany th_signs th_sets H locs ls h hP hD hS hl
      unfold f_X9_formula_J94 at h
      refine lv_aload_n hx hb dX9_formula_94 rfl (lv_at hl 0 rfl) ?_
      refine lv_bipush (v := (33 : Int32)) hx hb dX9_formula_95 (by decide) ?_
      obtain ⟨z35_0, hc35, h⟩ := bd_ok h
      refine st_callV (As := [.int (33 : Int32)]) (rest := []) (pos := [0]) ⟨hx, hb, hml, hown, hts⟩ (s_X9_isSign (l := l) (D := D) (tc := tc) hEok q_th q_th_text q_th_saying q_th_signs q_th_sets q_th_told q_th_up q_th_down q_th_world q_th_tight q_th_sum q_th_now th_thrown th_typed th_next th_token th_place th_value th_fault th_many th_signMany th_setMany th_corners th_isLoaded th_loaded th_widened th_wide th_boundUp th_boundDown (33 : Int32) z35_0 hc35) (cwV 1 hts gX9_formula_X9_isSign rfl rfl rfl (by decide +kernel) ⟨Nat.le_of_ble_eq_true rfl, Nat.le_of_ble_eq_true rfl⟩) (st_recv (ci := 9) (q0 := 0) hK hP rfl rfl) hEok hE hK hN hP hD hS hA rfl rfl rfl rfl hl.1 rfl (Nat.le_of_ble_eq_true rfl) dX9_formula_97 ⟨Nat.zero_le _, Nat.zero_le _⟩ (fun H locs hP hD hS => ?_)
      have hP : va_P D vwCl (w_X9_formula tc q_th q_th_text q_th_saying q_th_signs q_th_sets q_th_told q_th_up q_th_down q_th_world q_th_tight q_th_sum q_th_now n_th_text n_th_signs n_th_sets th_thrown th_typed th_next th_token th_place th_value th_fault th_many th_signMany th_setMany th_corners th_isLoaded th_loaded th_widened th_wide th_boundUp th_boundDown th_text th_signs th_sets) H := hP
      have hD : va_D A (w_X9_formula tc q_th q_th_text q_th_saying q_th_signs q_th_sets q_th_told q_th_up q_th_down q_th_world q_th_tight q_th_sum q_th_now n_th_text n_th_signs n_th_sets th_thrown th_typed th_next th_token th_place th_value th_fault th_many th_signMany th_setMany th_corners th_isLoaded th_loaded th_widened th_wide th_boundUp th_boundDown th_text th_signs th_sets) := hD
      refine lv_if_ne (tgt := 112) hx hb dX9_formula_100 (by decide) (fun c36 => ?_) (fun c36 => ?_)
      · replace h := ifn c36 h
        exact J112 x1 x2 x3 x4 th_next th_token th_place th_value th_fault th_signMany th_setMany th_signs th_sets _ _ _ h hP hD hS (lv_sub hl [0, 1, 2, 3, 4] rfl)
      · replace h := ifp c36 h
        refine lv_aload_n hx hb dX9_formula_103 rfl (lv_at hl 0 rfl) ?_
        refine lv_bipush (v := (40 : Int32)) hx hb dX9_formula_104 (by decide) ?_
        obtain ⟨z37_0, hc37, h⟩ := bd_ok h
        refine st_callV (As := [.int (40 : Int32)]) (rest := []) (pos := [0]) ⟨hx, hb, hml, hown, hts⟩ (s_X9_isSign (l := l) (D := D) (tc := tc) hEok q_th q_th_text q_th_saying q_th_signs q_th_sets q_th_told q_th_up q_th_down q_th_world q_th_tight q_th_sum q_th_now th_thrown th_typed th_next th_token th_place th_value th_fault th_many th_signMany th_setMany th_corners th_isLoaded th_loaded th_widened th_wide th_boundUp th_boundDown (40 : Int32) z37_0 hc37) (cwV 1 hts gX9_formula_X9_isSign rfl rfl rfl (by decide +kernel) ⟨Nat.le_of_ble_eq_true rfl, Nat.le_of_ble_eq_true rfl⟩) (st_recv (ci := 9) (q0 := 0) hK hP rfl rfl) hEok hE hK hN hP hD hS hA rfl rfl rfl rfl hl.1 rfl (Nat.le_of_ble_eq_true rfl) dX9_formula_106 ⟨Nat.zero_le _, Nat.zero_le _⟩ (fun H locs hP hD hS => ?_)
        have hP : va_P D vwCl (w_X9_formula tc q_th q_th_text q_th_saying q_th_signs q_th_sets q_th_told q_th_up q_th_down q_th_world q_th_tight q_th_sum q_th_now n_th_text n_th_signs n_th_sets th_thrown th_typed th_next th_token th_place th_value th_fault th_many th_signMany th_setMany th_corners th_isLoaded th_loaded th_widened th_wide th_boundUp th_boundDown th_text th_signs th_sets) H := hP
        have hD : va_D A (w_X9_formula tc q_th q_th_text q_th_saying q_th_signs q_th_sets q_th_told q_th_up q_th_down q_th_world q_th_tight q_th_sum q_th_now n_th_text n_th_signs n_th_sets th_thrown th_typed th_next th_token th_place th_value th_fault th_many th_signMany th_setMany th_corners th_isLoaded th_loaded th_widened th_wide th_boundUp th_boundDown th_text th_signs th_sets) := hD
        refine lv_if_eq (tgt := 151) hx hb dX9_formula_109 (by decide) (fun c38 => ?_) (fun c38 => ?_)
        · replace h := ifp c38 h
          exact J151 x1 x2 x3 x4 th_next th_token th_place th_value th_fault th_signMany th_setMany th_signs th_sets _ _ _ h hP hD hS (lv_sub hl [0, 1, 2, 3, 4] rfl)
        · replace h := ifn c38 h
          exact J112 x1 x2 x3 x4 th_next th_token th_place th_value th_fault th_signMany th_setMany th_signs th_sets _ _ _ h hP hD hS (lv_sub hl [0, 1, 2, 3, 4] rfl)
    unfold f_X9_formula_L19 at h
    refine lv_iload hx hb dX9_formula_19 (lv_at hl 4 rfl) ?_
    refine lv_if_eq (tgt := 400) hx hb dX9_formula_21 (by decide) (fun c39 => ?_) (fun c39 => ?_)
    · replace h := ifp c39 h
      cases h
      exact hz _ rfl _ _ _ hP hD hS (lv_sub hl [0] rfl)
    · replace h := ifn c39 h
      refine lv_aload_n hx hb dX9_formula_24 rfl (lv_at hl 0 rfl) ?_
      obtain ⟨z40_0, hc40, h⟩ := bd_ok h
      refine st_callV (As := []) (rest := []) (pos := [0]) ⟨hx, hb, hml, hown, hts⟩ (s_X9_isWell (l := l) (D := D) (tc := tc) hEok q_th q_th_text q_th_saying q_th_signs q_th_sets q_th_told q_th_up q_th_down q_th_world q_th_tight q_th_sum q_th_now th_thrown th_typed th_next th_token th_place th_value th_fault th_many th_signMany th_setMany th_corners th_isLoaded th_loaded th_widened th_wide th_boundUp th_boundDown z40_0 hc40) (cwV 0 hts gX9_formula_X9_isWell rfl rfl rfl (by decide +kernel) ⟨Nat.le_of_ble_eq_true rfl, Nat.le_of_ble_eq_true rfl⟩) (st_recv (ci := 9) (q0 := 0) hK hP rfl rfl) hEok hE hK hN hP hD hS hA rfl rfl rfl rfl hl.1 rfl (Nat.le_of_ble_eq_true rfl) dX9_formula_25 ⟨Nat.zero_le _, Nat.zero_le _⟩ (fun H locs hP hD hS => ?_)
      have hP : va_P D vwCl (w_X9_formula tc q_th q_th_text q_th_saying q_th_signs q_th_sets q_th_told q_th_up q_th_down q_th_world q_th_tight q_th_sum q_th_now n_th_text n_th_signs n_th_sets th_thrown th_typed th_next th_token th_place th_value th_fault th_many th_signMany th_setMany th_corners th_isLoaded th_loaded th_widened th_wide th_boundUp th_boundDown th_text th_signs th_sets) H := hP
      have hD : va_D A (w_X9_formula tc q_th q_th_text q_th_saying q_th_signs q_th_sets q_th_told q_th_up q_th_down q_th_world q_th_tight q_th_sum q_th_now n_th_text n_th_signs n_th_sets th_thrown th_typed th_next th_token th_place th_value th_fault th_many th_signMany th_setMany th_corners th_isLoaded th_loaded th_widened th_wide th_boundUp th_boundDown th_text th_signs th_sets) := hD
      refine lv_if_eq (tgt := 400) hx hb dX9_formula_28 (by decide) (fun c41 => ?_) (fun c41 => ?_)
      · replace h := ifp c41 h
        cases h
        exact hz _ rfl _ _ _ hP hD hS (lv_sub hl [0] rfl)
      · replace h := ifn c41 h
        refine lv_iload_n hx hb dX9_formula_31 rfl (lv_at hl 3 rfl) ?_
        refine lv_if_eq (tgt := 158) hx hb dX9_formula_32 (by decide) (fun c42 => ?_) (fun c42 => ?_)
        · replace h := ifp c42 h
          refine lv_aload_n hx hb dX9_formula_158 rfl (lv_at hl 0 rfl) ?_
          refine lv_bipush (v := (38 : Int32)) hx hb dX9_formula_159 (by decide) ?_
          obtain ⟨z43_0, hc43, h⟩ := bd_ok h
          refine st_callV (As := [.int (38 : Int32)]) (rest := []) (pos := [0]) ⟨hx, hb, hml, hown, hts⟩ (s_X9_isSign (l := l) (D := D) (tc := tc) hEok q_th q_th_text q_th_saying q_th_signs q_th_sets q_th_told q_th_up q_th_down q_th_world q_th_tight q_th_sum q_th_now th_thrown th_typed th_next th_token th_place th_value th_fault th_many th_signMany th_setMany th_corners th_isLoaded th_loaded th_widened th_wide th_boundUp th_boundDown (38 : Int32) z43_0 hc43) (cwV 1 hts gX9_formula_X9_isSign rfl rfl rfl (by decide +kernel) ⟨Nat.le_of_ble_eq_true rfl, Nat.le_of_ble_eq_true rfl⟩) (st_recv (ci := 9) (q0 := 0) hK hP rfl rfl) hEok hE hK hN hP hD hS hA rfl rfl rfl rfl hl.1 rfl (Nat.le_of_ble_eq_true rfl) dX9_formula_161 ⟨Nat.zero_le _, Nat.zero_le _⟩ (fun H locs hP hD hS => ?_)
          have hP : va_P D vwCl (w_X9_formula tc q_th q_th_text q_th_saying q_th_signs q_th_sets q_th_told q_th_up q_th_down q_th_world q_th_tight q_th_sum q_th_now n_th_text n_th_signs n_th_sets th_thrown th_typed th_next th_token th_place th_value th_fault th_many th_signMany th_setMany th_corners th_isLoaded th_loaded th_widened th_wide th_boundUp th_boundDown th_text th_signs th_sets) H := hP
          have hD : va_D A (w_X9_formula tc q_th q_th_text q_th_saying q_th_signs q_th_sets q_th_told q_th_up q_th_down q_th_world q_th_tight q_th_sum q_th_now n_th_text n_th_signs n_th_sets th_thrown th_typed th_next th_token th_place th_value th_fault th_many th_signMany th_setMany th_corners th_isLoaded th_loaded th_widened th_wide th_boundUp th_boundDown th_text th_signs th_sets) := hD
          refine lv_if_ne (tgt := 176) hx hb dX9_formula_164 (by decide) (fun c44 => ?_) (fun c44 => ?_)
          · replace h := ifn c44 h
            exact J176 x1 x2 x4 th_next th_token th_place th_value th_fault th_signMany th_setMany th_signs th_sets _ _ _ h hP hD hS (lv_sub hl [0, 1, 2, 4] rfl)
          · replace h := ifp c44 h
            refine lv_aload_n hx hb dX9_formula_167 rfl (lv_at hl 0 rfl) ?_
            refine lv_bipush (v := (124 : Int32)) hx hb dX9_formula_168 (by decide) ?_
            obtain ⟨z45_0, hc45, h⟩ := bd_ok h
            refine st_callV (As := [.int (124 : Int32)]) (rest := []) (pos := [0]) ⟨hx, hb, hml, hown, hts⟩ (s_X9_isSign (l := l) (D := D) (tc := tc) hEok q_th q_th_text q_th_saying q_th_signs q_th_sets q_th_told q_th_up q_th_down q_th_world q_th_tight q_th_sum q_th_now th_thrown th_typed th_next th_token th_place th_value th_fault th_many th_signMany th_setMany th_corners th_isLoaded th_loaded th_widened th_wide th_boundUp th_boundDown (124 : Int32) z45_0 hc45) (cwV 1 hts gX9_formula_X9_isSign rfl rfl rfl (by decide +kernel) ⟨Nat.le_of_ble_eq_true rfl, Nat.le_of_ble_eq_true rfl⟩) (st_recv (ci := 9) (q0 := 0) hK hP rfl rfl) hEok hE hK hN hP hD hS hA rfl rfl rfl rfl hl.1 rfl (Nat.le_of_ble_eq_true rfl) dX9_formula_170 ⟨Nat.zero_le _, Nat.zero_le _⟩ (fun H locs hP hD hS => ?_)
            have hP : va_P D vwCl (w_X9_formula tc q_th q_th_text q_th_saying q_th_signs q_th_sets q_th_told q_th_up q_th_down q_th_world q_th_tight q_th_sum q_th_now n_th_text n_th_signs n_th_sets th_thrown th_typed th_next th_token th_place th_value th_fault th_many th_signMany th_setMany th_corners th_isLoaded th_loaded th_widened th_wide th_boundUp th_boundDown th_text th_signs th_sets) H := hP
            have hD : va_D A (w_X9_formula tc q_th q_th_text q_th_saying q_th_signs q_th_sets q_th_told q_th_up q_th_down q_th_world q_th_tight q_th_sum q_th_now n_th_text n_th_signs n_th_sets th_thrown th_typed th_next th_token th_place th_value th_fault th_many th_signMany th_setMany th_corners th_isLoaded th_loaded th_widened th_wide th_boundUp th_boundDown th_text th_signs th_sets) := hD
            refine lv_if_eq (tgt := 265) hx hb dX9_formula_173 (by decide) (fun c46 => ?_) (fun c46 => ?_)
            · replace h := ifp c46 h
              refine lv_aload_n hx hb dX9_formula_265 rfl (lv_at hl 0 rfl) ?_
              refine lv_bipush (v := (41 : Int32)) hx hb dX9_formula_266 (by decide) ?_
              obtain ⟨z47_0, hc47, h⟩ := bd_ok h
              refine st_callV (As := [.int (41 : Int32)]) (rest := []) (pos := [0]) ⟨hx, hb, hml, hown, hts⟩ (s_X9_isSign (l := l) (D := D) (tc := tc) hEok q_th q_th_text q_th_saying q_th_signs q_th_sets q_th_told q_th_up q_th_down q_th_world q_th_tight q_th_sum q_th_now th_thrown th_typed th_next th_token th_place th_value th_fault th_many th_signMany th_setMany th_corners th_isLoaded th_loaded th_widened th_wide th_boundUp th_boundDown (41 : Int32) z47_0 hc47) (cwV 1 hts gX9_formula_X9_isSign rfl rfl rfl (by decide +kernel) ⟨Nat.le_of_ble_eq_true rfl, Nat.le_of_ble_eq_true rfl⟩) (st_recv (ci := 9) (q0 := 0) hK hP rfl rfl) hEok hE hK hN hP hD hS hA rfl rfl rfl rfl hl.1 rfl (Nat.le_of_ble_eq_true rfl) dX9_formula_268 ⟨Nat.zero_le _, Nat.zero_le _⟩ (fun H locs hP hD hS => ?_)
              have hP : va_P D vwCl (w_X9_formula tc q_th q_th_text q_th_saying q_th_signs q_th_sets q_th_told q_th_up q_th_down q_th_world q_th_tight q_th_sum q_th_now n_th_text n_th_signs n_th_sets th_thrown th_typed th_next th_token th_place th_value th_fault th_many th_signMany th_setMany th_corners th_isLoaded th_loaded th_widened th_wide th_boundUp th_boundDown th_text th_signs th_sets) H := hP
              have hD : va_D A (w_X9_formula tc q_th q_th_text q_th_saying q_th_signs q_th_sets q_th_told q_th_up q_th_down q_th_world q_th_tight q_th_sum q_th_now n_th_text n_th_signs n_th_sets th_thrown th_typed th_next th_token th_place th_value th_fault th_many th_signMany th_setMany th_corners th_isLoaded th_loaded th_widened th_wide th_boundUp th_boundDown th_text th_signs th_sets) := hD
              refine lv_if_eq (tgt := 326) hx hb dX9_formula_271 (by decide) (fun c48 => ?_) (fun c48 => ?_)
              · replace h := ifp c48 h
                exact J326 x1 x2 x3 th_next th_token th_place th_value th_fault th_signMany th_setMany th_signs th_sets _ _ _ h hP hD hS (lv_sub hl [0, 1, 2, 3] rfl)
              · replace h := ifn c48 h
                refine lv_aload_n hx hb dX9_formula_274 rfl (lv_at hl 0 rfl) ?_
                obtain ⟨z49_0, hc49, h⟩ := bd_ok h
                refine st_callV (As := []) (rest := []) (pos := [0, 2]) ⟨hx, hb, hml, hown, hts⟩ (s_X9_bracket (l := l) (D := D) (tc := tc) hEok q_th q_th_text q_th_saying q_th_signs q_th_sets q_th_told q_th_up q_th_down q_th_world q_th_tight q_th_sum q_th_now n_th_signs th_thrown th_typed th_next th_token th_place th_value th_fault th_many th_signMany th_setMany th_corners th_isLoaded th_loaded th_widened th_wide th_boundUp th_boundDown th_signs K z49_0 hc49) (cwV 0 hts gX9_formula_X9_bracket rfl rfl rfl (by decide +kernel) ⟨Nat.le_of_ble_eq_true rfl, Nat.le_of_ble_eq_true rfl⟩) (st_recv (ci := 9) (q0 := 0) hK hP rfl rfl) hEok hE hK hN hP hD hS hA rfl rfl rfl rfl hl.1 rfl (Nat.le_of_ble_eq_true rfl) dX9_formula_275 ⟨Nat.zero_le _, Nat.zero_le _⟩ (fun H locs hP hD hS => ?_)
                have hP : va_P D vwCl (w_X9_formula tc q_th q_th_text q_th_saying q_th_signs q_th_sets q_th_told q_th_up q_th_down q_th_world q_th_tight q_th_sum q_th_now n_th_text n_th_signs n_th_sets th_thrown th_typed th_next th_token th_place th_value th_fault th_many th_signMany th_setMany th_corners th_isLoaded th_loaded th_widened th_wide th_boundUp th_boundDown th_text th_signs th_sets) H := hP
                have hD : va_D A (w_X9_formula tc q_th q_th_text q_th_saying q_th_signs q_th_sets q_th_told q_th_up q_th_down q_th_world q_th_tight q_th_sum q_th_now n_th_text n_th_signs n_th_sets th_thrown th_typed th_next th_token th_place th_value th_fault th_many th_signMany th_setMany th_corners th_isLoaded th_loaded th_widened th_wide th_boundUp th_boundDown th_text th_signs th_sets) := hD
                refine lv_bipush (v := (-9 : Int32)) hx hb dX9_formula_278 (by decide) ?_
                refine lv_icmp_eq (tgt := 326) hx hb dX9_formula_280 (by decide) (fun c50 => ?_) (fun c50 => ?_)
                · replace h := ifp c50 h
                  exact J326 x1 x2 x3 th_next th_token th_place th_value th_fault th_signMany th_setMany th_signs th_sets _ _ _ h hP hD hS (lv_sub hl [0, 1, 2, 3] rfl)
                · replace h := ifn c50 h
                  obtain ⟨⟨z51_0, z51_1, z51_2⟩, hl51, h⟩ := bd_ok h
                  refine L283 x1 x2 x3 x4 th_next th_token th_place th_value th_fault th_signs K _ _ hl51 ?_ _ _ _ hP hD hS (lv_sub hl [0, 1, 2, 3, 4] rfl)
                  intro H locs ls hP hD hS hl
                  refine lv_aload_n hx hb dX9_formula_306 rfl (lv_at hl 0 rfl) ?_
                  refine lv_dup hx hb dX9_formula_307 rfl ?_
                  refine va_get (D := D) (ci := 9) (v := .int z51_0) (C := RX9) (T := TX9) (N := 28) hx hb hts hinX9 hown hK hP 0 rfl rfl 12 (by decide) (hts (.fieldLink RX9 84 "ChanceBoundsModel" "signMany" "I") (by decide +kernel)) (fun _ h9 => h9) rfl dX9_formula_308 ?_
                  refine lv_iconst (v := (1 : Int32)) hx hb dX9_formula_311 (by decide) ?_
                  refine lv_isub hx hb dX9_formula_312 ?_
                  refine va_put (D := D) (ci := 9) (v := .int (z51_0 - (1 : Int32))) (ty := .int) (C := RX9) (T := TX9) (N := 28) hx hb hts hinX9 tyX9 tyX9_ok nmX9 hown hK hP hD hS 0 rfl rfl 12 (by decide) (hts (.fieldLink RX9 84 "ChanceBoundsModel" "signMany" "I") (by decide +kernel)) (fun _ h9 => h9) rfl (by decide +kernel) rfl rfl (Nat.le_of_ble_eq_true rfl) dX9_formula_313 (fun H locs hP hD hS => ?_)
                  have hP : va_P D vwCl (w_X9_formula tc q_th q_th_text q_th_saying q_th_signs q_th_sets q_th_told q_th_up q_th_down q_th_world q_th_tight q_th_sum q_th_now n_th_text n_th_signs n_th_sets th_thrown th_typed th_next th_token th_place th_value th_fault th_many (z51_0 - (1 : Int32)) z51_1 th_corners th_isLoaded th_loaded th_widened th_wide th_boundUp th_boundDown th_text th_signs z51_2) H := hP
                  have hD : va_D A (w_X9_formula tc q_th q_th_text q_th_saying q_th_signs q_th_sets q_th_told q_th_up q_th_down q_th_world q_th_tight q_th_sum q_th_now n_th_text n_th_signs n_th_sets th_thrown th_typed th_next th_token th_place th_value th_fault th_many (z51_0 - (1 : Int32)) z51_1 th_corners th_isLoaded th_loaded th_widened th_wide th_boundUp th_boundDown th_text th_signs z51_2) := hD
                  refine lv_iinc (v := x2 + (-1)) (lv' := [(2, .int (x2 + (-1))), (0, .ref q_th), (1, .int x1), (3, .int x3), (4, .int x4)]) hx hb dX9_formula_316 hl (k := 2) rfl rfl (by decide) rfl (fun ls hl => ?_)
                  refine lv_aload_n hx hb dX9_formula_319 rfl (lv_at hl 1 rfl) ?_
                  obtain ⟨⟨z52_0, z52_1, z52_2, z52_3⟩, hc52, h⟩ := bd_ok h
                  refine st_callV (As := []) (rest := []) (pos := [0, 1]) ⟨hx, hb, hml, hown, hts⟩ (s_X9_advances (l := l) (D := D) (tc := tc) hEok q_th q_th_text q_th_saying q_th_signs q_th_sets q_th_told q_th_up q_th_down q_th_world q_th_tight q_th_sum q_th_now n_th_text th_thrown th_typed th_next th_token th_place th_value th_fault th_many (z51_0 - (1 : Int32)) z51_1 th_corners th_isLoaded th_loaded th_widened th_wide th_boundUp th_boundDown th_text K z52_0 z52_1 z52_2 z52_3 hc52) (cwV 0 hts gX9_formula_X9_advances rfl rfl rfl (by decide +kernel) ⟨Nat.le_of_ble_eq_true rfl, Nat.le_of_ble_eq_true rfl⟩) (st_recv (ci := 9) (q0 := 0) hK hP rfl rfl) hEok hE hK hN hP hD hS hA rfl rfl rfl rfl hl.1 rfl (Nat.le_of_ble_eq_true rfl) dX9_formula_320 ⟨Nat.zero_le _, Nat.zero_le _⟩ (fun H locs hP hD hS => ?_)
                  have hP : va_P D vwCl (w_X9_formula tc q_th q_th_text q_th_saying q_th_signs q_th_sets q_th_told q_th_up q_th_down q_th_world q_th_tight q_th_sum q_th_now n_th_text n_th_signs n_th_sets th_thrown th_typed z52_0 z52_1 z52_2 z52_3 th_fault th_many (z51_0 - (1 : Int32)) z51_1 th_corners th_isLoaded th_loaded th_widened th_wide th_boundUp th_boundDown th_text th_signs z51_2) H := hP
                  have hD : va_D A (w_X9_formula tc q_th q_th_text q_th_saying q_th_signs q_th_sets q_th_told q_th_up q_th_down q_th_world q_th_tight q_th_sum q_th_now n_th_text n_th_signs n_th_sets th_thrown th_typed z52_0 z52_1 z52_2 z52_3 th_fault th_many (z51_0 - (1 : Int32)) z51_1 th_corners th_isLoaded th_loaded th_widened th_wide th_boundUp th_boundDown th_text th_signs z51_2) := hD
                  refine lv_goto (tgt := 329) hx hb dX9_formula_323 (by decide) ?_
                  obtain ⟨⟨z53_0, z53_1, z53_2⟩, hl53, h⟩ := bd_ok h
                  refine L329 x1 x3 x4 z52_0 z52_1 z52_2 z52_3 th_fault z51_1 th_signs K _ _ hl53 ?_ _ _ _ hP hD hS (lv_sub hl [1, 2, 0, 3, 4] rfl)
                  intro H locs ls hP hD hS hl
                  cases h
                  exact ih _ rfl _ _ _ hP hD hS (lv_sub hl [0, 1, 2, 3, 4] rfl)
            · replace h := ifn c46 h
              exact J176 x1 x2 x4 th_next th_token th_place th_value th_fault th_signMany th_setMany th_signs th_sets _ _ _ h hP hD hS (lv_sub hl [0, 1, 2, 4] rfl)
        · replace h := ifn c42 h
          refine lv_aload_n hx hb dX9_formula_35 rfl (lv_at hl 0 rfl) ?_
          obtain ⟨z54_0, hc54, h⟩ := bd_ok h
          refine st_callV (As := []) (rest := []) (pos := [0]) ⟨hx, hb, hml, hown, hts⟩ (s_X9_isWell (l := l) (D := D) (tc := tc) hEok q_th q_th_text q_th_saying q_th_signs q_th_sets q_th_told q_th_up q_th_down q_th_world q_th_tight q_th_sum q_th_now th_thrown th_typed th_next th_token th_place th_value th_fault th_many th_signMany th_setMany th_corners th_isLoaded th_loaded th_widened th_wide th_boundUp th_boundDown z54_0 hc54) (cwV 0 hts gX9_formula_X9_isWell rfl rfl rfl (by decide +kernel) ⟨Nat.le_of_ble_eq_true rfl, Nat.le_of_ble_eq_true rfl⟩) (st_recv (ci := 9) (q0 := 0) hK hP rfl rfl) hEok hE hK hN hP hD hS hA rfl rfl rfl rfl hl.1 rfl (Nat.le_of_ble_eq_true rfl) dX9_formula_36 ⟨Nat.zero_le _, Nat.zero_le _⟩ (fun H locs hP hD hS => ?_)
          have hP : va_P D vwCl (w_X9_formula tc q_th q_th_text q_th_saying q_th_signs q_th_sets q_th_told q_th_up q_th_down q_th_world q_th_tight q_th_sum q_th_now n_th_text n_th_signs n_th_sets th_thrown th_typed th_next th_token th_place th_value th_fault th_many th_signMany th_setMany th_corners th_isLoaded th_loaded th_widened th_wide th_boundUp th_boundDown th_text th_signs th_sets) H := hP
          have hD : va_D A (w_X9_formula tc q_th q_th_text q_th_saying q_th_signs q_th_sets q_th_told q_th_up q_th_down q_th_world q_th_tight q_th_sum q_th_now n_th_text n_th_signs n_th_sets th_thrown th_typed th_next th_token th_place th_value th_fault th_many th_signMany th_setMany th_corners th_isLoaded th_loaded th_widened th_wide th_boundUp th_boundDown th_text th_signs th_sets) := hD
          refine lv_if_eq (tgt := 94) hx hb dX9_formula_39 (by decide) (fun c55 => ?_) (fun c55 => ?_)
          · replace h := ifp c55 h
            exact J94 x1 x2 x3 x4 th_next th_token th_place th_value th_fault th_signMany th_setMany th_signs th_sets _ _ _ h hP hD hS (lv_sub hl [0, 1, 2, 3, 4] rfl)
          · replace h := ifn c55 h
            refine lv_aload_n hx hb dX9_formula_42 rfl (lv_at hl 0 rfl) ?_
            refine va_get (D := D) (ci := 9) (v := .int th_token) (C := RX9) (T := TX9) (N := 28) hx hb hts hinX9 hown hK hP 0 rfl rfl 4 (by decide) (hts (.fieldLink RX9 71 "ChanceBoundsModel" "token" "I") (by decide +kernel)) (fun _ h9 => h9) rfl dX9_formula_43 ?_
            refine lv_iconst (v := (1 : Int32)) hx hb dX9_formula_46 (by decide) ?_
            refine lv_icmp_ne (tgt := 94) hx hb dX9_formula_47 (by decide) (fun c56 => ?_) (fun c56 => ?_)
            · replace h := ifn c56 h
              exact J94 x1 x2 x3 x4 th_next th_token th_place th_value th_fault th_signMany th_setMany th_signs th_sets _ _ _ h hP hD hS (lv_sub hl [0, 1, 2, 3, 4] rfl)
            · replace h := ifp c56 h
              refine lv_iload_n hx hb dX9_formula_50 rfl (lv_at hl 1 rfl) ?_
              refine lv_bipush (v := (12 : Int32)) hx hb dX9_formula_51 (by decide) ?_
              refine lv_icmp_ge (tgt := 94) hx hb dX9_formula_53 (by decide) (fun c57 => ?_) (fun c57 => ?_)
              · replace h := ifp c57 h
                exact J94 x1 x2 x3 x4 th_next th_token th_place th_value th_fault th_signMany th_setMany th_signs th_sets _ _ _ h hP hD hS (lv_sub hl [0, 1, 2, 3, 4] rfl)
              · replace h := ifn c57 h
                refine lv_aload_n hx hb dX9_formula_56 rfl (lv_at hl 0 rfl) ?_
                refine va_get (D := D) (ci := 9) (v := .ref q_th_sets) (C := RX9) (T := TX9) (N := 28) hx hb hts hinX9 hown hK hP 0 rfl rfl 11 (by decide) (hts (.fieldLink RX9 19 "ChanceBoundsModel" "sets" "[I") (by decide +kernel)) (fun _ h9 => h9) rfl dX9_formula_57 ?_
                refine lv_aload_n hx hb dX9_formula_60 rfl (lv_at hl 0 rfl) ?_
                refine va_get (D := D) (ci := 9) (v := .int th_setMany) (C := RX9) (T := TX9) (N := 28) hx hb hts hinX9 hown hK hP 0 rfl rfl 13 (by decide) (hts (.fieldLink RX9 87 "ChanceBoundsModel" "setMany" "I") (by decide +kernel)) (fun _ h9 => h9) rfl dX9_formula_61 ?_
                refine lv_aload_n hx hb dX9_formula_64 rfl (lv_at hl 0 rfl) ?_
                refine va_get (D := D) (ci := 9) (v := .int th_value) (C := RX9) (T := TX9) (N := 28) hx hb hts hinX9 hown hK hP 0 rfl rfl 6 (by decide) (hts (.fieldLink RX9 74 "ChanceBoundsModel" "value" "I") (by decide +kernel)) (fun _ h9 => h9) rfl dX9_formula_65 ?_
                obtain ⟨z58_0, hc58, h⟩ := bd_ok h
                refine st_callS (As := [.int th_value]) (rest := [.int th_setMany, .ref q_th_sets]) (pos := []) ⟨hx, hb, hml, hown, hts⟩ (s_X9_letter (l := l) (D := D) (tc := tc) hEok th_value z58_0 hc58) (va_cwS 1 hts gX9_formula_X9_letter rfl rfl rfl (by decide +kernel) ⟨Nat.le_of_ble_eq_true rfl, Nat.le_of_ble_eq_true rfl⟩) hEok hE hK hN hP hD hS hA rfl rfl rfl rfl hl.1 rfl (Nat.le_of_ble_eq_true rfl) dX9_formula_68 ⟨Nat.zero_le _, Nat.zero_le _⟩ (fun H locs hP hD hS => ?_)
                have hP : va_P D vwCl (w_X9_formula tc q_th q_th_text q_th_saying q_th_signs q_th_sets q_th_told q_th_up q_th_down q_th_world q_th_tight q_th_sum q_th_now n_th_text n_th_signs n_th_sets th_thrown th_typed th_next th_token th_place th_value th_fault th_many th_signMany th_setMany th_corners th_isLoaded th_loaded th_widened th_wide th_boundUp th_boundDown th_text th_signs th_sets) H := hP
                have hD : va_D A (w_X9_formula tc q_th q_th_text q_th_saying q_th_signs q_th_sets q_th_told q_th_up q_th_down q_th_world q_th_tight q_th_sum q_th_now n_th_text n_th_signs n_th_sets th_thrown th_typed th_next th_token th_place th_value th_fault th_many th_signMany th_setMany th_corners th_isLoaded th_loaded th_widened th_wide th_boundUp th_boundDown th_text th_signs th_sets) := hD
                obtain ⟨g59, h⟩ := gd_ok h
                refine va_iast hx hb hK hP hD hS 3 0 rfl rfl g59 dX9_formula_71 (fun H locs hP hD hS => ?_)
                have hP : va_P D vwCl (w_X9_formula tc q_th q_th_text q_th_saying q_th_signs q_th_sets q_th_told q_th_up q_th_down q_th_world q_th_tight q_th_sum q_th_now n_th_text n_th_signs n_th_sets th_thrown th_typed th_next th_token th_place th_value th_fault th_many th_signMany th_setMany th_corners th_isLoaded th_loaded th_widened th_wide th_boundUp th_boundDown th_text th_signs (upd th_sets th_setMany.toNatClampNeg z58_0)) H := hP
                have hD : va_D A (w_X9_formula tc q_th q_th_text q_th_saying q_th_signs q_th_sets q_th_told q_th_up q_th_down q_th_world q_th_tight q_th_sum q_th_now n_th_text n_th_signs n_th_sets th_thrown th_typed th_next th_token th_place th_value th_fault th_many th_signMany th_setMany th_corners th_isLoaded th_loaded th_widened th_wide th_boundUp th_boundDown th_text th_signs (upd th_sets th_setMany.toNatClampNeg z58_0)) := hD
                refine lv_aload_n hx hb dX9_formula_72 rfl (lv_at hl 0 rfl) ?_
                refine lv_dup hx hb dX9_formula_73 rfl ?_
                refine va_get (D := D) (ci := 9) (v := .int th_setMany) (C := RX9) (T := TX9) (N := 28) hx hb hts hinX9 hown hK hP 0 rfl rfl 13 (by decide) (hts (.fieldLink RX9 87 "ChanceBoundsModel" "setMany" "I") (by decide +kernel)) (fun _ h9 => h9) rfl dX9_formula_74 ?_
                refine lv_iconst (v := (1 : Int32)) hx hb dX9_formula_77 (by decide) ?_
                refine lv_iadd hx hb dX9_formula_78 ?_
                refine va_put (D := D) (ci := 9) (v := .int (th_setMany + (1 : Int32))) (ty := .int) (C := RX9) (T := TX9) (N := 28) hx hb hts hinX9 tyX9 tyX9_ok nmX9 hown hK hP hD hS 0 rfl rfl 13 (by decide) (hts (.fieldLink RX9 87 "ChanceBoundsModel" "setMany" "I") (by decide +kernel)) (fun _ h9 => h9) rfl (by decide +kernel) rfl rfl (Nat.le_of_ble_eq_true rfl) dX9_formula_79 (fun H locs hP hD hS => ?_)
                have hP : va_P D vwCl (w_X9_formula tc q_th q_th_text q_th_saying q_th_signs q_th_sets q_th_told q_th_up q_th_down q_th_world q_th_tight q_th_sum q_th_now n_th_text n_th_signs n_th_sets th_thrown th_typed th_next th_token th_place th_value th_fault th_many th_signMany (th_setMany + (1 : Int32)) th_corners th_isLoaded th_loaded th_widened th_wide th_boundUp th_boundDown th_text th_signs (upd th_sets th_setMany.toNatClampNeg z58_0)) H := hP
                have hD : va_D A (w_X9_formula tc q_th q_th_text q_th_saying q_th_signs q_th_sets q_th_told q_th_up q_th_down q_th_world q_th_tight q_th_sum q_th_now n_th_text n_th_signs n_th_sets th_thrown th_typed th_next th_token th_place th_value th_fault th_many th_signMany (th_setMany + (1 : Int32)) th_corners th_isLoaded th_loaded th_widened th_wide th_boundUp th_boundDown th_text th_signs (upd th_sets th_setMany.toNatClampNeg z58_0)) := hD
                refine lv_iinc (v := x1 + 1) (lv' := [(1, .int (x1 + 1)), (0, .ref q_th), (2, .int x2), (3, .int x3), (4, .int x4)]) hx hb dX9_formula_82 hl (k := 1) rfl rfl (by decide) rfl (fun ls hl => ?_)
                refine lv_iconst (v := (0 : Int32)) hx hb dX9_formula_85 (by decide) ?_
                refine lv_istore_n (lv' := [(3, .int (0 : Int32)), (1, .int (x1 + 1)), (0, .ref q_th), (2, .int x2), (4, .int x4)]) hx hb dX9_formula_86 rfl hl (by decide) rfl (fun ls hl => ?_)
                refine lv_aload_n hx hb dX9_formula_87 rfl (lv_at hl 2 rfl) ?_
                obtain ⟨⟨z60_0, z60_1, z60_2, z60_3⟩, hc60, h⟩ := bd_ok h
                refine st_callV (As := []) (rest := []) (pos := [0, 1]) ⟨hx, hb, hml, hown, hts⟩ (s_X9_advances (l := l) (D := D) (tc := tc) hEok q_th q_th_text q_th_saying q_th_signs q_th_sets q_th_told q_th_up q_th_down q_th_world q_th_tight q_th_sum q_th_now n_th_text th_thrown th_typed th_next th_token th_place th_value th_fault th_many th_signMany (th_setMany + (1 : Int32)) th_corners th_isLoaded th_loaded th_widened th_wide th_boundUp th_boundDown th_text K z60_0 z60_1 z60_2 z60_3 hc60) (cwV 0 hts gX9_formula_X9_advances rfl rfl rfl (by decide +kernel) ⟨Nat.le_of_ble_eq_true rfl, Nat.le_of_ble_eq_true rfl⟩) (st_recv (ci := 9) (q0 := 0) hK hP rfl rfl) hEok hE hK hN hP hD hS hA rfl rfl rfl rfl hl.1 rfl (Nat.le_of_ble_eq_true rfl) dX9_formula_88 ⟨Nat.zero_le _, Nat.zero_le _⟩ (fun H locs hP hD hS => ?_)
                have hP : va_P D vwCl (w_X9_formula tc q_th q_th_text q_th_saying q_th_signs q_th_sets q_th_told q_th_up q_th_down q_th_world q_th_tight q_th_sum q_th_now n_th_text n_th_signs n_th_sets th_thrown th_typed z60_0 z60_1 z60_2 z60_3 th_fault th_many th_signMany (th_setMany + (1 : Int32)) th_corners th_isLoaded th_loaded th_widened th_wide th_boundUp th_boundDown th_text th_signs (upd th_sets th_setMany.toNatClampNeg z58_0)) H := hP
                have hD : va_D A (w_X9_formula tc q_th q_th_text q_th_saying q_th_signs q_th_sets q_th_told q_th_up q_th_down q_th_world q_th_tight q_th_sum q_th_now n_th_text n_th_signs n_th_sets th_thrown th_typed z60_0 z60_1 z60_2 z60_3 th_fault th_many th_signMany (th_setMany + (1 : Int32)) th_corners th_isLoaded th_loaded th_widened th_wide th_boundUp th_boundDown th_text th_signs (upd th_sets th_setMany.toNatClampNeg z58_0)) := hD
                refine lv_goto (tgt := 329) hx hb dX9_formula_91 (by decide) ?_
                obtain ⟨⟨z61_0, z61_1, z61_2⟩, hl61, h⟩ := bd_ok h
                refine L329 (x1 + 1) (0 : Int32) x4 z60_0 z60_1 z60_2 z60_3 th_fault (th_setMany + (1 : Int32)) th_signs K _ _ hl61 ?_ _ _ _ hP hD hS (lv_sub hl [2, 1, 3, 0, 4] rfl)
                intro H locs ls hP hD hS hl
                cases h
                exact ih _ rfl _ _ _ hP hD hS (lv_sub hl [0, 1, 2, 3, 4] rfl)
  have L420 : ∀ (th_next : Int32) (th_token : Int32) (th_place : Int32) (th_value : Int32) (th_fault : Int32) (th_signs : Nat → Int32), ∀ (k : Nat) (s420 : Int32 × Int32 × (Nat → Int32)) (r : Int32 × Int32 × (Nat → Int32)), lp (f_X9_formula_L420 n_th_signs n_th_sets th_fault th_signs) k s420 = some r → (fun y420 : Int32 × Int32 × (Nat → Int32) => match y420 with | (th_signMany, th_setMany, th_sets) => ∀ (H : Heap) (locs : List Loc) (ls : Array Slot), va_P D vwCl (w_X9_formula tc q_th q_th_text q_th_saying q_th_signs q_th_sets q_th_told q_th_up q_th_down q_th_world q_th_tight q_th_sum q_th_now n_th_text n_th_signs n_th_sets th_thrown th_typed th_next th_token th_place th_value th_fault th_many th_signMany th_setMany th_corners th_isLoaded th_loaded th_widened th_wide th_boundUp th_boundDown th_text th_signs th_sets) H → va_D A (w_X9_formula tc q_th q_th_text q_th_saying q_th_signs q_th_sets q_th_told q_th_up q_th_down q_th_world q_th_tight q_th_sum q_th_now n_th_text n_th_signs n_th_sets th_thrown th_typed th_next th_token th_place th_value th_fault th_many th_signMany th_setMany th_corners th_isLoaded th_loaded th_widened th_wide th_boundUp th_boundDown th_text th_signs th_sets) → va_S A s.heap H locs → lv_has ls 6 [(0, .ref q_th)] → W p l e ({ frames := 2, cells := 0, slots := 0, locals := 44 } : Room) s m av below meth c H locs 0 0 (MQ below (st_Q D (w_X9_formula tc q_th q_th_text q_th_saying q_th_signs q_th_sets q_th_told q_th_up q_th_down q_th_world q_th_tight q_th_sum q_th_now n_th_text n_th_signs n_th_sets th_thrown th_typed th_next' th_token' th_place' th_value' th_fault' th_many th_signMany' th_setMany' th_corners th_isLoaded th_loaded th_widened th_wide th_boundUp th_boundDown th_text th_signs' th_sets') (some (.int r0)) A) av s 0 0 A) (F0 m 441 ls [])) r → (fun s420 : Int32 × Int32 × (Nat → Int32) => match s420 with | (th_signMany, th_setMany, th_sets) => ∀ (H : Heap) (locs : List Loc) (ls : Array Slot), va_P D vwCl (w_X9_formula tc q_th q_th_text q_th_saying q_th_signs q_th_sets q_th_told q_th_up q_th_down q_th_world q_th_tight q_th_sum q_th_now n_th_text n_th_signs n_th_sets th_thrown th_typed th_next th_token th_place th_value th_fault th_many th_signMany th_setMany th_corners th_isLoaded th_loaded th_widened th_wide th_boundUp th_boundDown th_text th_signs th_sets) H → va_D A (w_X9_formula tc q_th q_th_text q_th_saying q_th_signs q_th_sets q_th_told q_th_up q_th_down q_th_world q_th_tight q_th_sum q_th_now n_th_text n_th_signs n_th_sets th_thrown th_typed th_next th_token th_place th_value th_fault th_many th_signMany th_setMany th_corners th_isLoaded th_loaded th_widened th_wide th_boundUp th_boundDown th_text th_signs th_sets) → va_S A s.heap H locs → lv_has ls 6 [(0, .ref q_th)] → W p l e ({ frames := 2, cells := 0, slots := 0, locals := 44 } : Room) s m av below meth c H locs 0 0 (MQ below (st_Q D (w_X9_formula tc q_th q_th_text q_th_saying q_th_signs q_th_sets q_th_told q_th_up q_th_down q_th_world q_th_tight q_th_sum q_th_now n_th_text n_th_signs n_th_sets th_thrown th_typed th_next' th_token' th_place' th_value' th_fault' th_many th_signMany' th_setMany' th_corners th_isLoaded th_loaded th_widened th_wide th_boundUp th_boundDown th_text th_signs' th_sets') (some (.int r0)) A) av s 0 0 A) (F0 m 420 ls [])) s420 := by
    intro th_next th_token th_place th_value th_fault th_signs
    refine lp_W (f_X9_formula_L420 n_th_signs n_th_sets th_fault th_signs) (fun s420 : Int32 × Int32 × (Nat → Int32) => match s420 with | (th_signMany, th_setMany, th_sets) => ∀ (H : Heap) (locs : List Loc) (ls : Array Slot), va_P D vwCl (w_X9_formula tc q_th q_th_text q_th_saying q_th_signs q_th_sets q_th_told q_th_up q_th_down q_th_world q_th_tight q_th_sum q_th_now n_th_text n_th_signs n_th_sets th_thrown th_typed th_next th_token th_place th_value th_fault th_many th_signMany th_setMany th_corners th_isLoaded th_loaded th_widened th_wide th_boundUp th_boundDown th_text th_signs th_sets) H → va_D A (w_X9_formula tc q_th q_th_text q_th_saying q_th_signs q_th_sets q_th_told q_th_up q_th_down q_th_world q_th_tight q_th_sum q_th_now n_th_text n_th_signs n_th_sets th_thrown th_typed th_next th_token th_place th_value th_fault th_many th_signMany th_setMany th_corners th_isLoaded th_loaded th_widened th_wide th_boundUp th_boundDown th_text th_signs th_sets) → va_S A s.heap H locs → lv_has ls 6 [(0, .ref q_th)] → W p l e ({ frames := 2, cells := 0, slots := 0, locals := 44 } : Room) s m av below meth c H locs 0 0 (MQ below (st_Q D (w_X9_formula tc q_th q_th_text q_th_saying q_th_signs q_th_sets q_th_told q_th_up q_th_down q_th_world q_th_tight q_th_sum q_th_now n_th_text n_th_signs n_th_sets th_thrown th_typed th_next' th_token' th_place' th_value' th_fault' th_many th_signMany' th_setMany' th_corners th_isLoaded th_loaded th_widened th_wide th_boundUp th_boundDown th_text th_signs' th_sets') (some (.int r0)) A) av s 0 0 A) (F0 m 420 ls [])) (fun y420 : Int32 × Int32 × (Nat → Int32) => match y420 with | (th_signMany, th_setMany, th_sets) => ∀ (H : Heap) (locs : List Loc) (ls : Array Slot), va_P D vwCl (w_X9_formula tc q_th q_th_text q_th_saying q_th_signs q_th_sets q_th_told q_th_up q_th_down q_th_world q_th_tight q_th_sum q_th_now n_th_text n_th_signs n_th_sets th_thrown th_typed th_next th_token th_place th_value th_fault th_many th_signMany th_setMany th_corners th_isLoaded th_loaded th_widened th_wide th_boundUp th_boundDown th_text th_signs th_sets) H → va_D A (w_X9_formula tc q_th q_th_text q_th_saying q_th_signs q_th_sets q_th_told q_th_up q_th_down q_th_world q_th_tight q_th_sum q_th_now n_th_text n_th_signs n_th_sets th_thrown th_typed th_next th_token th_place th_value th_fault th_many th_signMany th_setMany th_corners th_isLoaded th_loaded th_widened th_wide th_boundUp th_boundDown th_text th_signs th_sets) → va_S A s.heap H locs → lv_has ls 6 [(0, .ref q_th)] → W p l e ({ frames := 2, cells := 0, slots := 0, locals := 44 } : Room) s m av below meth c H locs 0 0 (MQ below (st_Q D (w_X9_formula tc q_th q_th_text q_th_saying q_th_signs q_th_sets q_th_told q_th_up q_th_down q_th_world q_th_tight q_th_sum q_th_now n_th_text n_th_signs n_th_sets th_thrown th_typed th_next' th_token' th_place' th_value' th_fault' th_many th_signMany' th_setMany' th_corners th_isLoaded th_loaded th_widened th_wide th_boundUp th_boundDown th_text th_signs' th_sets') (some (.int r0)) A) av s 0 0 A) (F0 m 441 ls [])) ?_
    rintro ⟨th_signMany, th_setMany, th_sets⟩ o h ih hz H locs ls hP hD hS hl
    unfold f_X9_formula_L420 at h
    refine lv_aload_n hx hb dX9_formula_420 rfl (lv_at hl 0 rfl) ?_
    obtain ⟨z62_0, hc62, h⟩ := bd_ok h
    refine st_callV (As := []) (rest := []) (pos := [0]) ⟨hx, hb, hml, hown, hts⟩ (s_X9_isWell (l := l) (D := D) (tc := tc) hEok q_th q_th_text q_th_saying q_th_signs q_th_sets q_th_told q_th_up q_th_down q_th_world q_th_tight q_th_sum q_th_now th_thrown th_typed th_next th_token th_place th_value th_fault th_many th_signMany th_setMany th_corners th_isLoaded th_loaded th_widened th_wide th_boundUp th_boundDown z62_0 hc62) (cwV 0 hts gX9_formula_X9_isWell rfl rfl rfl (by decide +kernel) ⟨Nat.le_of_ble_eq_true rfl, Nat.le_of_ble_eq_true rfl⟩) (st_recv (ci := 9) (q0 := 0) hK hP rfl rfl) hEok hE hK hN hP hD hS hA rfl rfl rfl rfl hl.1 rfl (Nat.le_of_ble_eq_true rfl) dX9_formula_421 ⟨Nat.zero_le _, Nat.zero_le _⟩ (fun H locs hP hD hS => ?_)
    have hP : va_P D vwCl (w_X9_formula tc q_th q_th_text q_th_saying q_th_signs q_th_sets q_th_told q_th_up q_th_down q_th_world q_th_tight q_th_sum q_th_now n_th_text n_th_signs n_th_sets th_thrown th_typed th_next th_token th_place th_value th_fault th_many th_signMany th_setMany th_corners th_isLoaded th_loaded th_widened th_wide th_boundUp th_boundDown th_text th_signs th_sets) H := hP
    have hD : va_D A (w_X9_formula tc q_th q_th_text q_th_saying q_th_signs q_th_sets q_th_told q_th_up q_th_down q_th_world q_th_tight q_th_sum q_th_now n_th_text n_th_signs n_th_sets th_thrown th_typed th_next th_token th_place th_value th_fault th_many th_signMany th_setMany th_corners th_isLoaded th_loaded th_widened th_wide th_boundUp th_boundDown th_text th_signs th_sets) := hD
    refine lv_if_eq (tgt := 441) hx hb dX9_formula_424 (by decide) (fun c63 => ?_) (fun c63 => ?_)
    · replace h := ifp c63 h
      cases h
      exact hz _ rfl _ _ _ hP hD hS (lv_sub hl [0] rfl)
    · replace h := ifn c63 h
      refine lv_aload_n hx hb dX9_formula_427 rfl (lv_at hl 0 rfl) ?_
      refine va_get (D := D) (ci := 9) (v := .int th_signMany) (C := RX9) (T := TX9) (N := 28) hx hb hts hinX9 hown hK hP 0 rfl rfl 12 (by decide) (hts (.fieldLink RX9 84 "ChanceBoundsModel" "signMany" "I") (by decide +kernel)) (fun _ h9 => h9) rfl dX9_formula_428 ?_
      refine lv_if_le (tgt := 441) hx hb dX9_formula_431 (by decide) (fun c64 => ?_) (fun c64 => ?_)
      · replace h := ifp c64 h
        cases h
        exact hz _ rfl _ _ _ hP hD hS (lv_sub hl [0] rfl)
      · replace h := ifn c64 h
        refine lv_aload_n hx hb dX9_formula_434 rfl (lv_at hl 0 rfl) ?_
        obtain ⟨⟨z65_0, z65_1, z65_2⟩, hc65, h⟩ := bd_ok h
        refine st_callV (As := []) (rest := []) (pos := [0, 2, 3]) ⟨hx, hb, hml, hown, hts⟩ (s_X9_joins (l := l) (D := D) (tc := tc) hEok q_th q_th_text q_th_saying q_th_signs q_th_sets q_th_told q_th_up q_th_down q_th_world q_th_tight q_th_sum q_th_now n_th_signs n_th_sets th_thrown th_typed th_next th_token th_place th_value th_fault th_many th_signMany th_setMany th_corners th_isLoaded th_loaded th_widened th_wide th_boundUp th_boundDown th_signs th_sets z65_0 z65_1 z65_2 hc65) (cwV 0 hts gX9_formula_X9_joins rfl rfl rfl (by decide +kernel) ⟨Nat.le_of_ble_eq_true rfl, Nat.le_of_ble_eq_true rfl⟩) (st_recv (ci := 9) (q0 := 0) hK hP rfl rfl) hEok hE hK hN hP hD hS hA rfl rfl rfl rfl hl.1 rfl (Nat.le_of_ble_eq_true rfl) dX9_formula_435 ⟨Nat.zero_le _, Nat.zero_le _⟩ (fun H locs hP hD hS => ?_)
        have hP : va_P D vwCl (w_X9_formula tc q_th q_th_text q_th_saying q_th_signs q_th_sets q_th_told q_th_up q_th_down q_th_world q_th_tight q_th_sum q_th_now n_th_text n_th_signs n_th_sets th_thrown th_typed th_next th_token th_place th_value th_fault th_many z65_0 z65_1 th_corners th_isLoaded th_loaded th_widened th_wide th_boundUp th_boundDown th_text th_signs z65_2) H := hP
        have hD : va_D A (w_X9_formula tc q_th q_th_text q_th_saying q_th_signs q_th_sets q_th_told q_th_up q_th_down q_th_world q_th_tight q_th_sum q_th_now n_th_text n_th_signs n_th_sets th_thrown th_typed th_next th_token th_place th_value th_fault th_many z65_0 z65_1 th_corners th_isLoaded th_loaded th_widened th_wide th_boundUp th_boundDown th_text th_signs z65_2) := hD
        refine lv_goto (tgt := 420) hx hb dX9_formula_438 (by decide) ?_
        cases h
        exact ih _ rfl _ _ _ hP hD hS (lv_sub hl [0] rfl)
  have J420 : ∀ (th_next : Int32) (th_token : Int32) (th_place : Int32) (th_value : Int32) (th_fault : Int32) (th_signMany : Int32) (th_setMany : Int32) (th_signs : Nat → Int32) (th_sets : Nat → Int32) (H : Heap) (locs : List Loc) (ls : Array Slot), f_X9_formula_J420 K n_th_signs n_th_sets th_next th_token th_place th_value th_fault th_signMany th_setMany th_signs th_sets = some (r0, th_next', th_token', th_place', th_value', th_fault', th_signMany', th_setMany', th_signs', th_sets') → va_P D vwCl (w_X9_formula tc q_th q_th_text q_th_saying q_th_signs q_th_sets q_th_told q_th_up q_th_down q_th_world q_th_tight q_th_sum q_th_now n_th_text n_th_signs n_th_sets th_thrown th_typed th_next th_token th_place th_value th_fault th_many th_signMany th_setMany th_corners th_isLoaded th_loaded th_widened th_wide th_boundUp th_boundDown th_text th_signs th_sets) H → va_D A (w_X9_formula tc q_th q_th_text q_th_saying q_th_signs q_th_sets q_th_told q_th_up q_th_down q_th_world q_th_tight q_th_sum q_th_now n_th_text n_th_signs n_th_sets th_thrown th_typed th_next th_token th_place th_value th_fault th_many th_signMany th_setMany th_corners th_isLoaded th_loaded th_widened th_wide th_boundUp th_boundDown th_text th_signs th_sets) → va_S A s.heap H locs → lv_has ls 6 [(0, .ref q_th)] → W p l e ({ frames := 2, cells := 0, slots := 0, locals := 44 } : Room) s m av below meth c H locs 0 0 (MQ below (st_Q D (w_X9_formula tc q_th q_th_text q_th_saying q_th_signs q_th_sets q_th_told q_th_up q_th_down q_th_world q_th_tight q_th_sum q_th_now n_th_text n_th_signs n_th_sets th_thrown th_typed th_next' th_token' th_place' th_value' th_fault' th_many th_signMany' th_setMany' th_corners th_isLoaded th_loaded th_widened th_wide th_boundUp th_boundDown th_text th_signs' th_sets') (some (.int r0)) A) av s 0 0 A) (F0 m 420 ls []) := by
    intro th_next th_token th_place th_value th_fault th_signMany th_setMany th_signs th_sets H locs ls h hP hD hS hl
    unfold f_X9_formula_J420 at h
    refine lv_aload_n hx hb dX9_formula_420 rfl (lv_at hl 0 rfl) ?_
    obtain ⟨z66_0, hc66, h⟩ := bd_ok h
    refine st_callV (As := []) (rest := []) (pos := [0]) ⟨hx, hb, hml, hown, hts⟩ (s_X9_isWell (l := l) (D := D) (tc := tc) hEok q_th q_th_text q_th_saying q_th_signs q_th_sets q_th_told q_th_up q_th_down q_th_world q_th_tight q_th_sum q_th_now th_thrown th_typed th_next th_token th_place th_value th_fault th_many th_signMany th_setMany th_corners th_isLoaded th_loaded th_widened th_wide th_boundUp th_boundDown z66_0 hc66) (cwV 0 hts gX9_formula_X9_isWell rfl rfl rfl (by decide +kernel) ⟨Nat.le_of_ble_eq_true rfl, Nat.le_of_ble_eq_true rfl⟩) (st_recv (ci := 9) (q0 := 0) hK hP rfl rfl) hEok hE hK hN hP hD hS hA rfl rfl rfl rfl hl.1 rfl (Nat.le_of_ble_eq_true rfl) dX9_formula_421 ⟨Nat.zero_le _, Nat.zero_le _⟩ (fun H locs hP hD hS => ?_)
    have hP : va_P D vwCl (w_X9_formula tc q_th q_th_text q_th_saying q_th_signs q_th_sets q_th_told q_th_up q_th_down q_th_world q_th_tight q_th_sum q_th_now n_th_text n_th_signs n_th_sets th_thrown th_typed th_next th_token th_place th_value th_fault th_many th_signMany th_setMany th_corners th_isLoaded th_loaded th_widened th_wide th_boundUp th_boundDown th_text th_signs th_sets) H := hP
    have hD : va_D A (w_X9_formula tc q_th q_th_text q_th_saying q_th_signs q_th_sets q_th_told q_th_up q_th_down q_th_world q_th_tight q_th_sum q_th_now n_th_text n_th_signs n_th_sets th_thrown th_typed th_next th_token th_place th_value th_fault th_many th_signMany th_setMany th_corners th_isLoaded th_loaded th_widened th_wide th_boundUp th_boundDown th_text th_signs th_sets) := hD
    refine lv_if_eq (tgt := 441) hx hb dX9_formula_424 (by decide) (fun c67 => ?_) (fun c67 => ?_)
    · replace h := ifp c67 h
      refine lv_aload_n hx hb dX9_formula_441 rfl (lv_at hl 0 rfl) ?_
      obtain ⟨z68_0, hc68, h⟩ := bd_ok h
      refine st_callV (As := []) (rest := []) (pos := [0]) ⟨hx, hb, hml, hown, hts⟩ (s_X9_isWell (l := l) (D := D) (tc := tc) hEok q_th q_th_text q_th_saying q_th_signs q_th_sets q_th_told q_th_up q_th_down q_th_world q_th_tight q_th_sum q_th_now th_thrown th_typed th_next th_token th_place th_value th_fault th_many th_signMany th_setMany th_corners th_isLoaded th_loaded th_widened th_wide th_boundUp th_boundDown z68_0 hc68) (cwV 0 hts gX9_formula_X9_isWell rfl rfl rfl (by decide +kernel) ⟨Nat.le_of_ble_eq_true rfl, Nat.le_of_ble_eq_true rfl⟩) (st_recv (ci := 9) (q0 := 0) hK hP rfl rfl) hEok hE hK hN hP hD hS hA rfl rfl rfl rfl hl.1 rfl (Nat.le_of_ble_eq_true rfl) dX9_formula_442 ⟨Nat.zero_le _, Nat.zero_le _⟩ (fun H locs hP hD hS => ?_)
      have hP : va_P D vwCl (w_X9_formula tc q_th q_th_text q_th_saying q_th_signs q_th_sets q_th_told q_th_up q_th_down q_th_world q_th_tight q_th_sum q_th_now n_th_text n_th_signs n_th_sets th_thrown th_typed th_next th_token th_place th_value th_fault th_many th_signMany th_setMany th_corners th_isLoaded th_loaded th_widened th_wide th_boundUp th_boundDown th_text th_signs th_sets) H := hP
      have hD : va_D A (w_X9_formula tc q_th q_th_text q_th_saying q_th_signs q_th_sets q_th_told q_th_up q_th_down q_th_world q_th_tight q_th_sum q_th_now n_th_text n_th_signs n_th_sets th_thrown th_typed th_next th_token th_place th_value th_fault th_many th_signMany th_setMany th_corners th_isLoaded th_loaded th_widened th_wide th_boundUp th_boundDown th_text th_signs th_sets) := hD
      refine lv_if_eq (tgt := 457) hx hb dX9_formula_445 (by decide) (fun c69 => ?_) (fun c69 => ?_)
      · replace h := ifp c69 h
        refine lv_iconst (v := (0 : Int32)) hx hb dX9_formula_457 (by decide) ?_
        simp only [Option.some.injEq, Prod.mk.injEq] at h
        obtain ⟨rfl, rfl, rfl, rfl, rfl, rfl, rfl, rfl, rfl, rfl⟩ := h
        exact st_iret hx hb hr hlocks hP hD hS dX9_formula_458
      · replace h := ifn c69 h
        refine lv_aload_n hx hb dX9_formula_448 rfl (lv_at hl 0 rfl) ?_
        refine va_get (D := D) (ci := 9) (v := .ref q_th_sets) (C := RX9) (T := TX9) (N := 28) hx hb hts hinX9 hown hK hP 0 rfl rfl 11 (by decide) (hts (.fieldLink RX9 19 "ChanceBoundsModel" "sets" "[I") (by decide +kernel)) (fun _ h9 => h9) rfl dX9_formula_449 ?_
        refine lv_iconst (v := (0 : Int32)) hx hb dX9_formula_452 (by decide) ?_
        obtain ⟨g70, h⟩ := gd_ok h
        refine va_iald hx hb hK hP 3 0 rfl rfl g70 dX9_formula_453 ?_
        refine lv_goto (tgt := 458) hx hb dX9_formula_454 (by decide) ?_
        simp only [Option.some.injEq, Prod.mk.injEq] at h
        obtain ⟨rfl, rfl, rfl, rfl, rfl, rfl, rfl, rfl, rfl, rfl⟩ := h
        exact st_iret hx hb hr hlocks hP hD hS dX9_formula_458
    · replace h := ifn c67 h
      refine lv_aload_n hx hb dX9_formula_427 rfl (lv_at hl 0 rfl) ?_
      refine va_get (D := D) (ci := 9) (v := .int th_signMany) (C := RX9) (T := TX9) (N := 28) hx hb hts hinX9 hown hK hP 0 rfl rfl 12 (by decide) (hts (.fieldLink RX9 84 "ChanceBoundsModel" "signMany" "I") (by decide +kernel)) (fun _ h9 => h9) rfl dX9_formula_428 ?_
      refine lv_if_le (tgt := 441) hx hb dX9_formula_431 (by decide) (fun c71 => ?_) (fun c71 => ?_)
      · replace h := ifp c71 h
        refine lv_aload_n hx hb dX9_formula_441 rfl (lv_at hl 0 rfl) ?_
        obtain ⟨z72_0, hc72, h⟩ := bd_ok h
        refine st_callV (As := []) (rest := []) (pos := [0]) ⟨hx, hb, hml, hown, hts⟩ (s_X9_isWell (l := l) (D := D) (tc := tc) hEok q_th q_th_text q_th_saying q_th_signs q_th_sets q_th_told q_th_up q_th_down q_th_world q_th_tight q_th_sum q_th_now th_thrown th_typed th_next th_token th_place th_value th_fault th_many th_signMany th_setMany th_corners th_isLoaded th_loaded th_widened th_wide th_boundUp th_boundDown z72_0 hc72) (cwV 0 hts gX9_formula_X9_isWell rfl rfl rfl (by decide +kernel) ⟨Nat.le_of_ble_eq_true rfl, Nat.le_of_ble_eq_true rfl⟩) (st_recv (ci := 9) (q0 := 0) hK hP rfl rfl) hEok hE hK hN hP hD hS hA rfl rfl rfl rfl hl.1 rfl (Nat.le_of_ble_eq_true rfl) dX9_formula_442 ⟨Nat.zero_le _, Nat.zero_le _⟩ (fun H locs hP hD hS => ?_)
        have hP : va_P D vwCl (w_X9_formula tc q_th q_th_text q_th_saying q_th_signs q_th_sets q_th_told q_th_up q_th_down q_th_world q_th_tight q_th_sum q_th_now n_th_text n_th_signs n_th_sets th_thrown th_typed th_next th_token th_place th_value th_fault th_many th_signMany th_setMany th_corners th_isLoaded th_loaded th_widened th_wide th_boundUp th_boundDown th_text th_signs th_sets) H := hP
        have hD : va_D A (w_X9_formula tc q_th q_th_text q_th_saying q_th_signs q_th_sets q_th_told q_th_up q_th_down q_th_world q_th_tight q_th_sum q_th_now n_th_text n_th_signs n_th_sets th_thrown th_typed th_next th_token th_place th_value th_fault th_many th_signMany th_setMany th_corners th_isLoaded th_loaded th_widened th_wide th_boundUp th_boundDown th_text th_signs th_sets) := hD
        refine lv_if_eq (tgt := 457) hx hb dX9_formula_445 (by decide) (fun c73 => ?_) (fun c73 => ?_)
        · replace h := ifp c73 h
          refine lv_iconst (v := (0 : Int32)) hx hb dX9_formula_457 (by decide) ?_
          simp only [Option.some.injEq, Prod.mk.injEq] at h
          obtain ⟨rfl, rfl, rfl, rfl, rfl, rfl, rfl, rfl, rfl, rfl⟩ := h
          exact st_iret hx hb hr hlocks hP hD hS dX9_formula_458
        · replace h := ifn c73 h
          refine lv_aload_n hx hb dX9_formula_448 rfl (lv_at hl 0 rfl) ?_
          refine va_get (D := D) (ci := 9) (v := .ref q_th_sets) (C := RX9) (T := TX9) (N := 28) hx hb hts hinX9 hown hK hP 0 rfl rfl 11 (by decide) (hts (.fieldLink RX9 19 "ChanceBoundsModel" "sets" "[I") (by decide +kernel)) (fun _ h9 => h9) rfl dX9_formula_449 ?_
          refine lv_iconst (v := (0 : Int32)) hx hb dX9_formula_452 (by decide) ?_
          obtain ⟨g74, h⟩ := gd_ok h
          refine va_iald hx hb hK hP 3 0 rfl rfl g74 dX9_formula_453 ?_
          refine lv_goto (tgt := 458) hx hb dX9_formula_454 (by decide) ?_
          simp only [Option.some.injEq, Prod.mk.injEq] at h
          obtain ⟨rfl, rfl, rfl, rfl, rfl, rfl, rfl, rfl, rfl, rfl⟩ := h
          exact st_iret hx hb hr hlocks hP hD hS dX9_formula_458
      · replace h := ifn c71 h
        refine lv_aload_n hx hb dX9_formula_434 rfl (lv_at hl 0 rfl) ?_
        obtain ⟨⟨z75_0, z75_1, z75_2⟩, hc75, h⟩ := bd_ok h
        refine st_callV (As := []) (rest := []) (pos := [0, 2, 3]) ⟨hx, hb, hml, hown, hts⟩ (s_X9_joins (l := l) (D := D) (tc := tc) hEok q_th q_th_text q_th_saying q_th_signs q_th_sets q_th_told q_th_up q_th_down q_th_world q_th_tight q_th_sum q_th_now n_th_signs n_th_sets th_thrown th_typed th_next th_token th_place th_value th_fault th_many th_signMany th_setMany th_corners th_isLoaded th_loaded th_widened th_wide th_boundUp th_boundDown th_signs th_sets z75_0 z75_1 z75_2 hc75) (cwV 0 hts gX9_formula_X9_joins rfl rfl rfl (by decide +kernel) ⟨Nat.le_of_ble_eq_true rfl, Nat.le_of_ble_eq_true rfl⟩) (st_recv (ci := 9) (q0 := 0) hK hP rfl rfl) hEok hE hK hN hP hD hS hA rfl rfl rfl rfl hl.1 rfl (Nat.le_of_ble_eq_true rfl) dX9_formula_435 ⟨Nat.zero_le _, Nat.zero_le _⟩ (fun H locs hP hD hS => ?_)
        have hP : va_P D vwCl (w_X9_formula tc q_th q_th_text q_th_saying q_th_signs q_th_sets q_th_told q_th_up q_th_down q_th_world q_th_tight q_th_sum q_th_now n_th_text n_th_signs n_th_sets th_thrown th_typed th_next th_token th_place th_value th_fault th_many z75_0 z75_1 th_corners th_isLoaded th_loaded th_widened th_wide th_boundUp th_boundDown th_text th_signs z75_2) H := hP
        have hD : va_D A (w_X9_formula tc q_th q_th_text q_th_saying q_th_signs q_th_sets q_th_told q_th_up q_th_down q_th_world q_th_tight q_th_sum q_th_now n_th_text n_th_signs n_th_sets th_thrown th_typed th_next th_token th_place th_value th_fault th_many z75_0 z75_1 th_corners th_isLoaded th_loaded th_widened th_wide th_boundUp th_boundDown th_text th_signs z75_2) := hD
        refine lv_goto (tgt := 420) hx hb dX9_formula_438 (by decide) ?_
        obtain ⟨⟨z76_0, z76_1, z76_2⟩, hl76, h⟩ := bd_ok h
        refine L420 th_next th_token th_place th_value th_fault th_signs K _ _ hl76 ?_ _ _ _ hP hD hS (lv_sub hl [0] rfl)
        intro H locs ls hP hD hS hl
        refine lv_aload_n hx hb dX9_formula_441 rfl (lv_at hl 0 rfl) ?_
        obtain ⟨z77_0, hc77, h⟩ := bd_ok h
        refine st_callV (As := []) (rest := []) (pos := [0]) ⟨hx, hb, hml, hown, hts⟩ (s_X9_isWell (l := l) (D := D) (tc := tc) hEok q_th q_th_text q_th_saying q_th_signs q_th_sets q_th_told q_th_up q_th_down q_th_world q_th_tight q_th_sum q_th_now th_thrown th_typed th_next th_token th_place th_value th_fault th_many z76_0 z76_1 th_corners th_isLoaded th_loaded th_widened th_wide th_boundUp th_boundDown z77_0 hc77) (cwV 0 hts gX9_formula_X9_isWell rfl rfl rfl (by decide +kernel) ⟨Nat.le_of_ble_eq_true rfl, Nat.le_of_ble_eq_true rfl⟩) (st_recv (ci := 9) (q0 := 0) hK hP rfl rfl) hEok hE hK hN hP hD hS hA rfl rfl rfl rfl hl.1 rfl (Nat.le_of_ble_eq_true rfl) dX9_formula_442 ⟨Nat.zero_le _, Nat.zero_le _⟩ (fun H locs hP hD hS => ?_)
        have hP : va_P D vwCl (w_X9_formula tc q_th q_th_text q_th_saying q_th_signs q_th_sets q_th_told q_th_up q_th_down q_th_world q_th_tight q_th_sum q_th_now n_th_text n_th_signs n_th_sets th_thrown th_typed th_next th_token th_place th_value th_fault th_many z76_0 z76_1 th_corners th_isLoaded th_loaded th_widened th_wide th_boundUp th_boundDown th_text th_signs z76_2) H := hP
        have hD : va_D A (w_X9_formula tc q_th q_th_text q_th_saying q_th_signs q_th_sets q_th_told q_th_up q_th_down q_th_world q_th_tight q_th_sum q_th_now n_th_text n_th_signs n_th_sets th_thrown th_typed th_next th_token th_place th_value th_fault th_many z76_0 z76_1 th_corners th_isLoaded th_loaded th_widened th_wide th_boundUp th_boundDown th_text th_signs z76_2) := hD
        refine lv_if_eq (tgt := 457) hx hb dX9_formula_445 (by decide) (fun c78 => ?_) (fun c78 => ?_)
        · replace h := ifp c78 h
          refine lv_iconst (v := (0 : Int32)) hx hb dX9_formula_457 (by decide) ?_
          simp only [Option.some.injEq, Prod.mk.injEq] at h
          obtain ⟨rfl, rfl, rfl, rfl, rfl, rfl, rfl, rfl, rfl, rfl⟩ := h
          exact st_iret hx hb hr hlocks hP hD hS dX9_formula_458
        · replace h := ifn c78 h
          refine lv_aload_n hx hb dX9_formula_448 rfl (lv_at hl 0 rfl) ?_
          refine va_get (D := D) (ci := 9) (v := .ref q_th_sets) (C := RX9) (T := TX9) (N := 28) hx hb hts hinX9 hown hK hP 0 rfl rfl 11 (by decide) (hts (.fieldLink RX9 19 "ChanceBoundsModel" "sets" "[I") (by decide +kernel)) (fun _ h9 => h9) rfl dX9_formula_449 ?_
          refine lv_iconst (v := (0 : Int32)) hx hb dX9_formula_452 (by decide) ?_
          obtain ⟨g79, h⟩ := gd_ok h
          refine va_iald hx hb hK hP 3 0 rfl rfl g79 dX9_formula_453 ?_
          refine lv_goto (tgt := 458) hx hb dX9_formula_454 (by decide) ?_
          simp only [Option.some.injEq, Prod.mk.injEq] at h
          obtain ⟨rfl, rfl, rfl, rfl, rfl, rfl, rfl, rfl, rfl, rfl⟩ := h
          exact st_iret hx hb hr hlocks hP hD hS dX9_formula_458
  unfold f_X9_formula at h
  refine lv_aload_n hx hb dX9_formula_0 rfl (lv_at hl 0 rfl) ?_
  refine lv_iconst (v := (0 : Int32)) hx hb dX9_formula_1 (by decide) ?_
  refine va_put (D := D) (ci := 9) (v := .int (0 : Int32)) (ty := .int) (C := RX9) (T := TX9) (N := 28) hx hb hts hinX9 tyX9 tyX9_ok nmX9 hown hK hP hD hS 0 rfl rfl 12 (by decide) (hts (.fieldLink RX9 84 "ChanceBoundsModel" "signMany" "I") (by decide +kernel)) (fun _ h9 => h9) rfl (by decide +kernel) rfl rfl (Nat.le_of_ble_eq_true rfl) dX9_formula_2 (fun H locs hP hD hS => ?_)
  have hP : va_P D vwCl (w_X9_formula tc q_th q_th_text q_th_saying q_th_signs q_th_sets q_th_told q_th_up q_th_down q_th_world q_th_tight q_th_sum q_th_now n_th_text n_th_signs n_th_sets th_thrown th_typed th_next th_token th_place th_value th_fault th_many (0 : Int32) th_setMany th_corners th_isLoaded th_loaded th_widened th_wide th_boundUp th_boundDown th_text th_signs th_sets) H := hP
  have hD : va_D A (w_X9_formula tc q_th q_th_text q_th_saying q_th_signs q_th_sets q_th_told q_th_up q_th_down q_th_world q_th_tight q_th_sum q_th_now n_th_text n_th_signs n_th_sets th_thrown th_typed th_next th_token th_place th_value th_fault th_many (0 : Int32) th_setMany th_corners th_isLoaded th_loaded th_widened th_wide th_boundUp th_boundDown th_text th_signs th_sets) := hD
  refine lv_aload_n hx hb dX9_formula_5 rfl (lv_at hl 0 rfl) ?_
  refine lv_iconst (v := (0 : Int32)) hx hb dX9_formula_6 (by decide) ?_
  refine va_put (D := D) (ci := 9) (v := .int (0 : Int32)) (ty := .int) (C := RX9) (T := TX9) (N := 28) hx hb hts hinX9 tyX9 tyX9_ok nmX9 hown hK hP hD hS 0 rfl rfl 13 (by decide) (hts (.fieldLink RX9 87 "ChanceBoundsModel" "setMany" "I") (by decide +kernel)) (fun _ h9 => h9) rfl (by decide +kernel) rfl rfl (Nat.le_of_ble_eq_true rfl) dX9_formula_7 (fun H locs hP hD hS => ?_)
  have hP : va_P D vwCl (w_X9_formula tc q_th q_th_text q_th_saying q_th_signs q_th_sets q_th_told q_th_up q_th_down q_th_world q_th_tight q_th_sum q_th_now n_th_text n_th_signs n_th_sets th_thrown th_typed th_next th_token th_place th_value th_fault th_many (0 : Int32) (0 : Int32) th_corners th_isLoaded th_loaded th_widened th_wide th_boundUp th_boundDown th_text th_signs th_sets) H := hP
  have hD : va_D A (w_X9_formula tc q_th q_th_text q_th_saying q_th_signs q_th_sets q_th_told q_th_up q_th_down q_th_world q_th_tight q_th_sum q_th_now n_th_text n_th_signs n_th_sets th_thrown th_typed th_next th_token th_place th_value th_fault th_many (0 : Int32) (0 : Int32) th_corners th_isLoaded th_loaded th_widened th_wide th_boundUp th_boundDown th_text th_signs th_sets) := hD
  refine lv_iconst (v := (0 : Int32)) hx hb dX9_formula_10 (by decide) ?_
  refine lv_istore_n (lv' := [(1, .int (0 : Int32)), (0, .ref q_th)]) hx hb dX9_formula_11 rfl hl (by decide) rfl (fun ls hl => ?_)
  refine lv_iconst (v := (0 : Int32)) hx hb dX9_formula_12 (by decide) ?_
  refine lv_istore_n (lv' := [(2, .int (0 : Int32)), (1, .int (0 : Int32)), (0, .ref q_th)]) hx hb dX9_formula_13 rfl hl (by decide) rfl (fun ls hl => ?_)
  refine lv_iconst (v := (1 : Int32)) hx hb dX9_formula_14 (by decide) ?_
  refine lv_istore_n (lv' := [(3, .int (1 : Int32)), (2, .int (0 : Int32)), (1, .int (0 : Int32)), (0, .ref q_th)]) hx hb dX9_formula_15 rfl hl (by decide) rfl (fun ls hl => ?_)
  refine lv_iconst (v := (1 : Int32)) hx hb dX9_formula_16 (by decide) ?_
  refine lv_istore (lv' := [(4, .int (1 : Int32)), (3, .int (1 : Int32)), (2, .int (0 : Int32)), (1, .int (0 : Int32)), (0, .ref q_th)]) hx hb dX9_formula_17 hl (by decide) rfl (fun ls hl => ?_)
  obtain ⟨⟨z80_0, z80_1, z80_2, z80_3, z80_4, z80_5, z80_6, z80_7, z80_8⟩, hl80, h⟩ := bd_ok h
  refine L19 () K _ _ hl80 ?_ _ _ _ hP hD hS (lv_sub hl [4, 3, 2, 1, 0] rfl)
  intro H locs ls hP hD hS hl
  refine lv_aload_n hx hb dX9_formula_400 rfl (lv_at hl 0 rfl) ?_
  obtain ⟨z81_0, hc81, h⟩ := bd_ok h
  refine st_callV (As := []) (rest := []) (pos := [0]) ⟨hx, hb, hml, hown, hts⟩ (s_X9_isWell (l := l) (D := D) (tc := tc) hEok q_th q_th_text q_th_saying q_th_signs q_th_sets q_th_told q_th_up q_th_down q_th_world q_th_tight q_th_sum q_th_now th_thrown th_typed z80_0 z80_1 z80_2 z80_3 z80_4 th_many z80_5 z80_6 th_corners th_isLoaded th_loaded th_widened th_wide th_boundUp th_boundDown z81_0 hc81) (cwV 0 hts gX9_formula_X9_isWell rfl rfl rfl (by decide +kernel) ⟨Nat.le_of_ble_eq_true rfl, Nat.le_of_ble_eq_true rfl⟩) (st_recv (ci := 9) (q0 := 0) hK hP rfl rfl) hEok hE hK hN hP hD hS hA rfl rfl rfl rfl hl.1 rfl (Nat.le_of_ble_eq_true rfl) dX9_formula_401 ⟨Nat.zero_le _, Nat.zero_le _⟩ (fun H locs hP hD hS => ?_)
  have hP : va_P D vwCl (w_X9_formula tc q_th q_th_text q_th_saying q_th_signs q_th_sets q_th_told q_th_up q_th_down q_th_world q_th_tight q_th_sum q_th_now n_th_text n_th_signs n_th_sets th_thrown th_typed z80_0 z80_1 z80_2 z80_3 z80_4 th_many z80_5 z80_6 th_corners th_isLoaded th_loaded th_widened th_wide th_boundUp th_boundDown th_text z80_7 z80_8) H := hP
  have hD : va_D A (w_X9_formula tc q_th q_th_text q_th_saying q_th_signs q_th_sets q_th_told q_th_up q_th_down q_th_world q_th_tight q_th_sum q_th_now n_th_text n_th_signs n_th_sets th_thrown th_typed z80_0 z80_1 z80_2 z80_3 z80_4 th_many z80_5 z80_6 th_corners th_isLoaded th_loaded th_widened th_wide th_boundUp th_boundDown th_text z80_7 z80_8) := hD
  refine lv_if_eq (tgt := 420) hx hb dX9_formula_404 (by decide) (fun c82 => ?_) (fun c82 => ?_)
  · replace h := ifp c82 h
    obtain ⟨⟨z83_0, z83_1, z83_2⟩, hl83, h⟩ := bd_ok h
    refine L420 z80_0 z80_1 z80_2 z80_3 z80_4 z80_7 K _ _ hl83 ?_ _ _ _ hP hD hS (lv_sub hl [0] rfl)
    intro H locs ls hP hD hS hl
    refine lv_aload_n hx hb dX9_formula_441 rfl (lv_at hl 0 rfl) ?_
    obtain ⟨z84_0, hc84, h⟩ := bd_ok h
    refine st_callV (As := []) (rest := []) (pos := [0]) ⟨hx, hb, hml, hown, hts⟩ (s_X9_isWell (l := l) (D := D) (tc := tc) hEok q_th q_th_text q_th_saying q_th_signs q_th_sets q_th_told q_th_up q_th_down q_th_world q_th_tight q_th_sum q_th_now th_thrown th_typed z80_0 z80_1 z80_2 z80_3 z80_4 th_many z83_0 z83_1 th_corners th_isLoaded th_loaded th_widened th_wide th_boundUp th_boundDown z84_0 hc84) (cwV 0 hts gX9_formula_X9_isWell rfl rfl rfl (by decide +kernel) ⟨Nat.le_of_ble_eq_true rfl, Nat.le_of_ble_eq_true rfl⟩) (st_recv (ci := 9) (q0 := 0) hK hP rfl rfl) hEok hE hK hN hP hD hS hA rfl rfl rfl rfl hl.1 rfl (Nat.le_of_ble_eq_true rfl) dX9_formula_442 ⟨Nat.zero_le _, Nat.zero_le _⟩ (fun H locs hP hD hS => ?_)
    have hP : va_P D vwCl (w_X9_formula tc q_th q_th_text q_th_saying q_th_signs q_th_sets q_th_told q_th_up q_th_down q_th_world q_th_tight q_th_sum q_th_now n_th_text n_th_signs n_th_sets th_thrown th_typed z80_0 z80_1 z80_2 z80_3 z80_4 th_many z83_0 z83_1 th_corners th_isLoaded th_loaded th_widened th_wide th_boundUp th_boundDown th_text z80_7 z83_2) H := hP
    have hD : va_D A (w_X9_formula tc q_th q_th_text q_th_saying q_th_signs q_th_sets q_th_told q_th_up q_th_down q_th_world q_th_tight q_th_sum q_th_now n_th_text n_th_signs n_th_sets th_thrown th_typed z80_0 z80_1 z80_2 z80_3 z80_4 th_many z83_0 z83_1 th_corners th_isLoaded th_loaded th_widened th_wide th_boundUp th_boundDown th_text z80_7 z83_2) := hD
    refine lv_if_eq (tgt := 457) hx hb dX9_formula_445 (by decide) (fun c85 => ?_) (fun c85 => ?_)
    · replace h := ifp c85 h
      refine lv_iconst (v := (0 : Int32)) hx hb dX9_formula_457 (by decide) ?_
      simp only [Option.some.injEq, Prod.mk.injEq] at h
      obtain ⟨rfl, rfl, rfl, rfl, rfl, rfl, rfl, rfl, rfl, rfl⟩ := h
      exact st_iret hx hb hr hlocks hP hD hS dX9_formula_458
    · replace h := ifn c85 h
      refine lv_aload_n hx hb dX9_formula_448 rfl (lv_at hl 0 rfl) ?_
      refine va_get (D := D) (ci := 9) (v := .ref q_th_sets) (C := RX9) (T := TX9) (N := 28) hx hb hts hinX9 hown hK hP 0 rfl rfl 11 (by decide) (hts (.fieldLink RX9 19 "ChanceBoundsModel" "sets" "[I") (by decide +kernel)) (fun _ h9 => h9) rfl dX9_formula_449 ?_
      refine lv_iconst (v := (0 : Int32)) hx hb dX9_formula_452 (by decide) ?_
      obtain ⟨g86, h⟩ := gd_ok h
      refine va_iald hx hb hK hP 3 0 rfl rfl g86 dX9_formula_453 ?_
      refine lv_goto (tgt := 458) hx hb dX9_formula_454 (by decide) ?_
      simp only [Option.some.injEq, Prod.mk.injEq] at h
      obtain ⟨rfl, rfl, rfl, rfl, rfl, rfl, rfl, rfl, rfl, rfl⟩ := h
      exact st_iret hx hb hr hlocks hP hD hS dX9_formula_458
  · replace h := ifn c82 h
    refine lv_aload_n hx hb dX9_formula_407 rfl (lv_at hl 0 rfl) ?_
    obtain ⟨z87_0, hc87, h⟩ := bd_ok h
    refine st_callV (As := []) (rest := []) (pos := [0, 2]) ⟨hx, hb, hml, hown, hts⟩ (s_X9_bracket (l := l) (D := D) (tc := tc) hEok q_th q_th_text q_th_saying q_th_signs q_th_sets q_th_told q_th_up q_th_down q_th_world q_th_tight q_th_sum q_th_now n_th_signs th_thrown th_typed z80_0 z80_1 z80_2 z80_3 z80_4 th_many z80_5 z80_6 th_corners th_isLoaded th_loaded th_widened th_wide th_boundUp th_boundDown z80_7 K z87_0 hc87) (cwV 0 hts gX9_formula_X9_bracket rfl rfl rfl (by decide +kernel) ⟨Nat.le_of_ble_eq_true rfl, Nat.le_of_ble_eq_true rfl⟩) (st_recv (ci := 9) (q0 := 0) hK hP rfl rfl) hEok hE hK hN hP hD hS hA rfl rfl rfl rfl hl.1 rfl (Nat.le_of_ble_eq_true rfl) dX9_formula_408 ⟨Nat.zero_le _, Nat.zero_le _⟩ (fun H locs hP hD hS => ?_)
    have hP : va_P D vwCl (w_X9_formula tc q_th q_th_text q_th_saying q_th_signs q_th_sets q_th_told q_th_up q_th_down q_th_world q_th_tight q_th_sum q_th_now n_th_text n_th_signs n_th_sets th_thrown th_typed z80_0 z80_1 z80_2 z80_3 z80_4 th_many z80_5 z80_6 th_corners th_isLoaded th_loaded th_widened th_wide th_boundUp th_boundDown th_text z80_7 z80_8) H := hP
    have hD : va_D A (w_X9_formula tc q_th q_th_text q_th_saying q_th_signs q_th_sets q_th_told q_th_up q_th_down q_th_world q_th_tight q_th_sum q_th_now n_th_text n_th_signs n_th_sets th_thrown th_typed z80_0 z80_1 z80_2 z80_3 z80_4 th_many z80_5 z80_6 th_corners th_isLoaded th_loaded th_widened th_wide th_boundUp th_boundDown th_text z80_7 z80_8) := hD
    refine lv_bipush (v := (-9 : Int32)) hx hb dX9_formula_411 (by decide) ?_
    refine lv_icmp_eq (tgt := 420) hx hb dX9_formula_413 (by decide) (fun c88 => ?_) (fun c88 => ?_)
    · replace h := ifp c88 h
      obtain ⟨⟨z89_0, z89_1, z89_2⟩, hl89, h⟩ := bd_ok h
      refine L420 z80_0 z80_1 z80_2 z80_3 z80_4 z80_7 K _ _ hl89 ?_ _ _ _ hP hD hS (lv_sub hl [0] rfl)
      intro H locs ls hP hD hS hl
      refine lv_aload_n hx hb dX9_formula_441 rfl (lv_at hl 0 rfl) ?_
      obtain ⟨z90_0, hc90, h⟩ := bd_ok h
      refine st_callV (As := []) (rest := []) (pos := [0]) ⟨hx, hb, hml, hown, hts⟩ (s_X9_isWell (l := l) (D := D) (tc := tc) hEok q_th q_th_text q_th_saying q_th_signs q_th_sets q_th_told q_th_up q_th_down q_th_world q_th_tight q_th_sum q_th_now th_thrown th_typed z80_0 z80_1 z80_2 z80_3 z80_4 th_many z89_0 z89_1 th_corners th_isLoaded th_loaded th_widened th_wide th_boundUp th_boundDown z90_0 hc90) (cwV 0 hts gX9_formula_X9_isWell rfl rfl rfl (by decide +kernel) ⟨Nat.le_of_ble_eq_true rfl, Nat.le_of_ble_eq_true rfl⟩) (st_recv (ci := 9) (q0 := 0) hK hP rfl rfl) hEok hE hK hN hP hD hS hA rfl rfl rfl rfl hl.1 rfl (Nat.le_of_ble_eq_true rfl) dX9_formula_442 ⟨Nat.zero_le _, Nat.zero_le _⟩ (fun H locs hP hD hS => ?_)
      have hP : va_P D vwCl (w_X9_formula tc q_th q_th_text q_th_saying q_th_signs q_th_sets q_th_told q_th_up q_th_down q_th_world q_th_tight q_th_sum q_th_now n_th_text n_th_signs n_th_sets th_thrown th_typed z80_0 z80_1 z80_2 z80_3 z80_4 th_many z89_0 z89_1 th_corners th_isLoaded th_loaded th_widened th_wide th_boundUp th_boundDown th_text z80_7 z89_2) H := hP
      have hD : va_D A (w_X9_formula tc q_th q_th_text q_th_saying q_th_signs q_th_sets q_th_told q_th_up q_th_down q_th_world q_th_tight q_th_sum q_th_now n_th_text n_th_signs n_th_sets th_thrown th_typed z80_0 z80_1 z80_2 z80_3 z80_4 th_many z89_0 z89_1 th_corners th_isLoaded th_loaded th_widened th_wide th_boundUp th_boundDown th_text z80_7 z89_2) := hD
      refine lv_if_eq (tgt := 457) hx hb dX9_formula_445 (by decide) (fun c91 => ?_) (fun c91 => ?_)
      · replace h := ifp c91 h
        refine lv_iconst (v := (0 : Int32)) hx hb dX9_formula_457 (by decide) ?_
        simp only [Option.some.injEq, Prod.mk.injEq] at h
        obtain ⟨rfl, rfl, rfl, rfl, rfl, rfl, rfl, rfl, rfl, rfl⟩ := h
        exact st_iret hx hb hr hlocks hP hD hS dX9_formula_458
      · replace h := ifn c91 h
        refine lv_aload_n hx hb dX9_formula_448 rfl (lv_at hl 0 rfl) ?_
        refine va_get (D := D) (ci := 9) (v := .ref q_th_sets) (C := RX9) (T := TX9) (N := 28) hx hb hts hinX9 hown hK hP 0 rfl rfl 11 (by decide) (hts (.fieldLink RX9 19 "ChanceBoundsModel" "sets" "[I") (by decide +kernel)) (fun _ h9 => h9) rfl dX9_formula_449 ?_
        refine lv_iconst (v := (0 : Int32)) hx hb dX9_formula_452 (by decide) ?_
        obtain ⟨g92, h⟩ := gd_ok h
        refine va_iald hx hb hK hP 3 0 rfl rfl g92 dX9_formula_453 ?_
        refine lv_goto (tgt := 458) hx hb dX9_formula_454 (by decide) ?_
        simp only [Option.some.injEq, Prod.mk.injEq] at h
        obtain ⟨rfl, rfl, rfl, rfl, rfl, rfl, rfl, rfl, rfl, rfl⟩ := h
        exact st_iret hx hb hr hlocks hP hD hS dX9_formula_458
    · replace h := ifn c88 h
      refine lv_aload_n hx hb dX9_formula_416 rfl (lv_at hl 0 rfl) ?_
      obtain ⟨z93_0, hc93, h⟩ := bd_ok h
      refine st_callV (As := []) (rest := []) (pos := [0]) ⟨hx, hb, hml, hown, hts⟩ (s_X9_fails (l := l) (D := D) (tc := tc) hEok q_th q_th_text q_th_saying q_th_signs q_th_sets q_th_told q_th_up q_th_down q_th_world q_th_tight q_th_sum q_th_now th_thrown th_typed z80_0 z80_1 z80_2 z80_3 z80_4 th_many z80_5 z80_6 th_corners th_isLoaded th_loaded th_widened th_wide th_boundUp th_boundDown z93_0 hc93) (cwV 0 hts gX9_formula_X9_fails rfl rfl rfl (by decide +kernel) ⟨Nat.le_of_ble_eq_true rfl, Nat.le_of_ble_eq_true rfl⟩) (st_recv (ci := 9) (q0 := 0) hK hP rfl rfl) hEok hE hK hN hP hD hS hA rfl rfl rfl rfl hl.1 rfl (Nat.le_of_ble_eq_true rfl) dX9_formula_417 ⟨Nat.zero_le _, Nat.zero_le _⟩ (fun H locs hP hD hS => ?_)
      have hP : va_P D vwCl (w_X9_formula tc q_th q_th_text q_th_saying q_th_signs q_th_sets q_th_told q_th_up q_th_down q_th_world q_th_tight q_th_sum q_th_now n_th_text n_th_signs n_th_sets th_thrown th_typed z80_0 z80_1 z80_2 z80_3 z93_0 th_many z80_5 z80_6 th_corners th_isLoaded th_loaded th_widened th_wide th_boundUp th_boundDown th_text z80_7 z80_8) H := hP
      have hD : va_D A (w_X9_formula tc q_th q_th_text q_th_saying q_th_signs q_th_sets q_th_told q_th_up q_th_down q_th_world q_th_tight q_th_sum q_th_now n_th_text n_th_signs n_th_sets th_thrown th_typed z80_0 z80_1 z80_2 z80_3 z93_0 th_many z80_5 z80_6 th_corners th_isLoaded th_loaded th_widened th_wide th_boundUp th_boundDown th_text z80_7 z80_8) := hD
      obtain ⟨⟨z94_0, z94_1, z94_2⟩, hl94, h⟩ := bd_ok h
      refine L420 z80_0 z80_1 z80_2 z80_3 z93_0 z80_7 K _ _ hl94 ?_ _ _ _ hP hD hS (lv_sub hl [0] rfl)
      intro H locs ls hP hD hS hl
      refine lv_aload_n hx hb dX9_formula_441 rfl (lv_at hl 0 rfl) ?_
      obtain ⟨z95_0, hc95, h⟩ := bd_ok h
      refine st_callV (As := []) (rest := []) (pos := [0]) ⟨hx, hb, hml, hown, hts⟩ (s_X9_isWell (l := l) (D := D) (tc := tc) hEok q_th q_th_text q_th_saying q_th_signs q_th_sets q_th_told q_th_up q_th_down q_th_world q_th_tight q_th_sum q_th_now th_thrown th_typed z80_0 z80_1 z80_2 z80_3 z93_0 th_many z94_0 z94_1 th_corners th_isLoaded th_loaded th_widened th_wide th_boundUp th_boundDown z95_0 hc95) (cwV 0 hts gX9_formula_X9_isWell rfl rfl rfl (by decide +kernel) ⟨Nat.le_of_ble_eq_true rfl, Nat.le_of_ble_eq_true rfl⟩) (st_recv (ci := 9) (q0 := 0) hK hP rfl rfl) hEok hE hK hN hP hD hS hA rfl rfl rfl rfl hl.1 rfl (Nat.le_of_ble_eq_true rfl) dX9_formula_442 ⟨Nat.zero_le _, Nat.zero_le _⟩ (fun H locs hP hD hS => ?_)
      have hP : va_P D vwCl (w_X9_formula tc q_th q_th_text q_th_saying q_th_signs q_th_sets q_th_told q_th_up q_th_down q_th_world q_th_tight q_th_sum q_th_now n_th_text n_th_signs n_th_sets th_thrown th_typed z80_0 z80_1 z80_2 z80_3 z93_0 th_many z94_0 z94_1 th_corners th_isLoaded th_loaded th_widened th_wide th_boundUp th_boundDown th_text z80_7 z94_2) H := hP
      have hD : va_D A (w_X9_formula tc q_th q_th_text q_th_saying q_th_signs q_th_sets q_th_told q_th_up q_th_down q_th_world q_th_tight q_th_sum q_th_now n_th_text n_th_signs n_th_sets th_thrown th_typed z80_0 z80_1 z80_2 z80_3 z93_0 th_many z94_0 z94_1 th_corners th_isLoaded th_loaded th_widened th_wide th_boundUp th_boundDown th_text z80_7 z94_2) := hD
      refine lv_if_eq (tgt := 457) hx hb dX9_formula_445 (by decide) (fun c96 => ?_) (fun c96 => ?_)
      · replace h := ifp c96 h
        refine lv_iconst (v := (0 : Int32)) hx hb dX9_formula_457 (by decide) ?_
        simp only [Option.some.injEq, Prod.mk.injEq] at h
        obtain ⟨rfl, rfl, rfl, rfl, rfl, rfl, rfl, rfl, rfl, rfl⟩ := h
        exact st_iret hx hb hr hlocks hP hD hS dX9_formula_458
      · replace h := ifn c96 h
        refine lv_aload_n hx hb dX9_formula_448 rfl (lv_at hl 0 rfl) ?_
        refine va_get (D := D) (ci := 9) (v := .ref q_th_sets) (C := RX9) (T := TX9) (N := 28) hx hb hts hinX9 hown hK hP 0 rfl rfl 11 (by decide) (hts (.fieldLink RX9 19 "ChanceBoundsModel" "sets" "[I") (by decide +kernel)) (fun _ h9 => h9) rfl dX9_formula_449 ?_
        refine lv_iconst (v := (0 : Int32)) hx hb dX9_formula_452 (by decide) ?_
        obtain ⟨g97, h⟩ := gd_ok h
        refine va_iald hx hb hK hP 3 0 rfl rfl g97 dX9_formula_453 ?_
        refine lv_goto (tgt := 458) hx hb dX9_formula_454 (by decide) ?_
        simp only [Option.some.injEq, Prod.mk.injEq] at h
        obtain ⟨rfl, rfl, rfl, rfl, rfl, rfl, rfl, rfl, rfl, rfl⟩ := h
        exact st_iret hx hb hr hlocks hP hD hS dX9_formula_458
def f_X9_takesNumber_J28 (th_next : Int32) (th_token : Int32) (th_place : Int32) (th_value : Int32) (th_fault : Int32) : Option (Int32 × Int32 × Int32 × Int32 × Int32 × Int32) :=
  (f_X9_fails th_place th_fault).bind fun z1_0 =>
  some ((0 : Int32), th_next, th_token, th_place, th_value, z1_0)
def f_X9_takesNumber (K : Nat) (n_th_text : Nat) (th_typed : Int32) (th_next : Int32) (th_token : Int32) (th_place : Int32) (th_value : Int32) (th_fault : Int32) (th_text : Nat → Int32) (x1 : Int32) : Option (Int32 × Int32 × Int32 × Int32 × Int32 × Int32) :=
  (f_X9_isWell th_fault).bind fun z2_0 =>
  if z2_0 = (0 : Int32) then
    f_X9_takesNumber_J28 th_next th_token th_place th_value th_fault
  else
    if th_token = (3 : Int32) then
      (f_X9_in th_value x1 (100 : Int32)).bind fun z5_0 =>
      if z5_0 = (0 : Int32) then
        f_X9_takesNumber_J28 th_next th_token th_place th_value th_fault
      else
        (f_X9_advances K n_th_text th_typed th_next th_value th_text).bind fun z7 => match z7 with
        | (z7_0, z7_1, z7_2, z7_3) =>
          some (th_value, z7_0, z7_1, z7_2, z7_3, th_fault)
    else
      f_X9_takesNumber_J28 th_next th_token th_place th_value th_fault
abbrev w_X9_takesNumber (tc : Nat → ClassId) (q_th : Nat) (q_th_text : Nat) (q_th_saying : Nat) (q_th_signs : Nat) (q_th_sets : Nat) (q_th_told : Nat) (q_th_up : Nat) (q_th_down : Nat) (q_th_world : Nat) (q_th_tight : Nat) (q_th_sum : Nat) (q_th_now : Nat) (n_th_text : Nat) (th_thrown : Int32) (th_typed : Int32) (th_next : Int32) (th_token : Int32) (th_place : Int32) (th_value : Int32) (th_fault : Int32) (th_many : Int32) (th_signMany : Int32) (th_setMany : Int32) (th_corners : Int32) (th_isLoaded : Int32) (th_loaded : Int32) (th_widened : Int32) (th_wide : Int32) (th_boundUp : Int64) (th_boundDown : Int64) (th_text : Nat → Int32) : va_W := [(q_th, .inr (9, [.int th_thrown, .ref q_th_text, .int th_typed, .int th_next, .int th_token, .int th_place, .int th_value, .int th_fault, .int th_many, .ref q_th_saying, .ref q_th_signs, .ref q_th_sets, .int th_signMany, .int th_setMany, .ref q_th_told, .int th_corners, .int th_isLoaded, .int th_loaded, .ref q_th_up, .ref q_th_down, .ref q_th_world, .ref q_th_tight, .ref q_th_sum, .ref q_th_now, .int th_widened, .int th_wide, .long th_boundUp, .long th_boundDown])), (q_th_text, .inl (tc 0, n_th_text, .inl th_text))]
set_option maxHeartbeats 4000000 in
set_option maxRecDepth 100000 in
theorem s_X9_takesNumber {l : Launch} {E : (Nat → Prop) → State → Prop} (hEok : st_Eok E) {D : va_G} {tc : Nat → ClassId} (q_th : Nat) (q_th_text : Nat) (q_th_saying : Nat) (q_th_signs : Nat) (q_th_sets : Nat) (q_th_told : Nat) (q_th_up : Nat) (q_th_down : Nat) (q_th_world : Nat) (q_th_tight : Nat) (q_th_sum : Nat) (q_th_now : Nat) (n_th_text : Nat) (th_thrown : Int32) (th_typed : Int32) (th_next : Int32) (th_token : Int32) (th_place : Int32) (th_value : Int32) (th_fault : Int32) (th_many : Int32) (th_signMany : Int32) (th_setMany : Int32) (th_corners : Int32) (th_isLoaded : Int32) (th_loaded : Int32) (th_widened : Int32) (th_wide : Int32) (th_boundUp : Int64) (th_boundDown : Int64) (th_text : Nat → Int32) (x1 : Int32) (K : Nat) (r0 : Int32) (th_next' : Int32) (th_token' : Int32) (th_place' : Int32) (th_value' : Int32) (th_fault' : Int32) (h : f_X9_takesNumber K n_th_text th_typed th_next th_token th_place th_value th_fault th_text x1 = some (r0, th_next', th_token', th_place', th_value', th_fault')) : st l yX9_takesNumber wsX9_takesNumber ({ frames := 2, cells := 0, slots := 0, locals := 44 }) E D tc [.ref q_th, .int x1] (w_X9_takesNumber tc q_th q_th_text q_th_saying q_th_signs q_th_sets q_th_told q_th_up q_th_down q_th_world q_th_tight q_th_sum q_th_now n_th_text th_thrown th_typed th_next th_token th_place th_value th_fault th_many th_signMany th_setMany th_corners th_isLoaded th_loaded th_widened th_wide th_boundUp th_boundDown th_text) (some (.int r0)) (w_X9_takesNumber tc q_th q_th_text q_th_saying q_th_signs q_th_sets q_th_told q_th_up q_th_down q_th_world q_th_tight q_th_sum q_th_now n_th_text th_thrown th_typed th_next' th_token' th_place' th_value' th_fault' th_many th_signMany th_setMany th_corners th_isLoaded th_loaded th_widened th_wide th_boundUp th_boundDown th_text) := by
  refine st_enter (cc := cX9_takesNumber) (maxL := 3) (ret := (some .int)) (by decide) rfl (Nat.le_of_ble_eq_true rfl) ?_
  intro p e s m below meth c A ls hx hb hr hml hts hown hlocks hK hN hE hA hP hD hS hl
  have hl : lv_has ls 3 [(0, .ref q_th), (1, .int x1)] := hl
  have hinX9 : ∀ w ∈ wsX90, w ∈ wsX9_takesNumber := by decide +kernel
  generalize hav : ([.ref q_th, .int x1] : List Value).toArray = av at hts ⊢
  have J28 : ∀ (th_next : Int32) (th_token : Int32) (th_place : Int32) (th_value : Int32) (th_fault : Int32) (H : Heap) (locs : List Loc) (ls : Array Slot), f_X9_takesNumber_J28 th_next th_token th_place th_value th_fault = some (r0, th_next', th_token', th_place', th_value', th_fault') → va_P D vwCl (w_X9_takesNumber tc q_th q_th_text q_th_saying q_th_signs q_th_sets q_th_told q_th_up q_th_down q_th_world q_th_tight q_th_sum q_th_now n_th_text th_thrown th_typed th_next th_token th_place th_value th_fault th_many th_signMany th_setMany th_corners th_isLoaded th_loaded th_widened th_wide th_boundUp th_boundDown th_text) H → va_D A (w_X9_takesNumber tc q_th q_th_text q_th_saying q_th_signs q_th_sets q_th_told q_th_up q_th_down q_th_world q_th_tight q_th_sum q_th_now n_th_text th_thrown th_typed th_next th_token th_place th_value th_fault th_many th_signMany th_setMany th_corners th_isLoaded th_loaded th_widened th_wide th_boundUp th_boundDown th_text) → va_S A s.heap H locs → lv_has ls 3 [(0, .ref q_th)] → W p l e ({ frames := 2, cells := 0, slots := 0, locals := 44 } : Room) s m av below meth c H locs 0 0 (MQ below (st_Q D (w_X9_takesNumber tc q_th q_th_text q_th_saying q_th_signs q_th_sets q_th_told q_th_up q_th_down q_th_world q_th_tight q_th_sum q_th_now n_th_text th_thrown th_typed th_next' th_token' th_place' th_value' th_fault' th_many th_signMany th_setMany th_corners th_isLoaded th_loaded th_widened th_wide th_boundUp th_boundDown th_text) (some (.int r0)) A) av s 0 0 A) (F0 m 28 ls []) := by
    intro th_next th_token th_place th_value th_fault H locs ls h hP hD hS hl
    unfold f_X9_takesNumber_J28 at h
    refine lv_aload_n hx hb dX9_takesNumber_28 rfl (lv_at hl 0 rfl) ?_
    obtain ⟨z1_0, hc1, h⟩ := bd_ok h
    refine st_callV (As := []) (rest := []) (pos := [0]) ⟨hx, hb, hml, hown, hts⟩ (s_X9_fails (l := l) (D := D) (tc := tc) hEok q_th q_th_text q_th_saying q_th_signs q_th_sets q_th_told q_th_up q_th_down q_th_world q_th_tight q_th_sum q_th_now th_thrown th_typed th_next th_token th_place th_value th_fault th_many th_signMany th_setMany th_corners th_isLoaded th_loaded th_widened th_wide th_boundUp th_boundDown z1_0 hc1) (cwV 0 hts gX9_takesNumber_X9_fails rfl rfl rfl (by decide +kernel) ⟨Nat.le_of_ble_eq_true rfl, Nat.le_of_ble_eq_true rfl⟩) (st_recv (ci := 9) (q0 := 0) hK hP rfl rfl) hEok hE hK hN hP hD hS hA rfl rfl rfl rfl hl.1 rfl (Nat.le_of_ble_eq_true rfl) dX9_takesNumber_29 ⟨Nat.zero_le _, Nat.zero_le _⟩ (fun H locs hP hD hS => ?_)
    have hP : va_P D vwCl (w_X9_takesNumber tc q_th q_th_text q_th_saying q_th_signs q_th_sets q_th_told q_th_up q_th_down q_th_world q_th_tight q_th_sum q_th_now n_th_text th_thrown th_typed th_next th_token th_place th_value z1_0 th_many th_signMany th_setMany th_corners th_isLoaded th_loaded th_widened th_wide th_boundUp th_boundDown th_text) H := hP
    have hD : va_D A (w_X9_takesNumber tc q_th q_th_text q_th_saying q_th_signs q_th_sets q_th_told q_th_up q_th_down q_th_world q_th_tight q_th_sum q_th_now n_th_text th_thrown th_typed th_next th_token th_place th_value z1_0 th_many th_signMany th_setMany th_corners th_isLoaded th_loaded th_widened th_wide th_boundUp th_boundDown th_text) := hD
    refine lv_iconst (v := (0 : Int32)) hx hb dX9_takesNumber_32 (by decide) ?_
    cases h
    exact st_iret hx hb hr hlocks hP hD hS dX9_takesNumber_33
  unfold f_X9_takesNumber at h
  refine lv_aload_n hx hb dX9_takesNumber_0 rfl (lv_at hl 0 rfl) ?_
  obtain ⟨z2_0, hc2, h⟩ := bd_ok h
  refine st_callV (As := []) (rest := []) (pos := [0]) ⟨hx, hb, hml, hown, hts⟩ (s_X9_isWell (l := l) (D := D) (tc := tc) hEok q_th q_th_text q_th_saying q_th_signs q_th_sets q_th_told q_th_up q_th_down q_th_world q_th_tight q_th_sum q_th_now th_thrown th_typed th_next th_token th_place th_value th_fault th_many th_signMany th_setMany th_corners th_isLoaded th_loaded th_widened th_wide th_boundUp th_boundDown z2_0 hc2) (cwV 0 hts gX9_takesNumber_X9_isWell rfl rfl rfl (by decide +kernel) ⟨Nat.le_of_ble_eq_true rfl, Nat.le_of_ble_eq_true rfl⟩) (st_recv (ci := 9) (q0 := 0) hK hP rfl rfl) hEok hE hK hN hP hD hS hA rfl rfl rfl rfl hl.1 rfl (Nat.le_of_ble_eq_true rfl) dX9_takesNumber_1 ⟨Nat.zero_le _, Nat.zero_le _⟩ (fun H locs hP hD hS => ?_)
  have hP : va_P D vwCl (w_X9_takesNumber tc q_th q_th_text q_th_saying q_th_signs q_th_sets q_th_told q_th_up q_th_down q_th_world q_th_tight q_th_sum q_th_now n_th_text th_thrown th_typed th_next th_token th_place th_value th_fault th_many th_signMany th_setMany th_corners th_isLoaded th_loaded th_widened th_wide th_boundUp th_boundDown th_text) H := hP
  have hD : va_D A (w_X9_takesNumber tc q_th q_th_text q_th_saying q_th_signs q_th_sets q_th_told q_th_up q_th_down q_th_world q_th_tight q_th_sum q_th_now n_th_text th_thrown th_typed th_next th_token th_place th_value th_fault th_many th_signMany th_setMany th_corners th_isLoaded th_loaded th_widened th_wide th_boundUp th_boundDown th_text) := hD
  refine lv_if_eq (tgt := 28) hx hb dX9_takesNumber_4 (by decide) (fun c3 => ?_) (fun c3 => ?_)
  · replace h := ifp c3 h
    exact J28 th_next th_token th_place th_value th_fault _ _ _ h hP hD hS (lv_sub hl [0] rfl)
  · replace h := ifn c3 h
    refine lv_aload_n hx hb dX9_takesNumber_7 rfl (lv_at hl 0 rfl) ?_
    refine va_get (D := D) (ci := 9) (v := .int th_token) (C := RX9) (T := TX9) (N := 28) hx hb hts hinX9 hown hK hP 0 rfl rfl 4 (by decide) (hts (.fieldLink RX9 71 "ChanceBoundsModel" "token" "I") (by decide +kernel)) (fun _ h9 => h9) rfl dX9_takesNumber_8 ?_
    refine lv_iconst (v := (3 : Int32)) hx hb dX9_takesNumber_11 (by decide) ?_
    refine lv_icmp_ne (tgt := 28) hx hb dX9_takesNumber_12 (by decide) (fun c4 => ?_) (fun c4 => ?_)
    · replace h := ifn c4 h
      exact J28 th_next th_token th_place th_value th_fault _ _ _ h hP hD hS (lv_sub hl [0] rfl)
    · replace h := ifp c4 h
      refine lv_aload_n hx hb dX9_takesNumber_15 rfl (lv_at hl 0 rfl) ?_
      refine va_get (D := D) (ci := 9) (v := .int th_value) (C := RX9) (T := TX9) (N := 28) hx hb hts hinX9 hown hK hP 0 rfl rfl 6 (by decide) (hts (.fieldLink RX9 74 "ChanceBoundsModel" "value" "I") (by decide +kernel)) (fun _ h9 => h9) rfl dX9_takesNumber_16 ?_
      refine lv_iload_n hx hb dX9_takesNumber_19 rfl (lv_at hl 1 rfl) ?_
      refine lv_bipush (v := (100 : Int32)) hx hb dX9_takesNumber_20 (by decide) ?_
      obtain ⟨z5_0, hc5, h⟩ := bd_ok h
      refine st_callS (As := [.int th_value, .int x1, .int (100 : Int32)]) (rest := []) (pos := []) ⟨hx, hb, hml, hown, hts⟩ (s_X9_in (l := l) (D := D) (tc := tc) hEok th_value x1 (100 : Int32) z5_0 hc5) (va_cwS 3 hts gX9_takesNumber_X9_in rfl rfl rfl (by decide +kernel) ⟨Nat.le_of_ble_eq_true rfl, Nat.le_of_ble_eq_true rfl⟩) hEok hE hK hN hP hD hS hA rfl rfl rfl rfl hl.1 rfl (Nat.le_of_ble_eq_true rfl) dX9_takesNumber_22 ⟨Nat.zero_le _, Nat.zero_le _⟩ (fun H locs hP hD hS => ?_)
      have hP : va_P D vwCl (w_X9_takesNumber tc q_th q_th_text q_th_saying q_th_signs q_th_sets q_th_told q_th_up q_th_down q_th_world q_th_tight q_th_sum q_th_now n_th_text th_thrown th_typed th_next th_token th_place th_value th_fault th_many th_signMany th_setMany th_corners th_isLoaded th_loaded th_widened th_wide th_boundUp th_boundDown th_text) H := hP
      have hD : va_D A (w_X9_takesNumber tc q_th q_th_text q_th_saying q_th_signs q_th_sets q_th_told q_th_up q_th_down q_th_world q_th_tight q_th_sum q_th_now n_th_text th_thrown th_typed th_next th_token th_place th_value th_fault th_many th_signMany th_setMany th_corners th_isLoaded th_loaded th_widened th_wide th_boundUp th_boundDown th_text) := hD
      refine lv_if_ne (tgt := 34) hx hb dX9_takesNumber_25 (by decide) (fun c6 => ?_) (fun c6 => ?_)
      · replace h := ifn c6 h
        refine lv_aload_n hx hb dX9_takesNumber_34 rfl (lv_at hl 0 rfl) ?_
        refine va_get (D := D) (ci := 9) (v := .int th_value) (C := RX9) (T := TX9) (N := 28) hx hb hts hinX9 hown hK hP 0 rfl rfl 6 (by decide) (hts (.fieldLink RX9 74 "ChanceBoundsModel" "value" "I") (by decide +kernel)) (fun _ h9 => h9) rfl dX9_takesNumber_35 ?_
        refine lv_istore_n (lv' := [(2, .int th_value), (0, .ref q_th), (1, .int x1)]) hx hb dX9_takesNumber_38 rfl hl (by decide) rfl (fun ls hl => ?_)
        refine lv_aload_n hx hb dX9_takesNumber_39 rfl (lv_at hl 1 rfl) ?_
        obtain ⟨⟨z7_0, z7_1, z7_2, z7_3⟩, hc7, h⟩ := bd_ok h
        refine st_callV (As := []) (rest := []) (pos := [0, 1]) ⟨hx, hb, hml, hown, hts⟩ (s_X9_advances (l := l) (D := D) (tc := tc) hEok q_th q_th_text q_th_saying q_th_signs q_th_sets q_th_told q_th_up q_th_down q_th_world q_th_tight q_th_sum q_th_now n_th_text th_thrown th_typed th_next th_token th_place th_value th_fault th_many th_signMany th_setMany th_corners th_isLoaded th_loaded th_widened th_wide th_boundUp th_boundDown th_text K z7_0 z7_1 z7_2 z7_3 hc7) (cwV 0 hts gX9_takesNumber_X9_advances rfl rfl rfl (by decide +kernel) ⟨Nat.le_of_ble_eq_true rfl, Nat.le_of_ble_eq_true rfl⟩) (st_recv (ci := 9) (q0 := 0) hK hP rfl rfl) hEok hE hK hN hP hD hS hA rfl rfl rfl rfl hl.1 rfl (Nat.le_of_ble_eq_true rfl) dX9_takesNumber_40 ⟨Nat.zero_le _, Nat.zero_le _⟩ (fun H locs hP hD hS => ?_)
        have hP : va_P D vwCl (w_X9_takesNumber tc q_th q_th_text q_th_saying q_th_signs q_th_sets q_th_told q_th_up q_th_down q_th_world q_th_tight q_th_sum q_th_now n_th_text th_thrown th_typed z7_0 z7_1 z7_2 z7_3 th_fault th_many th_signMany th_setMany th_corners th_isLoaded th_loaded th_widened th_wide th_boundUp th_boundDown th_text) H := hP
        have hD : va_D A (w_X9_takesNumber tc q_th q_th_text q_th_saying q_th_signs q_th_sets q_th_told q_th_up q_th_down q_th_world q_th_tight q_th_sum q_th_now n_th_text th_thrown th_typed z7_0 z7_1 z7_2 z7_3 th_fault th_many th_signMany th_setMany th_corners th_isLoaded th_loaded th_widened th_wide th_boundUp th_boundDown th_text) := hD
        refine lv_iload_n hx hb dX9_takesNumber_43 rfl (lv_at hl 0 rfl) ?_
        cases h
        exact st_iret hx hb hr hlocks hP hD hS dX9_takesNumber_44
      · replace h := ifp c6 h
        exact J28 th_next th_token th_place th_value th_fault _ _ _ h hP hD hS (lv_sub hl [0] rfl)
def f_X9_takesSign (K : Nat) (n_th_text : Nat) (th_typed : Int32) (th_next : Int32) (th_token : Int32) (th_place : Int32) (th_value : Int32) (th_fault : Int32) (th_text : Nat → Int32) (x1 : Int32) : Option (Int32 × Int32 × Int32 × Int32 × Int32) :=
  (f_X9_isSign th_token th_value th_fault x1).bind fun z1_0 =>
  if z1_0 = (0 : Int32) then
    (f_X9_fails th_place th_fault).bind fun z3_0 =>
    some (th_next, th_token, th_place, th_value, z3_0)
  else
    (f_X9_advances K n_th_text th_typed th_next th_value th_text).bind fun z4 => match z4 with
    | (z4_0, z4_1, z4_2, z4_3) =>
      some (z4_0, z4_1, z4_2, z4_3, th_fault)
abbrev w_X9_takesSign (tc : Nat → ClassId) (q_th : Nat) (q_th_text : Nat) (q_th_saying : Nat) (q_th_signs : Nat) (q_th_sets : Nat) (q_th_told : Nat) (q_th_up : Nat) (q_th_down : Nat) (q_th_world : Nat) (q_th_tight : Nat) (q_th_sum : Nat) (q_th_now : Nat) (n_th_text : Nat) (th_thrown : Int32) (th_typed : Int32) (th_next : Int32) (th_token : Int32) (th_place : Int32) (th_value : Int32) (th_fault : Int32) (th_many : Int32) (th_signMany : Int32) (th_setMany : Int32) (th_corners : Int32) (th_isLoaded : Int32) (th_loaded : Int32) (th_widened : Int32) (th_wide : Int32) (th_boundUp : Int64) (th_boundDown : Int64) (th_text : Nat → Int32) : va_W := [(q_th, .inr (9, [.int th_thrown, .ref q_th_text, .int th_typed, .int th_next, .int th_token, .int th_place, .int th_value, .int th_fault, .int th_many, .ref q_th_saying, .ref q_th_signs, .ref q_th_sets, .int th_signMany, .int th_setMany, .ref q_th_told, .int th_corners, .int th_isLoaded, .int th_loaded, .ref q_th_up, .ref q_th_down, .ref q_th_world, .ref q_th_tight, .ref q_th_sum, .ref q_th_now, .int th_widened, .int th_wide, .long th_boundUp, .long th_boundDown])), (q_th_text, .inl (tc 0, n_th_text, .inl th_text))]
set_option maxHeartbeats 4000000 in
set_option maxRecDepth 100000 in
theorem s_X9_takesSign {l : Launch} {E : (Nat → Prop) → State → Prop} (hEok : st_Eok E) {D : va_G} {tc : Nat → ClassId} (q_th : Nat) (q_th_text : Nat) (q_th_saying : Nat) (q_th_signs : Nat) (q_th_sets : Nat) (q_th_told : Nat) (q_th_up : Nat) (q_th_down : Nat) (q_th_world : Nat) (q_th_tight : Nat) (q_th_sum : Nat) (q_th_now : Nat) (n_th_text : Nat) (th_thrown : Int32) (th_typed : Int32) (th_next : Int32) (th_token : Int32) (th_place : Int32) (th_value : Int32) (th_fault : Int32) (th_many : Int32) (th_signMany : Int32) (th_setMany : Int32) (th_corners : Int32) (th_isLoaded : Int32) (th_loaded : Int32) (th_widened : Int32) (th_wide : Int32) (th_boundUp : Int64) (th_boundDown : Int64) (th_text : Nat → Int32) (x1 : Int32) (K : Nat) (th_next' : Int32) (th_token' : Int32) (th_place' : Int32) (th_value' : Int32) (th_fault' : Int32) (h : f_X9_takesSign K n_th_text th_typed th_next th_token th_place th_value th_fault th_text x1 = some (th_next', th_token', th_place', th_value', th_fault')) : st l yX9_takesSign wsX9_takesSign ({ frames := 2, cells := 0, slots := 0, locals := 44 }) E D tc [.ref q_th, .int x1] (w_X9_takesSign tc q_th q_th_text q_th_saying q_th_signs q_th_sets q_th_told q_th_up q_th_down q_th_world q_th_tight q_th_sum q_th_now n_th_text th_thrown th_typed th_next th_token th_place th_value th_fault th_many th_signMany th_setMany th_corners th_isLoaded th_loaded th_widened th_wide th_boundUp th_boundDown th_text) none (w_X9_takesSign tc q_th q_th_text q_th_saying q_th_signs q_th_sets q_th_told q_th_up q_th_down q_th_world q_th_tight q_th_sum q_th_now n_th_text th_thrown th_typed th_next' th_token' th_place' th_value' th_fault' th_many th_signMany th_setMany th_corners th_isLoaded th_loaded th_widened th_wide th_boundUp th_boundDown th_text) := by
  refine st_enter (cc := cX9_takesSign) (maxL := 2) (ret := none) (by decide) rfl (Nat.le_of_ble_eq_true rfl) ?_
  intro p e s m below meth c A ls hx hb hr hml hts hown hlocks hK hN hE hA hP hD hS hl
  have hl : lv_has ls 2 [(0, .ref q_th), (1, .int x1)] := hl
  generalize hav : ([.ref q_th, .int x1] : List Value).toArray = av at hts ⊢
  unfold f_X9_takesSign at h
  refine lv_aload_n hx hb dX9_takesSign_0 rfl (lv_at hl 0 rfl) ?_
  refine lv_iload_n hx hb dX9_takesSign_1 rfl (lv_at hl 1 rfl) ?_
  obtain ⟨z1_0, hc1, h⟩ := bd_ok h
  refine st_callV (As := [.int x1]) (rest := []) (pos := [0]) ⟨hx, hb, hml, hown, hts⟩ (s_X9_isSign (l := l) (D := D) (tc := tc) hEok q_th q_th_text q_th_saying q_th_signs q_th_sets q_th_told q_th_up q_th_down q_th_world q_th_tight q_th_sum q_th_now th_thrown th_typed th_next th_token th_place th_value th_fault th_many th_signMany th_setMany th_corners th_isLoaded th_loaded th_widened th_wide th_boundUp th_boundDown x1 z1_0 hc1) (cwV 1 hts gX9_takesSign_X9_isSign rfl rfl rfl (by decide +kernel) ⟨Nat.le_of_ble_eq_true rfl, Nat.le_of_ble_eq_true rfl⟩) (st_recv (ci := 9) (q0 := 0) hK hP rfl rfl) hEok hE hK hN hP hD hS hA rfl rfl rfl rfl hl.1 rfl (Nat.le_of_ble_eq_true rfl) dX9_takesSign_2 ⟨Nat.zero_le _, Nat.zero_le _⟩ (fun H locs hP hD hS => ?_)
  have hP : va_P D vwCl (w_X9_takesSign tc q_th q_th_text q_th_saying q_th_signs q_th_sets q_th_told q_th_up q_th_down q_th_world q_th_tight q_th_sum q_th_now n_th_text th_thrown th_typed th_next th_token th_place th_value th_fault th_many th_signMany th_setMany th_corners th_isLoaded th_loaded th_widened th_wide th_boundUp th_boundDown th_text) H := hP
  have hD : va_D A (w_X9_takesSign tc q_th q_th_text q_th_saying q_th_signs q_th_sets q_th_told q_th_up q_th_down q_th_world q_th_tight q_th_sum q_th_now n_th_text th_thrown th_typed th_next th_token th_place th_value th_fault th_many th_signMany th_setMany th_corners th_isLoaded th_loaded th_widened th_wide th_boundUp th_boundDown th_text) := hD
  refine lv_if_eq (tgt := 15) hx hb dX9_takesSign_5 (by decide) (fun c2 => ?_) (fun c2 => ?_)
  · replace h := ifp c2 h
    refine lv_aload_n hx hb dX9_takesSign_15 rfl (lv_at hl 0 rfl) ?_
    obtain ⟨z3_0, hc3, h⟩ := bd_ok h
    refine st_callV (As := []) (rest := []) (pos := [0]) ⟨hx, hb, hml, hown, hts⟩ (s_X9_fails (l := l) (D := D) (tc := tc) hEok q_th q_th_text q_th_saying q_th_signs q_th_sets q_th_told q_th_up q_th_down q_th_world q_th_tight q_th_sum q_th_now th_thrown th_typed th_next th_token th_place th_value th_fault th_many th_signMany th_setMany th_corners th_isLoaded th_loaded th_widened th_wide th_boundUp th_boundDown z3_0 hc3) (cwV 0 hts gX9_takesSign_X9_fails rfl rfl rfl (by decide +kernel) ⟨Nat.le_of_ble_eq_true rfl, Nat.le_of_ble_eq_true rfl⟩) (st_recv (ci := 9) (q0 := 0) hK hP rfl rfl) hEok hE hK hN hP hD hS hA rfl rfl rfl rfl hl.1 rfl (Nat.le_of_ble_eq_true rfl) dX9_takesSign_16 ⟨Nat.zero_le _, Nat.zero_le _⟩ (fun H locs hP hD hS => ?_)
    have hP : va_P D vwCl (w_X9_takesSign tc q_th q_th_text q_th_saying q_th_signs q_th_sets q_th_told q_th_up q_th_down q_th_world q_th_tight q_th_sum q_th_now n_th_text th_thrown th_typed th_next th_token th_place th_value z3_0 th_many th_signMany th_setMany th_corners th_isLoaded th_loaded th_widened th_wide th_boundUp th_boundDown th_text) H := hP
    have hD : va_D A (w_X9_takesSign tc q_th q_th_text q_th_saying q_th_signs q_th_sets q_th_told q_th_up q_th_down q_th_world q_th_tight q_th_sum q_th_now n_th_text th_thrown th_typed th_next th_token th_place th_value z3_0 th_many th_signMany th_setMany th_corners th_isLoaded th_loaded th_widened th_wide th_boundUp th_boundDown th_text) := hD
    cases h
    exact st_vret hx hb hr hlocks hP hD hS dX9_takesSign_19
  · replace h := ifn c2 h
    refine lv_aload_n hx hb dX9_takesSign_8 rfl (lv_at hl 0 rfl) ?_
    obtain ⟨⟨z4_0, z4_1, z4_2, z4_3⟩, hc4, h⟩ := bd_ok h
    refine st_callV (As := []) (rest := []) (pos := [0, 1]) ⟨hx, hb, hml, hown, hts⟩ (s_X9_advances (l := l) (D := D) (tc := tc) hEok q_th q_th_text q_th_saying q_th_signs q_th_sets q_th_told q_th_up q_th_down q_th_world q_th_tight q_th_sum q_th_now n_th_text th_thrown th_typed th_next th_token th_place th_value th_fault th_many th_signMany th_setMany th_corners th_isLoaded th_loaded th_widened th_wide th_boundUp th_boundDown th_text K z4_0 z4_1 z4_2 z4_3 hc4) (cwV 0 hts gX9_takesSign_X9_advances rfl rfl rfl (by decide +kernel) ⟨Nat.le_of_ble_eq_true rfl, Nat.le_of_ble_eq_true rfl⟩) (st_recv (ci := 9) (q0 := 0) hK hP rfl rfl) hEok hE hK hN hP hD hS hA rfl rfl rfl rfl hl.1 rfl (Nat.le_of_ble_eq_true rfl) dX9_takesSign_9 ⟨Nat.zero_le _, Nat.zero_le _⟩ (fun H locs hP hD hS => ?_)
    have hP : va_P D vwCl (w_X9_takesSign tc q_th q_th_text q_th_saying q_th_signs q_th_sets q_th_told q_th_up q_th_down q_th_world q_th_tight q_th_sum q_th_now n_th_text th_thrown th_typed z4_0 z4_1 z4_2 z4_3 th_fault th_many th_signMany th_setMany th_corners th_isLoaded th_loaded th_widened th_wide th_boundUp th_boundDown th_text) H := hP
    have hD : va_D A (w_X9_takesSign tc q_th q_th_text q_th_saying q_th_signs q_th_sets q_th_told q_th_up q_th_down q_th_world q_th_tight q_th_sum q_th_now n_th_text th_thrown th_typed z4_0 z4_1 z4_2 z4_3 th_fault th_many th_signMany th_setMany th_corners th_isLoaded th_loaded th_widened th_wide th_boundUp th_boundDown th_text) := hD
    refine lv_goto (tgt := 19) hx hb dX9_takesSign_12 (by decide) ?_
    cases h
    exact st_vret hx hb hr hlocks hP hD hS dX9_takesSign_19

def f_X9_in (x0 : Int32) (x1 : Int32) (x2 : Int32) : Option (Int32) :=
  if x0 < x1 then
    some (0 : Int32)
  else
    if x2 < x0 then
      some (0 : Int32)
    else
      some (1 : Int32)
abbrev w_X9_in : va_W := []
set_option maxHeartbeats 4000000 in
set_option maxRecDepth 100000 in
theorem s_X9_in {l : Launch} {E : (Nat → Prop) → State → Prop} (hEok : st_Eok E) {D : va_G} {tc : Nat → ClassId} (x0 : Int32) (x1 : Int32) (x2 : Int32) (r0 : Int32) (h : f_X9_in x0 x1 x2 = some r0) : st l yX9_in wsX9_in ({ frames := 0, cells := 0, slots := 0, locals := 0 }) E D tc [.int x0, .int x1, .int x2] w_X9_in (some (.int r0)) w_X9_in := by
  refine st_enter (cc := cX9_in) (maxL := 3) (ret := (some .boolean)) (by decide) rfl (Nat.le_of_ble_eq_true rfl) ?_
  intro p e s m below meth c A ls hx hb hr hml hts hown hlocks hK hN hE hA hP hD hS hl
  have hl : lv_has ls 3 [(0, .int x0), (1, .int x1), (2, .int x2)] := hl
  generalize hav : ([.int x0, .int x1, .int x2] : List Value).toArray = av at hts ⊢
  unfold f_X9_in at h
  refine lv_iload_n hx hb dX9_in_0 rfl (lv_at hl 0 rfl) ?_
  refine lv_iload_n hx hb dX9_in_1 rfl (lv_at hl 1 rfl) ?_
  refine lv_icmp_lt (tgt := 14) hx hb dX9_in_2 (by decide) (fun c1 => ?_) (fun c1 => ?_)
  · replace h := ifp c1 h
    refine lv_iconst (v := (0 : Int32)) hx hb dX9_in_14 (by decide) ?_
    cases h
    exact st_zret hx hb hr hlocks hP hD hS rfl dX9_in_15
  · replace h := ifn c1 h
    refine lv_iload_n hx hb dX9_in_5 rfl (lv_at hl 0 rfl) ?_
    refine lv_iload_n hx hb dX9_in_6 rfl (lv_at hl 2 rfl) ?_
    refine lv_icmp_gt (tgt := 14) hx hb dX9_in_7 (by decide) (fun c2 => ?_) (fun c2 => ?_)
    · replace h := ifp c2 h
      refine lv_iconst (v := (0 : Int32)) hx hb dX9_in_14 (by decide) ?_
      cases h
      exact st_zret hx hb hr hlocks hP hD hS rfl dX9_in_15
    · replace h := ifn c2 h
      refine lv_iconst (v := (1 : Int32)) hx hb dX9_in_10 (by decide) ?_
      refine lv_goto (tgt := 15) hx hb dX9_in_11 (by decide) ?_
      cases h
      exact st_zret hx hb hr hlocks hP hD hS rfl dX9_in_15
def f_X9_isSaying (th_many : Int32) (x1 : Int32) : Option (Int32) :=
  (f_X9_in x1 (0 : Int32) (th_many - (1 : Int32))).bind fun z1_0 =>
  if ¬ (z1_0 = 0 ∨ z1_0 = 1) then none else
  some z1_0
abbrev w_X9_isSaying (tc : Nat → ClassId) (q_th : Nat) (q_th_text : Nat) (q_th_saying : Nat) (q_th_signs : Nat) (q_th_sets : Nat) (q_th_told : Nat) (q_th_up : Nat) (q_th_down : Nat) (q_th_world : Nat) (q_th_tight : Nat) (q_th_sum : Nat) (q_th_now : Nat)  (th_thrown : Int32) (th_typed : Int32) (th_next : Int32) (th_token : Int32) (th_place : Int32) (th_value : Int32) (th_fault : Int32) (th_many : Int32) (th_signMany : Int32) (th_setMany : Int32) (th_corners : Int32) (th_isLoaded : Int32) (th_loaded : Int32) (th_widened : Int32) (th_wide : Int32) (th_boundUp : Int64) (th_boundDown : Int64) : va_W := [(q_th, .inr (9, [.int th_thrown, .ref q_th_text, .int th_typed, .int th_next, .int th_token, .int th_place, .int th_value, .int th_fault, .int th_many, .ref q_th_saying, .ref q_th_signs, .ref q_th_sets, .int th_signMany, .int th_setMany, .ref q_th_told, .int th_corners, .int th_isLoaded, .int th_loaded, .ref q_th_up, .ref q_th_down, .ref q_th_world, .ref q_th_tight, .ref q_th_sum, .ref q_th_now, .int th_widened, .int th_wide, .long th_boundUp, .long th_boundDown]))]
set_option maxHeartbeats 4000000 in
set_option maxRecDepth 100000 in
theorem s_X9_isSaying {l : Launch} {E : (Nat → Prop) → State → Prop} (hEok : st_Eok E) {D : va_G} {tc : Nat → ClassId} (q_th : Nat) (q_th_text : Nat) (q_th_saying : Nat) (q_th_signs : Nat) (q_th_sets : Nat) (q_th_told : Nat) (q_th_up : Nat) (q_th_down : Nat) (q_th_world : Nat) (q_th_tight : Nat) (q_th_sum : Nat) (q_th_now : Nat) (th_thrown : Int32) (th_typed : Int32) (th_next : Int32) (th_token : Int32) (th_place : Int32) (th_value : Int32) (th_fault : Int32) (th_many : Int32) (th_signMany : Int32) (th_setMany : Int32) (th_corners : Int32) (th_isLoaded : Int32) (th_loaded : Int32) (th_widened : Int32) (th_wide : Int32) (th_boundUp : Int64) (th_boundDown : Int64) (x1 : Int32) (r0 : Int32) (h : f_X9_isSaying th_many x1 = some r0) : st l yX9_isSaying wsX9_isSaying ({ frames := 1, cells := 0, slots := 0, locals := 22 }) E D tc [.ref q_th, .int x1] (w_X9_isSaying tc q_th q_th_text q_th_saying q_th_signs q_th_sets q_th_told q_th_up q_th_down q_th_world q_th_tight q_th_sum q_th_now th_thrown th_typed th_next th_token th_place th_value th_fault th_many th_signMany th_setMany th_corners th_isLoaded th_loaded th_widened th_wide th_boundUp th_boundDown) (some (.int r0)) (w_X9_isSaying tc q_th q_th_text q_th_saying q_th_signs q_th_sets q_th_told q_th_up q_th_down q_th_world q_th_tight q_th_sum q_th_now th_thrown th_typed th_next th_token th_place th_value th_fault th_many th_signMany th_setMany th_corners th_isLoaded th_loaded th_widened th_wide th_boundUp th_boundDown) := by
  refine st_enter (cc := cX9_isSaying) (maxL := 2) (ret := (some .boolean)) (by decide) rfl (Nat.le_of_ble_eq_true rfl) ?_
  intro p e s m below meth c A ls hx hb hr hml hts hown hlocks hK hN hE hA hP hD hS hl
  have hl : lv_has ls 2 [(0, .ref q_th), (1, .int x1)] := hl
  have hinX9 : ∀ w ∈ wsX90, w ∈ wsX9_isSaying := by decide +kernel
  generalize hav : ([.ref q_th, .int x1] : List Value).toArray = av at hts ⊢
  unfold f_X9_isSaying at h
  refine lv_iload_n hx hb dX9_isSaying_0 rfl (lv_at hl 1 rfl) ?_
  refine lv_iconst (v := (0 : Int32)) hx hb dX9_isSaying_1 (by decide) ?_
  refine lv_aload_n hx hb dX9_isSaying_2 rfl (lv_at hl 0 rfl) ?_
  refine va_get (D := D) (ci := 9) (v := .int th_many) (C := RX9) (T := TX9) (N := 28) hx hb hts hinX9 hown hK hP 0 rfl rfl 8 (by decide) (hts (.fieldLink RX9 49 "ChanceBoundsModel" "many" "I") (by decide +kernel)) (fun _ h9 => h9) rfl dX9_isSaying_3 ?_
  refine lv_iconst (v := (1 : Int32)) hx hb dX9_isSaying_6 (by decide) ?_
  refine lv_isub hx hb dX9_isSaying_7 ?_
  obtain ⟨z1_0, hc1, h⟩ := bd_ok h
  refine st_callS (As := [.int x1, .int (0 : Int32), .int (th_many - (1 : Int32))]) (rest := []) (pos := []) ⟨hx, hb, hml, hown, hts⟩ (s_X9_in (l := l) (D := D) (tc := tc) hEok x1 (0 : Int32) (th_many - (1 : Int32)) z1_0 hc1) (va_cwS 3 hts gX9_isSaying_X9_in rfl rfl rfl (by decide +kernel) ⟨Nat.le_of_ble_eq_true rfl, Nat.le_of_ble_eq_true rfl⟩) hEok hE hK hN hP hD hS hA rfl rfl rfl rfl hl.1 rfl (Nat.le_of_ble_eq_true rfl) dX9_isSaying_8 ⟨Nat.zero_le _, Nat.zero_le _⟩ (fun H locs hP hD hS => ?_)
  have hP : va_P D vwCl (w_X9_isSaying tc q_th q_th_text q_th_saying q_th_signs q_th_sets q_th_told q_th_up q_th_down q_th_world q_th_tight q_th_sum q_th_now th_thrown th_typed th_next th_token th_place th_value th_fault th_many th_signMany th_setMany th_corners th_isLoaded th_loaded th_widened th_wide th_boundUp th_boundDown) H := hP
  have hD : va_D A (w_X9_isSaying tc q_th q_th_text q_th_saying q_th_signs q_th_sets q_th_told q_th_up q_th_down q_th_world q_th_tight q_th_sum q_th_now th_thrown th_typed th_next th_token th_place th_value th_fault th_many th_signMany th_setMany th_corners th_isLoaded th_loaded th_widened th_wide th_boundUp th_boundDown) := hD
  obtain ⟨g2, h⟩ := gd_ok h
  cases h
  exact st_zret hx hb hr hlocks hP hD hS (st_nb g2) dX9_isSaying_11
def f_X9_isBit (x0 : Int32) : Option (Int32) :=
  if x0 = (0 : Int32) then
    some (1 : Int32)
  else
    if x0 = (1 : Int32) then
      some (1 : Int32)
    else
      some (0 : Int32)
abbrev w_X9_isBit : va_W := []
set_option maxHeartbeats 4000000 in
set_option maxRecDepth 100000 in
theorem s_X9_isBit {l : Launch} {E : (Nat → Prop) → State → Prop} (hEok : st_Eok E) {D : va_G} {tc : Nat → ClassId} (x0 : Int32) (r0 : Int32) (h : f_X9_isBit x0 = some r0) : st l yX9_isBit wsX9_isBit ({ frames := 0, cells := 0, slots := 0, locals := 0 }) E D tc [.int x0] w_X9_isBit (some (.int r0)) w_X9_isBit := by
  refine st_enter (cc := cX9_isBit) (maxL := 1) (ret := (some .boolean)) (by decide) rfl (Nat.le_of_ble_eq_true rfl) ?_
  intro p e s m below meth c A ls hx hb hr hml hts hown hlocks hK hN hE hA hP hD hS hl
  have hl : lv_has ls 1 [(0, .int x0)] := hl
  generalize hav : ([.int x0] : List Value).toArray = av at hts ⊢
  unfold f_X9_isBit at h
  refine lv_iload_n hx hb dX9_isBit_0 rfl (lv_at hl 0 rfl) ?_
  refine lv_if_eq (tgt := 9) hx hb dX9_isBit_1 (by decide) (fun c1 => ?_) (fun c1 => ?_)
  · replace h := ifp c1 h
    refine lv_iconst (v := (1 : Int32)) hx hb dX9_isBit_9 (by decide) ?_
    refine lv_goto (tgt := 14) hx hb dX9_isBit_10 (by decide) ?_
    cases h
    exact st_zret hx hb hr hlocks hP hD hS rfl dX9_isBit_14
  · replace h := ifn c1 h
    refine lv_iload_n hx hb dX9_isBit_4 rfl (lv_at hl 0 rfl) ?_
    refine lv_iconst (v := (1 : Int32)) hx hb dX9_isBit_5 (by decide) ?_
    refine lv_icmp_ne (tgt := 13) hx hb dX9_isBit_6 (by decide) (fun c2 => ?_) (fun c2 => ?_)
    · replace h := ifn c2 h
      refine lv_iconst (v := (0 : Int32)) hx hb dX9_isBit_13 (by decide) ?_
      cases h
      exact st_zret hx hb hr hlocks hP hD hS rfl dX9_isBit_14
    · replace h := ifp c2 h
      refine lv_iconst (v := (1 : Int32)) hx hb dX9_isBit_9 (by decide) ?_
      refine lv_goto (tgt := 14) hx hb dX9_isBit_10 (by decide) ?_
      cases h
      exact st_zret hx hb hr hlocks hP hD hS rfl dX9_isBit_14
def f_X9_isThing (x0 : Int32) : Option (Int32) :=
  (f_X9_in x0 (0 : Int32) (255 : Int32)).bind fun z1_0 =>
  if ¬ (z1_0 = 0 ∨ z1_0 = 1) then none else
  some z1_0
abbrev w_X9_isThing : va_W := []
set_option maxHeartbeats 4000000 in
set_option maxRecDepth 100000 in
theorem s_X9_isThing {l : Launch} {E : (Nat → Prop) → State → Prop} (hEok : st_Eok E) {D : va_G} {tc : Nat → ClassId} (x0 : Int32) (r0 : Int32) (h : f_X9_isThing x0 = some r0) : st l yX9_isThing wsX9_isThing ({ frames := 1, cells := 0, slots := 0, locals := 22 }) E D tc [.int x0] w_X9_isThing (some (.int r0)) w_X9_isThing := by
  refine st_enter (cc := cX9_isThing) (maxL := 1) (ret := (some .boolean)) (by decide) rfl (Nat.le_of_ble_eq_true rfl) ?_
  intro p e s m below meth c A ls hx hb hr hml hts hown hlocks hK hN hE hA hP hD hS hl
  have hl : lv_has ls 1 [(0, .int x0)] := hl
  generalize hav : ([.int x0] : List Value).toArray = av at hts ⊢
  unfold f_X9_isThing at h
  refine lv_iload_n hx hb dX9_isThing_0 rfl (lv_at hl 0 rfl) ?_
  refine lv_iconst (v := (0 : Int32)) hx hb dX9_isThing_1 (by decide) ?_
  refine lv_sipush (v := (255 : Int32)) hx hb dX9_isThing_2 (by decide) ?_
  obtain ⟨z1_0, hc1, h⟩ := bd_ok h
  refine st_callS (As := [.int x0, .int (0 : Int32), .int (255 : Int32)]) (rest := []) (pos := []) ⟨hx, hb, hml, hown, hts⟩ (s_X9_in (l := l) (D := D) (tc := tc) hEok x0 (0 : Int32) (255 : Int32) z1_0 hc1) (va_cwS 3 hts gX9_isThing_X9_in rfl rfl rfl (by decide +kernel) ⟨Nat.le_of_ble_eq_true rfl, Nat.le_of_ble_eq_true rfl⟩) hEok hE hK hN hP hD hS hA rfl rfl rfl rfl hl.1 rfl (Nat.le_of_ble_eq_true rfl) dX9_isThing_5 ⟨Nat.zero_le _, Nat.zero_le _⟩ (fun H locs hP hD hS => ?_)
  obtain ⟨g2, h⟩ := gd_ok h
  cases h
  exact st_zret hx hb hr hlocks hP hD hS (st_nb g2) dX9_isThing_8
def f_X9_type_L37 (n_th_text : Nat) (x1 : Int64) (s37 : Int32 × Int32 × (Nat → Int32)) : Option ((Int32 × (Nat → Int32)) ⊕ (Int32 × Int32 × (Nat → Int32))) :=
  match s37 with
  | (x4, th_typed, th_text) =>
    if x4 < (0 : Int32) then
      some (.inl (th_typed, th_text))
    else
      if th_typed < 0 ∨ n_th_text ≤ th_typed.toNatClampNeg then none else
      some (.inr (x4 + (-1), th_typed + (1 : Int32), upd th_text th_typed.toNatClampNeg (((x1 >>> (((8 : Int32) * x4).toInt64 &&& 63)) &&& (255 : Int64)).toInt32)))
def f_X9_type (K : Nat) (n_th_text : Nat) (th_typed : Int32) (th_text : Nat → Int32) (x1 : Int64) (x3 : Int32) : Option (Int32 × Int32 × Int32 × (Nat → Int32)) :=
  (f_X9_in x3 (1 : Int32) (8 : Int32)).bind fun z3_0 =>
  if z3_0 = (0 : Int32) then
    some ((-1 : Int32), (0 : Int32), th_typed, th_text)
  else
    if (th_typed + x3) ≤ (200 : Int32) then
      (lp (f_X9_type_L37 n_th_text x1) K (x3 - (1 : Int32), th_typed, th_text)).bind fun z6 => match z6 with
      | (z6_0, z6_1) =>
        some (z6_0, (0 : Int32), z6_0, z6_1)
    else
      some ((-3 : Int32), (0 : Int32), th_typed, th_text)
abbrev w_X9_type (tc : Nat → ClassId) (q_th : Nat) (q_th_text : Nat) (q_th_saying : Nat) (q_th_signs : Nat) (q_th_sets : Nat) (q_th_told : Nat) (q_th_up : Nat) (q_th_down : Nat) (q_th_world : Nat) (q_th_tight : Nat) (q_th_sum : Nat) (q_th_now : Nat) (n_th_text : Nat) (th_thrown : Int32) (th_typed : Int32) (th_next : Int32) (th_token : Int32) (th_place : Int32) (th_value : Int32) (th_fault : Int32) (th_many : Int32) (th_signMany : Int32) (th_setMany : Int32) (th_corners : Int32) (th_isLoaded : Int32) (th_loaded : Int32) (th_widened : Int32) (th_wide : Int32) (th_boundUp : Int64) (th_boundDown : Int64) (th_text : Nat → Int32) : va_W := [(q_th, .inr (9, [.int th_thrown, .ref q_th_text, .int th_typed, .int th_next, .int th_token, .int th_place, .int th_value, .int th_fault, .int th_many, .ref q_th_saying, .ref q_th_signs, .ref q_th_sets, .int th_signMany, .int th_setMany, .ref q_th_told, .int th_corners, .int th_isLoaded, .int th_loaded, .ref q_th_up, .ref q_th_down, .ref q_th_world, .ref q_th_tight, .ref q_th_sum, .ref q_th_now, .int th_widened, .int th_wide, .long th_boundUp, .long th_boundDown])), (q_th_text, .inl (tc 0, n_th_text, .inl th_text))]
set_option maxHeartbeats 4000000 in
set_option maxRecDepth 100000 in
theorem s_X9_type {l : Launch} {E : (Nat → Prop) → State → Prop} (hEok : st_Eok E) {D : va_G} {tc : Nat → ClassId} (q_th : Nat) (q_th_text : Nat) (q_th_saying : Nat) (q_th_signs : Nat) (q_th_sets : Nat) (q_th_told : Nat) (q_th_up : Nat) (q_th_down : Nat) (q_th_world : Nat) (q_th_tight : Nat) (q_th_sum : Nat) (q_th_now : Nat) (n_th_text : Nat) (th_thrown : Int32) (th_typed : Int32) (th_next : Int32) (th_token : Int32) (th_place : Int32) (th_value : Int32) (th_fault : Int32) (th_many : Int32) (th_signMany : Int32) (th_setMany : Int32) (th_corners : Int32) (th_isLoaded : Int32) (th_loaded : Int32) (th_widened : Int32) (th_wide : Int32) (th_boundUp : Int64) (th_boundDown : Int64) (th_text : Nat → Int32) (x1 : Int64) (x3 : Int32) (K : Nat) (r0 : Int32) (th_thrown' : Int32) (th_typed' : Int32) (th_text' : Nat → Int32) (h : f_X9_type K n_th_text th_typed th_text x1 x3 = some (r0, th_thrown', th_typed', th_text')) : st l yX9_type wsX9_type ({ frames := 1, cells := 0, slots := 0, locals := 22 }) E D tc [.ref q_th, .long x1, .int x3] (w_X9_type tc q_th q_th_text q_th_saying q_th_signs q_th_sets q_th_told q_th_up q_th_down q_th_world q_th_tight q_th_sum q_th_now n_th_text th_thrown th_typed th_next th_token th_place th_value th_fault th_many th_signMany th_setMany th_corners th_isLoaded th_loaded th_widened th_wide th_boundUp th_boundDown th_text) (some (.int r0)) (w_X9_type tc q_th q_th_text q_th_saying q_th_signs q_th_sets q_th_told q_th_up q_th_down q_th_world q_th_tight q_th_sum q_th_now n_th_text th_thrown' th_typed' th_next th_token th_place th_value th_fault th_many th_signMany th_setMany th_corners th_isLoaded th_loaded th_widened th_wide th_boundUp th_boundDown th_text') := by
  refine st_enter (cc := cX9_type) (maxL := 5) (ret := (some .int)) (by decide) rfl (Nat.le_of_ble_eq_true rfl) ?_
  intro p e s m below meth c A ls hx hb hr hml hts hown hlocks hK hN hE hA hP hD hS hl
  have hl : lv_has ls 5 [(0, .ref q_th), (1, .long x1), (3, .int x3)] := hl
  have hinX9 : ∀ w ∈ wsX90, w ∈ wsX9_type := by decide +kernel
  generalize hav : ([.ref q_th, .long x1, .int x3] : List Value).toArray = av at hts ⊢
  have L37 : ∀ (x1 : Int64) (th_thrown : Int32), ∀ (k : Nat) (s37 : Int32 × Int32 × (Nat → Int32)) (r : Int32 × (Nat → Int32)), lp (f_X9_type_L37 n_th_text x1) k s37 = some r → (fun y37 : Int32 × (Nat → Int32) => match y37 with | (th_typed, th_text) => ∀ (H : Heap) (locs : List Loc) (ls : Array Slot), va_P D vwCl (w_X9_type tc q_th q_th_text q_th_saying q_th_signs q_th_sets q_th_told q_th_up q_th_down q_th_world q_th_tight q_th_sum q_th_now n_th_text th_thrown th_typed th_next th_token th_place th_value th_fault th_many th_signMany th_setMany th_corners th_isLoaded th_loaded th_widened th_wide th_boundUp th_boundDown th_text) H → va_D A (w_X9_type tc q_th q_th_text q_th_saying q_th_signs q_th_sets q_th_told q_th_up q_th_down q_th_world q_th_tight q_th_sum q_th_now n_th_text th_thrown th_typed th_next th_token th_place th_value th_fault th_many th_signMany th_setMany th_corners th_isLoaded th_loaded th_widened th_wide th_boundUp th_boundDown th_text) → va_S A s.heap H locs → lv_has ls 5 [(0, .ref q_th)] → W p l e ({ frames := 1, cells := 0, slots := 0, locals := 22 } : Room) s m av below meth c H locs 0 0 (MQ below (st_Q D (w_X9_type tc q_th q_th_text q_th_saying q_th_signs q_th_sets q_th_told q_th_up q_th_down q_th_world q_th_tight q_th_sum q_th_now n_th_text th_thrown' th_typed' th_next th_token th_place th_value th_fault th_many th_signMany th_setMany th_corners th_isLoaded th_loaded th_widened th_wide th_boundUp th_boundDown th_text') (some (.int r0)) A) av s 0 0 A) (F0 m 79 ls [])) r → (fun s37 : Int32 × Int32 × (Nat → Int32) => match s37 with | (x4, th_typed, th_text) => ∀ (H : Heap) (locs : List Loc) (ls : Array Slot), va_P D vwCl (w_X9_type tc q_th q_th_text q_th_saying q_th_signs q_th_sets q_th_told q_th_up q_th_down q_th_world q_th_tight q_th_sum q_th_now n_th_text th_thrown th_typed th_next th_token th_place th_value th_fault th_many th_signMany th_setMany th_corners th_isLoaded th_loaded th_widened th_wide th_boundUp th_boundDown th_text) H → va_D A (w_X9_type tc q_th q_th_text q_th_saying q_th_signs q_th_sets q_th_told q_th_up q_th_down q_th_world q_th_tight q_th_sum q_th_now n_th_text th_thrown th_typed th_next th_token th_place th_value th_fault th_many th_signMany th_setMany th_corners th_isLoaded th_loaded th_widened th_wide th_boundUp th_boundDown th_text) → va_S A s.heap H locs → lv_has ls 5 [(0, .ref q_th), (1, .long x1), (4, .int x4)] → W p l e ({ frames := 1, cells := 0, slots := 0, locals := 22 } : Room) s m av below meth c H locs 0 0 (MQ below (st_Q D (w_X9_type tc q_th q_th_text q_th_saying q_th_signs q_th_sets q_th_told q_th_up q_th_down q_th_world q_th_tight q_th_sum q_th_now n_th_text th_thrown' th_typed' th_next th_token th_place th_value th_fault th_many th_signMany th_setMany th_corners th_isLoaded th_loaded th_widened th_wide th_boundUp th_boundDown th_text') (some (.int r0)) A) av s 0 0 A) (F0 m 37 ls [])) s37 := by
    intro x1 th_thrown
    refine lp_W (f_X9_type_L37 n_th_text x1) (fun s37 : Int32 × Int32 × (Nat → Int32) => match s37 with | (x4, th_typed, th_text) => ∀ (H : Heap) (locs : List Loc) (ls : Array Slot), va_P D vwCl (w_X9_type tc q_th q_th_text q_th_saying q_th_signs q_th_sets q_th_told q_th_up q_th_down q_th_world q_th_tight q_th_sum q_th_now n_th_text th_thrown th_typed th_next th_token th_place th_value th_fault th_many th_signMany th_setMany th_corners th_isLoaded th_loaded th_widened th_wide th_boundUp th_boundDown th_text) H → va_D A (w_X9_type tc q_th q_th_text q_th_saying q_th_signs q_th_sets q_th_told q_th_up q_th_down q_th_world q_th_tight q_th_sum q_th_now n_th_text th_thrown th_typed th_next th_token th_place th_value th_fault th_many th_signMany th_setMany th_corners th_isLoaded th_loaded th_widened th_wide th_boundUp th_boundDown th_text) → va_S A s.heap H locs → lv_has ls 5 [(0, .ref q_th), (1, .long x1), (4, .int x4)] → W p l e ({ frames := 1, cells := 0, slots := 0, locals := 22 } : Room) s m av below meth c H locs 0 0 (MQ below (st_Q D (w_X9_type tc q_th q_th_text q_th_saying q_th_signs q_th_sets q_th_told q_th_up q_th_down q_th_world q_th_tight q_th_sum q_th_now n_th_text th_thrown' th_typed' th_next th_token th_place th_value th_fault th_many th_signMany th_setMany th_corners th_isLoaded th_loaded th_widened th_wide th_boundUp th_boundDown th_text') (some (.int r0)) A) av s 0 0 A) (F0 m 37 ls [])) (fun y37 : Int32 × (Nat → Int32) => match y37 with | (th_typed, th_text) => ∀ (H : Heap) (locs : List Loc) (ls : Array Slot), va_P D vwCl (w_X9_type tc q_th q_th_text q_th_saying q_th_signs q_th_sets q_th_told q_th_up q_th_down q_th_world q_th_tight q_th_sum q_th_now n_th_text th_thrown th_typed th_next th_token th_place th_value th_fault th_many th_signMany th_setMany th_corners th_isLoaded th_loaded th_widened th_wide th_boundUp th_boundDown th_text) H → va_D A (w_X9_type tc q_th q_th_text q_th_saying q_th_signs q_th_sets q_th_told q_th_up q_th_down q_th_world q_th_tight q_th_sum q_th_now n_th_text th_thrown th_typed th_next th_token th_place th_value th_fault th_many th_signMany th_setMany th_corners th_isLoaded th_loaded th_widened th_wide th_boundUp th_boundDown th_text) → va_S A s.heap H locs → lv_has ls 5 [(0, .ref q_th)] → W p l e ({ frames := 1, cells := 0, slots := 0, locals := 22 } : Room) s m av below meth c H locs 0 0 (MQ below (st_Q D (w_X9_type tc q_th q_th_text q_th_saying q_th_signs q_th_sets q_th_told q_th_up q_th_down q_th_world q_th_tight q_th_sum q_th_now n_th_text th_thrown' th_typed' th_next th_token th_place th_value th_fault th_many th_signMany th_setMany th_corners th_isLoaded th_loaded th_widened th_wide th_boundUp th_boundDown th_text') (some (.int r0)) A) av s 0 0 A) (F0 m 79 ls [])) ?_
    rintro ⟨x4, th_typed, th_text⟩ o h ih hz H locs ls hP hD hS hl
    unfold f_X9_type_L37 at h
    refine lv_iload hx hb dX9_type_37 (lv_at hl 2 rfl) ?_
    refine lv_if_lt (tgt := 79) hx hb dX9_type_39 (by decide) (fun c1 => ?_) (fun c1 => ?_)
    · replace h := ifp c1 h
      cases h
      exact hz _ rfl _ _ _ hP hD hS (lv_sub hl [0] rfl)
    · replace h := ifn c1 h
      refine lv_aload_n hx hb dX9_type_42 rfl (lv_at hl 0 rfl) ?_
      refine va_get (D := D) (ci := 9) (v := .ref q_th_text) (C := RX9) (T := TX9) (N := 28) hx hb hts hinX9 hown hK hP 0 rfl rfl 1 (by decide) (hts (.fieldLink RX9 7 "ChanceBoundsModel" "text" "[I") (by decide +kernel)) (fun _ h9 => h9) rfl dX9_type_43 ?_
      refine lv_aload_n hx hb dX9_type_46 rfl (lv_at hl 0 rfl) ?_
      refine va_get (D := D) (ci := 9) (v := .int th_typed) (C := RX9) (T := TX9) (N := 28) hx hb hts hinX9 hown hK hP 0 rfl rfl 2 (by decide) (hts (.fieldLink RX9 56 "ChanceBoundsModel" "typed" "I") (by decide +kernel)) (fun _ h9 => h9) rfl dX9_type_47 ?_
      refine lv_lload_n hx hb dX9_type_50 rfl (lv_at hl 1 rfl) ?_
      refine lv_bipush (v := (8 : Int32)) hx hb dX9_type_51 (by decide) ?_
      refine lv_iload hx hb dX9_type_53 (lv_at hl 2 rfl) ?_
      refine lv_imul hx hb dX9_type_55 ?_
      refine lv_lshr (v := x1 >>> (((8 : Int32) * x4).toInt64 &&& 63)) hx hb dX9_type_56 rfl ?_
      refine lv_ldc2 (v := (255 : Int64)) hx hb hown (hts (.constantLong RX9 59 (255)) (by decide +kernel)) dX9_type_57 ?_
      refine lv_land hx hb dX9_type_60 ?_
      refine lv_l2i (v := ((x1 >>> (((8 : Int32) * x4).toInt64 &&& 63)) &&& (255 : Int64)).toInt32) hx hb dX9_type_61 rfl ?_
      obtain ⟨g2, h⟩ := gd_ok h
      refine va_iast hx hb hK hP hD hS 1 0 rfl rfl g2 dX9_type_62 (fun H locs hP hD hS => ?_)
      have hP : va_P D vwCl (w_X9_type tc q_th q_th_text q_th_saying q_th_signs q_th_sets q_th_told q_th_up q_th_down q_th_world q_th_tight q_th_sum q_th_now n_th_text th_thrown th_typed th_next th_token th_place th_value th_fault th_many th_signMany th_setMany th_corners th_isLoaded th_loaded th_widened th_wide th_boundUp th_boundDown (upd th_text th_typed.toNatClampNeg (((x1 >>> (((8 : Int32) * x4).toInt64 &&& 63)) &&& (255 : Int64)).toInt32))) H := hP
      have hD : va_D A (w_X9_type tc q_th q_th_text q_th_saying q_th_signs q_th_sets q_th_told q_th_up q_th_down q_th_world q_th_tight q_th_sum q_th_now n_th_text th_thrown th_typed th_next th_token th_place th_value th_fault th_many th_signMany th_setMany th_corners th_isLoaded th_loaded th_widened th_wide th_boundUp th_boundDown (upd th_text th_typed.toNatClampNeg (((x1 >>> (((8 : Int32) * x4).toInt64 &&& 63)) &&& (255 : Int64)).toInt32))) := hD
      refine lv_aload_n hx hb dX9_type_63 rfl (lv_at hl 0 rfl) ?_
      refine lv_dup hx hb dX9_type_64 rfl ?_
      refine va_get (D := D) (ci := 9) (v := .int th_typed) (C := RX9) (T := TX9) (N := 28) hx hb hts hinX9 hown hK hP 0 rfl rfl 2 (by decide) (hts (.fieldLink RX9 56 "ChanceBoundsModel" "typed" "I") (by decide +kernel)) (fun _ h9 => h9) rfl dX9_type_65 ?_
      refine lv_iconst (v := (1 : Int32)) hx hb dX9_type_68 (by decide) ?_
      refine lv_iadd hx hb dX9_type_69 ?_
      refine va_put (D := D) (ci := 9) (v := .int (th_typed + (1 : Int32))) (ty := .int) (C := RX9) (T := TX9) (N := 28) hx hb hts hinX9 tyX9 tyX9_ok nmX9 hown hK hP hD hS 0 rfl rfl 2 (by decide) (hts (.fieldLink RX9 56 "ChanceBoundsModel" "typed" "I") (by decide +kernel)) (fun _ h9 => h9) rfl (by decide +kernel) rfl rfl (Nat.le_of_ble_eq_true rfl) dX9_type_70 (fun H locs hP hD hS => ?_)
      have hP : va_P D vwCl (w_X9_type tc q_th q_th_text q_th_saying q_th_signs q_th_sets q_th_told q_th_up q_th_down q_th_world q_th_tight q_th_sum q_th_now n_th_text th_thrown (th_typed + (1 : Int32)) th_next th_token th_place th_value th_fault th_many th_signMany th_setMany th_corners th_isLoaded th_loaded th_widened th_wide th_boundUp th_boundDown (upd th_text th_typed.toNatClampNeg (((x1 >>> (((8 : Int32) * x4).toInt64 &&& 63)) &&& (255 : Int64)).toInt32))) H := hP
      have hD : va_D A (w_X9_type tc q_th q_th_text q_th_saying q_th_signs q_th_sets q_th_told q_th_up q_th_down q_th_world q_th_tight q_th_sum q_th_now n_th_text th_thrown (th_typed + (1 : Int32)) th_next th_token th_place th_value th_fault th_many th_signMany th_setMany th_corners th_isLoaded th_loaded th_widened th_wide th_boundUp th_boundDown (upd th_text th_typed.toNatClampNeg (((x1 >>> (((8 : Int32) * x4).toInt64 &&& 63)) &&& (255 : Int64)).toInt32))) := hD
      refine lv_iinc (v := x4 + (-1)) (lv' := [(4, .int (x4 + (-1))), (0, .ref q_th), (1, .long x1)]) hx hb dX9_type_73 hl (k := 2) rfl rfl (by decide) rfl (fun ls hl => ?_)
      refine lv_goto (tgt := 37) hx hb dX9_type_76 (by decide) ?_
      cases h
      exact ih _ rfl _ _ _ hP hD hS (lv_sub hl [1, 2, 0] rfl)
  unfold f_X9_type at h
  refine lv_aload_n hx hb dX9_type_0 rfl (lv_at hl 0 rfl) ?_
  refine lv_iconst (v := (0 : Int32)) hx hb dX9_type_1 (by decide) ?_
  refine va_put (D := D) (ci := 9) (v := .int (0 : Int32)) (ty := .int) (C := RX9) (T := TX9) (N := 28) hx hb hts hinX9 tyX9 tyX9_ok nmX9 hown hK hP hD hS 0 rfl rfl 0 (by decide) (hts (.fieldLink RX9 45 "ChanceBoundsModel" "thrown" "I") (by decide +kernel)) (fun _ h9 => h9) rfl (by decide +kernel) rfl rfl (Nat.le_of_ble_eq_true rfl) dX9_type_2 (fun H locs hP hD hS => ?_)
  have hP : va_P D vwCl (w_X9_type tc q_th q_th_text q_th_saying q_th_signs q_th_sets q_th_told q_th_up q_th_down q_th_world q_th_tight q_th_sum q_th_now n_th_text (0 : Int32) th_typed th_next th_token th_place th_value th_fault th_many th_signMany th_setMany th_corners th_isLoaded th_loaded th_widened th_wide th_boundUp th_boundDown th_text) H := hP
  have hD : va_D A (w_X9_type tc q_th q_th_text q_th_saying q_th_signs q_th_sets q_th_told q_th_up q_th_down q_th_world q_th_tight q_th_sum q_th_now n_th_text (0 : Int32) th_typed th_next th_token th_place th_value th_fault th_many th_signMany th_setMany th_corners th_isLoaded th_loaded th_widened th_wide th_boundUp th_boundDown th_text) := hD
  refine lv_iload_n hx hb dX9_type_5 rfl (lv_at hl 2 rfl) ?_
  refine lv_iconst (v := (1 : Int32)) hx hb dX9_type_6 (by decide) ?_
  refine lv_bipush (v := (8 : Int32)) hx hb dX9_type_7 (by decide) ?_
  obtain ⟨z3_0, hc3, h⟩ := bd_ok h
  refine st_callS (As := [.int x3, .int (1 : Int32), .int (8 : Int32)]) (rest := []) (pos := []) ⟨hx, hb, hml, hown, hts⟩ (s_X9_in (l := l) (D := D) (tc := tc) hEok x3 (1 : Int32) (8 : Int32) z3_0 hc3) (va_cwS 3 hts gX9_type_X9_in rfl rfl rfl (by decide +kernel) ⟨Nat.le_of_ble_eq_true rfl, Nat.le_of_ble_eq_true rfl⟩) hEok hE hK hN hP hD hS hA rfl rfl rfl rfl hl.1 rfl (Nat.le_of_ble_eq_true rfl) dX9_type_9 ⟨Nat.zero_le _, Nat.zero_le _⟩ (fun H locs hP hD hS => ?_)
  have hP : va_P D vwCl (w_X9_type tc q_th q_th_text q_th_saying q_th_signs q_th_sets q_th_told q_th_up q_th_down q_th_world q_th_tight q_th_sum q_th_now n_th_text (0 : Int32) th_typed th_next th_token th_place th_value th_fault th_many th_signMany th_setMany th_corners th_isLoaded th_loaded th_widened th_wide th_boundUp th_boundDown th_text) H := hP
  have hD : va_D A (w_X9_type tc q_th q_th_text q_th_saying q_th_signs q_th_sets q_th_told q_th_up q_th_down q_th_world q_th_tight q_th_sum q_th_now n_th_text (0 : Int32) th_typed th_next th_token th_place th_value th_fault th_many th_signMany th_setMany th_corners th_isLoaded th_loaded th_widened th_wide th_boundUp th_boundDown th_text) := hD
  refine lv_if_ne (tgt := 17) hx hb dX9_type_12 (by decide) (fun c4 => ?_) (fun c4 => ?_)
  · replace h := ifn c4 h
    refine lv_aload_n hx hb dX9_type_17 rfl (lv_at hl 0 rfl) ?_
    refine va_get (D := D) (ci := 9) (v := .int th_typed) (C := RX9) (T := TX9) (N := 28) hx hb hts hinX9 hown hK hP 0 rfl rfl 2 (by decide) (hts (.fieldLink RX9 56 "ChanceBoundsModel" "typed" "I") (by decide +kernel)) (fun _ h9 => h9) rfl dX9_type_18 ?_
    refine lv_iload_n hx hb dX9_type_21 rfl (lv_at hl 2 rfl) ?_
    refine lv_iadd hx hb dX9_type_22 ?_
    refine lv_sipush (v := (200 : Int32)) hx hb dX9_type_23 (by decide) ?_
    refine lv_icmp_le (tgt := 32) hx hb dX9_type_26 (by decide) (fun c5 => ?_) (fun c5 => ?_)
    · replace h := ifp c5 h
      refine lv_iload_n hx hb dX9_type_32 rfl (lv_at hl 2 rfl) ?_
      refine lv_iconst (v := (1 : Int32)) hx hb dX9_type_33 (by decide) ?_
      refine lv_isub hx hb dX9_type_34 ?_
      refine lv_istore (lv' := [(4, .int (x3 - (1 : Int32))), (0, .ref q_th), (1, .long x1), (3, .int x3)]) hx hb dX9_type_35 hl (by decide) rfl (fun ls hl => ?_)
      obtain ⟨⟨z6_0, z6_1⟩, hl6, h⟩ := bd_ok h
      refine L37 x1 (0 : Int32) K _ _ hl6 ?_ _ _ _ hP hD hS (lv_sub hl [1, 2, 0] rfl)
      intro H locs ls hP hD hS hl
      refine lv_aload_n hx hb dX9_type_79 rfl (lv_at hl 0 rfl) ?_
      refine va_get (D := D) (ci := 9) (v := .int z6_0) (C := RX9) (T := TX9) (N := 28) hx hb hts hinX9 hown hK hP 0 rfl rfl 2 (by decide) (hts (.fieldLink RX9 56 "ChanceBoundsModel" "typed" "I") (by decide +kernel)) (fun _ h9 => h9) rfl dX9_type_80 ?_
      cases h
      exact st_iret hx hb hr hlocks hP hD hS dX9_type_83
    · replace h := ifn c5 h
      refine lv_bipush (v := (-3 : Int32)) hx hb dX9_type_29 (by decide) ?_
      cases h
      exact st_iret hx hb hr hlocks hP hD hS dX9_type_31
  · replace h := ifp c4 h
    refine lv_iconst (v := (-1 : Int32)) hx hb dX9_type_15 (by decide) ?_
    cases h
    exact st_iret hx hb hr hlocks hP hD hS dX9_type_16
def f_X9_clear (th_typed : Int32) : Option (Int32 × Int32 × Int32) :=
  some (th_typed, (0 : Int32), (0 : Int32))
abbrev w_X9_clear (tc : Nat → ClassId) (q_th : Nat) (q_th_text : Nat) (q_th_saying : Nat) (q_th_signs : Nat) (q_th_sets : Nat) (q_th_told : Nat) (q_th_up : Nat) (q_th_down : Nat) (q_th_world : Nat) (q_th_tight : Nat) (q_th_sum : Nat) (q_th_now : Nat)  (th_thrown : Int32) (th_typed : Int32) (th_next : Int32) (th_token : Int32) (th_place : Int32) (th_value : Int32) (th_fault : Int32) (th_many : Int32) (th_signMany : Int32) (th_setMany : Int32) (th_corners : Int32) (th_isLoaded : Int32) (th_loaded : Int32) (th_widened : Int32) (th_wide : Int32) (th_boundUp : Int64) (th_boundDown : Int64) : va_W := [(q_th, .inr (9, [.int th_thrown, .ref q_th_text, .int th_typed, .int th_next, .int th_token, .int th_place, .int th_value, .int th_fault, .int th_many, .ref q_th_saying, .ref q_th_signs, .ref q_th_sets, .int th_signMany, .int th_setMany, .ref q_th_told, .int th_corners, .int th_isLoaded, .int th_loaded, .ref q_th_up, .ref q_th_down, .ref q_th_world, .ref q_th_tight, .ref q_th_sum, .ref q_th_now, .int th_widened, .int th_wide, .long th_boundUp, .long th_boundDown]))]
set_option maxHeartbeats 4000000 in
set_option maxRecDepth 100000 in
theorem s_X9_clear {l : Launch} {E : (Nat → Prop) → State → Prop} (hEok : st_Eok E) {D : va_G} {tc : Nat → ClassId} (q_th : Nat) (q_th_text : Nat) (q_th_saying : Nat) (q_th_signs : Nat) (q_th_sets : Nat) (q_th_told : Nat) (q_th_up : Nat) (q_th_down : Nat) (q_th_world : Nat) (q_th_tight : Nat) (q_th_sum : Nat) (q_th_now : Nat) (th_thrown : Int32) (th_typed : Int32) (th_next : Int32) (th_token : Int32) (th_place : Int32) (th_value : Int32) (th_fault : Int32) (th_many : Int32) (th_signMany : Int32) (th_setMany : Int32) (th_corners : Int32) (th_isLoaded : Int32) (th_loaded : Int32) (th_widened : Int32) (th_wide : Int32) (th_boundUp : Int64) (th_boundDown : Int64) (r0 : Int32) (th_thrown' : Int32) (th_typed' : Int32) (h : f_X9_clear th_typed = some (r0, th_thrown', th_typed')) : st l yX9_clear wsX9_clear ({ frames := 0, cells := 0, slots := 0, locals := 0 }) E D tc [.ref q_th] (w_X9_clear tc q_th q_th_text q_th_saying q_th_signs q_th_sets q_th_told q_th_up q_th_down q_th_world q_th_tight q_th_sum q_th_now th_thrown th_typed th_next th_token th_place th_value th_fault th_many th_signMany th_setMany th_corners th_isLoaded th_loaded th_widened th_wide th_boundUp th_boundDown) (some (.int r0)) (w_X9_clear tc q_th q_th_text q_th_saying q_th_signs q_th_sets q_th_told q_th_up q_th_down q_th_world q_th_tight q_th_sum q_th_now th_thrown' th_typed' th_next th_token th_place th_value th_fault th_many th_signMany th_setMany th_corners th_isLoaded th_loaded th_widened th_wide th_boundUp th_boundDown) := by
  refine st_enter (cc := cX9_clear) (maxL := 2) (ret := (some .int)) (by decide) rfl (Nat.le_of_ble_eq_true rfl) ?_
  intro p e s m below meth c A ls hx hb hr hml hts hown hlocks hK hN hE hA hP hD hS hl
  have hl : lv_has ls 2 [(0, .ref q_th)] := hl
  have hinX9 : ∀ w ∈ wsX90, w ∈ wsX9_clear := by decide +kernel
  generalize hav : ([.ref q_th] : List Value).toArray = av at hts ⊢
  unfold f_X9_clear at h
  refine lv_aload_n hx hb dX9_clear_0 rfl (lv_at hl 0 rfl) ?_
  refine lv_iconst (v := (0 : Int32)) hx hb dX9_clear_1 (by decide) ?_
  refine va_put (D := D) (ci := 9) (v := .int (0 : Int32)) (ty := .int) (C := RX9) (T := TX9) (N := 28) hx hb hts hinX9 tyX9 tyX9_ok nmX9 hown hK hP hD hS 0 rfl rfl 0 (by decide) (hts (.fieldLink RX9 45 "ChanceBoundsModel" "thrown" "I") (by decide +kernel)) (fun _ h9 => h9) rfl (by decide +kernel) rfl rfl (Nat.le_of_ble_eq_true rfl) dX9_clear_2 (fun H locs hP hD hS => ?_)
  have hP : va_P D vwCl (w_X9_clear tc q_th q_th_text q_th_saying q_th_signs q_th_sets q_th_told q_th_up q_th_down q_th_world q_th_tight q_th_sum q_th_now (0 : Int32) th_typed th_next th_token th_place th_value th_fault th_many th_signMany th_setMany th_corners th_isLoaded th_loaded th_widened th_wide th_boundUp th_boundDown) H := hP
  have hD : va_D A (w_X9_clear tc q_th q_th_text q_th_saying q_th_signs q_th_sets q_th_told q_th_up q_th_down q_th_world q_th_tight q_th_sum q_th_now (0 : Int32) th_typed th_next th_token th_place th_value th_fault th_many th_signMany th_setMany th_corners th_isLoaded th_loaded th_widened th_wide th_boundUp th_boundDown) := hD
  refine lv_aload_n hx hb dX9_clear_5 rfl (lv_at hl 0 rfl) ?_
  refine va_get (D := D) (ci := 9) (v := .int th_typed) (C := RX9) (T := TX9) (N := 28) hx hb hts hinX9 hown hK hP 0 rfl rfl 2 (by decide) (hts (.fieldLink RX9 56 "ChanceBoundsModel" "typed" "I") (by decide +kernel)) (fun _ h9 => h9) rfl dX9_clear_6 ?_
  refine lv_istore_n (lv' := [(1, .int th_typed), (0, .ref q_th)]) hx hb dX9_clear_9 rfl hl (by decide) rfl (fun ls hl => ?_)
  refine lv_aload_n hx hb dX9_clear_10 rfl (lv_at hl 1 rfl) ?_
  refine lv_iconst (v := (0 : Int32)) hx hb dX9_clear_11 (by decide) ?_
  refine va_put (D := D) (ci := 9) (v := .int (0 : Int32)) (ty := .int) (C := RX9) (T := TX9) (N := 28) hx hb hts hinX9 tyX9 tyX9_ok nmX9 hown hK hP hD hS 0 rfl rfl 2 (by decide) (hts (.fieldLink RX9 56 "ChanceBoundsModel" "typed" "I") (by decide +kernel)) (fun _ h9 => h9) rfl (by decide +kernel) rfl rfl (Nat.le_of_ble_eq_true rfl) dX9_clear_12 (fun H locs hP hD hS => ?_)
  have hP : va_P D vwCl (w_X9_clear tc q_th q_th_text q_th_saying q_th_signs q_th_sets q_th_told q_th_up q_th_down q_th_world q_th_tight q_th_sum q_th_now (0 : Int32) (0 : Int32) th_next th_token th_place th_value th_fault th_many th_signMany th_setMany th_corners th_isLoaded th_loaded th_widened th_wide th_boundUp th_boundDown) H := hP
  have hD : va_D A (w_X9_clear tc q_th q_th_text q_th_saying q_th_signs q_th_sets q_th_told q_th_up q_th_down q_th_world q_th_tight q_th_sum q_th_now (0 : Int32) (0 : Int32) th_next th_token th_place th_value th_fault th_many th_signMany th_setMany th_corners th_isLoaded th_loaded th_widened th_wide th_boundUp th_boundDown) := hD
  refine lv_iload_n hx hb dX9_clear_15 rfl (lv_at hl 0 rfl) ?_
  cases h
  exact st_iret hx hb hr hlocks hP hD hS dX9_clear_16
def f_X9_byteAt (n_th_text : Nat) (th_typed : Int32) (th_text : Nat → Int32) (x1 : Int32) : Option (Int32) :=
  if th_typed ≤ x1 then
    some (-1 : Int32)
  else
    if x1 < 0 ∨ n_th_text ≤ x1.toNatClampNeg then none else
    some (th_text x1.toNatClampNeg)
abbrev w_X9_byteAt (tc : Nat → ClassId) (q_th : Nat) (q_th_text : Nat) (q_th_saying : Nat) (q_th_signs : Nat) (q_th_sets : Nat) (q_th_told : Nat) (q_th_up : Nat) (q_th_down : Nat) (q_th_world : Nat) (q_th_tight : Nat) (q_th_sum : Nat) (q_th_now : Nat) (n_th_text : Nat) (th_thrown : Int32) (th_typed : Int32) (th_next : Int32) (th_token : Int32) (th_place : Int32) (th_value : Int32) (th_fault : Int32) (th_many : Int32) (th_signMany : Int32) (th_setMany : Int32) (th_corners : Int32) (th_isLoaded : Int32) (th_loaded : Int32) (th_widened : Int32) (th_wide : Int32) (th_boundUp : Int64) (th_boundDown : Int64) (th_text : Nat → Int32) : va_W := [(q_th, .inr (9, [.int th_thrown, .ref q_th_text, .int th_typed, .int th_next, .int th_token, .int th_place, .int th_value, .int th_fault, .int th_many, .ref q_th_saying, .ref q_th_signs, .ref q_th_sets, .int th_signMany, .int th_setMany, .ref q_th_told, .int th_corners, .int th_isLoaded, .int th_loaded, .ref q_th_up, .ref q_th_down, .ref q_th_world, .ref q_th_tight, .ref q_th_sum, .ref q_th_now, .int th_widened, .int th_wide, .long th_boundUp, .long th_boundDown])), (q_th_text, .inl (tc 0, n_th_text, .inl th_text))]
set_option maxHeartbeats 4000000 in
set_option maxRecDepth 100000 in
theorem s_X9_byteAt {l : Launch} {E : (Nat → Prop) → State → Prop} (hEok : st_Eok E) {D : va_G} {tc : Nat → ClassId} (q_th : Nat) (q_th_text : Nat) (q_th_saying : Nat) (q_th_signs : Nat) (q_th_sets : Nat) (q_th_told : Nat) (q_th_up : Nat) (q_th_down : Nat) (q_th_world : Nat) (q_th_tight : Nat) (q_th_sum : Nat) (q_th_now : Nat) (n_th_text : Nat) (th_thrown : Int32) (th_typed : Int32) (th_next : Int32) (th_token : Int32) (th_place : Int32) (th_value : Int32) (th_fault : Int32) (th_many : Int32) (th_signMany : Int32) (th_setMany : Int32) (th_corners : Int32) (th_isLoaded : Int32) (th_loaded : Int32) (th_widened : Int32) (th_wide : Int32) (th_boundUp : Int64) (th_boundDown : Int64) (th_text : Nat → Int32) (x1 : Int32) (r0 : Int32) (h : f_X9_byteAt n_th_text th_typed th_text x1 = some r0) : st l yX9_byteAt wsX9_byteAt ({ frames := 0, cells := 0, slots := 0, locals := 0 }) E D tc [.ref q_th, .int x1] (w_X9_byteAt tc q_th q_th_text q_th_saying q_th_signs q_th_sets q_th_told q_th_up q_th_down q_th_world q_th_tight q_th_sum q_th_now n_th_text th_thrown th_typed th_next th_token th_place th_value th_fault th_many th_signMany th_setMany th_corners th_isLoaded th_loaded th_widened th_wide th_boundUp th_boundDown th_text) (some (.int r0)) (w_X9_byteAt tc q_th q_th_text q_th_saying q_th_signs q_th_sets q_th_told q_th_up q_th_down q_th_world q_th_tight q_th_sum q_th_now n_th_text th_thrown th_typed th_next th_token th_place th_value th_fault th_many th_signMany th_setMany th_corners th_isLoaded th_loaded th_widened th_wide th_boundUp th_boundDown th_text) := by
  refine st_enter (cc := cX9_byteAt) (maxL := 2) (ret := (some .int)) (by decide) rfl (Nat.le_of_ble_eq_true rfl) ?_
  intro p e s m below meth c A ls hx hb hr hml hts hown hlocks hK hN hE hA hP hD hS hl
  have hl : lv_has ls 2 [(0, .ref q_th), (1, .int x1)] := hl
  have hinX9 : ∀ w ∈ wsX90, w ∈ wsX9_byteAt := by decide +kernel
  generalize hav : ([.ref q_th, .int x1] : List Value).toArray = av at hts ⊢
  unfold f_X9_byteAt at h
  refine lv_iload_n hx hb dX9_byteAt_0 rfl (lv_at hl 1 rfl) ?_
  refine lv_aload_n hx hb dX9_byteAt_1 rfl (lv_at hl 0 rfl) ?_
  refine va_get (D := D) (ci := 9) (v := .int th_typed) (C := RX9) (T := TX9) (N := 28) hx hb hts hinX9 hown hK hP 0 rfl rfl 2 (by decide) (hts (.fieldLink RX9 56 "ChanceBoundsModel" "typed" "I") (by decide +kernel)) (fun _ h9 => h9) rfl dX9_byteAt_2 ?_
  refine lv_icmp_ge (tgt := 17) hx hb dX9_byteAt_5 (by decide) (fun c1 => ?_) (fun c1 => ?_)
  · replace h := ifp c1 h
    refine lv_iconst (v := (-1 : Int32)) hx hb dX9_byteAt_17 (by decide) ?_
    cases h
    exact st_iret hx hb hr hlocks hP hD hS dX9_byteAt_18
  · replace h := ifn c1 h
    refine lv_aload_n hx hb dX9_byteAt_8 rfl (lv_at hl 0 rfl) ?_
    refine va_get (D := D) (ci := 9) (v := .ref q_th_text) (C := RX9) (T := TX9) (N := 28) hx hb hts hinX9 hown hK hP 0 rfl rfl 1 (by decide) (hts (.fieldLink RX9 7 "ChanceBoundsModel" "text" "[I") (by decide +kernel)) (fun _ h9 => h9) rfl dX9_byteAt_9 ?_
    refine lv_iload_n hx hb dX9_byteAt_12 rfl (lv_at hl 1 rfl) ?_
    obtain ⟨g2, h⟩ := gd_ok h
    refine va_iald hx hb hK hP 1 0 rfl rfl g2 dX9_byteAt_13 ?_
    refine lv_goto (tgt := 18) hx hb dX9_byteAt_14 (by decide) ?_
    cases h
    exact st_iret hx hb hr hlocks hP hD hS dX9_byteAt_18
def f_X9_isWell (th_fault : Int32) : Option (Int32) :=
  if (0 : Int32) ≤ th_fault then
    some (0 : Int32)
  else
    some (1 : Int32)
abbrev w_X9_isWell (tc : Nat → ClassId) (q_th : Nat) (q_th_text : Nat) (q_th_saying : Nat) (q_th_signs : Nat) (q_th_sets : Nat) (q_th_told : Nat) (q_th_up : Nat) (q_th_down : Nat) (q_th_world : Nat) (q_th_tight : Nat) (q_th_sum : Nat) (q_th_now : Nat)  (th_thrown : Int32) (th_typed : Int32) (th_next : Int32) (th_token : Int32) (th_place : Int32) (th_value : Int32) (th_fault : Int32) (th_many : Int32) (th_signMany : Int32) (th_setMany : Int32) (th_corners : Int32) (th_isLoaded : Int32) (th_loaded : Int32) (th_widened : Int32) (th_wide : Int32) (th_boundUp : Int64) (th_boundDown : Int64) : va_W := [(q_th, .inr (9, [.int th_thrown, .ref q_th_text, .int th_typed, .int th_next, .int th_token, .int th_place, .int th_value, .int th_fault, .int th_many, .ref q_th_saying, .ref q_th_signs, .ref q_th_sets, .int th_signMany, .int th_setMany, .ref q_th_told, .int th_corners, .int th_isLoaded, .int th_loaded, .ref q_th_up, .ref q_th_down, .ref q_th_world, .ref q_th_tight, .ref q_th_sum, .ref q_th_now, .int th_widened, .int th_wide, .long th_boundUp, .long th_boundDown]))]
set_option maxHeartbeats 4000000 in
set_option maxRecDepth 100000 in
theorem s_X9_isWell {l : Launch} {E : (Nat → Prop) → State → Prop} (hEok : st_Eok E) {D : va_G} {tc : Nat → ClassId} (q_th : Nat) (q_th_text : Nat) (q_th_saying : Nat) (q_th_signs : Nat) (q_th_sets : Nat) (q_th_told : Nat) (q_th_up : Nat) (q_th_down : Nat) (q_th_world : Nat) (q_th_tight : Nat) (q_th_sum : Nat) (q_th_now : Nat) (th_thrown : Int32) (th_typed : Int32) (th_next : Int32) (th_token : Int32) (th_place : Int32) (th_value : Int32) (th_fault : Int32) (th_many : Int32) (th_signMany : Int32) (th_setMany : Int32) (th_corners : Int32) (th_isLoaded : Int32) (th_loaded : Int32) (th_widened : Int32) (th_wide : Int32) (th_boundUp : Int64) (th_boundDown : Int64) (r0 : Int32) (h : f_X9_isWell th_fault = some r0) : st l yX9_isWell wsX9_isWell ({ frames := 0, cells := 0, slots := 0, locals := 0 }) E D tc [.ref q_th] (w_X9_isWell tc q_th q_th_text q_th_saying q_th_signs q_th_sets q_th_told q_th_up q_th_down q_th_world q_th_tight q_th_sum q_th_now th_thrown th_typed th_next th_token th_place th_value th_fault th_many th_signMany th_setMany th_corners th_isLoaded th_loaded th_widened th_wide th_boundUp th_boundDown) (some (.int r0)) (w_X9_isWell tc q_th q_th_text q_th_saying q_th_signs q_th_sets q_th_told q_th_up q_th_down q_th_world q_th_tight q_th_sum q_th_now th_thrown th_typed th_next th_token th_place th_value th_fault th_many th_signMany th_setMany th_corners th_isLoaded th_loaded th_widened th_wide th_boundUp th_boundDown) := by
  refine st_enter (cc := cX9_isWell) (maxL := 1) (ret := (some .boolean)) (by decide) rfl (Nat.le_of_ble_eq_true rfl) ?_
  intro p e s m below meth c A ls hx hb hr hml hts hown hlocks hK hN hE hA hP hD hS hl
  have hl : lv_has ls 1 [(0, .ref q_th)] := hl
  have hinX9 : ∀ w ∈ wsX90, w ∈ wsX9_isWell := by decide +kernel
  generalize hav : ([.ref q_th] : List Value).toArray = av at hts ⊢
  unfold f_X9_isWell at h
  refine lv_aload_n hx hb dX9_isWell_0 rfl (lv_at hl 0 rfl) ?_
  refine va_get (D := D) (ci := 9) (v := .int th_fault) (C := RX9) (T := TX9) (N := 28) hx hb hts hinX9 hown hK hP 0 rfl rfl 7 (by decide) (hts (.fieldLink RX9 77 "ChanceBoundsModel" "fault" "I") (by decide +kernel)) (fun _ h9 => h9) rfl dX9_isWell_1 ?_
  refine lv_if_ge (tgt := 11) hx hb dX9_isWell_4 (by decide) (fun c1 => ?_) (fun c1 => ?_)
  · replace h := ifp c1 h
    refine lv_iconst (v := (0 : Int32)) hx hb dX9_isWell_11 (by decide) ?_
    cases h
    exact st_zret hx hb hr hlocks hP hD hS rfl dX9_isWell_12
  · replace h := ifn c1 h
    refine lv_iconst (v := (1 : Int32)) hx hb dX9_isWell_7 (by decide) ?_
    refine lv_goto (tgt := 12) hx hb dX9_isWell_8 (by decide) ?_
    cases h
    exact st_zret hx hb hr hlocks hP hD hS rfl dX9_isWell_12
def f_X9_fails (th_place : Int32) (th_fault : Int32) : Option (Int32) :=
  if (0 : Int32) ≤ th_fault then
    some th_fault
  else
    some th_place
abbrev w_X9_fails (tc : Nat → ClassId) (q_th : Nat) (q_th_text : Nat) (q_th_saying : Nat) (q_th_signs : Nat) (q_th_sets : Nat) (q_th_told : Nat) (q_th_up : Nat) (q_th_down : Nat) (q_th_world : Nat) (q_th_tight : Nat) (q_th_sum : Nat) (q_th_now : Nat)  (th_thrown : Int32) (th_typed : Int32) (th_next : Int32) (th_token : Int32) (th_place : Int32) (th_value : Int32) (th_fault : Int32) (th_many : Int32) (th_signMany : Int32) (th_setMany : Int32) (th_corners : Int32) (th_isLoaded : Int32) (th_loaded : Int32) (th_widened : Int32) (th_wide : Int32) (th_boundUp : Int64) (th_boundDown : Int64) : va_W := [(q_th, .inr (9, [.int th_thrown, .ref q_th_text, .int th_typed, .int th_next, .int th_token, .int th_place, .int th_value, .int th_fault, .int th_many, .ref q_th_saying, .ref q_th_signs, .ref q_th_sets, .int th_signMany, .int th_setMany, .ref q_th_told, .int th_corners, .int th_isLoaded, .int th_loaded, .ref q_th_up, .ref q_th_down, .ref q_th_world, .ref q_th_tight, .ref q_th_sum, .ref q_th_now, .int th_widened, .int th_wide, .long th_boundUp, .long th_boundDown]))]
set_option maxHeartbeats 4000000 in
set_option maxRecDepth 100000 in
theorem s_X9_fails {l : Launch} {E : (Nat → Prop) → State → Prop} (hEok : st_Eok E) {D : va_G} {tc : Nat → ClassId} (q_th : Nat) (q_th_text : Nat) (q_th_saying : Nat) (q_th_signs : Nat) (q_th_sets : Nat) (q_th_told : Nat) (q_th_up : Nat) (q_th_down : Nat) (q_th_world : Nat) (q_th_tight : Nat) (q_th_sum : Nat) (q_th_now : Nat) (th_thrown : Int32) (th_typed : Int32) (th_next : Int32) (th_token : Int32) (th_place : Int32) (th_value : Int32) (th_fault : Int32) (th_many : Int32) (th_signMany : Int32) (th_setMany : Int32) (th_corners : Int32) (th_isLoaded : Int32) (th_loaded : Int32) (th_widened : Int32) (th_wide : Int32) (th_boundUp : Int64) (th_boundDown : Int64) (th_fault' : Int32) (h : f_X9_fails th_place th_fault = some th_fault') : st l yX9_fails wsX9_fails ({ frames := 0, cells := 0, slots := 0, locals := 0 }) E D tc [.ref q_th] (w_X9_fails tc q_th q_th_text q_th_saying q_th_signs q_th_sets q_th_told q_th_up q_th_down q_th_world q_th_tight q_th_sum q_th_now th_thrown th_typed th_next th_token th_place th_value th_fault th_many th_signMany th_setMany th_corners th_isLoaded th_loaded th_widened th_wide th_boundUp th_boundDown) none (w_X9_fails tc q_th q_th_text q_th_saying q_th_signs q_th_sets q_th_told q_th_up q_th_down q_th_world q_th_tight q_th_sum q_th_now th_thrown th_typed th_next th_token th_place th_value th_fault' th_many th_signMany th_setMany th_corners th_isLoaded th_loaded th_widened th_wide th_boundUp th_boundDown) := by
  refine st_enter (cc := cX9_fails) (maxL := 1) (ret := none) (by decide) rfl (Nat.le_of_ble_eq_true rfl) ?_
  intro p e s m below meth c A ls hx hb hr hml hts hown hlocks hK hN hE hA hP hD hS hl
  have hl : lv_has ls 1 [(0, .ref q_th)] := hl
  have hinX9 : ∀ w ∈ wsX90, w ∈ wsX9_fails := by decide +kernel
  generalize hav : ([.ref q_th] : List Value).toArray = av at hts ⊢
  unfold f_X9_fails at h
  refine lv_aload_n hx hb dX9_fails_0 rfl (lv_at hl 0 rfl) ?_
  refine lv_aload_n hx hb dX9_fails_1 rfl (lv_at hl 0 rfl) ?_
  refine va_get (D := D) (ci := 9) (v := .int th_fault) (C := RX9) (T := TX9) (N := 28) hx hb hts hinX9 hown hK hP 0 rfl rfl 7 (by decide) (hts (.fieldLink RX9 77 "ChanceBoundsModel" "fault" "I") (by decide +kernel)) (fun _ h9 => h9) rfl dX9_fails_2 ?_
  refine lv_if_ge (tgt := 15) hx hb dX9_fails_5 (by decide) (fun c1 => ?_) (fun c1 => ?_)
  · replace h := ifp c1 h
    refine lv_aload_n hx hb dX9_fails_15 rfl (lv_at hl 0 rfl) ?_
    refine va_get (D := D) (ci := 9) (v := .int th_fault) (C := RX9) (T := TX9) (N := 28) hx hb hts hinX9 hown hK hP 0 rfl rfl 7 (by decide) (hts (.fieldLink RX9 77 "ChanceBoundsModel" "fault" "I") (by decide +kernel)) (fun _ h9 => h9) rfl dX9_fails_16 ?_
    refine va_put (D := D) (ci := 9) (v := .int th_fault) (ty := .int) (C := RX9) (T := TX9) (N := 28) hx hb hts hinX9 tyX9 tyX9_ok nmX9 hown hK hP hD hS 0 rfl rfl 7 (by decide) (hts (.fieldLink RX9 77 "ChanceBoundsModel" "fault" "I") (by decide +kernel)) (fun _ h9 => h9) rfl (by decide +kernel) rfl rfl (Nat.le_of_ble_eq_true rfl) dX9_fails_19 (fun H locs hP hD hS => ?_)
    have hP : va_P D vwCl (w_X9_fails tc q_th q_th_text q_th_saying q_th_signs q_th_sets q_th_told q_th_up q_th_down q_th_world q_th_tight q_th_sum q_th_now th_thrown th_typed th_next th_token th_place th_value th_fault th_many th_signMany th_setMany th_corners th_isLoaded th_loaded th_widened th_wide th_boundUp th_boundDown) H := hP
    have hD : va_D A (w_X9_fails tc q_th q_th_text q_th_saying q_th_signs q_th_sets q_th_told q_th_up q_th_down q_th_world q_th_tight q_th_sum q_th_now th_thrown th_typed th_next th_token th_place th_value th_fault th_many th_signMany th_setMany th_corners th_isLoaded th_loaded th_widened th_wide th_boundUp th_boundDown) := hD
    cases h
    exact st_vret hx hb hr hlocks hP hD hS dX9_fails_22
  · replace h := ifn c1 h
    refine lv_aload_n hx hb dX9_fails_8 rfl (lv_at hl 0 rfl) ?_
    refine va_get (D := D) (ci := 9) (v := .int th_place) (C := RX9) (T := TX9) (N := 28) hx hb hts hinX9 hown hK hP 0 rfl rfl 5 (by decide) (hts (.fieldLink RX9 68 "ChanceBoundsModel" "place" "I") (by decide +kernel)) (fun _ h9 => h9) rfl dX9_fails_9 ?_
    refine lv_goto (tgt := 19) hx hb dX9_fails_12 (by decide) ?_
    refine va_put (D := D) (ci := 9) (v := .int th_place) (ty := .int) (C := RX9) (T := TX9) (N := 28) hx hb hts hinX9 tyX9 tyX9_ok nmX9 hown hK hP hD hS 0 rfl rfl 7 (by decide) (hts (.fieldLink RX9 77 "ChanceBoundsModel" "fault" "I") (by decide +kernel)) (fun _ h9 => h9) rfl (by decide +kernel) rfl rfl (Nat.le_of_ble_eq_true rfl) dX9_fails_19 (fun H locs hP hD hS => ?_)
    have hP : va_P D vwCl (w_X9_fails tc q_th q_th_text q_th_saying q_th_signs q_th_sets q_th_told q_th_up q_th_down q_th_world q_th_tight q_th_sum q_th_now th_thrown th_typed th_next th_token th_place th_value th_place th_many th_signMany th_setMany th_corners th_isLoaded th_loaded th_widened th_wide th_boundUp th_boundDown) H := hP
    have hD : va_D A (w_X9_fails tc q_th q_th_text q_th_saying q_th_signs q_th_sets q_th_told q_th_up q_th_down q_th_world q_th_tight q_th_sum q_th_now th_thrown th_typed th_next th_token th_place th_value th_place th_many th_signMany th_setMany th_corners th_isLoaded th_loaded th_widened th_wide th_boundUp th_boundDown) := hD
    cases h
    exact st_vret hx hb hr hlocks hP hD hS dX9_fails_22
def f_X9_isSign (th_token : Int32) (th_value : Int32) (th_fault : Int32) (x1 : Int32) : Option (Int32) :=
  (f_X9_isWell th_fault).bind fun z1_0 =>
  if z1_0 = (0 : Int32) then
    some (0 : Int32)
  else
    if th_token = (4 : Int32) then
      if th_value = x1 then
        some (1 : Int32)
      else
        some (0 : Int32)
    else
      some (0 : Int32)
abbrev w_X9_isSign (tc : Nat → ClassId) (q_th : Nat) (q_th_text : Nat) (q_th_saying : Nat) (q_th_signs : Nat) (q_th_sets : Nat) (q_th_told : Nat) (q_th_up : Nat) (q_th_down : Nat) (q_th_world : Nat) (q_th_tight : Nat) (q_th_sum : Nat) (q_th_now : Nat)  (th_thrown : Int32) (th_typed : Int32) (th_next : Int32) (th_token : Int32) (th_place : Int32) (th_value : Int32) (th_fault : Int32) (th_many : Int32) (th_signMany : Int32) (th_setMany : Int32) (th_corners : Int32) (th_isLoaded : Int32) (th_loaded : Int32) (th_widened : Int32) (th_wide : Int32) (th_boundUp : Int64) (th_boundDown : Int64) : va_W := [(q_th, .inr (9, [.int th_thrown, .ref q_th_text, .int th_typed, .int th_next, .int th_token, .int th_place, .int th_value, .int th_fault, .int th_many, .ref q_th_saying, .ref q_th_signs, .ref q_th_sets, .int th_signMany, .int th_setMany, .ref q_th_told, .int th_corners, .int th_isLoaded, .int th_loaded, .ref q_th_up, .ref q_th_down, .ref q_th_world, .ref q_th_tight, .ref q_th_sum, .ref q_th_now, .int th_widened, .int th_wide, .long th_boundUp, .long th_boundDown]))]
set_option maxHeartbeats 4000000 in
set_option maxRecDepth 100000 in
theorem s_X9_isSign {l : Launch} {E : (Nat → Prop) → State → Prop} (hEok : st_Eok E) {D : va_G} {tc : Nat → ClassId} (q_th : Nat) (q_th_text : Nat) (q_th_saying : Nat) (q_th_signs : Nat) (q_th_sets : Nat) (q_th_told : Nat) (q_th_up : Nat) (q_th_down : Nat) (q_th_world : Nat) (q_th_tight : Nat) (q_th_sum : Nat) (q_th_now : Nat) (th_thrown : Int32) (th_typed : Int32) (th_next : Int32) (th_token : Int32) (th_place : Int32) (th_value : Int32) (th_fault : Int32) (th_many : Int32) (th_signMany : Int32) (th_setMany : Int32) (th_corners : Int32) (th_isLoaded : Int32) (th_loaded : Int32) (th_widened : Int32) (th_wide : Int32) (th_boundUp : Int64) (th_boundDown : Int64) (x1 : Int32) (r0 : Int32) (h : f_X9_isSign th_token th_value th_fault x1 = some r0) : st l yX9_isSign wsX9_isSign ({ frames := 1, cells := 0, slots := 0, locals := 20 }) E D tc [.ref q_th, .int x1] (w_X9_isSign tc q_th q_th_text q_th_saying q_th_signs q_th_sets q_th_told q_th_up q_th_down q_th_world q_th_tight q_th_sum q_th_now th_thrown th_typed th_next th_token th_place th_value th_fault th_many th_signMany th_setMany th_corners th_isLoaded th_loaded th_widened th_wide th_boundUp th_boundDown) (some (.int r0)) (w_X9_isSign tc q_th q_th_text q_th_saying q_th_signs q_th_sets q_th_told q_th_up q_th_down q_th_world q_th_tight q_th_sum q_th_now th_thrown th_typed th_next th_token th_place th_value th_fault th_many th_signMany th_setMany th_corners th_isLoaded th_loaded th_widened th_wide th_boundUp th_boundDown) := by
  refine st_enter (cc := cX9_isSign) (maxL := 2) (ret := (some .boolean)) (by decide) rfl (Nat.le_of_ble_eq_true rfl) ?_
  intro p e s m below meth c A ls hx hb hr hml hts hown hlocks hK hN hE hA hP hD hS hl
  have hl : lv_has ls 2 [(0, .ref q_th), (1, .int x1)] := hl
  have hinX9 : ∀ w ∈ wsX90, w ∈ wsX9_isSign := by decide +kernel
  generalize hav : ([.ref q_th, .int x1] : List Value).toArray = av at hts ⊢
  unfold f_X9_isSign at h
  refine lv_aload_n hx hb dX9_isSign_0 rfl (lv_at hl 0 rfl) ?_
  obtain ⟨z1_0, hc1, h⟩ := bd_ok h
  refine st_callV (As := []) (rest := []) (pos := [0]) ⟨hx, hb, hml, hown, hts⟩ (s_X9_isWell (l := l) (D := D) (tc := tc) hEok q_th q_th_text q_th_saying q_th_signs q_th_sets q_th_told q_th_up q_th_down q_th_world q_th_tight q_th_sum q_th_now th_thrown th_typed th_next th_token th_place th_value th_fault th_many th_signMany th_setMany th_corners th_isLoaded th_loaded th_widened th_wide th_boundUp th_boundDown z1_0 hc1) (cwV 0 hts gX9_isSign_X9_isWell rfl rfl rfl (by decide +kernel) ⟨Nat.le_of_ble_eq_true rfl, Nat.le_of_ble_eq_true rfl⟩) (st_recv (ci := 9) (q0 := 0) hK hP rfl rfl) hEok hE hK hN hP hD hS hA rfl rfl rfl rfl hl.1 rfl (Nat.le_of_ble_eq_true rfl) dX9_isSign_1 ⟨Nat.zero_le _, Nat.zero_le _⟩ (fun H locs hP hD hS => ?_)
  have hP : va_P D vwCl (w_X9_isSign tc q_th q_th_text q_th_saying q_th_signs q_th_sets q_th_told q_th_up q_th_down q_th_world q_th_tight q_th_sum q_th_now th_thrown th_typed th_next th_token th_place th_value th_fault th_many th_signMany th_setMany th_corners th_isLoaded th_loaded th_widened th_wide th_boundUp th_boundDown) H := hP
  have hD : va_D A (w_X9_isSign tc q_th q_th_text q_th_saying q_th_signs q_th_sets q_th_told q_th_up q_th_down q_th_world q_th_tight q_th_sum q_th_now th_thrown th_typed th_next th_token th_place th_value th_fault th_many th_signMany th_setMany th_corners th_isLoaded th_loaded th_widened th_wide th_boundUp th_boundDown) := hD
  refine lv_if_eq (tgt := 27) hx hb dX9_isSign_4 (by decide) (fun c2 => ?_) (fun c2 => ?_)
  · replace h := ifp c2 h
    refine lv_iconst (v := (0 : Int32)) hx hb dX9_isSign_27 (by decide) ?_
    cases h
    exact st_zret hx hb hr hlocks hP hD hS rfl dX9_isSign_28
  · replace h := ifn c2 h
    refine lv_aload_n hx hb dX9_isSign_7 rfl (lv_at hl 0 rfl) ?_
    refine va_get (D := D) (ci := 9) (v := .int th_token) (C := RX9) (T := TX9) (N := 28) hx hb hts hinX9 hown hK hP 0 rfl rfl 4 (by decide) (hts (.fieldLink RX9 71 "ChanceBoundsModel" "token" "I") (by decide +kernel)) (fun _ h9 => h9) rfl dX9_isSign_8 ?_
    refine lv_iconst (v := (4 : Int32)) hx hb dX9_isSign_11 (by decide) ?_
    refine lv_icmp_ne (tgt := 27) hx hb dX9_isSign_12 (by decide) (fun c3 => ?_) (fun c3 => ?_)
    · replace h := ifn c3 h
      refine lv_iconst (v := (0 : Int32)) hx hb dX9_isSign_27 (by decide) ?_
      cases h
      exact st_zret hx hb hr hlocks hP hD hS rfl dX9_isSign_28
    · replace h := ifp c3 h
      refine lv_aload_n hx hb dX9_isSign_15 rfl (lv_at hl 0 rfl) ?_
      refine va_get (D := D) (ci := 9) (v := .int th_value) (C := RX9) (T := TX9) (N := 28) hx hb hts hinX9 hown hK hP 0 rfl rfl 6 (by decide) (hts (.fieldLink RX9 74 "ChanceBoundsModel" "value" "I") (by decide +kernel)) (fun _ h9 => h9) rfl dX9_isSign_16 ?_
      refine lv_iload_n hx hb dX9_isSign_19 rfl (lv_at hl 1 rfl) ?_
      refine lv_icmp_ne (tgt := 27) hx hb dX9_isSign_20 (by decide) (fun c4 => ?_) (fun c4 => ?_)
      · replace h := ifn c4 h
        refine lv_iconst (v := (0 : Int32)) hx hb dX9_isSign_27 (by decide) ?_
        cases h
        exact st_zret hx hb hr hlocks hP hD hS rfl dX9_isSign_28
      · replace h := ifp c4 h
        refine lv_iconst (v := (1 : Int32)) hx hb dX9_isSign_23 (by decide) ?_
        refine lv_goto (tgt := 28) hx hb dX9_isSign_24 (by decide) ?_
        cases h
        exact st_zret hx hb hr hlocks hP hD hS rfl dX9_isSign_28
def f_X9_letter (x0 : Int32) : Option (Int32) :=
  if x0 = (0 : Int32) then
    some (170 : Int32)
  else
    if x0 = (1 : Int32) then
      some (204 : Int32)
    else
      some (240 : Int32)
abbrev w_X9_letter : va_W := []
set_option maxHeartbeats 4000000 in
set_option maxRecDepth 100000 in
theorem s_X9_letter {l : Launch} {E : (Nat → Prop) → State → Prop} (hEok : st_Eok E) {D : va_G} {tc : Nat → ClassId} (x0 : Int32) (r0 : Int32) (h : f_X9_letter x0 = some r0) : st l yX9_letter wsX9_letter ({ frames := 0, cells := 0, slots := 0, locals := 0 }) E D tc [.int x0] w_X9_letter (some (.int r0)) w_X9_letter := by
  refine st_enter (cc := cX9_letter) (maxL := 1) (ret := (some .int)) (by decide) rfl (Nat.le_of_ble_eq_true rfl) ?_
  intro p e s m below meth c A ls hx hb hr hml hts hown hlocks hK hN hE hA hP hD hS hl
  have hl : lv_has ls 1 [(0, .int x0)] := hl
  generalize hav : ([.int x0] : List Value).toArray = av at hts ⊢
  unfold f_X9_letter at h
  refine lv_iload_n hx hb dX9_letter_0 rfl (lv_at hl 0 rfl) ?_
  refine lv_if_ne (tgt := 10) hx hb dX9_letter_1 (by decide) (fun c1 => ?_) (fun c1 => ?_)
  · replace h := ifn c1 h
    refine lv_iload_n hx hb dX9_letter_10 rfl (lv_at hl 0 rfl) ?_
    refine lv_iconst (v := (1 : Int32)) hx hb dX9_letter_11 (by decide) ?_
    refine lv_icmp_ne (tgt := 21) hx hb dX9_letter_12 (by decide) (fun c2 => ?_) (fun c2 => ?_)
    · replace h := ifn c2 h
      refine lv_sipush (v := (240 : Int32)) hx hb dX9_letter_21 (by decide) ?_
      cases h
      exact st_iret hx hb hr hlocks hP hD hS dX9_letter_24
    · replace h := ifp c2 h
      refine lv_sipush (v := (204 : Int32)) hx hb dX9_letter_15 (by decide) ?_
      refine lv_goto (tgt := 24) hx hb dX9_letter_18 (by decide) ?_
      cases h
      exact st_iret hx hb hr hlocks hP hD hS dX9_letter_24
  · replace h := ifp c1 h
    refine lv_sipush (v := (170 : Int32)) hx hb dX9_letter_4 (by decide) ?_
    refine lv_goto (tgt := 24) hx hb dX9_letter_7 (by decide) ?_
    cases h
    exact st_iret hx hb hr hlocks hP hD hS dX9_letter_24
def f_X9_joins (n_th_signs : Nat) (n_th_sets : Nat) (th_signMany : Int32) (th_setMany : Int32) (th_signs : Nat → Int32) (th_sets : Nat → Int32) : Option (Int32 × Int32 × (Nat → Int32)) :=
  if ((th_setMany - (1 : Int32)) - (1 : Int32)) < 0 ∨ n_th_sets ≤ ((th_setMany - (1 : Int32)) - (1 : Int32)).toNatClampNeg then none else
  if (th_setMany - (1 : Int32)) < 0 ∨ n_th_sets ≤ (th_setMany - (1 : Int32)).toNatClampNeg then none else
  if (th_signMany - (1 : Int32)) < 0 ∨ n_th_signs ≤ (th_signMany - (1 : Int32)).toNatClampNeg then none else
  if (th_signs (th_signMany - (1 : Int32)).toNatClampNeg) = (38 : Int32) then
    if ((th_setMany - (1 : Int32)) - (1 : Int32)) < 0 ∨ n_th_sets ≤ ((th_setMany - (1 : Int32)) - (1 : Int32)).toNatClampNeg then none else
    some (th_signMany - (1 : Int32), th_setMany - (1 : Int32), upd th_sets ((th_setMany - (1 : Int32)) - (1 : Int32)).toNatClampNeg ((th_sets ((th_setMany - (1 : Int32)) - (1 : Int32)).toNatClampNeg) &&& (th_sets (th_setMany - (1 : Int32)).toNatClampNeg)))
  else
    if ((th_setMany - (1 : Int32)) - (1 : Int32)) < 0 ∨ n_th_sets ≤ ((th_setMany - (1 : Int32)) - (1 : Int32)).toNatClampNeg then none else
    some (th_signMany - (1 : Int32), th_setMany - (1 : Int32), upd th_sets ((th_setMany - (1 : Int32)) - (1 : Int32)).toNatClampNeg ((th_sets ((th_setMany - (1 : Int32)) - (1 : Int32)).toNatClampNeg) ||| (th_sets (th_setMany - (1 : Int32)).toNatClampNeg)))
abbrev w_X9_joins (tc : Nat → ClassId) (q_th : Nat) (q_th_text : Nat) (q_th_saying : Nat) (q_th_signs : Nat) (q_th_sets : Nat) (q_th_told : Nat) (q_th_up : Nat) (q_th_down : Nat) (q_th_world : Nat) (q_th_tight : Nat) (q_th_sum : Nat) (q_th_now : Nat) (n_th_signs : Nat) (n_th_sets : Nat) (th_thrown : Int32) (th_typed : Int32) (th_next : Int32) (th_token : Int32) (th_place : Int32) (th_value : Int32) (th_fault : Int32) (th_many : Int32) (th_signMany : Int32) (th_setMany : Int32) (th_corners : Int32) (th_isLoaded : Int32) (th_loaded : Int32) (th_widened : Int32) (th_wide : Int32) (th_boundUp : Int64) (th_boundDown : Int64) (th_signs : Nat → Int32) (th_sets : Nat → Int32) : va_W := [(q_th, .inr (9, [.int th_thrown, .ref q_th_text, .int th_typed, .int th_next, .int th_token, .int th_place, .int th_value, .int th_fault, .int th_many, .ref q_th_saying, .ref q_th_signs, .ref q_th_sets, .int th_signMany, .int th_setMany, .ref q_th_told, .int th_corners, .int th_isLoaded, .int th_loaded, .ref q_th_up, .ref q_th_down, .ref q_th_world, .ref q_th_tight, .ref q_th_sum, .ref q_th_now, .int th_widened, .int th_wide, .long th_boundUp, .long th_boundDown])), (q_th_signs, .inl (tc 0, n_th_signs, .inl th_signs)), (q_th_sets, .inl (tc 0, n_th_sets, .inl th_sets))]
set_option maxHeartbeats 4000000 in
set_option maxRecDepth 100000 in
theorem s_X9_joins {l : Launch} {E : (Nat → Prop) → State → Prop} (hEok : st_Eok E) {D : va_G} {tc : Nat → ClassId} (q_th : Nat) (q_th_text : Nat) (q_th_saying : Nat) (q_th_signs : Nat) (q_th_sets : Nat) (q_th_told : Nat) (q_th_up : Nat) (q_th_down : Nat) (q_th_world : Nat) (q_th_tight : Nat) (q_th_sum : Nat) (q_th_now : Nat) (n_th_signs : Nat) (n_th_sets : Nat) (th_thrown : Int32) (th_typed : Int32) (th_next : Int32) (th_token : Int32) (th_place : Int32) (th_value : Int32) (th_fault : Int32) (th_many : Int32) (th_signMany : Int32) (th_setMany : Int32) (th_corners : Int32) (th_isLoaded : Int32) (th_loaded : Int32) (th_widened : Int32) (th_wide : Int32) (th_boundUp : Int64) (th_boundDown : Int64) (th_signs : Nat → Int32) (th_sets : Nat → Int32) (th_signMany' : Int32) (th_setMany' : Int32) (th_sets' : Nat → Int32) (h : f_X9_joins n_th_signs n_th_sets th_signMany th_setMany th_signs th_sets = some (th_signMany', th_setMany', th_sets')) : st l yX9_joins wsX9_joins ({ frames := 0, cells := 0, slots := 0, locals := 0 }) E D tc [.ref q_th] (w_X9_joins tc q_th q_th_text q_th_saying q_th_signs q_th_sets q_th_told q_th_up q_th_down q_th_world q_th_tight q_th_sum q_th_now n_th_signs n_th_sets th_thrown th_typed th_next th_token th_place th_value th_fault th_many th_signMany th_setMany th_corners th_isLoaded th_loaded th_widened th_wide th_boundUp th_boundDown th_signs th_sets) none (w_X9_joins tc q_th q_th_text q_th_saying q_th_signs q_th_sets q_th_told q_th_up q_th_down q_th_world q_th_tight q_th_sum q_th_now n_th_signs n_th_sets th_thrown th_typed th_next th_token th_place th_value th_fault th_many th_signMany' th_setMany' th_corners th_isLoaded th_loaded th_widened th_wide th_boundUp th_boundDown th_signs th_sets') := by
  refine st_enter (cc := cX9_joins) (maxL := 3) (ret := none) (by decide) rfl (Nat.le_of_ble_eq_true rfl) ?_
  intro p e s m below meth c A ls hx hb hr hml hts hown hlocks hK hN hE hA hP hD hS hl
  have hl : lv_has ls 3 [(0, .ref q_th)] := hl
  have hinX9 : ∀ w ∈ wsX90, w ∈ wsX9_joins := by decide +kernel
  generalize hav : ([.ref q_th] : List Value).toArray = av at hts ⊢
  unfold f_X9_joins at h
  refine lv_aload_n hx hb dX9_joins_0 rfl (lv_at hl 0 rfl) ?_
  refine lv_dup hx hb dX9_joins_1 rfl ?_
  refine va_get (D := D) (ci := 9) (v := .int th_signMany) (C := RX9) (T := TX9) (N := 28) hx hb hts hinX9 hown hK hP 0 rfl rfl 12 (by decide) (hts (.fieldLink RX9 84 "ChanceBoundsModel" "signMany" "I") (by decide +kernel)) (fun _ h9 => h9) rfl dX9_joins_2 ?_
  refine lv_iconst (v := (1 : Int32)) hx hb dX9_joins_5 (by decide) ?_
  refine lv_isub hx hb dX9_joins_6 ?_
  refine va_put (D := D) (ci := 9) (v := .int (th_signMany - (1 : Int32))) (ty := .int) (C := RX9) (T := TX9) (N := 28) hx hb hts hinX9 tyX9 tyX9_ok nmX9 hown hK hP hD hS 0 rfl rfl 12 (by decide) (hts (.fieldLink RX9 84 "ChanceBoundsModel" "signMany" "I") (by decide +kernel)) (fun _ h9 => h9) rfl (by decide +kernel) rfl rfl (Nat.le_of_ble_eq_true rfl) dX9_joins_7 (fun H locs hP hD hS => ?_)
  have hP : va_P D vwCl (w_X9_joins tc q_th q_th_text q_th_saying q_th_signs q_th_sets q_th_told q_th_up q_th_down q_th_world q_th_tight q_th_sum q_th_now n_th_signs n_th_sets th_thrown th_typed th_next th_token th_place th_value th_fault th_many (th_signMany - (1 : Int32)) th_setMany th_corners th_isLoaded th_loaded th_widened th_wide th_boundUp th_boundDown th_signs th_sets) H := hP
  have hD : va_D A (w_X9_joins tc q_th q_th_text q_th_saying q_th_signs q_th_sets q_th_told q_th_up q_th_down q_th_world q_th_tight q_th_sum q_th_now n_th_signs n_th_sets th_thrown th_typed th_next th_token th_place th_value th_fault th_many (th_signMany - (1 : Int32)) th_setMany th_corners th_isLoaded th_loaded th_widened th_wide th_boundUp th_boundDown th_signs th_sets) := hD
  refine lv_aload_n hx hb dX9_joins_10 rfl (lv_at hl 0 rfl) ?_
  refine lv_dup hx hb dX9_joins_11 rfl ?_
  refine va_get (D := D) (ci := 9) (v := .int th_setMany) (C := RX9) (T := TX9) (N := 28) hx hb hts hinX9 hown hK hP 0 rfl rfl 13 (by decide) (hts (.fieldLink RX9 87 "ChanceBoundsModel" "setMany" "I") (by decide +kernel)) (fun _ h9 => h9) rfl dX9_joins_12 ?_
  refine lv_iconst (v := (1 : Int32)) hx hb dX9_joins_15 (by decide) ?_
  refine lv_isub hx hb dX9_joins_16 ?_
  refine va_put (D := D) (ci := 9) (v := .int (th_setMany - (1 : Int32))) (ty := .int) (C := RX9) (T := TX9) (N := 28) hx hb hts hinX9 tyX9 tyX9_ok nmX9 hown hK hP hD hS 0 rfl rfl 13 (by decide) (hts (.fieldLink RX9 87 "ChanceBoundsModel" "setMany" "I") (by decide +kernel)) (fun _ h9 => h9) rfl (by decide +kernel) rfl rfl (Nat.le_of_ble_eq_true rfl) dX9_joins_17 (fun H locs hP hD hS => ?_)
  have hP : va_P D vwCl (w_X9_joins tc q_th q_th_text q_th_saying q_th_signs q_th_sets q_th_told q_th_up q_th_down q_th_world q_th_tight q_th_sum q_th_now n_th_signs n_th_sets th_thrown th_typed th_next th_token th_place th_value th_fault th_many (th_signMany - (1 : Int32)) (th_setMany - (1 : Int32)) th_corners th_isLoaded th_loaded th_widened th_wide th_boundUp th_boundDown th_signs th_sets) H := hP
  have hD : va_D A (w_X9_joins tc q_th q_th_text q_th_saying q_th_signs q_th_sets q_th_told q_th_up q_th_down q_th_world q_th_tight q_th_sum q_th_now n_th_signs n_th_sets th_thrown th_typed th_next th_token th_place th_value th_fault th_many (th_signMany - (1 : Int32)) (th_setMany - (1 : Int32)) th_corners th_isLoaded th_loaded th_widened th_wide th_boundUp th_boundDown th_signs th_sets) := hD
  refine lv_aload_n hx hb dX9_joins_20 rfl (lv_at hl 0 rfl) ?_
  refine va_get (D := D) (ci := 9) (v := .ref q_th_sets) (C := RX9) (T := TX9) (N := 28) hx hb hts hinX9 hown hK hP 0 rfl rfl 11 (by decide) (hts (.fieldLink RX9 19 "ChanceBoundsModel" "sets" "[I") (by decide +kernel)) (fun _ h9 => h9) rfl dX9_joins_21 ?_
  refine lv_aload_n hx hb dX9_joins_24 rfl (lv_at hl 0 rfl) ?_
  refine va_get (D := D) (ci := 9) (v := .int (th_setMany - (1 : Int32))) (C := RX9) (T := TX9) (N := 28) hx hb hts hinX9 hown hK hP 0 rfl rfl 13 (by decide) (hts (.fieldLink RX9 87 "ChanceBoundsModel" "setMany" "I") (by decide +kernel)) (fun _ h9 => h9) rfl dX9_joins_25 ?_
  refine lv_iconst (v := (1 : Int32)) hx hb dX9_joins_28 (by decide) ?_
  refine lv_isub hx hb dX9_joins_29 ?_
  obtain ⟨g1, h⟩ := gd_ok h
  refine va_iald hx hb hK hP 2 0 rfl rfl g1 dX9_joins_30 ?_
  refine lv_istore_n (lv' := [(1, .int (th_sets ((th_setMany - (1 : Int32)) - (1 : Int32)).toNatClampNeg)), (0, .ref q_th)]) hx hb dX9_joins_31 rfl hl (by decide) rfl (fun ls hl => ?_)
  refine lv_aload_n hx hb dX9_joins_32 rfl (lv_at hl 1 rfl) ?_
  refine va_get (D := D) (ci := 9) (v := .ref q_th_sets) (C := RX9) (T := TX9) (N := 28) hx hb hts hinX9 hown hK hP 0 rfl rfl 11 (by decide) (hts (.fieldLink RX9 19 "ChanceBoundsModel" "sets" "[I") (by decide +kernel)) (fun _ h9 => h9) rfl dX9_joins_33 ?_
  refine lv_aload_n hx hb dX9_joins_36 rfl (lv_at hl 1 rfl) ?_
  refine va_get (D := D) (ci := 9) (v := .int (th_setMany - (1 : Int32))) (C := RX9) (T := TX9) (N := 28) hx hb hts hinX9 hown hK hP 0 rfl rfl 13 (by decide) (hts (.fieldLink RX9 87 "ChanceBoundsModel" "setMany" "I") (by decide +kernel)) (fun _ h9 => h9) rfl dX9_joins_37 ?_
  obtain ⟨g2, h⟩ := gd_ok h
  refine va_iald hx hb hK hP 2 0 rfl rfl g2 dX9_joins_40 ?_
  refine lv_istore_n (lv' := [(2, .int (th_sets (th_setMany - (1 : Int32)).toNatClampNeg)), (1, .int (th_sets ((th_setMany - (1 : Int32)) - (1 : Int32)).toNatClampNeg)), (0, .ref q_th)]) hx hb dX9_joins_41 rfl hl (by decide) rfl (fun ls hl => ?_)
  refine lv_aload_n hx hb dX9_joins_42 rfl (lv_at hl 2 rfl) ?_
  refine va_get (D := D) (ci := 9) (v := .ref q_th_sets) (C := RX9) (T := TX9) (N := 28) hx hb hts hinX9 hown hK hP 0 rfl rfl 11 (by decide) (hts (.fieldLink RX9 19 "ChanceBoundsModel" "sets" "[I") (by decide +kernel)) (fun _ h9 => h9) rfl dX9_joins_43 ?_
  refine lv_aload_n hx hb dX9_joins_46 rfl (lv_at hl 2 rfl) ?_
  refine va_get (D := D) (ci := 9) (v := .int (th_setMany - (1 : Int32))) (C := RX9) (T := TX9) (N := 28) hx hb hts hinX9 hown hK hP 0 rfl rfl 13 (by decide) (hts (.fieldLink RX9 87 "ChanceBoundsModel" "setMany" "I") (by decide +kernel)) (fun _ h9 => h9) rfl dX9_joins_47 ?_
  refine lv_iconst (v := (1 : Int32)) hx hb dX9_joins_50 (by decide) ?_
  refine lv_isub hx hb dX9_joins_51 ?_
  refine lv_aload_n hx hb dX9_joins_52 rfl (lv_at hl 2 rfl) ?_
  refine va_get (D := D) (ci := 9) (v := .ref q_th_signs) (C := RX9) (T := TX9) (N := 28) hx hb hts hinX9 hown hK hP 0 rfl rfl 10 (by decide) (hts (.fieldLink RX9 16 "ChanceBoundsModel" "signs" "[I") (by decide +kernel)) (fun _ h9 => h9) rfl dX9_joins_53 ?_
  refine lv_aload_n hx hb dX9_joins_56 rfl (lv_at hl 2 rfl) ?_
  refine va_get (D := D) (ci := 9) (v := .int (th_signMany - (1 : Int32))) (C := RX9) (T := TX9) (N := 28) hx hb hts hinX9 hown hK hP 0 rfl rfl 12 (by decide) (hts (.fieldLink RX9 84 "ChanceBoundsModel" "signMany" "I") (by decide +kernel)) (fun _ h9 => h9) rfl dX9_joins_57 ?_
  obtain ⟨g3, h⟩ := gd_ok h
  refine va_iald hx hb hK hP 1 0 rfl rfl g3 dX9_joins_60 ?_
  refine lv_bipush (v := (38 : Int32)) hx hb dX9_joins_61 (by decide) ?_
  refine lv_icmp_ne (tgt := 72) hx hb dX9_joins_63 (by decide) (fun c4 => ?_) (fun c4 => ?_)
  · replace h := ifn c4 h
    refine lv_iload_n hx hb dX9_joins_72 rfl (lv_at hl 1 rfl) ?_
    refine lv_iload_n hx hb dX9_joins_73 rfl (lv_at hl 0 rfl) ?_
    refine lv_ior hx hb dX9_joins_74 ?_
    obtain ⟨g5, h⟩ := gd_ok h
    refine va_iast hx hb hK hP hD hS 2 0 rfl rfl g5 dX9_joins_75 (fun H locs hP hD hS => ?_)
    have hP : va_P D vwCl (w_X9_joins tc q_th q_th_text q_th_saying q_th_signs q_th_sets q_th_told q_th_up q_th_down q_th_world q_th_tight q_th_sum q_th_now n_th_signs n_th_sets th_thrown th_typed th_next th_token th_place th_value th_fault th_many (th_signMany - (1 : Int32)) (th_setMany - (1 : Int32)) th_corners th_isLoaded th_loaded th_widened th_wide th_boundUp th_boundDown th_signs (upd th_sets ((th_setMany - (1 : Int32)) - (1 : Int32)).toNatClampNeg ((th_sets ((th_setMany - (1 : Int32)) - (1 : Int32)).toNatClampNeg) ||| (th_sets (th_setMany - (1 : Int32)).toNatClampNeg)))) H := hP
    have hD : va_D A (w_X9_joins tc q_th q_th_text q_th_saying q_th_signs q_th_sets q_th_told q_th_up q_th_down q_th_world q_th_tight q_th_sum q_th_now n_th_signs n_th_sets th_thrown th_typed th_next th_token th_place th_value th_fault th_many (th_signMany - (1 : Int32)) (th_setMany - (1 : Int32)) th_corners th_isLoaded th_loaded th_widened th_wide th_boundUp th_boundDown th_signs (upd th_sets ((th_setMany - (1 : Int32)) - (1 : Int32)).toNatClampNeg ((th_sets ((th_setMany - (1 : Int32)) - (1 : Int32)).toNatClampNeg) ||| (th_sets (th_setMany - (1 : Int32)).toNatClampNeg)))) := hD
    cases h
    exact st_vret hx hb hr hlocks hP hD hS dX9_joins_76
  · replace h := ifp c4 h
    refine lv_iload_n hx hb dX9_joins_66 rfl (lv_at hl 1 rfl) ?_
    refine lv_iload_n hx hb dX9_joins_67 rfl (lv_at hl 0 rfl) ?_
    refine lv_iand hx hb dX9_joins_68 ?_
    refine lv_goto (tgt := 75) hx hb dX9_joins_69 (by decide) ?_
    obtain ⟨g6, h⟩ := gd_ok h
    refine va_iast hx hb hK hP hD hS 2 0 rfl rfl g6 dX9_joins_75 (fun H locs hP hD hS => ?_)
    have hP : va_P D vwCl (w_X9_joins tc q_th q_th_text q_th_saying q_th_signs q_th_sets q_th_told q_th_up q_th_down q_th_world q_th_tight q_th_sum q_th_now n_th_signs n_th_sets th_thrown th_typed th_next th_token th_place th_value th_fault th_many (th_signMany - (1 : Int32)) (th_setMany - (1 : Int32)) th_corners th_isLoaded th_loaded th_widened th_wide th_boundUp th_boundDown th_signs (upd th_sets ((th_setMany - (1 : Int32)) - (1 : Int32)).toNatClampNeg ((th_sets ((th_setMany - (1 : Int32)) - (1 : Int32)).toNatClampNeg) &&& (th_sets (th_setMany - (1 : Int32)).toNatClampNeg)))) H := hP
    have hD : va_D A (w_X9_joins tc q_th q_th_text q_th_saying q_th_signs q_th_sets q_th_told q_th_up q_th_down q_th_world q_th_tight q_th_sum q_th_now n_th_signs n_th_sets th_thrown th_typed th_next th_token th_place th_value th_fault th_many (th_signMany - (1 : Int32)) (th_setMany - (1 : Int32)) th_corners th_isLoaded th_loaded th_widened th_wide th_boundUp th_boundDown th_signs (upd th_sets ((th_setMany - (1 : Int32)) - (1 : Int32)).toNatClampNeg ((th_sets ((th_setMany - (1 : Int32)) - (1 : Int32)).toNatClampNeg) &&& (th_sets (th_setMany - (1 : Int32)).toNatClampNeg)))) := hD
    cases h
    exact st_vret hx hb hr hlocks hP hD hS dX9_joins_76
def f_X9_bracket_L5 (n_th_signs : Nat) (th_signMany : Int32) (th_signs : Nat → Int32) (s5 : Int32 × Int32) : Option ((Int32) ⊕ (Int32 × Int32)) :=
  match s5 with
  | (x1, x2) =>
    if th_signMany ≤ x2 then
      some (.inl x1)
    else
      if x2 < 0 ∨ n_th_signs ≤ x2.toNatClampNeg then none else
      if (th_signs x2.toNatClampNeg) = (40 : Int32) then
        some (.inr (x2, x2 + 1))
      else
        some (.inr (x1, x2 + 1))
def f_X9_bracket (K : Nat) (n_th_signs : Nat) (th_signMany : Int32) (th_signs : Nat → Int32) : Option (Int32) :=
  (lp (f_X9_bracket_L5 n_th_signs th_signMany th_signs) K ((-9 : Int32), (0 : Int32))).bind fun z4_0 =>
  some z4_0
abbrev w_X9_bracket (tc : Nat → ClassId) (q_th : Nat) (q_th_text : Nat) (q_th_saying : Nat) (q_th_signs : Nat) (q_th_sets : Nat) (q_th_told : Nat) (q_th_up : Nat) (q_th_down : Nat) (q_th_world : Nat) (q_th_tight : Nat) (q_th_sum : Nat) (q_th_now : Nat) (n_th_signs : Nat) (th_thrown : Int32) (th_typed : Int32) (th_next : Int32) (th_token : Int32) (th_place : Int32) (th_value : Int32) (th_fault : Int32) (th_many : Int32) (th_signMany : Int32) (th_setMany : Int32) (th_corners : Int32) (th_isLoaded : Int32) (th_loaded : Int32) (th_widened : Int32) (th_wide : Int32) (th_boundUp : Int64) (th_boundDown : Int64) (th_signs : Nat → Int32) : va_W := [(q_th, .inr (9, [.int th_thrown, .ref q_th_text, .int th_typed, .int th_next, .int th_token, .int th_place, .int th_value, .int th_fault, .int th_many, .ref q_th_saying, .ref q_th_signs, .ref q_th_sets, .int th_signMany, .int th_setMany, .ref q_th_told, .int th_corners, .int th_isLoaded, .int th_loaded, .ref q_th_up, .ref q_th_down, .ref q_th_world, .ref q_th_tight, .ref q_th_sum, .ref q_th_now, .int th_widened, .int th_wide, .long th_boundUp, .long th_boundDown])), (q_th_signs, .inl (tc 0, n_th_signs, .inl th_signs))]
set_option maxHeartbeats 4000000 in
set_option maxRecDepth 100000 in
theorem s_X9_bracket {l : Launch} {E : (Nat → Prop) → State → Prop} (hEok : st_Eok E) {D : va_G} {tc : Nat → ClassId} (q_th : Nat) (q_th_text : Nat) (q_th_saying : Nat) (q_th_signs : Nat) (q_th_sets : Nat) (q_th_told : Nat) (q_th_up : Nat) (q_th_down : Nat) (q_th_world : Nat) (q_th_tight : Nat) (q_th_sum : Nat) (q_th_now : Nat) (n_th_signs : Nat) (th_thrown : Int32) (th_typed : Int32) (th_next : Int32) (th_token : Int32) (th_place : Int32) (th_value : Int32) (th_fault : Int32) (th_many : Int32) (th_signMany : Int32) (th_setMany : Int32) (th_corners : Int32) (th_isLoaded : Int32) (th_loaded : Int32) (th_widened : Int32) (th_wide : Int32) (th_boundUp : Int64) (th_boundDown : Int64) (th_signs : Nat → Int32) (K : Nat) (r0 : Int32) (h : f_X9_bracket K n_th_signs th_signMany th_signs = some r0) : st l yX9_bracket wsX9_bracket ({ frames := 0, cells := 0, slots := 0, locals := 0 }) E D tc [.ref q_th] (w_X9_bracket tc q_th q_th_text q_th_saying q_th_signs q_th_sets q_th_told q_th_up q_th_down q_th_world q_th_tight q_th_sum q_th_now n_th_signs th_thrown th_typed th_next th_token th_place th_value th_fault th_many th_signMany th_setMany th_corners th_isLoaded th_loaded th_widened th_wide th_boundUp th_boundDown th_signs) (some (.int r0)) (w_X9_bracket tc q_th q_th_text q_th_saying q_th_signs q_th_sets q_th_told q_th_up q_th_down q_th_world q_th_tight q_th_sum q_th_now n_th_signs th_thrown th_typed th_next th_token th_place th_value th_fault th_many th_signMany th_setMany th_corners th_isLoaded th_loaded th_widened th_wide th_boundUp th_boundDown th_signs) := by
  refine st_enter (cc := cX9_bracket) (maxL := 3) (ret := (some .int)) (by decide) rfl (Nat.le_of_ble_eq_true rfl) ?_
  intro p e s m below meth c A ls hx hb hr hml hts hown hlocks hK hN hE hA hP hD hS hl
  have hl : lv_has ls 3 [(0, .ref q_th)] := hl
  have hinX9 : ∀ w ∈ wsX90, w ∈ wsX9_bracket := by decide +kernel
  generalize hav : ([.ref q_th] : List Value).toArray = av at hts ⊢
  have L5 : ∀ (_ : Unit), ∀ (k : Nat) (s5 : Int32 × Int32) (r : Int32), lp (f_X9_bracket_L5 n_th_signs th_signMany th_signs) k s5 = some r → (fun x1 : Int32 => ∀ (H : Heap) (locs : List Loc) (ls : Array Slot), va_P D vwCl (w_X9_bracket tc q_th q_th_text q_th_saying q_th_signs q_th_sets q_th_told q_th_up q_th_down q_th_world q_th_tight q_th_sum q_th_now n_th_signs th_thrown th_typed th_next th_token th_place th_value th_fault th_many th_signMany th_setMany th_corners th_isLoaded th_loaded th_widened th_wide th_boundUp th_boundDown th_signs) H → va_D A (w_X9_bracket tc q_th q_th_text q_th_saying q_th_signs q_th_sets q_th_told q_th_up q_th_down q_th_world q_th_tight q_th_sum q_th_now n_th_signs th_thrown th_typed th_next th_token th_place th_value th_fault th_many th_signMany th_setMany th_corners th_isLoaded th_loaded th_widened th_wide th_boundUp th_boundDown th_signs) → va_S A s.heap H locs → lv_has ls 3 [(1, .int x1)] → W p l e ({ frames := 0, cells := 0, slots := 0, locals := 0 } : Room) s m av below meth c H locs 0 0 (MQ below (st_Q D (w_X9_bracket tc q_th q_th_text q_th_saying q_th_signs q_th_sets q_th_told q_th_up q_th_down q_th_world q_th_tight q_th_sum q_th_now n_th_signs th_thrown th_typed th_next th_token th_place th_value th_fault th_many th_signMany th_setMany th_corners th_isLoaded th_loaded th_widened th_wide th_boundUp th_boundDown th_signs) (some (.int r0)) A) av s 0 0 A) (F0 m 36 ls [])) r → (fun s5 : Int32 × Int32 => match s5 with | (x1, x2) => ∀ (H : Heap) (locs : List Loc) (ls : Array Slot), va_P D vwCl (w_X9_bracket tc q_th q_th_text q_th_saying q_th_signs q_th_sets q_th_told q_th_up q_th_down q_th_world q_th_tight q_th_sum q_th_now n_th_signs th_thrown th_typed th_next th_token th_place th_value th_fault th_many th_signMany th_setMany th_corners th_isLoaded th_loaded th_widened th_wide th_boundUp th_boundDown th_signs) H → va_D A (w_X9_bracket tc q_th q_th_text q_th_saying q_th_signs q_th_sets q_th_told q_th_up q_th_down q_th_world q_th_tight q_th_sum q_th_now n_th_signs th_thrown th_typed th_next th_token th_place th_value th_fault th_many th_signMany th_setMany th_corners th_isLoaded th_loaded th_widened th_wide th_boundUp th_boundDown th_signs) → va_S A s.heap H locs → lv_has ls 3 [(0, .ref q_th), (1, .int x1), (2, .int x2)] → W p l e ({ frames := 0, cells := 0, slots := 0, locals := 0 } : Room) s m av below meth c H locs 0 0 (MQ below (st_Q D (w_X9_bracket tc q_th q_th_text q_th_saying q_th_signs q_th_sets q_th_told q_th_up q_th_down q_th_world q_th_tight q_th_sum q_th_now n_th_signs th_thrown th_typed th_next th_token th_place th_value th_fault th_many th_signMany th_setMany th_corners th_isLoaded th_loaded th_widened th_wide th_boundUp th_boundDown th_signs) (some (.int r0)) A) av s 0 0 A) (F0 m 5 ls [])) s5 := by
    intro _
    refine lp_W (f_X9_bracket_L5 n_th_signs th_signMany th_signs) (fun s5 : Int32 × Int32 => match s5 with | (x1, x2) => ∀ (H : Heap) (locs : List Loc) (ls : Array Slot), va_P D vwCl (w_X9_bracket tc q_th q_th_text q_th_saying q_th_signs q_th_sets q_th_told q_th_up q_th_down q_th_world q_th_tight q_th_sum q_th_now n_th_signs th_thrown th_typed th_next th_token th_place th_value th_fault th_many th_signMany th_setMany th_corners th_isLoaded th_loaded th_widened th_wide th_boundUp th_boundDown th_signs) H → va_D A (w_X9_bracket tc q_th q_th_text q_th_saying q_th_signs q_th_sets q_th_told q_th_up q_th_down q_th_world q_th_tight q_th_sum q_th_now n_th_signs th_thrown th_typed th_next th_token th_place th_value th_fault th_many th_signMany th_setMany th_corners th_isLoaded th_loaded th_widened th_wide th_boundUp th_boundDown th_signs) → va_S A s.heap H locs → lv_has ls 3 [(0, .ref q_th), (1, .int x1), (2, .int x2)] → W p l e ({ frames := 0, cells := 0, slots := 0, locals := 0 } : Room) s m av below meth c H locs 0 0 (MQ below (st_Q D (w_X9_bracket tc q_th q_th_text q_th_saying q_th_signs q_th_sets q_th_told q_th_up q_th_down q_th_world q_th_tight q_th_sum q_th_now n_th_signs th_thrown th_typed th_next th_token th_place th_value th_fault th_many th_signMany th_setMany th_corners th_isLoaded th_loaded th_widened th_wide th_boundUp th_boundDown th_signs) (some (.int r0)) A) av s 0 0 A) (F0 m 5 ls [])) (fun x1 : Int32 => ∀ (H : Heap) (locs : List Loc) (ls : Array Slot), va_P D vwCl (w_X9_bracket tc q_th q_th_text q_th_saying q_th_signs q_th_sets q_th_told q_th_up q_th_down q_th_world q_th_tight q_th_sum q_th_now n_th_signs th_thrown th_typed th_next th_token th_place th_value th_fault th_many th_signMany th_setMany th_corners th_isLoaded th_loaded th_widened th_wide th_boundUp th_boundDown th_signs) H → va_D A (w_X9_bracket tc q_th q_th_text q_th_saying q_th_signs q_th_sets q_th_told q_th_up q_th_down q_th_world q_th_tight q_th_sum q_th_now n_th_signs th_thrown th_typed th_next th_token th_place th_value th_fault th_many th_signMany th_setMany th_corners th_isLoaded th_loaded th_widened th_wide th_boundUp th_boundDown th_signs) → va_S A s.heap H locs → lv_has ls 3 [(1, .int x1)] → W p l e ({ frames := 0, cells := 0, slots := 0, locals := 0 } : Room) s m av below meth c H locs 0 0 (MQ below (st_Q D (w_X9_bracket tc q_th q_th_text q_th_saying q_th_signs q_th_sets q_th_told q_th_up q_th_down q_th_world q_th_tight q_th_sum q_th_now n_th_signs th_thrown th_typed th_next th_token th_place th_value th_fault th_many th_signMany th_setMany th_corners th_isLoaded th_loaded th_widened th_wide th_boundUp th_boundDown th_signs) (some (.int r0)) A) av s 0 0 A) (F0 m 36 ls [])) ?_
    rintro ⟨x1, x2⟩ o h ih hz H locs ls hP hD hS hl
    unfold f_X9_bracket_L5 at h
    refine lv_iload_n hx hb dX9_bracket_5 rfl (lv_at hl 2 rfl) ?_
    refine lv_aload_n hx hb dX9_bracket_6 rfl (lv_at hl 0 rfl) ?_
    refine va_get (D := D) (ci := 9) (v := .int th_signMany) (C := RX9) (T := TX9) (N := 28) hx hb hts hinX9 hown hK hP 0 rfl rfl 12 (by decide) (hts (.fieldLink RX9 84 "ChanceBoundsModel" "signMany" "I") (by decide +kernel)) (fun _ h9 => h9) rfl dX9_bracket_7 ?_
    refine lv_icmp_ge (tgt := 36) hx hb dX9_bracket_10 (by decide) (fun c1 => ?_) (fun c1 => ?_)
    · replace h := ifp c1 h
      cases h
      exact hz _ rfl _ _ _ hP hD hS (lv_sub hl [1] rfl)
    · replace h := ifn c1 h
      refine lv_aload_n hx hb dX9_bracket_13 rfl (lv_at hl 0 rfl) ?_
      refine va_get (D := D) (ci := 9) (v := .ref q_th_signs) (C := RX9) (T := TX9) (N := 28) hx hb hts hinX9 hown hK hP 0 rfl rfl 10 (by decide) (hts (.fieldLink RX9 16 "ChanceBoundsModel" "signs" "[I") (by decide +kernel)) (fun _ h9 => h9) rfl dX9_bracket_14 ?_
      refine lv_iload_n hx hb dX9_bracket_17 rfl (lv_at hl 2 rfl) ?_
      obtain ⟨g2, h⟩ := gd_ok h
      refine va_iald hx hb hK hP 1 0 rfl rfl g2 dX9_bracket_18 ?_
      refine lv_bipush (v := (40 : Int32)) hx hb dX9_bracket_19 (by decide) ?_
      refine lv_icmp_ne (tgt := 28) hx hb dX9_bracket_21 (by decide) (fun c3 => ?_) (fun c3 => ?_)
      · replace h := ifn c3 h
        refine lv_iload_n hx hb dX9_bracket_28 rfl (lv_at hl 1 rfl) ?_
        refine lv_istore_n (lv' := [(1, .int x1), (0, .ref q_th), (2, .int x2)]) hx hb dX9_bracket_29 rfl hl (by decide) rfl (fun ls hl => ?_)
        refine lv_iinc (v := x2 + 1) (lv' := [(2, .int (x2 + 1)), (1, .int x1), (0, .ref q_th)]) hx hb dX9_bracket_30 hl (k := 2) rfl rfl (by decide) rfl (fun ls hl => ?_)
        refine lv_goto (tgt := 5) hx hb dX9_bracket_33 (by decide) ?_
        cases h
        exact ih _ rfl _ _ _ hP hD hS (lv_sub hl [2, 1, 0] rfl)
      · replace h := ifp c3 h
        refine lv_iload_n hx hb dX9_bracket_24 rfl (lv_at hl 2 rfl) ?_
        refine lv_goto (tgt := 29) hx hb dX9_bracket_25 (by decide) ?_
        refine lv_istore_n (lv' := [(1, .int x2), (0, .ref q_th), (2, .int x2)]) hx hb dX9_bracket_29 rfl hl (by decide) rfl (fun ls hl => ?_)
        refine lv_iinc (v := x2 + 1) (lv' := [(2, .int (x2 + 1)), (1, .int x2), (0, .ref q_th)]) hx hb dX9_bracket_30 hl (k := 2) rfl rfl (by decide) rfl (fun ls hl => ?_)
        refine lv_goto (tgt := 5) hx hb dX9_bracket_33 (by decide) ?_
        cases h
        exact ih _ rfl _ _ _ hP hD hS (lv_sub hl [2, 1, 0] rfl)
  unfold f_X9_bracket at h
  refine lv_bipush (v := (-9 : Int32)) hx hb dX9_bracket_0 (by decide) ?_
  refine lv_istore_n (lv' := [(1, .int (-9 : Int32)), (0, .ref q_th)]) hx hb dX9_bracket_2 rfl hl (by decide) rfl (fun ls hl => ?_)
  refine lv_iconst (v := (0 : Int32)) hx hb dX9_bracket_3 (by decide) ?_
  refine lv_istore_n (lv' := [(2, .int (0 : Int32)), (1, .int (-9 : Int32)), (0, .ref q_th)]) hx hb dX9_bracket_4 rfl hl (by decide) rfl (fun ls hl => ?_)
  obtain ⟨z4_0, hl4, h⟩ := bd_ok h
  refine L5 () K _ _ hl4 ?_ _ _ _ hP hD hS (lv_sub hl [2, 1, 0] rfl)
  intro H locs ls hP hD hS hl
  refine lv_iload_n hx hb dX9_bracket_36 rfl (lv_at hl 0 rfl) ?_
  cases h
  exact st_iret hx hb hr hlocks hP hD hS dX9_bracket_37

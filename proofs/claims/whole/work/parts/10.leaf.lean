def f_X8_has (x0 : Int32) (x1 : Int32) : Option (Int32) :=
  if ((x0 >>> (x1 &&& 31)) &&& (1 : Int32)) = (1 : Int32) then
    some (1 : Int32)
  else
    some (0 : Int32)
abbrev w_X8_has : va_W := []
set_option maxHeartbeats 4000000 in
set_option maxRecDepth 100000 in
theorem s_X8_has {l : Launch} {E : (Nat → Prop) → State → Prop} (hEok : st_Eok E) {D : va_G} {tc : Nat → ClassId} (x0 : Int32) (x1 : Int32) (r0 : Int32) (h : f_X8_has x0 x1 = some r0) : st l yX8_has wsX8_has ({ frames := 0, cells := 0, slots := 0, locals := 0 }) E D tc [.int x0, .int x1] w_X8_has (some (.int r0)) w_X8_has := by
  refine st_enter (cc := cX8_has) (maxL := 2) (ret := (some .boolean)) (by decide) rfl (Nat.le_of_ble_eq_true rfl) ?_
  intro p e s m below meth c A ls hx hb hr hml hts hown hlocks hK hN hE hA hP hD hS hl
  have hl : lv_has ls 2 [(0, .int x0), (1, .int x1)] := hl
  generalize hav : ([.int x0, .int x1] : List Value).toArray = av at hts ⊢
  unfold f_X8_has at h
  refine lv_iload_n hx hb dX8_has_0 rfl (lv_at hl 0 rfl) ?_
  refine lv_iload_n hx hb dX8_has_1 rfl (lv_at hl 1 rfl) ?_
  refine lv_ishr hx hb dX8_has_2 ?_
  refine lv_iconst (v := (1 : Int32)) hx hb dX8_has_3 (by decide) ?_
  refine lv_iand hx hb dX8_has_4 ?_
  refine lv_iconst (v := (1 : Int32)) hx hb dX8_has_5 (by decide) ?_
  refine lv_icmp_ne (tgt := 13) hx hb dX8_has_6 (by decide) (fun c1 => ?_) (fun c1 => ?_)
  · replace h := ifn c1 h
    refine lv_iconst (v := (0 : Int32)) hx hb dX8_has_13 (by decide) ?_
    cases h
    exact st_zret hx hb hr hlocks hP hD hS rfl dX8_has_14
  · replace h := ifp c1 h
    refine lv_iconst (v := (1 : Int32)) hx hb dX8_has_9 (by decide) ?_
    refine lv_goto (tgt := 14) hx hb dX8_has_10 (by decide) ?_
    cases h
    exact st_zret hx hb hr hlocks hP hD hS rfl dX8_has_14
def f_X8_commonDivisor_L9  (s9 : Int64 × Int64 × Int32) : Option ((Int64) ⊕ (Int64 × Int64 × Int32)) :=
  match s9 with
  | (x4, x6, x8) =>
    if (100 : Int32) ≤ x8 then
      some (.inl x4)
    else
      if (lg_cmp x6 (0 : Int64)) = (0 : Int32) then
        some (.inl x4)
      else
        if x6 = 0 then none else
        some (.inr (x6, x4 - x4 / x6 * x6, x8 + 1))
def f_X8_commonDivisor (K : Nat) (x0 : Int64) (x2 : Int64) : Option (Int64) :=
  (lp (f_X8_commonDivisor_L9) K (x0, x2, (0 : Int32))).bind fun z4_0 =>
  some z4_0
abbrev w_X8_commonDivisor : va_W := []
set_option maxHeartbeats 4000000 in
set_option maxRecDepth 100000 in
theorem s_X8_commonDivisor {l : Launch} {E : (Nat → Prop) → State → Prop} (hEok : st_Eok E) {D : va_G} {tc : Nat → ClassId} (x0 : Int64) (x2 : Int64) (K : Nat) (r0 : Int64) (h : f_X8_commonDivisor K x0 x2 = some r0) : st l yX8_commonDivisor wsX8_commonDivisor ({ frames := 0, cells := 0, slots := 0, locals := 0 }) E D tc [.long x0, .long x2] w_X8_commonDivisor (some (.long r0)) w_X8_commonDivisor := by
  refine st_enter (cc := cX8_commonDivisor) (maxL := 11) (ret := (some .long)) (by decide) rfl (Nat.le_of_ble_eq_true rfl) ?_
  intro p e s m below meth c A ls hx hb hr hml hts hown hlocks hK hN hE hA hP hD hS hl
  have hl : lv_has ls 11 [(0, .long x0), (2, .long x2)] := hl
  generalize hav : ([.long x0, .long x2] : List Value).toArray = av at hts ⊢
  have L9 : ∀ (_ : Unit), ∀ (k : Nat) (s9 : Int64 × Int64 × Int32) (r : Int64), lp (f_X8_commonDivisor_L9 ) k s9 = some r → (fun x4 : Int64 => ∀ (H : Heap) (locs : List Loc) (ls : Array Slot), va_P D vwCl w_X8_commonDivisor H → va_D A w_X8_commonDivisor → va_S A s.heap H locs → lv_has ls 11 [(4, .long x4)] → W p l e ({ frames := 0, cells := 0, slots := 0, locals := 0 } : Room) s m av below meth c H locs 0 0 (MQ below (st_Q D w_X8_commonDivisor (some (.long r0)) A) av s 0 0 A) (F0 m 44 ls [])) r → (fun s9 : Int64 × Int64 × Int32 => match s9 with | (x4, x6, x8) => ∀ (H : Heap) (locs : List Loc) (ls : Array Slot), va_P D vwCl w_X8_commonDivisor H → va_D A w_X8_commonDivisor → va_S A s.heap H locs → lv_has ls 11 [(4, .long x4), (6, .long x6), (8, .int x8)] → W p l e ({ frames := 0, cells := 0, slots := 0, locals := 0 } : Room) s m av below meth c H locs 0 0 (MQ below (st_Q D w_X8_commonDivisor (some (.long r0)) A) av s 0 0 A) (F0 m 9 ls [])) s9 := by
    intro _
    refine lp_W (f_X8_commonDivisor_L9 ) (fun s9 : Int64 × Int64 × Int32 => match s9 with | (x4, x6, x8) => ∀ (H : Heap) (locs : List Loc) (ls : Array Slot), va_P D vwCl w_X8_commonDivisor H → va_D A w_X8_commonDivisor → va_S A s.heap H locs → lv_has ls 11 [(4, .long x4), (6, .long x6), (8, .int x8)] → W p l e ({ frames := 0, cells := 0, slots := 0, locals := 0 } : Room) s m av below meth c H locs 0 0 (MQ below (st_Q D w_X8_commonDivisor (some (.long r0)) A) av s 0 0 A) (F0 m 9 ls [])) (fun x4 : Int64 => ∀ (H : Heap) (locs : List Loc) (ls : Array Slot), va_P D vwCl w_X8_commonDivisor H → va_D A w_X8_commonDivisor → va_S A s.heap H locs → lv_has ls 11 [(4, .long x4)] → W p l e ({ frames := 0, cells := 0, slots := 0, locals := 0 } : Room) s m av below meth c H locs 0 0 (MQ below (st_Q D w_X8_commonDivisor (some (.long r0)) A) av s 0 0 A) (F0 m 44 ls [])) ?_
    rintro ⟨x4, x6, x8⟩ o h ih hz H locs ls hP hD hS hl
    unfold f_X8_commonDivisor_L9 at h
    refine lv_iload hx hb dX8_commonDivisor_9 (lv_at hl 2 rfl) ?_
    refine lv_bipush (v := (100 : Int32)) hx hb dX8_commonDivisor_11 (by decide) ?_
    refine lv_icmp_ge (tgt := 44) hx hb dX8_commonDivisor_13 (by decide) (fun c1 => ?_) (fun c1 => ?_)
    · replace h := ifp c1 h
      cases h
      exact hz _ rfl _ _ _ hP hD hS (lv_sub hl [0] rfl)
    · replace h := ifn c1 h
      refine lv_lload hx hb dX8_commonDivisor_16 (lv_at hl 1 rfl) ?_
      refine lv_lconst (v := (0 : Int64)) hx hb dX8_commonDivisor_18 (by decide) ?_
      refine W.lcmp hx hb dX8_commonDivisor_19 ?_
      refine lv_if_eq (tgt := 44) hx hb dX8_commonDivisor_20 (by decide) (fun c2 => ?_) (fun c2 => ?_)
      · replace h := ifp c2 h
        cases h
        exact hz _ rfl _ _ _ hP hD hS (lv_sub hl [0] rfl)
      · replace h := ifn c2 h
        refine lv_lload hx hb dX8_commonDivisor_23 (lv_at hl 0 rfl) ?_
        refine lv_lload hx hb dX8_commonDivisor_25 (lv_at hl 1 rfl) ?_
        obtain ⟨g3, h⟩ := gd_ok h
        refine lv_lrem hx hb dX8_commonDivisor_27 g3 ?_
        refine lv_lstore (lv' := [(9, .long (x4 - x4 / x6 * x6)), (4, .long x4), (6, .long x6), (8, .int x8)]) hx hb dX8_commonDivisor_28 hl (by decide) rfl (fun ls hl => ?_)
        refine lv_lload hx hb dX8_commonDivisor_30 (lv_at hl 2 rfl) ?_
        refine lv_lstore (lv' := [(4, .long x6), (9, .long (x4 - x4 / x6 * x6)), (6, .long x6), (8, .int x8)]) hx hb dX8_commonDivisor_32 hl (by decide) rfl (fun ls hl => ?_)
        refine lv_lload hx hb dX8_commonDivisor_34 (lv_at hl 1 rfl) ?_
        refine lv_lstore (lv' := [(6, .long (x4 - x4 / x6 * x6)), (4, .long x6), (9, .long (x4 - x4 / x6 * x6)), (8, .int x8)]) hx hb dX8_commonDivisor_36 hl (by decide) rfl (fun ls hl => ?_)
        refine lv_iinc (v := x8 + 1) (lv' := [(8, .int (x8 + 1)), (6, .long (x4 - x4 / x6 * x6)), (4, .long x6), (9, .long (x4 - x4 / x6 * x6))]) hx hb dX8_commonDivisor_38 hl (k := 3) rfl rfl (by decide) rfl (fun ls hl => ?_)
        refine lv_goto (tgt := 9) hx hb dX8_commonDivisor_41 (by decide) ?_
        cases h
        exact ih _ rfl _ _ _ hP hD hS (lv_sub hl [2, 1, 0] rfl)
  unfold f_X8_commonDivisor at h
  refine lv_lload_n hx hb dX8_commonDivisor_0 rfl (lv_at hl 0 rfl) ?_
  refine lv_lstore (lv' := [(4, .long x0), (0, .long x0), (2, .long x2)]) hx hb dX8_commonDivisor_1 hl (by decide) rfl (fun ls hl => ?_)
  refine lv_lload_n hx hb dX8_commonDivisor_3 rfl (lv_at hl 2 rfl) ?_
  refine lv_lstore (lv' := [(6, .long x2), (4, .long x0), (0, .long x0), (2, .long x2)]) hx hb dX8_commonDivisor_4 hl (by decide) rfl (fun ls hl => ?_)
  refine lv_iconst (v := (0 : Int32)) hx hb dX8_commonDivisor_6 (by decide) ?_
  refine lv_istore (lv' := [(8, .int (0 : Int32)), (6, .long x2), (4, .long x0), (0, .long x0), (2, .long x2)]) hx hb dX8_commonDivisor_7 hl (by decide) rfl (fun ls hl => ?_)
  obtain ⟨z4_0, hl4, h⟩ := bd_ok h
  refine L9 () K _ _ hl4 ?_ _ _ _ hP hD hS (lv_sub hl [2, 1, 0] rfl)
  intro H locs ls hP hD hS hl
  refine lv_lload hx hb dX8_commonDivisor_44 (lv_at hl 0 rfl) ?_
  cases h
  exact st_lret hx hb hr hlocks hP hD hS dX8_commonDivisor_46
def f_X8_isThing (x0 : Int32) : Option (Int32) :=
  if x0 < (0 : Int32) then
    some (0 : Int32)
  else
    if (255 : Int32) < x0 then
      some (0 : Int32)
    else
      some (1 : Int32)
abbrev w_X8_isThing : va_W := []
set_option maxHeartbeats 4000000 in
set_option maxRecDepth 100000 in
theorem s_X8_isThing {l : Launch} {E : (Nat → Prop) → State → Prop} (hEok : st_Eok E) {D : va_G} {tc : Nat → ClassId} (x0 : Int32) (r0 : Int32) (h : f_X8_isThing x0 = some r0) : st l yX8_isThing wsX8_isThing ({ frames := 0, cells := 0, slots := 0, locals := 0 }) E D tc [.int x0] w_X8_isThing (some (.int r0)) w_X8_isThing := by
  refine st_enter (cc := cX8_isThing) (maxL := 1) (ret := (some .boolean)) (by decide) rfl (Nat.le_of_ble_eq_true rfl) ?_
  intro p e s m below meth c A ls hx hb hr hml hts hown hlocks hK hN hE hA hP hD hS hl
  have hl : lv_has ls 1 [(0, .int x0)] := hl
  generalize hav : ([.int x0] : List Value).toArray = av at hts ⊢
  unfold f_X8_isThing at h
  refine lv_iload_n hx hb dX8_isThing_0 rfl (lv_at hl 0 rfl) ?_
  refine lv_if_lt (tgt := 15) hx hb dX8_isThing_1 (by decide) (fun c1 => ?_) (fun c1 => ?_)
  · replace h := ifp c1 h
    refine lv_iconst (v := (0 : Int32)) hx hb dX8_isThing_15 (by decide) ?_
    cases h
    exact st_zret hx hb hr hlocks hP hD hS rfl dX8_isThing_16
  · replace h := ifn c1 h
    refine lv_iload_n hx hb dX8_isThing_4 rfl (lv_at hl 0 rfl) ?_
    refine lv_sipush (v := (255 : Int32)) hx hb dX8_isThing_5 (by decide) ?_
    refine lv_icmp_gt (tgt := 15) hx hb dX8_isThing_8 (by decide) (fun c2 => ?_) (fun c2 => ?_)
    · replace h := ifp c2 h
      refine lv_iconst (v := (0 : Int32)) hx hb dX8_isThing_15 (by decide) ?_
      cases h
      exact st_zret hx hb hr hlocks hP hD hS rfl dX8_isThing_16
    · replace h := ifn c2 h
      refine lv_iconst (v := (1 : Int32)) hx hb dX8_isThing_11 (by decide) ?_
      refine lv_goto (tgt := 16) hx hb dX8_isThing_12 (by decide) ?_
      cases h
      exact st_zret hx hb hr hlocks hP hD hS rfl dX8_isThing_16
def f_X8_isWorld (x0 : Int32) : Option (Int32) :=
  if x0 < (0 : Int32) then
    some (0 : Int32)
  else
    if (8 : Int32) ≤ x0 then
      some (0 : Int32)
    else
      some (1 : Int32)
abbrev w_X8_isWorld : va_W := []
set_option maxHeartbeats 4000000 in
set_option maxRecDepth 100000 in
theorem s_X8_isWorld {l : Launch} {E : (Nat → Prop) → State → Prop} (hEok : st_Eok E) {D : va_G} {tc : Nat → ClassId} (x0 : Int32) (r0 : Int32) (h : f_X8_isWorld x0 = some r0) : st l yX8_isWorld wsX8_isWorld ({ frames := 0, cells := 0, slots := 0, locals := 0 }) E D tc [.int x0] w_X8_isWorld (some (.int r0)) w_X8_isWorld := by
  refine st_enter (cc := cX8_isWorld) (maxL := 1) (ret := (some .boolean)) (by decide) rfl (Nat.le_of_ble_eq_true rfl) ?_
  intro p e s m below meth c A ls hx hb hr hml hts hown hlocks hK hN hE hA hP hD hS hl
  have hl : lv_has ls 1 [(0, .int x0)] := hl
  generalize hav : ([.int x0] : List Value).toArray = av at hts ⊢
  unfold f_X8_isWorld at h
  refine lv_iload_n hx hb dX8_isWorld_0 rfl (lv_at hl 0 rfl) ?_
  refine lv_if_lt (tgt := 14) hx hb dX8_isWorld_1 (by decide) (fun c1 => ?_) (fun c1 => ?_)
  · replace h := ifp c1 h
    refine lv_iconst (v := (0 : Int32)) hx hb dX8_isWorld_14 (by decide) ?_
    cases h
    exact st_zret hx hb hr hlocks hP hD hS rfl dX8_isWorld_15
  · replace h := ifn c1 h
    refine lv_iload_n hx hb dX8_isWorld_4 rfl (lv_at hl 0 rfl) ?_
    refine lv_bipush (v := (8 : Int32)) hx hb dX8_isWorld_5 (by decide) ?_
    refine lv_icmp_ge (tgt := 14) hx hb dX8_isWorld_7 (by decide) (fun c2 => ?_) (fun c2 => ?_)
    · replace h := ifp c2 h
      refine lv_iconst (v := (0 : Int32)) hx hb dX8_isWorld_14 (by decide) ?_
      cases h
      exact st_zret hx hb hr hlocks hP hD hS rfl dX8_isWorld_15
    · replace h := ifn c2 h
      refine lv_iconst (v := (1 : Int32)) hx hb dX8_isWorld_10 (by decide) ?_
      refine lv_goto (tgt := 15) hx hb dX8_isWorld_11 (by decide) ?_
      cases h
      exact st_zret hx hb hr hlocks hP hD hS rfl dX8_isWorld_15
def f_X8_isZeroOrOne (x0 : Int32) : Option (Int32) :=
  if x0 = (0 : Int32) then
    some (1 : Int32)
  else
    if x0 = (1 : Int32) then
      some (1 : Int32)
    else
      some (0 : Int32)
abbrev w_X8_isZeroOrOne : va_W := []
set_option maxHeartbeats 4000000 in
set_option maxRecDepth 100000 in
theorem s_X8_isZeroOrOne {l : Launch} {E : (Nat → Prop) → State → Prop} (hEok : st_Eok E) {D : va_G} {tc : Nat → ClassId} (x0 : Int32) (r0 : Int32) (h : f_X8_isZeroOrOne x0 = some r0) : st l yX8_isZeroOrOne wsX8_isZeroOrOne ({ frames := 0, cells := 0, slots := 0, locals := 0 }) E D tc [.int x0] w_X8_isZeroOrOne (some (.int r0)) w_X8_isZeroOrOne := by
  refine st_enter (cc := cX8_isZeroOrOne) (maxL := 1) (ret := (some .boolean)) (by decide) rfl (Nat.le_of_ble_eq_true rfl) ?_
  intro p e s m below meth c A ls hx hb hr hml hts hown hlocks hK hN hE hA hP hD hS hl
  have hl : lv_has ls 1 [(0, .int x0)] := hl
  generalize hav : ([.int x0] : List Value).toArray = av at hts ⊢
  unfold f_X8_isZeroOrOne at h
  refine lv_iload_n hx hb dX8_isZeroOrOne_0 rfl (lv_at hl 0 rfl) ?_
  refine lv_if_eq (tgt := 9) hx hb dX8_isZeroOrOne_1 (by decide) (fun c1 => ?_) (fun c1 => ?_)
  · replace h := ifp c1 h
    refine lv_iconst (v := (1 : Int32)) hx hb dX8_isZeroOrOne_9 (by decide) ?_
    refine lv_goto (tgt := 14) hx hb dX8_isZeroOrOne_10 (by decide) ?_
    cases h
    exact st_zret hx hb hr hlocks hP hD hS rfl dX8_isZeroOrOne_14
  · replace h := ifn c1 h
    refine lv_iload_n hx hb dX8_isZeroOrOne_4 rfl (lv_at hl 0 rfl) ?_
    refine lv_iconst (v := (1 : Int32)) hx hb dX8_isZeroOrOne_5 (by decide) ?_
    refine lv_icmp_ne (tgt := 13) hx hb dX8_isZeroOrOne_6 (by decide) (fun c2 => ?_) (fun c2 => ?_)
    · replace h := ifn c2 h
      refine lv_iconst (v := (0 : Int32)) hx hb dX8_isZeroOrOne_13 (by decide) ?_
      cases h
      exact st_zret hx hb hr hlocks hP hD hS rfl dX8_isZeroOrOne_14
    · replace h := ifp c2 h
      refine lv_iconst (v := (1 : Int32)) hx hb dX8_isZeroOrOne_9 (by decide) ?_
      refine lv_goto (tgt := 14) hx hb dX8_isZeroOrOne_10 (by decide) ?_
      cases h
      exact st_zret hx hb hr hlocks hP hD hS rfl dX8_isZeroOrOne_14
def f_J6_bitCount_0f7a4 (x0 : Int32) : Option (Int32) :=
  (some (x0 - (((x0.toUInt32 >>> ((1 : Int32).toUInt32 &&& Int32.toUInt32 31)).toInt32) &&& (1431655765 : Int32)) : Int32)).bind fun z1 =>
  (some ((z1 &&& (858993459 : Int32)) + (((z1.toUInt32 >>> ((2 : Int32).toUInt32 &&& Int32.toUInt32 31)).toInt32) &&& (858993459 : Int32)) : Int32)).bind fun z2 =>
  (some ((z2 + ((z2.toUInt32 >>> ((4 : Int32).toUInt32 &&& Int32.toUInt32 31)).toInt32)) &&& (252645135 : Int32) : Int32)).bind fun z3 =>
  (some (z3 + ((z3.toUInt32 >>> ((8 : Int32).toUInt32 &&& Int32.toUInt32 31)).toInt32) : Int32)).bind fun z4 =>
  (some (z4 + ((z4.toUInt32 >>> ((16 : Int32).toUInt32 &&& Int32.toUInt32 31)).toInt32) : Int32)).bind fun z5 =>
  some (z5 &&& (63 : Int32))
abbrev w_J6_bitCount_0f7a4 : va_W := []
set_option maxHeartbeats 4000000 in
set_option maxRecDepth 100000 in
theorem s_J6_bitCount_0f7a4 {l : Launch} {E : (Nat → Prop) → State → Prop} (hEok : st_Eok E) {D : va_G} {tc : Nat → ClassId} (x0 : Int32) (r0 : Int32) (h : f_J6_bitCount_0f7a4 x0 = some r0) : st l yJ6_bitCount_0f7a4 wsJ6_bitCount_0f7a4 ({ frames := 0, cells := 0, slots := 0, locals := 0 }) E D tc [.int x0] w_J6_bitCount_0f7a4 (some (.int r0)) w_J6_bitCount_0f7a4 := by
  refine st_enter (cc := cJ6_bitCount_0f7a4) (maxL := 1) (ret := (some .int)) (by decide) rfl (Nat.le_of_ble_eq_true rfl) ?_
  intro p e s m below meth c A ls hx hb hr hml hts hown hlocks hK hN hE hA hP hD hS hl
  have hl : lv_has ls 1 [(0, .int x0)] := hl
  generalize hav : ([.int x0] : List Value).toArray = av at hts ⊢
  unfold f_J6_bitCount_0f7a4 at h
  refine lv_iload_n hx hb dJ6_bitCount_0f7a4_0 rfl (lv_at hl 0 rfl) ?_
  refine lv_iload_n hx hb dJ6_bitCount_0f7a4_1 rfl (lv_at hl 0 rfl) ?_
  refine lv_iconst (v := (1 : Int32)) hx hb dJ6_bitCount_0f7a4_2 (by decide) ?_
  refine lv_iushr (v := (x0.toUInt32 >>> ((1 : Int32).toUInt32 &&& Int32.toUInt32 31)).toInt32) hx hb dJ6_bitCount_0f7a4_3 rfl ?_
  refine lv_ldcw (v := (1431655765 : Int32)) hx hb hown (hts (.constant RJ6 265 (1431655765)) (by decide +kernel)) dJ6_bitCount_0f7a4_4 ?_
  refine lv_iand hx hb dJ6_bitCount_0f7a4_7 ?_
  refine lv_isub hx hb dJ6_bitCount_0f7a4_8 ?_
  obtain ⟨z1, hzz1, h⟩ := bd_ok h
  refine st_nmi (Option.some.inj hzz1) ?_
  refine lv_istore_n (lv' := [(0, .int z1)]) hx hb dJ6_bitCount_0f7a4_9 rfl hl (by decide) rfl (fun ls hl => ?_)
  refine lv_iload_n hx hb dJ6_bitCount_0f7a4_10 rfl (lv_at hl 0 rfl) ?_
  refine lv_ldcw (v := (858993459 : Int32)) hx hb hown (hts (.constant RJ6 266 (858993459)) (by decide +kernel)) dJ6_bitCount_0f7a4_11 ?_
  refine lv_iand hx hb dJ6_bitCount_0f7a4_14 ?_
  refine lv_iload_n hx hb dJ6_bitCount_0f7a4_15 rfl (lv_at hl 0 rfl) ?_
  refine lv_iconst (v := (2 : Int32)) hx hb dJ6_bitCount_0f7a4_16 (by decide) ?_
  refine lv_iushr (v := (z1.toUInt32 >>> ((2 : Int32).toUInt32 &&& Int32.toUInt32 31)).toInt32) hx hb dJ6_bitCount_0f7a4_17 rfl ?_
  refine lv_ldcw (v := (858993459 : Int32)) hx hb hown (hts (.constant RJ6 266 (858993459)) (by decide +kernel)) dJ6_bitCount_0f7a4_18 ?_
  refine lv_iand hx hb dJ6_bitCount_0f7a4_21 ?_
  refine lv_iadd hx hb dJ6_bitCount_0f7a4_22 ?_
  obtain ⟨z2, hzz2, h⟩ := bd_ok h
  refine st_nmi (Option.some.inj hzz2) ?_
  refine lv_istore_n (lv' := [(0, .int z2)]) hx hb dJ6_bitCount_0f7a4_23 rfl hl (by decide) rfl (fun ls hl => ?_)
  refine lv_iload_n hx hb dJ6_bitCount_0f7a4_24 rfl (lv_at hl 0 rfl) ?_
  refine lv_iload_n hx hb dJ6_bitCount_0f7a4_25 rfl (lv_at hl 0 rfl) ?_
  refine lv_iconst (v := (4 : Int32)) hx hb dJ6_bitCount_0f7a4_26 (by decide) ?_
  refine lv_iushr (v := (z2.toUInt32 >>> ((4 : Int32).toUInt32 &&& Int32.toUInt32 31)).toInt32) hx hb dJ6_bitCount_0f7a4_27 rfl ?_
  refine lv_iadd hx hb dJ6_bitCount_0f7a4_28 ?_
  refine lv_ldcw (v := (252645135 : Int32)) hx hb hown (hts (.constant RJ6 267 (252645135)) (by decide +kernel)) dJ6_bitCount_0f7a4_29 ?_
  refine lv_iand hx hb dJ6_bitCount_0f7a4_32 ?_
  obtain ⟨z3, hzz3, h⟩ := bd_ok h
  refine st_nmi (Option.some.inj hzz3) ?_
  refine lv_istore_n (lv' := [(0, .int z3)]) hx hb dJ6_bitCount_0f7a4_33 rfl hl (by decide) rfl (fun ls hl => ?_)
  refine lv_iload_n hx hb dJ6_bitCount_0f7a4_34 rfl (lv_at hl 0 rfl) ?_
  refine lv_iload_n hx hb dJ6_bitCount_0f7a4_35 rfl (lv_at hl 0 rfl) ?_
  refine lv_bipush (v := (8 : Int32)) hx hb dJ6_bitCount_0f7a4_36 (by decide) ?_
  refine lv_iushr (v := (z3.toUInt32 >>> ((8 : Int32).toUInt32 &&& Int32.toUInt32 31)).toInt32) hx hb dJ6_bitCount_0f7a4_38 rfl ?_
  refine lv_iadd hx hb dJ6_bitCount_0f7a4_39 ?_
  obtain ⟨z4, hzz4, h⟩ := bd_ok h
  refine st_nmi (Option.some.inj hzz4) ?_
  refine lv_istore_n (lv' := [(0, .int z4)]) hx hb dJ6_bitCount_0f7a4_40 rfl hl (by decide) rfl (fun ls hl => ?_)
  refine lv_iload_n hx hb dJ6_bitCount_0f7a4_41 rfl (lv_at hl 0 rfl) ?_
  refine lv_iload_n hx hb dJ6_bitCount_0f7a4_42 rfl (lv_at hl 0 rfl) ?_
  refine lv_bipush (v := (16 : Int32)) hx hb dJ6_bitCount_0f7a4_43 (by decide) ?_
  refine lv_iushr (v := (z4.toUInt32 >>> ((16 : Int32).toUInt32 &&& Int32.toUInt32 31)).toInt32) hx hb dJ6_bitCount_0f7a4_45 rfl ?_
  refine lv_iadd hx hb dJ6_bitCount_0f7a4_46 ?_
  obtain ⟨z5, hzz5, h⟩ := bd_ok h
  refine st_nmi (Option.some.inj hzz5) ?_
  refine lv_istore_n (lv' := [(0, .int z5)]) hx hb dJ6_bitCount_0f7a4_47 rfl hl (by decide) rfl (fun ls hl => ?_)
  refine lv_iload_n hx hb dJ6_bitCount_0f7a4_48 rfl (lv_at hl 0 rfl) ?_
  refine lv_bipush (v := (63 : Int32)) hx hb dJ6_bitCount_0f7a4_49 (by decide) ?_
  refine lv_iand hx hb dJ6_bitCount_0f7a4_51 ?_
  cases h
  exact st_iret hx hb hr hlocks hP hD hS dJ6_bitCount_0f7a4_52

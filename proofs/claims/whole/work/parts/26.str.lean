def f_J0_coder_7d493  : Option (Int32) :=
  if (1 : Int32) = (0 : Int32) then
    some (1 : Int32)
  else
    some (0 : Int32)
abbrev w_J0_coder_7d493 : va_W := []
set_option maxHeartbeats 4000000 in
set_option maxRecDepth 100000 in
theorem s_J0_coder_7d493 {l : Launch} (t0 aK aV : Nat) {D : va_G} {tc : Nat → ClassId} (r0 : Int32) (h : f_J0_coder_7d493  = some r0) : st l yJ0_coder_7d493 wsJ0_coder_7d493 ({ frames := 0, cells := 0, slots := 0, locals := 0 }) (tk_E t0 aK aV) D tc [.ref aK] w_J0_coder_7d493 (some (.int r0)) w_J0_coder_7d493 := by
  have hEok : st_Eok (tk_E t0 aK aV) := tk_ok t0 aK aV
  refine st_enter (cc := cJ0_coder_7d493) (maxL := 1) (ret := (some .byte)) (by decide) rfl (Nat.le_of_ble_eq_true rfl) ?_
  intro p e s m below meth c A ls hx hb hr hml hts hown hlocks hK hN hE hA hP hD hS hl
  have hl : lv_has ls 1 [(0, .ref aK)] := hl
  generalize hav : ([.ref aK] : List Value).toArray = av at hts ⊢
  unfold f_J0_coder_7d493 at h
  refine va_gets hx hb hE.2.2.2.2 hS hown (hts (.fieldLink RJ0 38 "java/lang/String" "COMPACT_STRINGS" "Z") (by decide +kernel)) (fun _ h9 => h9) dJ0_coder_7d493_0 ?_
  refine lv_if_eq (tgt := 13) hx hb dJ0_coder_7d493_3 (by decide) (fun c1 => ?_) (fun c1 => ?_)
  · replace h := ifp c1 h
    refine lv_iconst (v := (1 : Int32)) hx hb dJ0_coder_7d493_13 (by decide) ?_
    cases h
    exact st_zret hx hb hr hlocks hP hD hS rfl dJ0_coder_7d493_14
  · replace h := ifn c1 h
    refine lv_aload_n hx hb dJ0_coder_7d493_6 rfl (lv_at hl 0 rfl) ?_
    refine vk_getf hx hb (hE.2.2.2.1.1 0 (by decide)).2.1 hS hown (hts (.fieldLink RJ0 15 "java/lang/String" "coder" "B") (by decide +kernel)) (fun _ h9 => h9) dJ0_coder_7d493_7 ?_
    refine lv_goto (tgt := 14) hx hb dJ0_coder_7d493_10 (by decide) ?_
    cases h
    exact st_zret hx hb hr hlocks hP hD hS rfl dJ0_coder_7d493_14
def f_J0_length_8abf5  : Option (Int32) :=
  (f_J0_coder_7d493).bind fun z1_0 =>
  some ((7 : Int32) >>> (z1_0 &&& 31))
abbrev w_J0_length_8abf5 : va_W := []
set_option maxHeartbeats 4000000 in
set_option maxRecDepth 100000 in
theorem s_J0_length_8abf5 {l : Launch} (t0 aK aV : Nat) {D : va_G} {tc : Nat → ClassId} (r0 : Int32) (h : f_J0_length_8abf5  = some r0) : st l yJ0_length_8abf5 wsJ0_length_8abf5 ({ frames := 1, cells := 0, slots := 0, locals := 20 }) (tk_E t0 aK aV) D tc [.ref aK] w_J0_length_8abf5 (some (.int r0)) w_J0_length_8abf5 := by
  have hEok : st_Eok (tk_E t0 aK aV) := tk_ok t0 aK aV
  refine st_enter (cc := cJ0_length_8abf5) (maxL := 1) (ret := (some .int)) (by decide) rfl (Nat.le_of_ble_eq_true rfl) ?_
  intro p e s m below meth c A ls hx hb hr hml hts hown hlocks hK hN hE hA hP hD hS hl
  have hl : lv_has ls 1 [(0, .ref aK)] := hl
  generalize hav : ([.ref aK] : List Value).toArray = av at hts ⊢
  unfold f_J0_length_8abf5 at h
  refine lv_aload_n hx hb dJ0_length_8abf5_0 rfl (lv_at hl 0 rfl) ?_
  refine vk_getf hx hb (hE.2.2.2.1.1 0 (by decide)).2.2.1 hS hown (hts (.fieldLink RJ0 9 "java/lang/String" "value" "[B") (by decide +kernel)) (fun _ h9 => h9) dJ0_length_8abf5_1 ?_
  refine va_tlen (v := (7 : Int32)) hx hb (hE.2.2.2.1.1 0 (by decide)).2.2.2 hS rfl dJ0_length_8abf5_4 ?_
  refine lv_aload_n hx hb dJ0_length_8abf5_5 rfl (lv_at hl 0 rfl) ?_
  obtain ⟨z1_0, hc1, h⟩ := bd_ok h
  refine st_callV (As := []) (rest := [.int (7 : Int32)]) (pos := []) ⟨hx, hb, hml, hown, hts⟩ (s_J0_coder_7d493 (l := l) (D := D) (tc := tc) t0 aK aV z1_0 hc1) (cwV 0 hts gJ0_length_8abf5_J0_coder_7d493 rfl rfl rfl (by decide +kernel) ⟨Nat.le_of_ble_eq_true rfl, Nat.le_of_ble_eq_true rfl⟩) (vk_recv (i := 0) hE.2.2.2.1 (by decide) hS) hEok hE hK hN hP hD hS hA rfl rfl rfl rfl hl.1 rfl (Nat.le_of_ble_eq_true rfl) dJ0_length_8abf5_6 ⟨Nat.zero_le _, Nat.zero_le _⟩ (fun H locs hP hD hS => ?_)
  refine lv_ishr hx hb dJ0_length_8abf5_9 ?_
  cases h
  exact st_iret hx hb hr hlocks hP hD hS dJ0_length_8abf5_10
def f_J0_isLatin1_aae02  : Option (Int32) :=
  if (1 : Int32) = (0 : Int32) then
    some (0 : Int32)
  else
    if (0 : Int32) = (0 : Int32) then
      some (1 : Int32)
    else
      some (0 : Int32)
abbrev w_J0_isLatin1_aae02 : va_W := []
set_option maxHeartbeats 4000000 in
set_option maxRecDepth 100000 in
theorem s_J0_isLatin1_aae02 {l : Launch} (t0 aK aV : Nat) {D : va_G} {tc : Nat → ClassId} (r0 : Int32) (h : f_J0_isLatin1_aae02  = some r0) : st l yJ0_isLatin1_aae02 wsJ0_isLatin1_aae02 ({ frames := 0, cells := 0, slots := 0, locals := 0 }) (tk_E t0 aK aV) D tc [.ref aK] w_J0_isLatin1_aae02 (some (.int r0)) w_J0_isLatin1_aae02 := by
  have hEok : st_Eok (tk_E t0 aK aV) := tk_ok t0 aK aV
  refine st_enter (cc := cJ0_isLatin1_aae02) (maxL := 1) (ret := (some .boolean)) (by decide) rfl (Nat.le_of_ble_eq_true rfl) ?_
  intro p e s m below meth c A ls hx hb hr hml hts hown hlocks hK hN hE hA hP hD hS hl
  have hl : lv_has ls 1 [(0, .ref aK)] := hl
  generalize hav : ([.ref aK] : List Value).toArray = av at hts ⊢
  unfold f_J0_isLatin1_aae02 at h
  refine va_gets hx hb hE.2.2.2.2 hS hown (hts (.fieldLink RJ0 38 "java/lang/String" "COMPACT_STRINGS" "Z") (by decide +kernel)) (fun _ h9 => h9) dJ0_isLatin1_aae02_0 ?_
  refine lv_if_eq (tgt := 17) hx hb dJ0_isLatin1_aae02_3 (by decide) (fun c1 => ?_) (fun c1 => ?_)
  · replace h := ifp c1 h
    refine lv_iconst (v := (0 : Int32)) hx hb dJ0_isLatin1_aae02_17 (by decide) ?_
    cases h
    exact st_zret hx hb hr hlocks hP hD hS rfl dJ0_isLatin1_aae02_18
  · replace h := ifn c1 h
    refine lv_aload_n hx hb dJ0_isLatin1_aae02_6 rfl (lv_at hl 0 rfl) ?_
    refine vk_getf hx hb (hE.2.2.2.1.1 0 (by decide)).2.1 hS hown (hts (.fieldLink RJ0 15 "java/lang/String" "coder" "B") (by decide +kernel)) (fun _ h9 => h9) dJ0_isLatin1_aae02_7 ?_
    refine lv_if_ne (tgt := 17) hx hb dJ0_isLatin1_aae02_10 (by decide) (fun c2 => ?_) (fun c2 => ?_)
    · replace h := ifn c2 h
      refine lv_iconst (v := (0 : Int32)) hx hb dJ0_isLatin1_aae02_17 (by decide) ?_
      cases h
      exact st_zret hx hb hr hlocks hP hD hS rfl dJ0_isLatin1_aae02_18
    · replace h := ifp c2 h
      refine lv_iconst (v := (1 : Int32)) hx hb dJ0_isLatin1_aae02_13 (by decide) ?_
      refine lv_goto (tgt := 18) hx hb dJ0_isLatin1_aae02_14 (by decide) ?_
      cases h
      exact st_zret hx hb hr hlocks hP hD hS rfl dJ0_isLatin1_aae02_18
def f_J1_canEncode_9a6ad (x0 : Int32) : Option (Int32) :=
  if x0 < (0 : Int32) then
    some (0 : Int32)
  else
    if (255 : Int32) < x0 then
      some (0 : Int32)
    else
      some (1 : Int32)
abbrev w_J1_canEncode_9a6ad : va_W := []
set_option maxHeartbeats 4000000 in
set_option maxRecDepth 100000 in
theorem s_J1_canEncode_9a6ad {l : Launch} (t0 aK aV : Nat) {D : va_G} {tc : Nat → ClassId} (x0 : Int32) (r0 : Int32) (h : f_J1_canEncode_9a6ad x0 = some r0) : st l yJ1_canEncode_9a6ad wsJ1_canEncode_9a6ad ({ frames := 0, cells := 0, slots := 0, locals := 0 }) (tk_E t0 aK aV) D tc [.int x0] w_J1_canEncode_9a6ad (some (.int r0)) w_J1_canEncode_9a6ad := by
  have hEok : st_Eok (tk_E t0 aK aV) := tk_ok t0 aK aV
  refine st_enter (cc := cJ1_canEncode_9a6ad) (maxL := 1) (ret := (some .boolean)) (by decide) rfl (Nat.le_of_ble_eq_true rfl) ?_
  intro p e s m below meth c A ls hx hb hr hml hts hown hlocks hK hN hE hA hP hD hS hl
  have hl : lv_has ls 1 [(0, .int x0)] := hl
  generalize hav : ([.int x0] : List Value).toArray = av at hts ⊢
  unfold f_J1_canEncode_9a6ad at h
  refine lv_iload_n hx hb dJ1_canEncode_9a6ad_0 rfl (lv_at hl 0 rfl) ?_
  refine lv_if_lt (tgt := 15) hx hb dJ1_canEncode_9a6ad_1 (by decide) (fun c1 => ?_) (fun c1 => ?_)
  · replace h := ifp c1 h
    refine lv_iconst (v := (0 : Int32)) hx hb dJ1_canEncode_9a6ad_15 (by decide) ?_
    cases h
    exact st_zret hx hb hr hlocks hP hD hS rfl dJ1_canEncode_9a6ad_16
  · replace h := ifn c1 h
    refine lv_iload_n hx hb dJ1_canEncode_9a6ad_4 rfl (lv_at hl 0 rfl) ?_
    refine lv_sipush (v := (255 : Int32)) hx hb dJ1_canEncode_9a6ad_5 (by decide) ?_
    refine lv_icmp_gt (tgt := 15) hx hb dJ1_canEncode_9a6ad_8 (by decide) (fun c2 => ?_) (fun c2 => ?_)
    · replace h := ifp c2 h
      refine lv_iconst (v := (0 : Int32)) hx hb dJ1_canEncode_9a6ad_15 (by decide) ?_
      cases h
      exact st_zret hx hb hr hlocks hP hD hS rfl dJ1_canEncode_9a6ad_16
    · replace h := ifn c2 h
      refine lv_iconst (v := (1 : Int32)) hx hb dJ1_canEncode_9a6ad_11 (by decide) ?_
      refine lv_goto (tgt := 16) hx hb dJ1_canEncode_9a6ad_12 (by decide) ?_
      cases h
      exact st_zret hx hb hr hlocks hP hD hS rfl dJ1_canEncode_9a6ad_16
def f_J1_indexOfChar_4cfef_L7 (x3 : Int32) (x4 : Int32) (s7 : Int32) : Option (((Int32) ⊕ (Unit)) ⊕ (Int32)) :=
  (fun x5 => 
    if x3 ≤ x5 then
      some (.inl (.inr ()))
    else
      if x5 < 0 ∨ 7 ≤ x5.toNatClampNeg then none else
      if (tk_byt x5.toNatClampNeg) = x4 then
        some (.inl (.inl x5))
      else
        some (.inr (x5 + 1))
  ) s7
def f_J1_indexOfChar_4cfef (K : Nat) (x1 : Int32) (x2 : Int32) (x3 : Int32) : Option (Int32) :=
  (lp (f_J1_indexOfChar_4cfef_L7 x3 x1.toInt8.toInt32) K x2).bind fun z4 => match z4 with
  | .inl r => some r
  | .inr _ =>
    some (-1 : Int32)
abbrev w_J1_indexOfChar_4cfef : va_W := []
set_option maxHeartbeats 4000000 in
set_option maxRecDepth 100000 in
theorem s_J1_indexOfChar_4cfef {l : Launch} (t0 aK aV : Nat) {D : va_G} {tc : Nat → ClassId} (x1 : Int32) (x2 : Int32) (x3 : Int32) (K : Nat) (r0 : Int32) (h : f_J1_indexOfChar_4cfef K x1 x2 x3 = some r0) : st l yJ1_indexOfChar_4cfef wsJ1_indexOfChar_4cfef ({ frames := 0, cells := 0, slots := 0, locals := 0 }) (tk_E t0 aK aV) D tc [.ref aV, .int x1, .int x2, .int x3] w_J1_indexOfChar_4cfef (some (.int r0)) w_J1_indexOfChar_4cfef := by
  have hEok : st_Eok (tk_E t0 aK aV) := tk_ok t0 aK aV
  refine st_enter (cc := cJ1_indexOfChar_4cfef) (maxL := 6) (ret := (some .int)) (by decide) rfl (Nat.le_of_ble_eq_true rfl) ?_
  intro p e s m below meth c A ls hx hb hr hml hts hown hlocks hK hN hE hA hP hD hS hl
  have hl : lv_has ls 6 [(0, .ref aV), (1, .int x1), (2, .int x2), (3, .int x3)] := hl
  generalize hav : ([.ref aV, .int x1, .int x2, .int x3] : List Value).toArray = av at hts ⊢
  have L7 : ∀ (x3 : Int32) (x4 : Int32), ∀ (k : Nat) (s7 : Int32) (r : (Int32) ⊕ (Unit)), lp (f_J1_indexOfChar_4cfef_L7 x3 x4) k s7 = some r → (fun z : (Int32) ⊕ (Unit) => match z with | .inl r => r = r0 | .inr y7 => ∀ (H : Heap) (locs : List Loc) (ls : Array Slot), va_P D vwCl w_J1_indexOfChar_4cfef H → va_D A w_J1_indexOfChar_4cfef → va_S A s.heap H locs → lv_has ls 6 [] → W p l e ({ frames := 0, cells := 0, slots := 0, locals := 0 } : Room) s m av below meth c H locs 0 0 (MQ below (st_Q D w_J1_indexOfChar_4cfef (some (.int r0)) A) av s 0 0 A) (F0 m 31 ls [])) r → (fun x5 : Int32 => ∀ (H : Heap) (locs : List Loc) (ls : Array Slot), va_P D vwCl w_J1_indexOfChar_4cfef H → va_D A w_J1_indexOfChar_4cfef → va_S A s.heap H locs → lv_has ls 6 [(0, .ref aV), (3, .int x3), (4, .int x4), (5, .int x5)] → W p l e ({ frames := 0, cells := 0, slots := 0, locals := 0 } : Room) s m av below meth c H locs 0 0 (MQ below (st_Q D w_J1_indexOfChar_4cfef (some (.int r0)) A) av s 0 0 A) (F0 m 7 ls [])) s7 := by
    intro x3 x4
    refine lp_W (f_J1_indexOfChar_4cfef_L7 x3 x4) (fun x5 : Int32 => ∀ (H : Heap) (locs : List Loc) (ls : Array Slot), va_P D vwCl w_J1_indexOfChar_4cfef H → va_D A w_J1_indexOfChar_4cfef → va_S A s.heap H locs → lv_has ls 6 [(0, .ref aV), (3, .int x3), (4, .int x4), (5, .int x5)] → W p l e ({ frames := 0, cells := 0, slots := 0, locals := 0 } : Room) s m av below meth c H locs 0 0 (MQ below (st_Q D w_J1_indexOfChar_4cfef (some (.int r0)) A) av s 0 0 A) (F0 m 7 ls [])) (fun z : (Int32) ⊕ (Unit) => match z with | .inl r => r = r0 | .inr y7 => ∀ (H : Heap) (locs : List Loc) (ls : Array Slot), va_P D vwCl w_J1_indexOfChar_4cfef H → va_D A w_J1_indexOfChar_4cfef → va_S A s.heap H locs → lv_has ls 6 [] → W p l e ({ frames := 0, cells := 0, slots := 0, locals := 0 } : Room) s m av below meth c H locs 0 0 (MQ below (st_Q D w_J1_indexOfChar_4cfef (some (.int r0)) A) av s 0 0 A) (F0 m 31 ls [])) ?_
    rintro x5 o h ih hz H locs ls hP hD hS hl
    unfold f_J1_indexOfChar_4cfef_L7 at h
    refine lv_iload hx hb dJ1_indexOfChar_4cfef_7 (lv_at hl 3 rfl) ?_
    refine lv_iload_n hx hb dJ1_indexOfChar_4cfef_9 rfl (lv_at hl 1 rfl) ?_
    refine lv_icmp_ge (tgt := 31) hx hb dJ1_indexOfChar_4cfef_10 (by decide) (fun c1 => ?_) (fun c1 => ?_)
    · replace h := ifp c1 h
      cases h
      exact hz _ rfl _ _ _ hP hD hS (lv_sub hl [] rfl)
    · replace h := ifn c1 h
      refine lv_aload_n hx hb dJ1_indexOfChar_4cfef_13 rfl (lv_at hl 0 rfl) ?_
      refine lv_iload hx hb dJ1_indexOfChar_4cfef_14 (lv_at hl 3 rfl) ?_
      obtain ⟨g2, h⟩ := gd_ok h
      refine va_tb hx hb (hE.2.2.2.1.1 0 (by decide)).2.2.2 hS g2 rfl dJ1_indexOfChar_4cfef_16 ?_
      refine lv_iload hx hb dJ1_indexOfChar_4cfef_17 (lv_at hl 2 rfl) ?_
      refine lv_icmp_ne (tgt := 25) hx hb dJ1_indexOfChar_4cfef_19 (by decide) (fun c3 => ?_) (fun c3 => ?_)
      · replace h := ifn c3 h
        refine lv_iinc (v := x5 + 1) (lv' := [(5, .int (x5 + 1)), (0, .ref aV), (3, .int x3), (4, .int x4)]) hx hb dJ1_indexOfChar_4cfef_25 hl (k := 3) rfl rfl (by decide) rfl (fun ls hl => ?_)
        refine lv_goto (tgt := 7) hx hb dJ1_indexOfChar_4cfef_28 (by decide) ?_
        cases h
        exact ih _ rfl _ _ _ hP hD hS (lv_sub hl [1, 2, 3, 0] rfl)
      · replace h := ifp c3 h
        refine lv_iload hx hb dJ1_indexOfChar_4cfef_22 (lv_at hl 3 rfl) ?_
        cases h
        have e8 := hz _ rfl
        cases e8
        exact st_iret hx hb hr hlocks hP hD hS dJ1_indexOfChar_4cfef_24
  unfold f_J1_indexOfChar_4cfef at h
  refine lv_iload_n hx hb dJ1_indexOfChar_4cfef_0 rfl (lv_at hl 1 rfl) ?_
  refine lv_i2b (v := x1.toInt8.toInt32) hx hb dJ1_indexOfChar_4cfef_1 rfl ?_
  refine lv_istore (lv' := [(4, .int x1.toInt8.toInt32), (0, .ref aV), (1, .int x1), (2, .int x2), (3, .int x3)]) hx hb dJ1_indexOfChar_4cfef_2 hl (by decide) rfl (fun ls hl => ?_)
  refine lv_iload_n hx hb dJ1_indexOfChar_4cfef_4 rfl (lv_at hl 3 rfl) ?_
  refine lv_istore (lv' := [(5, .int x2), (4, .int x1.toInt8.toInt32), (0, .ref aV), (1, .int x1), (2, .int x2), (3, .int x3)]) hx hb dJ1_indexOfChar_4cfef_5 hl (by decide) rfl (fun ls hl => ?_)
  obtain ⟨z4, hl4, h⟩ := bd_ok h
  refine L7 x3 x1.toInt8.toInt32 K _ z4 hl4 ?_ _ _ _ hP hD hS (lv_sub hl [2, 5, 1, 0] rfl)
  rcases z4 with r | ⟨⟩
  · cases h
    exact rfl
  intro H locs ls hP hD hS hl
  refine lv_iconst (v := (-1 : Int32)) hx hb dJ1_indexOfChar_4cfef_31 (by decide) ?_
  cases h
  exact st_iret hx hb hr hlocks hP hD hS dJ1_indexOfChar_4cfef_32
def f_J1_indexOf_4cfef (K : Nat) (x1 : Int32) (x2 : Int32) (x3 : Int32) : Option (Int32) :=
  (f_J1_canEncode_9a6ad x1).bind fun z1_0 =>
  if z1_0 = (0 : Int32) then
    some (-1 : Int32)
  else
    if (if x2 < (0 : Int32) then (0 : Int32) else x2) < (if (7 : Int32) < x3 then (7 : Int32) else x3) then
      (f_J1_indexOfChar_4cfef K x1 (if x2 < (0 : Int32) then (0 : Int32) else x2) (if (7 : Int32) < x3 then (7 : Int32) else x3)).bind fun z4_0 =>
      some z4_0
    else
      some (-1 : Int32)
abbrev w_J1_indexOf_4cfef : va_W := []
set_option maxHeartbeats 4000000 in
set_option maxRecDepth 100000 in
theorem s_J1_indexOf_4cfef {l : Launch} (t0 aK aV : Nat) {D : va_G} {tc : Nat → ClassId} (x1 : Int32) (x2 : Int32) (x3 : Int32) (K : Nat) (r0 : Int32) (h : f_J1_indexOf_4cfef K x1 x2 x3 = some r0) : st l yJ1_indexOf_4cfef wsJ1_indexOf_4cfef ({ frames := 1, cells := 0, slots := 0, locals := 25 }) (tk_E t0 aK aV) D tc [.ref aV, .int x1, .int x2, .int x3] w_J1_indexOf_4cfef (some (.int r0)) w_J1_indexOf_4cfef := by
  have hEok : st_Eok (tk_E t0 aK aV) := tk_ok t0 aK aV
  refine st_enter (cc := cJ1_indexOf_4cfef) (maxL := 4) (ret := (some .int)) (by decide) rfl (Nat.le_of_ble_eq_true rfl) ?_
  intro p e s m below meth c A ls hx hb hr hml hts hown hlocks hK hN hE hA hP hD hS hl
  have hl : lv_has ls 4 [(0, .ref aV), (1, .int x1), (2, .int x2), (3, .int x3)] := hl
  generalize hav : ([.ref aV, .int x1, .int x2, .int x3] : List Value).toArray = av at hts ⊢
  unfold f_J1_indexOf_4cfef at h
  refine lv_iload_n hx hb dJ1_indexOf_4cfef_0 rfl (lv_at hl 1 rfl) ?_
  obtain ⟨z1_0, hc1, h⟩ := bd_ok h
  refine st_callS (As := [.int x1]) (rest := []) (pos := []) ⟨hx, hb, hml, hown, hts⟩ (s_J1_canEncode_9a6ad (l := l) (D := D) (tc := tc) t0 aK aV x1 z1_0 hc1) (va_cwS 1 hts gJ1_indexOf_4cfef_J1_canEncode_9a6ad rfl rfl rfl (by decide +kernel) ⟨Nat.le_of_ble_eq_true rfl, Nat.le_of_ble_eq_true rfl⟩) hEok hE hK hN hP hD hS hA rfl rfl rfl rfl hl.1 rfl (Nat.le_of_ble_eq_true rfl) dJ1_indexOf_4cfef_1 ⟨Nat.zero_le _, Nat.zero_le _⟩ (fun H locs hP hD hS => ?_)
  refine lv_if_ne (tgt := 9) hx hb dJ1_indexOf_4cfef_4 (by decide) (fun c2 => ?_) (fun c2 => ?_)
  · replace h := ifn c2 h
    refine lv_iload_n hx hb dJ1_indexOf_4cfef_9 rfl (lv_at hl 2 rfl) ?_
    refine lv_iconst (v := (0 : Int32)) hx hb dJ1_indexOf_4cfef_10 (by decide) ?_
    refine va_mmax hx hb (by rw [hml]; exact hl.1.symm) hown (hts (.methodLink RJ1 92 Lib.Math.max.name) (by decide +kernel)) (hts (.static Lib.Math.max.name) (by decide +kernel)) (hts (.initialized "java/lang/Math") (by decide +kernel)) (hts (.code Lib.Math.max.name Lib.Math.max.code 2 (some .int)) (by decide +kernel)) (Nat.le_of_ble_eq_true rfl) (Nat.le_of_ble_eq_true rfl) (Nat.zero_le _) (Nat.zero_le _) dJ1_indexOf_4cfef_11 ?_
    refine lv_istore_n (lv' := [(2, .int (if x2 < (0 : Int32) then (0 : Int32) else x2)), (0, .ref aV), (1, .int x1), (3, .int x3)]) hx hb dJ1_indexOf_4cfef_14 rfl hl (by decide) rfl (fun ls hl => ?_)
    refine lv_iload_n hx hb dJ1_indexOf_4cfef_15 rfl (lv_at hl 3 rfl) ?_
    refine lv_aload_n hx hb dJ1_indexOf_4cfef_16 rfl (lv_at hl 1 rfl) ?_
    refine va_tlen (v := (7 : Int32)) hx hb (hE.2.2.2.1.1 0 (by decide)).2.2.2 hS rfl dJ1_indexOf_4cfef_17 ?_
    refine va_mmin hx hb (by rw [hml]; exact hl.1.symm) hown (hts (.methodLink RJ1 38 Lib.Math.min.name) (by decide +kernel)) (hts (.static Lib.Math.min.name) (by decide +kernel)) (hts (.initialized "java/lang/Math") (by decide +kernel)) (hts (.code Lib.Math.min.name Lib.Math.min.code 2 (some .int)) (by decide +kernel)) (Nat.le_of_ble_eq_true rfl) (Nat.le_of_ble_eq_true rfl) (Nat.zero_le _) (Nat.zero_le _) dJ1_indexOf_4cfef_18 ?_
    refine lv_istore_n (lv' := [(3, .int (if (7 : Int32) < x3 then (7 : Int32) else x3)), (2, .int (if x2 < (0 : Int32) then (0 : Int32) else x2)), (0, .ref aV), (1, .int x1)]) hx hb dJ1_indexOf_4cfef_21 rfl hl (by decide) rfl (fun ls hl => ?_)
    refine lv_iload_n hx hb dJ1_indexOf_4cfef_22 rfl (lv_at hl 1 rfl) ?_
    refine lv_iload_n hx hb dJ1_indexOf_4cfef_23 rfl (lv_at hl 0 rfl) ?_
    refine lv_icmp_lt (tgt := 29) hx hb dJ1_indexOf_4cfef_24 (by decide) (fun c3 => ?_) (fun c3 => ?_)
    · replace h := ifp c3 h
      refine lv_aload_n hx hb dJ1_indexOf_4cfef_29 rfl (lv_at hl 2 rfl) ?_
      refine lv_iload_n hx hb dJ1_indexOf_4cfef_30 rfl (lv_at hl 3 rfl) ?_
      refine lv_iload_n hx hb dJ1_indexOf_4cfef_31 rfl (lv_at hl 1 rfl) ?_
      refine lv_iload_n hx hb dJ1_indexOf_4cfef_32 rfl (lv_at hl 0 rfl) ?_
      obtain ⟨z4_0, hc4, h⟩ := bd_ok h
      refine st_callS (As := [.ref aV, .int x1, .int (if x2 < (0 : Int32) then (0 : Int32) else x2), .int (if (7 : Int32) < x3 then (7 : Int32) else x3)]) (rest := []) (pos := []) ⟨hx, hb, hml, hown, hts⟩ (s_J1_indexOfChar_4cfef (l := l) (D := D) (tc := tc) t0 aK aV x1 (if x2 < (0 : Int32) then (0 : Int32) else x2) (if (7 : Int32) < x3 then (7 : Int32) else x3) K z4_0 hc4) (va_cwS 4 hts gJ1_indexOf_4cfef_J1_indexOfChar_4cfef rfl rfl rfl (by decide +kernel) ⟨Nat.le_of_ble_eq_true rfl, Nat.le_of_ble_eq_true rfl⟩) hEok hE hK hN hP hD hS hA rfl rfl rfl rfl hl.1 rfl (Nat.le_of_ble_eq_true rfl) dJ1_indexOf_4cfef_33 ⟨Nat.zero_le _, Nat.zero_le _⟩ (fun H locs hP hD hS => ?_)
      cases h
      exact st_iret hx hb hr hlocks hP hD hS dJ1_indexOf_4cfef_36
    · replace h := ifn c3 h
      refine lv_iconst (v := (-1 : Int32)) hx hb dJ1_indexOf_4cfef_27 (by decide) ?_
      cases h
      exact st_iret hx hb hr hlocks hP hD hS dJ1_indexOf_4cfef_28
  · replace h := ifp c2 h
    refine lv_iconst (v := (-1 : Int32)) hx hb dJ1_indexOf_4cfef_7 (by decide) ?_
    cases h
    exact st_iret hx hb hr hlocks hP hD hS dJ1_indexOf_4cfef_8
def f_J0_indexOf_7cf53 (K : Nat) (x1 : Int32) (x2 : Int32) : Option (Int32) :=
  (f_J0_isLatin1_aae02).bind fun z1_0 =>
  if z1_0 = (0 : Int32) then
    (f_J0_length_8abf5).bind fun z3_0 =>
    none
  else
    (f_J0_length_8abf5).bind fun z4_0 =>
    (f_J1_indexOf_4cfef K x1 x2 z4_0).bind fun z5_0 =>
    some z5_0
abbrev w_J0_indexOf_7cf53 : va_W := []
set_option maxHeartbeats 4000000 in
set_option maxRecDepth 100000 in
theorem s_J0_indexOf_7cf53 {l : Launch} (t0 aK aV : Nat) {D : va_G} {tc : Nat → ClassId} (x1 : Int32) (x2 : Int32) (K : Nat) (r0 : Int32) (h : f_J0_indexOf_7cf53 K x1 x2 = some r0) : st l yJ0_indexOf_7cf53 wsJ0_indexOf_7cf53 ({ frames := 2, cells := 0, slots := 0, locals := 48 }) (tk_E t0 aK aV) D tc [.ref aK, .int x1, .int x2] w_J0_indexOf_7cf53 (some (.int r0)) w_J0_indexOf_7cf53 := by
  have hEok : st_Eok (tk_E t0 aK aV) := tk_ok t0 aK aV
  refine st_enter (cc := cJ0_indexOf_7cf53) (maxL := 3) (ret := (some .int)) (by decide) rfl (Nat.le_of_ble_eq_true rfl) ?_
  intro p e s m below meth c A ls hx hb hr hml hts hown hlocks hK hN hE hA hP hD hS hl
  have hl : lv_has ls 3 [(0, .ref aK), (1, .int x1), (2, .int x2)] := hl
  generalize hav : ([.ref aK, .int x1, .int x2] : List Value).toArray = av at hts ⊢
  unfold f_J0_indexOf_7cf53 at h
  refine lv_aload_n hx hb dJ0_indexOf_7cf53_0 rfl (lv_at hl 0 rfl) ?_
  obtain ⟨z1_0, hc1, h⟩ := bd_ok h
  refine st_callV (As := []) (rest := []) (pos := []) ⟨hx, hb, hml, hown, hts⟩ (s_J0_isLatin1_aae02 (l := l) (D := D) (tc := tc) t0 aK aV z1_0 hc1) (cwV 0 hts gJ0_indexOf_7cf53_J0_isLatin1_aae02 rfl rfl rfl (by decide +kernel) ⟨Nat.le_of_ble_eq_true rfl, Nat.le_of_ble_eq_true rfl⟩) (vk_recv (i := 0) hE.2.2.2.1 (by decide) hS) hEok hE hK hN hP hD hS hA rfl rfl rfl rfl hl.1 rfl (Nat.le_of_ble_eq_true rfl) dJ0_indexOf_7cf53_1 ⟨Nat.zero_le _, Nat.zero_le _⟩ (fun H locs hP hD hS => ?_)
  refine lv_if_eq (tgt := 23) hx hb dJ0_indexOf_7cf53_4 (by decide) (fun c2 => ?_) (fun c2 => ?_)
  · replace h := ifp c2 h
    refine lv_aload_n hx hb dJ0_indexOf_7cf53_23 rfl (lv_at hl 0 rfl) ?_
    refine vk_getf hx hb (hE.2.2.2.1.1 0 (by decide)).2.2.1 hS hown (hts (.fieldLink RJ0 9 "java/lang/String" "value" "[B") (by decide +kernel)) (fun _ h9 => h9) dJ0_indexOf_7cf53_24 ?_
    refine lv_iload_n hx hb dJ0_indexOf_7cf53_27 rfl (lv_at hl 1 rfl) ?_
    refine lv_iload_n hx hb dJ0_indexOf_7cf53_28 rfl (lv_at hl 2 rfl) ?_
    refine lv_aload_n hx hb dJ0_indexOf_7cf53_29 rfl (lv_at hl 0 rfl) ?_
    obtain ⟨z3_0, hc3, h⟩ := bd_ok h
    refine st_callV (As := []) (rest := [.int x2, .int x1, .ref aV]) (pos := []) ⟨hx, hb, hml, hown, hts⟩ (s_J0_length_8abf5 (l := l) (D := D) (tc := tc) t0 aK aV z3_0 hc3) (cwV 0 hts gJ0_indexOf_7cf53_J0_length_8abf5 rfl rfl rfl (by decide +kernel) ⟨Nat.le_of_ble_eq_true rfl, Nat.le_of_ble_eq_true rfl⟩) (vk_recv (i := 0) hE.2.2.2.1 (by decide) hS) hEok hE hK hN hP hD hS hA rfl rfl rfl rfl hl.1 rfl (Nat.le_of_ble_eq_true rfl) dJ0_indexOf_7cf53_30 ⟨Nat.zero_le _, Nat.zero_le _⟩ (fun H locs hP hD hS => ?_)
    cases h
  · replace h := ifn c2 h
    refine lv_aload_n hx hb dJ0_indexOf_7cf53_7 rfl (lv_at hl 0 rfl) ?_
    refine vk_getf hx hb (hE.2.2.2.1.1 0 (by decide)).2.2.1 hS hown (hts (.fieldLink RJ0 9 "java/lang/String" "value" "[B") (by decide +kernel)) (fun _ h9 => h9) dJ0_indexOf_7cf53_8 ?_
    refine lv_iload_n hx hb dJ0_indexOf_7cf53_11 rfl (lv_at hl 1 rfl) ?_
    refine lv_iload_n hx hb dJ0_indexOf_7cf53_12 rfl (lv_at hl 2 rfl) ?_
    refine lv_aload_n hx hb dJ0_indexOf_7cf53_13 rfl (lv_at hl 0 rfl) ?_
    obtain ⟨z4_0, hc4, h⟩ := bd_ok h
    refine st_callV (As := []) (rest := [.int x2, .int x1, .ref aV]) (pos := []) ⟨hx, hb, hml, hown, hts⟩ (s_J0_length_8abf5 (l := l) (D := D) (tc := tc) t0 aK aV z4_0 hc4) (cwV 0 hts gJ0_indexOf_7cf53_J0_length_8abf5 rfl rfl rfl (by decide +kernel) ⟨Nat.le_of_ble_eq_true rfl, Nat.le_of_ble_eq_true rfl⟩) (vk_recv (i := 0) hE.2.2.2.1 (by decide) hS) hEok hE hK hN hP hD hS hA rfl rfl rfl rfl hl.1 rfl (Nat.le_of_ble_eq_true rfl) dJ0_indexOf_7cf53_14 ⟨Nat.zero_le _, Nat.zero_le _⟩ (fun H locs hP hD hS => ?_)
    obtain ⟨z5_0, hc5, h⟩ := bd_ok h
    refine st_callS (As := [.ref aV, .int x1, .int x2, .int z4_0]) (rest := []) (pos := []) ⟨hx, hb, hml, hown, hts⟩ (s_J1_indexOf_4cfef (l := l) (D := D) (tc := tc) t0 aK aV x1 x2 z4_0 K z5_0 hc5) (va_cwS 4 hts gJ0_indexOf_7cf53_J1_indexOf_4cfef rfl rfl rfl (by decide +kernel) ⟨Nat.le_of_ble_eq_true rfl, Nat.le_of_ble_eq_true rfl⟩) hEok hE hK hN hP hD hS hA rfl rfl rfl rfl hl.1 rfl (Nat.le_of_ble_eq_true rfl) dJ0_indexOf_7cf53_17 ⟨Nat.zero_le _, Nat.zero_le _⟩ (fun H locs hP hD hS => ?_)
    refine lv_goto (tgt := 36) hx hb dJ0_indexOf_7cf53_20 (by decide) ?_
    cases h
    exact st_iret hx hb hr hlocks hP hD hS dJ0_indexOf_7cf53_36
def f_J0_indexOf_0f7a4 (K : Nat) (x1 : Int32) : Option (Int32) :=
  (f_J0_indexOf_7cf53 K x1 (0 : Int32)).bind fun z1_0 =>
  some z1_0
abbrev w_J0_indexOf_0f7a4 : va_W := []
set_option maxHeartbeats 4000000 in
set_option maxRecDepth 100000 in
theorem s_J0_indexOf_0f7a4 {l : Launch} (t0 aK aV : Nat) {D : va_G} {tc : Nat → ClassId} (x1 : Int32) (K : Nat) (r0 : Int32) (h : f_J0_indexOf_0f7a4 K x1 = some r0) : st l yJ0_indexOf_0f7a4 wsJ0_indexOf_0f7a4 ({ frames := 3, cells := 0, slots := 0, locals := 70 }) (tk_E t0 aK aV) D tc [.ref aK, .int x1] w_J0_indexOf_0f7a4 (some (.int r0)) w_J0_indexOf_0f7a4 := by
  have hEok : st_Eok (tk_E t0 aK aV) := tk_ok t0 aK aV
  refine st_enter (cc := cJ0_indexOf_0f7a4) (maxL := 2) (ret := (some .int)) (by decide) rfl (Nat.le_of_ble_eq_true rfl) ?_
  intro p e s m below meth c A ls hx hb hr hml hts hown hlocks hK hN hE hA hP hD hS hl
  have hl : lv_has ls 2 [(0, .ref aK), (1, .int x1)] := hl
  generalize hav : ([.ref aK, .int x1] : List Value).toArray = av at hts ⊢
  unfold f_J0_indexOf_0f7a4 at h
  refine lv_aload_n hx hb dJ0_indexOf_0f7a4_0 rfl (lv_at hl 0 rfl) ?_
  refine lv_iload_n hx hb dJ0_indexOf_0f7a4_1 rfl (lv_at hl 1 rfl) ?_
  refine lv_iconst (v := (0 : Int32)) hx hb dJ0_indexOf_0f7a4_2 (by decide) ?_
  obtain ⟨z1_0, hc1, h⟩ := bd_ok h
  refine st_callV (As := [.int x1, .int (0 : Int32)]) (rest := []) (pos := []) ⟨hx, hb, hml, hown, hts⟩ (s_J0_indexOf_7cf53 (l := l) (D := D) (tc := tc) t0 aK aV x1 (0 : Int32) K z1_0 hc1) (cwV 2 hts gJ0_indexOf_0f7a4_J0_indexOf_7cf53 rfl rfl rfl (by decide +kernel) ⟨Nat.le_of_ble_eq_true rfl, Nat.le_of_ble_eq_true rfl⟩) (vk_recv (i := 0) hE.2.2.2.1 (by decide) hS) hEok hE hK hN hP hD hS hA rfl rfl rfl rfl hl.1 rfl (Nat.le_of_ble_eq_true rfl) dJ0_indexOf_0f7a4_3 ⟨Nat.zero_le _, Nat.zero_le _⟩ (fun H locs hP hD hS => ?_)
  cases h
  exact st_iret hx hb hr hlocks hP hD hS dJ0_indexOf_0f7a4_6

def f_X1_forget  : Option (Int64 × Int64) :=
  some ((0 : Int64), (0 : Int64))
abbrev w_X1_forget (tc : Nat → ClassId) (q_th : Nat)  (th_upper : Int64) (th_lower : Int64) : va_W := [(q_th, .inr (1, [.long th_upper, .long th_lower]))]
set_option maxHeartbeats 4000000 in
set_option maxRecDepth 100000 in
theorem s_X1_forget {l : Launch} {E : (Nat → Prop) → State → Prop} (hEok : st_Eok E) {D : va_G} {tc : Nat → ClassId} (q_th : Nat) (th_upper : Int64) (th_lower : Int64) (th_upper' : Int64) (th_lower' : Int64) (h : f_X1_forget  = some (th_upper', th_lower')) : st l yX1_forget wsX1_forget ({ frames := 0, cells := 0, slots := 0, locals := 0 }) E D tc [.ref q_th] (w_X1_forget tc q_th th_upper th_lower) none (w_X1_forget tc q_th th_upper' th_lower') := by
  refine st_enter (cc := cX1_forget) (maxL := 1) (ret := none) (by decide) rfl (Nat.le_of_ble_eq_true rfl) ?_
  intro p e s m below meth c A ls hx hb hr hml hts hown hlocks hK hN hE hA hP hD hS hl
  have hl : lv_has ls 1 [(0, .ref q_th)] := hl
  have hinX1 : ∀ w ∈ wsX10, w ∈ wsX1_forget := by decide +kernel
  generalize hav : ([.ref q_th] : List Value).toArray = av at hts ⊢
  unfold f_X1_forget at h
  refine lv_aload_n hx hb dX1_forget_0 rfl (lv_at hl 0 rfl) ?_
  refine lv_lconst (v := (0 : Int64)) hx hb dX1_forget_1 (by decide) ?_
  refine va_put (D := D) (ci := 1) (v := .long (0 : Int64)) (ty := .long) (C := RX1) (T := TX1) (N := 2) hx hb hts hinX1 tyX1 tyX1_ok nmX1 hown hK hP hD hS 0 rfl rfl 0 (by decide) (hts (.fieldLink RX1 9 "ChanceBounds$Fraction" "upper" "J") (by decide +kernel)) (fun _ h9 => h9) rfl (by decide +kernel) rfl rfl (Nat.le_of_ble_eq_true rfl) dX1_forget_2 (fun H locs hP hD hS => ?_)
  have hP : va_P D vwCl (w_X1_forget tc q_th (0 : Int64) th_lower) H := hP
  have hD : va_D A (w_X1_forget tc q_th (0 : Int64) th_lower) := hD
  refine lv_aload_n hx hb dX1_forget_5 rfl (lv_at hl 0 rfl) ?_
  refine lv_lconst (v := (0 : Int64)) hx hb dX1_forget_6 (by decide) ?_
  refine va_put (D := D) (ci := 1) (v := .long (0 : Int64)) (ty := .long) (C := RX1) (T := TX1) (N := 2) hx hb hts hinX1 tyX1 tyX1_ok nmX1 hown hK hP hD hS 0 rfl rfl 1 (by decide) (hts (.fieldLink RX1 15 "ChanceBounds$Fraction" "lower" "J") (by decide +kernel)) (fun _ h9 => h9) rfl (by decide +kernel) rfl rfl (Nat.le_of_ble_eq_true rfl) dX1_forget_7 (fun H locs hP hD hS => ?_)
  have hP : va_P D vwCl (w_X1_forget tc q_th (0 : Int64) (0 : Int64)) H := hP
  have hD : va_D A (w_X1_forget tc q_th (0 : Int64) (0 : Int64)) := hD
  cases h
  exact st_vret hx hb hr hlocks hP hD hS dX1_forget_10
def f_X1_set (x1 : Int64) (x3 : Int64) : Option (Int64 × Int64) :=
  if (lg_cmp x3 (0 : Int64)) ≤ (0 : Int32) then
    if (lg_cmp x3 (0 : Int64)) ≤ (0 : Int32) then
      some ((0 : Int64), (0 : Int64))
    else
      some ((0 : Int64), x3)
  else
    if (lg_cmp x3 (0 : Int64)) ≤ (0 : Int32) then
      some (x1, (0 : Int64))
    else
      some (x1, x3)
abbrev w_X1_set (tc : Nat → ClassId) (q_th : Nat)  (th_upper : Int64) (th_lower : Int64) : va_W := [(q_th, .inr (1, [.long th_upper, .long th_lower]))]
set_option maxHeartbeats 4000000 in
set_option maxRecDepth 100000 in
theorem s_X1_set {l : Launch} {E : (Nat → Prop) → State → Prop} (hEok : st_Eok E) {D : va_G} {tc : Nat → ClassId} (q_th : Nat) (th_upper : Int64) (th_lower : Int64) (x1 : Int64) (x3 : Int64) (th_upper' : Int64) (th_lower' : Int64) (h : f_X1_set x1 x3 = some (th_upper', th_lower')) : st l yX1_set wsX1_set ({ frames := 0, cells := 0, slots := 0, locals := 0 }) E D tc [.ref q_th, .long x1, .long x3] (w_X1_set tc q_th th_upper th_lower) none (w_X1_set tc q_th th_upper' th_lower') := by
  refine st_enter (cc := cX1_set) (maxL := 5) (ret := none) (by decide) rfl (Nat.le_of_ble_eq_true rfl) ?_
  intro p e s m below meth c A ls hx hb hr hml hts hown hlocks hK hN hE hA hP hD hS hl
  have hl : lv_has ls 5 [(0, .ref q_th), (1, .long x1), (3, .long x3)] := hl
  have hinX1 : ∀ w ∈ wsX10, w ∈ wsX1_set := by decide +kernel
  generalize hav : ([.ref q_th, .long x1, .long x3] : List Value).toArray = av at hts ⊢
  unfold f_X1_set at h
  refine lv_aload_n hx hb dX1_set_0 rfl (lv_at hl 0 rfl) ?_
  refine lv_lload_n hx hb dX1_set_1 rfl (lv_at hl 2 rfl) ?_
  refine lv_lconst (v := (0 : Int64)) hx hb dX1_set_2 (by decide) ?_
  refine W.lcmp hx hb dX1_set_3 ?_
  refine lv_if_le (tgt := 11) hx hb dX1_set_4 (by decide) (fun c1 => ?_) (fun c1 => ?_)
  · replace h := ifp c1 h
    refine lv_lconst (v := (0 : Int64)) hx hb dX1_set_11 (by decide) ?_
    refine va_put (D := D) (ci := 1) (v := .long (0 : Int64)) (ty := .long) (C := RX1) (T := TX1) (N := 2) hx hb hts hinX1 tyX1 tyX1_ok nmX1 hown hK hP hD hS 0 rfl rfl 0 (by decide) (hts (.fieldLink RX1 9 "ChanceBounds$Fraction" "upper" "J") (by decide +kernel)) (fun _ h9 => h9) rfl (by decide +kernel) rfl rfl (Nat.le_of_ble_eq_true rfl) dX1_set_12 (fun H locs hP hD hS => ?_)
    have hP : va_P D vwCl (w_X1_set tc q_th (0 : Int64) th_lower) H := hP
    have hD : va_D A (w_X1_set tc q_th (0 : Int64) th_lower) := hD
    refine lv_aload_n hx hb dX1_set_15 rfl (lv_at hl 0 rfl) ?_
    refine lv_lload_n hx hb dX1_set_16 rfl (lv_at hl 2 rfl) ?_
    refine lv_lconst (v := (0 : Int64)) hx hb dX1_set_17 (by decide) ?_
    refine W.lcmp hx hb dX1_set_18 ?_
    refine lv_if_le (tgt := 26) hx hb dX1_set_19 (by decide) (fun c2 => ?_) (fun c2 => ?_)
    · replace h := ifp c2 h
      refine lv_lconst (v := (0 : Int64)) hx hb dX1_set_26 (by decide) ?_
      refine va_put (D := D) (ci := 1) (v := .long (0 : Int64)) (ty := .long) (C := RX1) (T := TX1) (N := 2) hx hb hts hinX1 tyX1 tyX1_ok nmX1 hown hK hP hD hS 0 rfl rfl 1 (by decide) (hts (.fieldLink RX1 15 "ChanceBounds$Fraction" "lower" "J") (by decide +kernel)) (fun _ h9 => h9) rfl (by decide +kernel) rfl rfl (Nat.le_of_ble_eq_true rfl) dX1_set_27 (fun H locs hP hD hS => ?_)
      have hP : va_P D vwCl (w_X1_set tc q_th (0 : Int64) (0 : Int64)) H := hP
      have hD : va_D A (w_X1_set tc q_th (0 : Int64) (0 : Int64)) := hD
      cases h
      exact st_vret hx hb hr hlocks hP hD hS dX1_set_30
    · replace h := ifn c2 h
      refine lv_lload_n hx hb dX1_set_22 rfl (lv_at hl 2 rfl) ?_
      refine lv_goto (tgt := 27) hx hb dX1_set_23 (by decide) ?_
      refine va_put (D := D) (ci := 1) (v := .long x3) (ty := .long) (C := RX1) (T := TX1) (N := 2) hx hb hts hinX1 tyX1 tyX1_ok nmX1 hown hK hP hD hS 0 rfl rfl 1 (by decide) (hts (.fieldLink RX1 15 "ChanceBounds$Fraction" "lower" "J") (by decide +kernel)) (fun _ h9 => h9) rfl (by decide +kernel) rfl rfl (Nat.le_of_ble_eq_true rfl) dX1_set_27 (fun H locs hP hD hS => ?_)
      have hP : va_P D vwCl (w_X1_set tc q_th (0 : Int64) x3) H := hP
      have hD : va_D A (w_X1_set tc q_th (0 : Int64) x3) := hD
      cases h
      exact st_vret hx hb hr hlocks hP hD hS dX1_set_30
  · replace h := ifn c1 h
    refine lv_lload_n hx hb dX1_set_7 rfl (lv_at hl 1 rfl) ?_
    refine lv_goto (tgt := 12) hx hb dX1_set_8 (by decide) ?_
    refine va_put (D := D) (ci := 1) (v := .long x1) (ty := .long) (C := RX1) (T := TX1) (N := 2) hx hb hts hinX1 tyX1 tyX1_ok nmX1 hown hK hP hD hS 0 rfl rfl 0 (by decide) (hts (.fieldLink RX1 9 "ChanceBounds$Fraction" "upper" "J") (by decide +kernel)) (fun _ h9 => h9) rfl (by decide +kernel) rfl rfl (Nat.le_of_ble_eq_true rfl) dX1_set_12 (fun H locs hP hD hS => ?_)
    have hP : va_P D vwCl (w_X1_set tc q_th x1 th_lower) H := hP
    have hD : va_D A (w_X1_set tc q_th x1 th_lower) := hD
    refine lv_aload_n hx hb dX1_set_15 rfl (lv_at hl 0 rfl) ?_
    refine lv_lload_n hx hb dX1_set_16 rfl (lv_at hl 2 rfl) ?_
    refine lv_lconst (v := (0 : Int64)) hx hb dX1_set_17 (by decide) ?_
    refine W.lcmp hx hb dX1_set_18 ?_
    refine lv_if_le (tgt := 26) hx hb dX1_set_19 (by decide) (fun c3 => ?_) (fun c3 => ?_)
    · replace h := ifp c3 h
      refine lv_lconst (v := (0 : Int64)) hx hb dX1_set_26 (by decide) ?_
      refine va_put (D := D) (ci := 1) (v := .long (0 : Int64)) (ty := .long) (C := RX1) (T := TX1) (N := 2) hx hb hts hinX1 tyX1 tyX1_ok nmX1 hown hK hP hD hS 0 rfl rfl 1 (by decide) (hts (.fieldLink RX1 15 "ChanceBounds$Fraction" "lower" "J") (by decide +kernel)) (fun _ h9 => h9) rfl (by decide +kernel) rfl rfl (Nat.le_of_ble_eq_true rfl) dX1_set_27 (fun H locs hP hD hS => ?_)
      have hP : va_P D vwCl (w_X1_set tc q_th x1 (0 : Int64)) H := hP
      have hD : va_D A (w_X1_set tc q_th x1 (0 : Int64)) := hD
      cases h
      exact st_vret hx hb hr hlocks hP hD hS dX1_set_30
    · replace h := ifn c3 h
      refine lv_lload_n hx hb dX1_set_22 rfl (lv_at hl 2 rfl) ?_
      refine lv_goto (tgt := 27) hx hb dX1_set_23 (by decide) ?_
      refine va_put (D := D) (ci := 1) (v := .long x3) (ty := .long) (C := RX1) (T := TX1) (N := 2) hx hb hts hinX1 tyX1 tyX1_ok nmX1 hown hK hP hD hS 0 rfl rfl 1 (by decide) (hts (.fieldLink RX1 15 "ChanceBounds$Fraction" "lower" "J") (by decide +kernel)) (fun _ h9 => h9) rfl (by decide +kernel) rfl rfl (Nat.le_of_ble_eq_true rfl) dX1_set_27 (fun H locs hP hD hS => ?_)
      have hP : va_P D vwCl (w_X1_set tc q_th x1 x3) H := hP
      have hD : va_D A (w_X1_set tc q_th x1 x3) := hD
      cases h
      exact st_vret hx hb hr hlocks hP hD hS dX1_set_30
def f_X1_improve_J46 (x1 : Int64) (x3 : Int64) : Option (Int64 × Int64) :=
  (f_X1_set x1 x3).bind fun z1 => match z1 with
  | (z1_0, z1_1) =>
    some (z1_0, z1_1)
def f_X1_improve (th_upper : Int64) (th_lower : Int64) (x1 : Int64) (x3 : Int64) (x5 : Int32) : Option (Int64 × Int64) :=
  if (lg_cmp th_lower (0 : Int64)) = (0 : Int32) then
    f_X1_improve_J46 x1 x3
  else
    if x5 = (0 : Int32) then
      if (0 : Int32) ≤ (lg_cmp ((x1 * th_lower) - (th_upper * x3)) (0 : Int64)) then
        some (th_upper, th_lower)
      else
        f_X1_improve_J46 x1 x3
    else
      if (lg_cmp ((x1 * th_lower) - (th_upper * x3)) (0 : Int64)) ≤ (0 : Int32) then
        some (th_upper, th_lower)
      else
        f_X1_improve_J46 x1 x3
abbrev w_X1_improve (tc : Nat → ClassId) (q_th : Nat)  (th_upper : Int64) (th_lower : Int64) : va_W := [(q_th, .inr (1, [.long th_upper, .long th_lower]))]
set_option maxHeartbeats 4000000 in
set_option maxRecDepth 100000 in
theorem s_X1_improve {l : Launch} {E : (Nat → Prop) → State → Prop} (hEok : st_Eok E) {D : va_G} {tc : Nat → ClassId} (q_th : Nat) (th_upper : Int64) (th_lower : Int64) (x1 : Int64) (x3 : Int64) (x5 : Int32) (th_upper' : Int64) (th_lower' : Int64) (h : f_X1_improve th_upper th_lower x1 x3 x5 = some (th_upper', th_lower')) : st l yX1_improve wsX1_improve ({ frames := 1, cells := 0, slots := 0, locals := 24 }) E D tc [.ref q_th, .long x1, .long x3, .int x5] (w_X1_improve tc q_th th_upper th_lower) none (w_X1_improve tc q_th th_upper' th_lower') := by
  refine st_enter (cc := cX1_improve) (maxL := 8) (ret := none) (by decide) rfl (Nat.le_of_ble_eq_true rfl) ?_
  intro p e s m below meth c A ls hx hb hr hml hts hown hlocks hK hN hE hA hP hD hS hl
  have hl : lv_has ls 8 [(0, .ref q_th), (1, .long x1), (3, .long x3), (5, .int x5)] := hl
  have hinX1 : ∀ w ∈ wsX10, w ∈ wsX1_improve := by decide +kernel
  generalize hav : ([.ref q_th, .long x1, .long x3, .int x5] : List Value).toArray = av at hts ⊢
  have J46 : ∀ (x1 : Int64) (x3 : Int64) (th_upper : Int64) (th_lower : Int64) (H : Heap) (locs : List Loc) (ls : Array Slot), f_X1_improve_J46 x1 x3 = some (th_upper', th_lower') → va_P D vwCl (w_X1_improve tc q_th th_upper th_lower) H → va_D A (w_X1_improve tc q_th th_upper th_lower) → va_S A s.heap H locs → lv_has ls 8 [(0, .ref q_th), (1, .long x1), (3, .long x3)] → W p l e ({ frames := 1, cells := 0, slots := 0, locals := 24 } : Room) s m av below meth c H locs 0 0 (MQ below (st_Q D (w_X1_improve tc q_th th_upper' th_lower') none A) av s 0 0 A) (F0 m 46 ls []) := by
    intro x1 x3 th_upper th_lower H locs ls h hP hD hS hl
    unfold f_X1_improve_J46 at h
    refine lv_aload_n hx hb dX1_improve_46 rfl (lv_at hl 0 rfl) ?_
    refine lv_lload_n hx hb dX1_improve_47 rfl (lv_at hl 1 rfl) ?_
    refine lv_lload_n hx hb dX1_improve_48 rfl (lv_at hl 2 rfl) ?_
    obtain ⟨⟨z1_0, z1_1⟩, hc1, h⟩ := bd_ok h
    refine st_callV (As := [.long x1, .long x3]) (rest := []) (pos := [0]) ⟨hx, hb, hml, hown, hts⟩ (s_X1_set (l := l) (D := D) (tc := tc) hEok q_th th_upper th_lower x1 x3 z1_0 z1_1 hc1) (cwV 2 hts gX1_improve_X1_set rfl rfl rfl (by decide +kernel) ⟨Nat.le_of_ble_eq_true rfl, Nat.le_of_ble_eq_true rfl⟩) (st_recv (ci := 1) (q0 := 0) hK hP rfl rfl) hEok hE hK hN hP hD hS hA rfl rfl rfl rfl hl.1 rfl (Nat.le_of_ble_eq_true rfl) dX1_improve_49 ⟨Nat.zero_le _, Nat.zero_le _⟩ (fun H locs hP hD hS => ?_)
    have hP : va_P D vwCl (w_X1_improve tc q_th z1_0 z1_1) H := hP
    have hD : va_D A (w_X1_improve tc q_th z1_0 z1_1) := hD
    cases h
    exact st_vret hx hb hr hlocks hP hD hS dX1_improve_52
  unfold f_X1_improve at h
  refine lv_lload_n hx hb dX1_improve_0 rfl (lv_at hl 1 rfl) ?_
  refine lv_aload_n hx hb dX1_improve_1 rfl (lv_at hl 0 rfl) ?_
  refine va_get (D := D) (ci := 1) (v := .long th_lower) (C := RX1) (T := TX1) (N := 2) hx hb hts hinX1 hown hK hP 0 rfl rfl 1 (by decide) (hts (.fieldLink RX1 15 "ChanceBounds$Fraction" "lower" "J") (by decide +kernel)) (fun _ h9 => h9) rfl dX1_improve_2 ?_
  refine lv_lmul hx hb dX1_improve_5 ?_
  refine lv_aload_n hx hb dX1_improve_6 rfl (lv_at hl 0 rfl) ?_
  refine va_get (D := D) (ci := 1) (v := .long th_upper) (C := RX1) (T := TX1) (N := 2) hx hb hts hinX1 hown hK hP 0 rfl rfl 0 (by decide) (hts (.fieldLink RX1 9 "ChanceBounds$Fraction" "upper" "J") (by decide +kernel)) (fun _ h9 => h9) rfl dX1_improve_7 ?_
  refine lv_lload_n hx hb dX1_improve_10 rfl (lv_at hl 2 rfl) ?_
  refine lv_lmul hx hb dX1_improve_11 ?_
  refine lv_lsub hx hb dX1_improve_12 ?_
  refine lv_lstore (lv' := [(6, .long ((x1 * th_lower) - (th_upper * x3))), (0, .ref q_th), (1, .long x1), (3, .long x3), (5, .int x5)]) hx hb dX1_improve_13 hl (by decide) rfl (fun ls hl => ?_)
  refine lv_aload_n hx hb dX1_improve_15 rfl (lv_at hl 1 rfl) ?_
  refine va_get (D := D) (ci := 1) (v := .long th_lower) (C := RX1) (T := TX1) (N := 2) hx hb hts hinX1 hown hK hP 0 rfl rfl 1 (by decide) (hts (.fieldLink RX1 15 "ChanceBounds$Fraction" "lower" "J") (by decide +kernel)) (fun _ h9 => h9) rfl dX1_improve_16 ?_
  refine lv_lconst (v := (0 : Int64)) hx hb dX1_improve_19 (by decide) ?_
  refine W.lcmp hx hb dX1_improve_20 ?_
  refine lv_if_eq (tgt := 46) hx hb dX1_improve_21 (by decide) (fun c2 => ?_) (fun c2 => ?_)
  · replace h := ifp c2 h
    exact J46 x1 x3 th_upper th_lower _ _ _ h hP hD hS (lv_sub hl [1, 2, 3] rfl)
  · replace h := ifn c2 h
    refine lv_iload hx hb dX1_improve_24 (lv_at hl 4 rfl) ?_
    refine lv_if_ne (tgt := 39) hx hb dX1_improve_26 (by decide) (fun c3 => ?_) (fun c3 => ?_)
    · replace h := ifn c3 h
      refine lv_lload hx hb dX1_improve_39 (lv_at hl 0 rfl) ?_
      refine lv_lconst (v := (0 : Int64)) hx hb dX1_improve_41 (by decide) ?_
      refine W.lcmp hx hb dX1_improve_42 ?_
      refine lv_if_le (tgt := 52) hx hb dX1_improve_43 (by decide) (fun c4 => ?_) (fun c4 => ?_)
      · replace h := ifp c4 h
        cases h
        exact st_vret hx hb hr hlocks hP hD hS dX1_improve_52
      · replace h := ifn c4 h
        exact J46 x1 x3 th_upper th_lower _ _ _ h hP hD hS (lv_sub hl [1, 2, 3] rfl)
    · replace h := ifp c3 h
      refine lv_lload hx hb dX1_improve_29 (lv_at hl 0 rfl) ?_
      refine lv_lconst (v := (0 : Int64)) hx hb dX1_improve_31 (by decide) ?_
      refine W.lcmp hx hb dX1_improve_32 ?_
      refine lv_if_ge (tgt := 52) hx hb dX1_improve_33 (by decide) (fun c5 => ?_) (fun c5 => ?_)
      · replace h := ifp c5 h
        cases h
        exact st_vret hx hb hr hlocks hP hD hS dX1_improve_52
      · replace h := ifn c5 h
        refine lv_goto (tgt := 46) hx hb dX1_improve_36 (by decide) ?_
        exact J46 x1 x3 th_upper th_lower _ _ _ h hP hD hS (lv_sub hl [1, 2, 3] rfl)
def f_X1_isSameAs_J18 (th_lower : Int64) (a1_lower : Int64) : Option (Int32) :=
  if (lg_cmp th_lower a1_lower) = (0 : Int32) then
    some (1 : Int32)
  else
    some (0 : Int32)
def f_X1_isSameAs (th_upper : Int64) (th_lower : Int64) (a1_upper : Int64) (a1_lower : Int64) : Option (Int32) :=
  if (lg_cmp th_lower (0 : Int64)) = (0 : Int32) then
    f_X1_isSameAs_J18 th_lower a1_lower
  else
    if (lg_cmp a1_lower (0 : Int64)) = (0 : Int32) then
      f_X1_isSameAs_J18 th_lower a1_lower
    else
      if (lg_cmp (th_upper * a1_lower) (a1_upper * th_lower)) = (0 : Int32) then
        some (1 : Int32)
      else
        some (0 : Int32)
abbrev w_X1_isSameAs (tc : Nat → ClassId) (q_th : Nat) (q_a1 : Nat)  (th_upper : Int64) (th_lower : Int64) (a1_upper : Int64) (a1_lower : Int64) : va_W := [(q_th, .inr (1, [.long th_upper, .long th_lower])), (q_a1, .inr (1, [.long a1_upper, .long a1_lower]))]
set_option maxHeartbeats 4000000 in
set_option maxRecDepth 100000 in
theorem s_X1_isSameAs {l : Launch} {E : (Nat → Prop) → State → Prop} (hEok : st_Eok E) {D : va_G} {tc : Nat → ClassId} (q_th : Nat) (q_a1 : Nat) (th_upper : Int64) (th_lower : Int64) (a1_upper : Int64) (a1_lower : Int64) (r0 : Int32) (h : f_X1_isSameAs th_upper th_lower a1_upper a1_lower = some r0) : st l yX1_isSameAs wsX1_isSameAs ({ frames := 0, cells := 0, slots := 0, locals := 0 }) E D tc [.ref q_th, .ref q_a1] (w_X1_isSameAs tc q_th q_a1 th_upper th_lower a1_upper a1_lower) (some (.int r0)) (w_X1_isSameAs tc q_th q_a1 th_upper th_lower a1_upper a1_lower) := by
  refine st_enter (cc := cX1_isSameAs) (maxL := 2) (ret := (some .boolean)) (by decide) rfl (Nat.le_of_ble_eq_true rfl) ?_
  intro p e s m below meth c A ls hx hb hr hml hts hown hlocks hK hN hE hA hP hD hS hl
  have hl : lv_has ls 2 [(0, .ref q_th), (1, .ref q_a1)] := hl
  have hinX1 : ∀ w ∈ wsX10, w ∈ wsX1_isSameAs := by decide +kernel
  generalize hav : ([.ref q_th, .ref q_a1] : List Value).toArray = av at hts ⊢
  have J18 : ∀  (H : Heap) (locs : List Loc) (ls : Array Slot), f_X1_isSameAs_J18 th_lower a1_lower = some r0 → va_P D vwCl (w_X1_isSameAs tc q_th q_a1 th_upper th_lower a1_upper a1_lower) H → va_D A (w_X1_isSameAs tc q_th q_a1 th_upper th_lower a1_upper a1_lower) → va_S A s.heap H locs → lv_has ls 2 [(0, .ref q_th), (1, .ref q_a1)] → W p l e ({ frames := 0, cells := 0, slots := 0, locals := 0 } : Room) s m av below meth c H locs 0 0 (MQ below (st_Q D (w_X1_isSameAs tc q_th q_a1 th_upper th_lower a1_upper a1_lower) (some (.int r0)) A) av s 0 0 A) (F0 m 18 ls []) := by
    intro  H locs ls h hP hD hS hl
    unfold f_X1_isSameAs_J18 at h
    refine lv_aload_n hx hb dX1_isSameAs_18 rfl (lv_at hl 0 rfl) ?_
    refine va_get (D := D) (ci := 1) (v := .long th_lower) (C := RX1) (T := TX1) (N := 2) hx hb hts hinX1 hown hK hP 0 rfl rfl 1 (by decide) (hts (.fieldLink RX1 15 "ChanceBounds$Fraction" "lower" "J") (by decide +kernel)) (fun _ h9 => h9) rfl dX1_isSameAs_19 ?_
    refine lv_aload_n hx hb dX1_isSameAs_22 rfl (lv_at hl 1 rfl) ?_
    refine va_get (D := D) (ci := 1) (v := .long a1_lower) (C := RX1) (T := TX1) (N := 2) hx hb hts hinX1 hown hK hP 1 rfl rfl 1 (by decide) (hts (.fieldLink RX1 15 "ChanceBounds$Fraction" "lower" "J") (by decide +kernel)) (fun _ h9 => h9) rfl dX1_isSameAs_23 ?_
    refine W.lcmp hx hb dX1_isSameAs_26 ?_
    refine lv_if_ne (tgt := 34) hx hb dX1_isSameAs_27 (by decide) (fun c1 => ?_) (fun c1 => ?_)
    · replace h := ifn c1 h
      refine lv_iconst (v := (0 : Int32)) hx hb dX1_isSameAs_34 (by decide) ?_
      cases h
      exact st_zret hx hb hr hlocks hP hD hS rfl dX1_isSameAs_35
    · replace h := ifp c1 h
      refine lv_iconst (v := (1 : Int32)) hx hb dX1_isSameAs_30 (by decide) ?_
      refine lv_goto (tgt := 35) hx hb dX1_isSameAs_31 (by decide) ?_
      cases h
      exact st_zret hx hb hr hlocks hP hD hS rfl dX1_isSameAs_35
  unfold f_X1_isSameAs at h
  refine lv_aload_n hx hb dX1_isSameAs_0 rfl (lv_at hl 0 rfl) ?_
  refine va_get (D := D) (ci := 1) (v := .long th_lower) (C := RX1) (T := TX1) (N := 2) hx hb hts hinX1 hown hK hP 0 rfl rfl 1 (by decide) (hts (.fieldLink RX1 15 "ChanceBounds$Fraction" "lower" "J") (by decide +kernel)) (fun _ h9 => h9) rfl dX1_isSameAs_1 ?_
  refine lv_lconst (v := (0 : Int64)) hx hb dX1_isSameAs_4 (by decide) ?_
  refine W.lcmp hx hb dX1_isSameAs_5 ?_
  refine lv_if_eq (tgt := 18) hx hb dX1_isSameAs_6 (by decide) (fun c2 => ?_) (fun c2 => ?_)
  · replace h := ifp c2 h
    exact J18  _ _ _ h hP hD hS (lv_sub hl [0, 1] rfl)
  · replace h := ifn c2 h
    refine lv_aload_n hx hb dX1_isSameAs_9 rfl (lv_at hl 1 rfl) ?_
    refine va_get (D := D) (ci := 1) (v := .long a1_lower) (C := RX1) (T := TX1) (N := 2) hx hb hts hinX1 hown hK hP 1 rfl rfl 1 (by decide) (hts (.fieldLink RX1 15 "ChanceBounds$Fraction" "lower" "J") (by decide +kernel)) (fun _ h9 => h9) rfl dX1_isSameAs_10 ?_
    refine lv_lconst (v := (0 : Int64)) hx hb dX1_isSameAs_13 (by decide) ?_
    refine W.lcmp hx hb dX1_isSameAs_14 ?_
    refine lv_if_ne (tgt := 36) hx hb dX1_isSameAs_15 (by decide) (fun c3 => ?_) (fun c3 => ?_)
    · replace h := ifn c3 h
      refine lv_aload_n hx hb dX1_isSameAs_36 rfl (lv_at hl 0 rfl) ?_
      refine va_get (D := D) (ci := 1) (v := .long th_upper) (C := RX1) (T := TX1) (N := 2) hx hb hts hinX1 hown hK hP 0 rfl rfl 0 (by decide) (hts (.fieldLink RX1 9 "ChanceBounds$Fraction" "upper" "J") (by decide +kernel)) (fun _ h9 => h9) rfl dX1_isSameAs_37 ?_
      refine lv_aload_n hx hb dX1_isSameAs_40 rfl (lv_at hl 1 rfl) ?_
      refine va_get (D := D) (ci := 1) (v := .long a1_lower) (C := RX1) (T := TX1) (N := 2) hx hb hts hinX1 hown hK hP 1 rfl rfl 1 (by decide) (hts (.fieldLink RX1 15 "ChanceBounds$Fraction" "lower" "J") (by decide +kernel)) (fun _ h9 => h9) rfl dX1_isSameAs_41 ?_
      refine lv_lmul hx hb dX1_isSameAs_44 ?_
      refine lv_aload_n hx hb dX1_isSameAs_45 rfl (lv_at hl 1 rfl) ?_
      refine va_get (D := D) (ci := 1) (v := .long a1_upper) (C := RX1) (T := TX1) (N := 2) hx hb hts hinX1 hown hK hP 1 rfl rfl 0 (by decide) (hts (.fieldLink RX1 9 "ChanceBounds$Fraction" "upper" "J") (by decide +kernel)) (fun _ h9 => h9) rfl dX1_isSameAs_46 ?_
      refine lv_aload_n hx hb dX1_isSameAs_49 rfl (lv_at hl 0 rfl) ?_
      refine va_get (D := D) (ci := 1) (v := .long th_lower) (C := RX1) (T := TX1) (N := 2) hx hb hts hinX1 hown hK hP 0 rfl rfl 1 (by decide) (hts (.fieldLink RX1 15 "ChanceBounds$Fraction" "lower" "J") (by decide +kernel)) (fun _ h9 => h9) rfl dX1_isSameAs_50 ?_
      refine lv_lmul hx hb dX1_isSameAs_53 ?_
      refine W.lcmp hx hb dX1_isSameAs_54 ?_
      refine lv_if_ne (tgt := 62) hx hb dX1_isSameAs_55 (by decide) (fun c4 => ?_) (fun c4 => ?_)
      · replace h := ifn c4 h
        refine lv_iconst (v := (0 : Int32)) hx hb dX1_isSameAs_62 (by decide) ?_
        cases h
        exact st_zret hx hb hr hlocks hP hD hS rfl dX1_isSameAs_63
      · replace h := ifp c4 h
        refine lv_iconst (v := (1 : Int32)) hx hb dX1_isSameAs_58 (by decide) ?_
        refine lv_goto (tgt := 63) hx hb dX1_isSameAs_59 (by decide) ?_
        cases h
        exact st_zret hx hb hr hlocks hP hD hS rfl dX1_isSameAs_63
    · replace h := ifp c3 h
      exact J18  _ _ _ h hP hD hS (lv_sub hl [0, 1] rfl)
def f_X1_inLeastTerms (K : Nat) (th_upper : Int64) (th_lower : Int64) (x1 : Int32) : Option (Int64) :=
  (f_X8_commonDivisor K (if 0 < th_upper then th_upper else -th_upper) th_lower).bind fun z1_0 =>
  if (lg_cmp th_lower (0 : Int64)) = (0 : Int32) then
    some (-1000000000000000000 : Int64)
  else
    if (lg_cmp z1_0 (0 : Int64)) = (0 : Int32) then
      some (-1000000000000000000 : Int64)
    else
      if x1 = (0 : Int32) then
        if z1_0 = 0 then none else
        some (th_upper / z1_0)
      else
        if z1_0 = 0 then none else
        some (th_lower / z1_0)
abbrev w_X1_inLeastTerms (tc : Nat → ClassId) (q_th : Nat)  (th_upper : Int64) (th_lower : Int64) : va_W := [(q_th, .inr (1, [.long th_upper, .long th_lower]))]
set_option maxHeartbeats 4000000 in
set_option maxRecDepth 100000 in
theorem s_X1_inLeastTerms {l : Launch} {E : (Nat → Prop) → State → Prop} (hEok : st_Eok E) {D : va_G} {tc : Nat → ClassId} (q_th : Nat) (th_upper : Int64) (th_lower : Int64) (x1 : Int32) (K : Nat) (r0 : Int64) (h : f_X1_inLeastTerms K th_upper th_lower x1 = some r0) : st l yX1_inLeastTerms wsX1_inLeastTerms ({ frames := 1, cells := 0, slots := 0, locals := 30 }) E D tc [.ref q_th, .int x1] (w_X1_inLeastTerms tc q_th th_upper th_lower) (some (.long r0)) (w_X1_inLeastTerms tc q_th th_upper th_lower) := by
  refine st_enter (cc := cX1_inLeastTerms) (maxL := 4) (ret := (some .long)) (by decide) rfl (Nat.le_of_ble_eq_true rfl) ?_
  intro p e s m below meth c A ls hx hb hr hml hts hown hlocks hK hN hE hA hP hD hS hl
  have hl : lv_has ls 4 [(0, .ref q_th), (1, .int x1)] := hl
  have hinX1 : ∀ w ∈ wsX10, w ∈ wsX1_inLeastTerms := by decide +kernel
  generalize hav : ([.ref q_th, .int x1] : List Value).toArray = av at hts ⊢
  unfold f_X1_inLeastTerms at h
  refine lv_aload_n hx hb dX1_inLeastTerms_0 rfl (lv_at hl 0 rfl) ?_
  refine va_get (D := D) (ci := 1) (v := .long th_upper) (C := RX1) (T := TX1) (N := 2) hx hb hts hinX1 hown hK hP 0 rfl rfl 0 (by decide) (hts (.fieldLink RX1 9 "ChanceBounds$Fraction" "upper" "J") (by decide +kernel)) (fun _ h9 => h9) rfl dX1_inLeastTerms_1 ?_
  refine va_mabs_long hx hb (by rw [hml]; exact hl.1.symm) hown (hts (.methodLink RX1 22 Lib.MathLoose.abs_long.x) (by decide +kernel)) (hts (.static Lib.MathLoose.abs_long.x) (by decide +kernel)) (hts (.initialized "java/lang/Math") (by decide +kernel)) (hts (.code Lib.MathLoose.abs_long.x Lib.MathLoose.abs_long.code 2 (some .long)) (by decide +kernel)) (Nat.le_of_ble_eq_true rfl) (Nat.le_of_ble_eq_true rfl) (Nat.zero_le _) (Nat.zero_le _) dX1_inLeastTerms_4 ?_
  refine lv_aload_n hx hb dX1_inLeastTerms_7 rfl (lv_at hl 0 rfl) ?_
  refine va_get (D := D) (ci := 1) (v := .long th_lower) (C := RX1) (T := TX1) (N := 2) hx hb hts hinX1 hown hK hP 0 rfl rfl 1 (by decide) (hts (.fieldLink RX1 15 "ChanceBounds$Fraction" "lower" "J") (by decide +kernel)) (fun _ h9 => h9) rfl dX1_inLeastTerms_8 ?_
  obtain ⟨z1_0, hc1, h⟩ := bd_ok h
  refine st_callSN (As := [.long (if 0 < th_upper then th_upper else -th_upper), .long th_lower]) (rest := []) (pos := []) ⟨hx, hb, hml, hown, hts⟩ (s_X8_commonDivisor (l := l) (D := D) (tc := tc) hEok (if 0 < th_upper then th_upper else -th_upper) th_lower K z1_0 hc1) ⟨va_cnB (host := "ChanceBounds") 2 hts gX1_inLeastTerms_X8_commonDivisor_n28 rfl rfl rfl (hN (.methodLinkNest RX1 28 yX8_commonDivisor "ChanceBounds") (by decide +kernel)) (hts (.initialized RX8) (by decide +kernel)) (by decide +kernel) ⟨Nat.le_of_ble_eq_true rfl, Nat.le_of_ble_eq_true rfl⟩, hts (.static yX8_commonDivisor) (by decide +kernel), trivial⟩ hEok hE hK hN hP hD hS hA rfl rfl rfl rfl hl.1 rfl (Nat.le_of_ble_eq_true rfl) dX1_inLeastTerms_11 ⟨Nat.zero_le _, Nat.zero_le _⟩ (fun H locs hP hD hS => ?_)
  have hP : va_P D vwCl (w_X1_inLeastTerms tc q_th th_upper th_lower) H := hP
  have hD : va_D A (w_X1_inLeastTerms tc q_th th_upper th_lower) := hD
  refine lv_lstore_n (lv' := [(2, .long z1_0), (0, .ref q_th), (1, .int x1)]) hx hb dX1_inLeastTerms_14 rfl hl (by decide) rfl (fun ls hl => ?_)
  refine lv_aload_n hx hb dX1_inLeastTerms_15 rfl (lv_at hl 1 rfl) ?_
  refine va_get (D := D) (ci := 1) (v := .long th_lower) (C := RX1) (T := TX1) (N := 2) hx hb hts hinX1 hown hK hP 0 rfl rfl 1 (by decide) (hts (.fieldLink RX1 15 "ChanceBounds$Fraction" "lower" "J") (by decide +kernel)) (fun _ h9 => h9) rfl dX1_inLeastTerms_16 ?_
  refine lv_lconst (v := (0 : Int64)) hx hb dX1_inLeastTerms_19 (by decide) ?_
  refine W.lcmp hx hb dX1_inLeastTerms_20 ?_
  refine lv_if_eq (tgt := 30) hx hb dX1_inLeastTerms_21 (by decide) (fun c2 => ?_) (fun c2 => ?_)
  · replace h := ifp c2 h
    refine lv_ldc2 (v := (-1000000000000000000 : Int64)) hx hb hown (hts (.constantLong RX1 32 (-1000000000000000000)) (by decide +kernel)) dX1_inLeastTerms_30 ?_
    cases h
    exact st_lret hx hb hr hlocks hP hD hS dX1_inLeastTerms_33
  · replace h := ifn c2 h
    refine lv_lload_n hx hb dX1_inLeastTerms_24 rfl (lv_at hl 0 rfl) ?_
    refine lv_lconst (v := (0 : Int64)) hx hb dX1_inLeastTerms_25 (by decide) ?_
    refine W.lcmp hx hb dX1_inLeastTerms_26 ?_
    refine lv_if_ne (tgt := 34) hx hb dX1_inLeastTerms_27 (by decide) (fun c3 => ?_) (fun c3 => ?_)
    · replace h := ifn c3 h
      refine lv_iload_n hx hb dX1_inLeastTerms_34 rfl (lv_at hl 2 rfl) ?_
      refine lv_if_ne (tgt := 45) hx hb dX1_inLeastTerms_35 (by decide) (fun c4 => ?_) (fun c4 => ?_)
      · replace h := ifn c4 h
        refine lv_aload_n hx hb dX1_inLeastTerms_45 rfl (lv_at hl 1 rfl) ?_
        refine va_get (D := D) (ci := 1) (v := .long th_lower) (C := RX1) (T := TX1) (N := 2) hx hb hts hinX1 hown hK hP 0 rfl rfl 1 (by decide) (hts (.fieldLink RX1 15 "ChanceBounds$Fraction" "lower" "J") (by decide +kernel)) (fun _ h9 => h9) rfl dX1_inLeastTerms_46 ?_
        refine lv_lload_n hx hb dX1_inLeastTerms_49 rfl (lv_at hl 0 rfl) ?_
        obtain ⟨g5, h⟩ := gd_ok h
        refine lv_ldiv hx hb dX1_inLeastTerms_50 g5 ?_
        cases h
        exact st_lret hx hb hr hlocks hP hD hS dX1_inLeastTerms_51
      · replace h := ifp c4 h
        refine lv_aload_n hx hb dX1_inLeastTerms_38 rfl (lv_at hl 1 rfl) ?_
        refine va_get (D := D) (ci := 1) (v := .long th_upper) (C := RX1) (T := TX1) (N := 2) hx hb hts hinX1 hown hK hP 0 rfl rfl 0 (by decide) (hts (.fieldLink RX1 9 "ChanceBounds$Fraction" "upper" "J") (by decide +kernel)) (fun _ h9 => h9) rfl dX1_inLeastTerms_39 ?_
        refine lv_goto (tgt := 49) hx hb dX1_inLeastTerms_42 (by decide) ?_
        refine lv_lload_n hx hb dX1_inLeastTerms_49 rfl (lv_at hl 0 rfl) ?_
        obtain ⟨g6, h⟩ := gd_ok h
        refine lv_ldiv hx hb dX1_inLeastTerms_50 g6 ?_
        cases h
        exact st_lret hx hb hr hlocks hP hD hS dX1_inLeastTerms_51
    · replace h := ifp c3 h
      refine lv_ldc2 (v := (-1000000000000000000 : Int64)) hx hb hown (hts (.constantLong RX1 32 (-1000000000000000000)) (by decide +kernel)) dX1_inLeastTerms_30 ?_
      cases h
      exact st_lret hx hb hr hlocks hP hD hS dX1_inLeastTerms_33

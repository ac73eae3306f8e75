def f_X4_take (a1_x : Int32) (a1_y : Int32) (a1_from : Int32) (a1_to : Int32) (a1_isOn : Int32) : Option (Int32 × Int32 × Int32 × Int32 × Int32) :=
  some (a1_x, a1_y, a1_from, a1_to, a1_isOn)
abbrev w_X4_take (tc : Nat → ClassId) (q_th : Nat) (q_a1 : Nat)  (th_x : Int32) (th_y : Int32) (th_from : Int32) (th_to : Int32) (th_isOn : Int32) (a1_x : Int32) (a1_y : Int32) (a1_from : Int32) (a1_to : Int32) (a1_isOn : Int32) : va_W := [(q_th, .inr (4, [.int th_x, .int th_y, .int th_from, .int th_to, .int th_isOn])), (q_a1, .inr (4, [.int a1_x, .int a1_y, .int a1_from, .int a1_to, .int a1_isOn]))]
set_option maxHeartbeats 4000000 in
set_option maxRecDepth 100000 in
theorem s_X4_take {l : Launch} {E : (Nat → Prop) → State → Prop} (hEok : st_Eok E) {D : va_G} {tc : Nat → ClassId} (q_th : Nat) (q_a1 : Nat) (th_x : Int32) (th_y : Int32) (th_from : Int32) (th_to : Int32) (th_isOn : Int32) (a1_x : Int32) (a1_y : Int32) (a1_from : Int32) (a1_to : Int32) (a1_isOn : Int32) (th_x' : Int32) (th_y' : Int32) (th_from' : Int32) (th_to' : Int32) (th_isOn' : Int32) (h : f_X4_take a1_x a1_y a1_from a1_to a1_isOn = some (th_x', th_y', th_from', th_to', th_isOn')) : st l yX4_take wsX4_take ({ frames := 0, cells := 0, slots := 0, locals := 0 }) E D tc [.ref q_th, .ref q_a1] (w_X4_take tc q_th q_a1 th_x th_y th_from th_to th_isOn a1_x a1_y a1_from a1_to a1_isOn) none (w_X4_take tc q_th q_a1 th_x' th_y' th_from' th_to' th_isOn' a1_x a1_y a1_from a1_to a1_isOn) := by
  refine st_enter (cc := cX4_take) (maxL := 2) (ret := none) (by decide) rfl (Nat.le_of_ble_eq_true rfl) ?_
  intro p e s m below meth c A ls hx hb hr hml hts hown hlocks hK hN hE hA hP hD hS hl
  have hl : lv_has ls 2 [(0, .ref q_th), (1, .ref q_a1)] := hl
  have hinX4 : ∀ w ∈ wsX40, w ∈ wsX4_take := by decide +kernel
  generalize hav : ([.ref q_th, .ref q_a1] : List Value).toArray = av at hts ⊢
  unfold f_X4_take at h
  refine lv_aload_n hx hb dX4_take_0 rfl (lv_at hl 0 rfl) ?_
  refine lv_aload_n hx hb dX4_take_1 rfl (lv_at hl 1 rfl) ?_
  refine va_get (D := D) (ci := 4) (v := .int a1_x) (C := RX4) (T := TX4) (N := 5) hx hb hts hinX4 hown hK hP 1 rfl rfl 0 (by decide) (hts (.fieldLink RX4 9 "ChanceBounds$Saying" "x" "I") (by decide +kernel)) (fun _ h9 => h9) rfl dX4_take_2 ?_
  refine va_put (D := D) (ci := 4) (v := .int a1_x) (ty := .int) (C := RX4) (T := TX4) (N := 5) hx hb hts hinX4 tyX4 tyX4_ok nmX4 hown hK hP hD hS 0 rfl rfl 0 (by decide) (hts (.fieldLink RX4 9 "ChanceBounds$Saying" "x" "I") (by decide +kernel)) (fun _ h9 => h9) rfl (by decide +kernel) rfl rfl (Nat.le_of_ble_eq_true rfl) dX4_take_5 (fun H locs hP hD hS => ?_)
  have hP : va_P D vwCl (w_X4_take tc q_th q_a1 a1_x th_y th_from th_to th_isOn a1_x a1_y a1_from a1_to a1_isOn) H := hP
  have hD : va_D A (w_X4_take tc q_th q_a1 a1_x th_y th_from th_to th_isOn a1_x a1_y a1_from a1_to a1_isOn) := hD
  refine lv_aload_n hx hb dX4_take_8 rfl (lv_at hl 0 rfl) ?_
  refine lv_aload_n hx hb dX4_take_9 rfl (lv_at hl 1 rfl) ?_
  refine va_get (D := D) (ci := 4) (v := .int a1_y) (C := RX4) (T := TX4) (N := 5) hx hb hts hinX4 hown hK hP 1 rfl rfl 1 (by decide) (hts (.fieldLink RX4 15 "ChanceBounds$Saying" "y" "I") (by decide +kernel)) (fun _ h9 => h9) rfl dX4_take_10 ?_
  refine va_put (D := D) (ci := 4) (v := .int a1_y) (ty := .int) (C := RX4) (T := TX4) (N := 5) hx hb hts hinX4 tyX4 tyX4_ok nmX4 hown hK hP hD hS 0 rfl rfl 1 (by decide) (hts (.fieldLink RX4 15 "ChanceBounds$Saying" "y" "I") (by decide +kernel)) (fun _ h9 => h9) rfl (by decide +kernel) rfl rfl (Nat.le_of_ble_eq_true rfl) dX4_take_13 (fun H locs hP hD hS => ?_)
  have hP : va_P D vwCl (w_X4_take tc q_th q_a1 a1_x a1_y th_from th_to th_isOn a1_x a1_y a1_from a1_to a1_isOn) H := hP
  have hD : va_D A (w_X4_take tc q_th q_a1 a1_x a1_y th_from th_to th_isOn a1_x a1_y a1_from a1_to a1_isOn) := hD
  refine lv_aload_n hx hb dX4_take_16 rfl (lv_at hl 0 rfl) ?_
  refine lv_aload_n hx hb dX4_take_17 rfl (lv_at hl 1 rfl) ?_
  refine va_get (D := D) (ci := 4) (v := .int a1_from) (C := RX4) (T := TX4) (N := 5) hx hb hts hinX4 hown hK hP 1 rfl rfl 2 (by decide) (hts (.fieldLink RX4 18 "ChanceBounds$Saying" "from" "I") (by decide +kernel)) (fun _ h9 => h9) rfl dX4_take_18 ?_
  refine va_put (D := D) (ci := 4) (v := .int a1_from) (ty := .int) (C := RX4) (T := TX4) (N := 5) hx hb hts hinX4 tyX4 tyX4_ok nmX4 hown hK hP hD hS 0 rfl rfl 2 (by decide) (hts (.fieldLink RX4 18 "ChanceBounds$Saying" "from" "I") (by decide +kernel)) (fun _ h9 => h9) rfl (by decide +kernel) rfl rfl (Nat.le_of_ble_eq_true rfl) dX4_take_21 (fun H locs hP hD hS => ?_)
  have hP : va_P D vwCl (w_X4_take tc q_th q_a1 a1_x a1_y a1_from th_to th_isOn a1_x a1_y a1_from a1_to a1_isOn) H := hP
  have hD : va_D A (w_X4_take tc q_th q_a1 a1_x a1_y a1_from th_to th_isOn a1_x a1_y a1_from a1_to a1_isOn) := hD
  refine lv_aload_n hx hb dX4_take_24 rfl (lv_at hl 0 rfl) ?_
  refine lv_aload_n hx hb dX4_take_25 rfl (lv_at hl 1 rfl) ?_
  refine va_get (D := D) (ci := 4) (v := .int a1_to) (C := RX4) (T := TX4) (N := 5) hx hb hts hinX4 hown hK hP 1 rfl rfl 3 (by decide) (hts (.fieldLink RX4 21 "ChanceBounds$Saying" "to" "I") (by decide +kernel)) (fun _ h9 => h9) rfl dX4_take_26 ?_
  refine va_put (D := D) (ci := 4) (v := .int a1_to) (ty := .int) (C := RX4) (T := TX4) (N := 5) hx hb hts hinX4 tyX4 tyX4_ok nmX4 hown hK hP hD hS 0 rfl rfl 3 (by decide) (hts (.fieldLink RX4 21 "ChanceBounds$Saying" "to" "I") (by decide +kernel)) (fun _ h9 => h9) rfl (by decide +kernel) rfl rfl (Nat.le_of_ble_eq_true rfl) dX4_take_29 (fun H locs hP hD hS => ?_)
  have hP : va_P D vwCl (w_X4_take tc q_th q_a1 a1_x a1_y a1_from a1_to th_isOn a1_x a1_y a1_from a1_to a1_isOn) H := hP
  have hD : va_D A (w_X4_take tc q_th q_a1 a1_x a1_y a1_from a1_to th_isOn a1_x a1_y a1_from a1_to a1_isOn) := hD
  refine lv_aload_n hx hb dX4_take_32 rfl (lv_at hl 0 rfl) ?_
  refine lv_aload_n hx hb dX4_take_33 rfl (lv_at hl 1 rfl) ?_
  refine va_get (D := D) (ci := 4) (v := .int a1_isOn) (C := RX4) (T := TX4) (N := 5) hx hb hts hinX4 hown hK hP 1 rfl rfl 4 (by decide) (hts (.fieldLink RX4 24 "ChanceBounds$Saying" "isOn" "I") (by decide +kernel)) (fun _ h9 => h9) rfl dX4_take_34 ?_
  refine va_put (D := D) (ci := 4) (v := .int a1_isOn) (ty := .int) (C := RX4) (T := TX4) (N := 5) hx hb hts hinX4 tyX4 tyX4_ok nmX4 hown hK hP hD hS 0 rfl rfl 4 (by decide) (hts (.fieldLink RX4 24 "ChanceBounds$Saying" "isOn" "I") (by decide +kernel)) (fun _ h9 => h9) rfl (by decide +kernel) rfl rfl (Nat.le_of_ble_eq_true rfl) dX4_take_37 (fun H locs hP hD hS => ?_)
  have hP : va_P D vwCl (w_X4_take tc q_th q_a1 a1_x a1_y a1_from a1_to a1_isOn a1_x a1_y a1_from a1_to a1_isOn) H := hP
  have hD : va_D A (w_X4_take tc q_th q_a1 a1_x a1_y a1_from a1_to a1_isOn a1_x a1_y a1_from a1_to a1_isOn) := hD
  cases h
  exact st_vret hx hb hr hlocks hP hD hS dX4_take_40
def f_X4_loosen (th_from : Int32) (th_to : Int32) (x1 : Int32) : Option (Int32 × Int32) :=
  some (if (th_from - x1) < (0 : Int32) then (0 : Int32) else (th_from - x1), if (100 : Int32) < (th_to + x1) then (100 : Int32) else (th_to + x1))
abbrev w_X4_loosen (tc : Nat → ClassId) (q_th : Nat)  (th_x : Int32) (th_y : Int32) (th_from : Int32) (th_to : Int32) (th_isOn : Int32) : va_W := [(q_th, .inr (4, [.int th_x, .int th_y, .int th_from, .int th_to, .int th_isOn]))]
set_option maxHeartbeats 4000000 in
set_option maxRecDepth 100000 in
theorem s_X4_loosen {l : Launch} {E : (Nat → Prop) → State → Prop} (hEok : st_Eok E) {D : va_G} {tc : Nat → ClassId} (q_th : Nat) (th_x : Int32) (th_y : Int32) (th_from : Int32) (th_to : Int32) (th_isOn : Int32) (x1 : Int32) (th_from' : Int32) (th_to' : Int32) (h : f_X4_loosen th_from th_to x1 = some (th_from', th_to')) : st l yX4_loosen wsX4_loosen ({ frames := 1, cells := 0, slots := 0, locals := 21 }) E D tc [.ref q_th, .int x1] (w_X4_loosen tc q_th th_x th_y th_from th_to th_isOn) none (w_X4_loosen tc q_th th_x th_y th_from' th_to' th_isOn) := by
  refine st_enter (cc := cX4_loosen) (maxL := 2) (ret := none) (by decide) rfl (Nat.le_of_ble_eq_true rfl) ?_
  intro p e s m below meth c A ls hx hb hr hml hts hown hlocks hK hN hE hA hP hD hS hl
  have hl : lv_has ls 2 [(0, .ref q_th), (1, .int x1)] := hl
  have hinX4 : ∀ w ∈ wsX40, w ∈ wsX4_loosen := by decide +kernel
  generalize hav : ([.ref q_th, .int x1] : List Value).toArray = av at hts ⊢
  unfold f_X4_loosen at h
  refine lv_aload_n hx hb dX4_loosen_0 rfl (lv_at hl 0 rfl) ?_
  refine lv_aload_n hx hb dX4_loosen_1 rfl (lv_at hl 0 rfl) ?_
  refine va_get (D := D) (ci := 4) (v := .int th_from) (C := RX4) (T := TX4) (N := 5) hx hb hts hinX4 hown hK hP 0 rfl rfl 2 (by decide) (hts (.fieldLink RX4 18 "ChanceBounds$Saying" "from" "I") (by decide +kernel)) (fun _ h9 => h9) rfl dX4_loosen_2 ?_
  refine lv_iload_n hx hb dX4_loosen_5 rfl (lv_at hl 1 rfl) ?_
  refine lv_isub hx hb dX4_loosen_6 ?_
  refine lv_iconst (v := (0 : Int32)) hx hb dX4_loosen_7 (by decide) ?_
  refine va_mmax hx hb (by rw [hml]; exact hl.1.symm) hown (hts (.methodLink RX4 27 Lib.Math.max.name) (by decide +kernel)) (hts (.static Lib.Math.max.name) (by decide +kernel)) (hts (.initialized "java/lang/Math") (by decide +kernel)) (hts (.code Lib.Math.max.name Lib.Math.max.code 2 (some .int)) (by decide +kernel)) (Nat.le_of_ble_eq_true rfl) (Nat.le_of_ble_eq_true rfl) (Nat.zero_le _) (Nat.zero_le _) dX4_loosen_8 ?_
  refine va_put (D := D) (ci := 4) (v := .int (if (th_from - x1) < (0 : Int32) then (0 : Int32) else (th_from - x1))) (ty := .int) (C := RX4) (T := TX4) (N := 5) hx hb hts hinX4 tyX4 tyX4_ok nmX4 hown hK hP hD hS 0 rfl rfl 2 (by decide) (hts (.fieldLink RX4 18 "ChanceBounds$Saying" "from" "I") (by decide +kernel)) (fun _ h9 => h9) rfl (by decide +kernel) rfl rfl (Nat.le_of_ble_eq_true rfl) dX4_loosen_11 (fun H locs hP hD hS => ?_)
  have hP : va_P D vwCl (w_X4_loosen tc q_th th_x th_y (if (th_from - x1) < (0 : Int32) then (0 : Int32) else (th_from - x1)) th_to th_isOn) H := hP
  have hD : va_D A (w_X4_loosen tc q_th th_x th_y (if (th_from - x1) < (0 : Int32) then (0 : Int32) else (th_from - x1)) th_to th_isOn) := hD
  refine lv_aload_n hx hb dX4_loosen_14 rfl (lv_at hl 0 rfl) ?_
  refine lv_aload_n hx hb dX4_loosen_15 rfl (lv_at hl 0 rfl) ?_
  refine va_get (D := D) (ci := 4) (v := .int th_to) (C := RX4) (T := TX4) (N := 5) hx hb hts hinX4 hown hK hP 0 rfl rfl 3 (by decide) (hts (.fieldLink RX4 21 "ChanceBounds$Saying" "to" "I") (by decide +kernel)) (fun _ h9 => h9) rfl dX4_loosen_16 ?_
  refine lv_iload_n hx hb dX4_loosen_19 rfl (lv_at hl 1 rfl) ?_
  refine lv_iadd hx hb dX4_loosen_20 ?_
  refine lv_bipush (v := (100 : Int32)) hx hb dX4_loosen_21 (by decide) ?_
  refine va_mmin hx hb (by rw [hml]; exact hl.1.symm) hown (hts (.methodLink RX4 33 Lib.Math.min.name) (by decide +kernel)) (hts (.static Lib.Math.min.name) (by decide +kernel)) (hts (.initialized "java/lang/Math") (by decide +kernel)) (hts (.code Lib.Math.min.name Lib.Math.min.code 2 (some .int)) (by decide +kernel)) (Nat.le_of_ble_eq_true rfl) (Nat.le_of_ble_eq_true rfl) (Nat.zero_le _) (Nat.zero_le _) dX4_loosen_23 ?_
  refine va_put (D := D) (ci := 4) (v := .int (if (100 : Int32) < (th_to + x1) then (100 : Int32) else (th_to + x1))) (ty := .int) (C := RX4) (T := TX4) (N := 5) hx hb hts hinX4 tyX4 tyX4_ok nmX4 hown hK hP hD hS 0 rfl rfl 3 (by decide) (hts (.fieldLink RX4 21 "ChanceBounds$Saying" "to" "I") (by decide +kernel)) (fun _ h9 => h9) rfl (by decide +kernel) rfl rfl (Nat.le_of_ble_eq_true rfl) dX4_loosen_26 (fun H locs hP hD hS => ?_)
  have hP : va_P D vwCl (w_X4_loosen tc q_th th_x th_y (if (th_from - x1) < (0 : Int32) then (0 : Int32) else (th_from - x1)) (if (100 : Int32) < (th_to + x1) then (100 : Int32) else (th_to + x1)) th_isOn) H := hP
  have hD : va_D A (w_X4_loosen tc q_th th_x th_y (if (th_from - x1) < (0 : Int32) then (0 : Int32) else (th_from - x1)) (if (100 : Int32) < (th_to + x1) then (100 : Int32) else (th_to + x1)) th_isOn) := hD
  cases h
  exact st_vret hx hb hr hlocks hP hD hS dX4_loosen_29
def f_X4_saysSameAs (th_x : Int32) (th_y : Int32) (th_from : Int32) (th_to : Int32) (a1_x : Int32) (a1_y : Int32) (a1_from : Int32) (a1_to : Int32) : Option (Int32) :=
  if th_x = a1_x then
    if th_y = a1_y then
      if th_from = a1_from then
        if th_to = a1_to then
          some (1 : Int32)
        else
          some (0 : Int32)
      else
        some (0 : Int32)
    else
      some (0 : Int32)
  else
    some (0 : Int32)
abbrev w_X4_saysSameAs (tc : Nat → ClassId) (q_th : Nat) (q_a1 : Nat)  (th_x : Int32) (th_y : Int32) (th_from : Int32) (th_to : Int32) (th_isOn : Int32) (a1_x : Int32) (a1_y : Int32) (a1_from : Int32) (a1_to : Int32) (a1_isOn : Int32) : va_W := [(q_th, .inr (4, [.int th_x, .int th_y, .int th_from, .int th_to, .int th_isOn])), (q_a1, .inr (4, [.int a1_x, .int a1_y, .int a1_from, .int a1_to, .int a1_isOn]))]
set_option maxHeartbeats 4000000 in
set_option maxRecDepth 100000 in
theorem s_X4_saysSameAs {l : Launch} {E : (Nat → Prop) → State → Prop} (hEok : st_Eok E) {D : va_G} {tc : Nat → ClassId} (q_th : Nat) (q_a1 : Nat) (th_x : Int32) (th_y : Int32) (th_from : Int32) (th_to : Int32) (th_isOn : Int32) (a1_x : Int32) (a1_y : Int32) (a1_from : Int32) (a1_to : Int32) (a1_isOn : Int32) (r0 : Int32) (h : f_X4_saysSameAs th_x th_y th_from th_to a1_x a1_y a1_from a1_to = some r0) : st l yX4_saysSameAs wsX4_saysSameAs ({ frames := 0, cells := 0, slots := 0, locals := 0 }) E D tc [.ref q_th, .ref q_a1] (w_X4_saysSameAs tc q_th q_a1 th_x th_y th_from th_to th_isOn a1_x a1_y a1_from a1_to a1_isOn) (some (.int r0)) (w_X4_saysSameAs tc q_th q_a1 th_x th_y th_from th_to th_isOn a1_x a1_y a1_from a1_to a1_isOn) := by
  refine st_enter (cc := cX4_saysSameAs) (maxL := 2) (ret := (some .boolean)) (by decide) rfl (Nat.le_of_ble_eq_true rfl) ?_
  intro p e s m below meth c A ls hx hb hr hml hts hown hlocks hK hN hE hA hP hD hS hl
  have hl : lv_has ls 2 [(0, .ref q_th), (1, .ref q_a1)] := hl
  have hinX4 : ∀ w ∈ wsX40, w ∈ wsX4_saysSameAs := by decide +kernel
  generalize hav : ([.ref q_th, .ref q_a1] : List Value).toArray = av at hts ⊢
  unfold f_X4_saysSameAs at h
  refine lv_aload_n hx hb dX4_saysSameAs_0 rfl (lv_at hl 0 rfl) ?_
  refine va_get (D := D) (ci := 4) (v := .int th_x) (C := RX4) (T := TX4) (N := 5) hx hb hts hinX4 hown hK hP 0 rfl rfl 0 (by decide) (hts (.fieldLink RX4 9 "ChanceBounds$Saying" "x" "I") (by decide +kernel)) (fun _ h9 => h9) rfl dX4_saysSameAs_1 ?_
  refine lv_aload_n hx hb dX4_saysSameAs_4 rfl (lv_at hl 1 rfl) ?_
  refine va_get (D := D) (ci := 4) (v := .int a1_x) (C := RX4) (T := TX4) (N := 5) hx hb hts hinX4 hown hK hP 1 rfl rfl 0 (by decide) (hts (.fieldLink RX4 9 "ChanceBounds$Saying" "x" "I") (by decide +kernel)) (fun _ h9 => h9) rfl dX4_saysSameAs_5 ?_
  refine lv_icmp_ne (tgt := 48) hx hb dX4_saysSameAs_8 (by decide) (fun c1 => ?_) (fun c1 => ?_)
  · replace h := ifn c1 h
    refine lv_iconst (v := (0 : Int32)) hx hb dX4_saysSameAs_48 (by decide) ?_
    cases h
    exact st_zret hx hb hr hlocks hP hD hS rfl dX4_saysSameAs_49
  · replace h := ifp c1 h
    refine lv_aload_n hx hb dX4_saysSameAs_11 rfl (lv_at hl 0 rfl) ?_
    refine va_get (D := D) (ci := 4) (v := .int th_y) (C := RX4) (T := TX4) (N := 5) hx hb hts hinX4 hown hK hP 0 rfl rfl 1 (by decide) (hts (.fieldLink RX4 15 "ChanceBounds$Saying" "y" "I") (by decide +kernel)) (fun _ h9 => h9) rfl dX4_saysSameAs_12 ?_
    refine lv_aload_n hx hb dX4_saysSameAs_15 rfl (lv_at hl 1 rfl) ?_
    refine va_get (D := D) (ci := 4) (v := .int a1_y) (C := RX4) (T := TX4) (N := 5) hx hb hts hinX4 hown hK hP 1 rfl rfl 1 (by decide) (hts (.fieldLink RX4 15 "ChanceBounds$Saying" "y" "I") (by decide +kernel)) (fun _ h9 => h9) rfl dX4_saysSameAs_16 ?_
    refine lv_icmp_ne (tgt := 48) hx hb dX4_saysSameAs_19 (by decide) (fun c2 => ?_) (fun c2 => ?_)
    · replace h := ifn c2 h
      refine lv_iconst (v := (0 : Int32)) hx hb dX4_saysSameAs_48 (by decide) ?_
      cases h
      exact st_zret hx hb hr hlocks hP hD hS rfl dX4_saysSameAs_49
    · replace h := ifp c2 h
      refine lv_aload_n hx hb dX4_saysSameAs_22 rfl (lv_at hl 0 rfl) ?_
      refine va_get (D := D) (ci := 4) (v := .int th_from) (C := RX4) (T := TX4) (N := 5) hx hb hts hinX4 hown hK hP 0 rfl rfl 2 (by decide) (hts (.fieldLink RX4 18 "ChanceBounds$Saying" "from" "I") (by decide +kernel)) (fun _ h9 => h9) rfl dX4_saysSameAs_23 ?_
      refine lv_aload_n hx hb dX4_saysSameAs_26 rfl (lv_at hl 1 rfl) ?_
      refine va_get (D := D) (ci := 4) (v := .int a1_from) (C := RX4) (T := TX4) (N := 5) hx hb hts hinX4 hown hK hP 1 rfl rfl 2 (by decide) (hts (.fieldLink RX4 18 "ChanceBounds$Saying" "from" "I") (by decide +kernel)) (fun _ h9 => h9) rfl dX4_saysSameAs_27 ?_
      refine lv_icmp_ne (tgt := 48) hx hb dX4_saysSameAs_30 (by decide) (fun c3 => ?_) (fun c3 => ?_)
      · replace h := ifn c3 h
        refine lv_iconst (v := (0 : Int32)) hx hb dX4_saysSameAs_48 (by decide) ?_
        cases h
        exact st_zret hx hb hr hlocks hP hD hS rfl dX4_saysSameAs_49
      · replace h := ifp c3 h
        refine lv_aload_n hx hb dX4_saysSameAs_33 rfl (lv_at hl 0 rfl) ?_
        refine va_get (D := D) (ci := 4) (v := .int th_to) (C := RX4) (T := TX4) (N := 5) hx hb hts hinX4 hown hK hP 0 rfl rfl 3 (by decide) (hts (.fieldLink RX4 21 "ChanceBounds$Saying" "to" "I") (by decide +kernel)) (fun _ h9 => h9) rfl dX4_saysSameAs_34 ?_
        refine lv_aload_n hx hb dX4_saysSameAs_37 rfl (lv_at hl 1 rfl) ?_
        refine va_get (D := D) (ci := 4) (v := .int a1_to) (C := RX4) (T := TX4) (N := 5) hx hb hts hinX4 hown hK hP 1 rfl rfl 3 (by decide) (hts (.fieldLink RX4 21 "ChanceBounds$Saying" "to" "I") (by decide +kernel)) (fun _ h9 => h9) rfl dX4_saysSameAs_38 ?_
        refine lv_icmp_ne (tgt := 48) hx hb dX4_saysSameAs_41 (by decide) (fun c4 => ?_) (fun c4 => ?_)
        · replace h := ifn c4 h
          refine lv_iconst (v := (0 : Int32)) hx hb dX4_saysSameAs_48 (by decide) ?_
          cases h
          exact st_zret hx hb hr hlocks hP hD hS rfl dX4_saysSameAs_49
        · replace h := ifp c4 h
          refine lv_iconst (v := (1 : Int32)) hx hb dX4_saysSameAs_44 (by decide) ?_
          refine lv_goto (tgt := 49) hx hb dX4_saysSameAs_45 (by decide) ?_
          cases h
          exact st_zret hx hb hr hlocks hP hD hS rfl dX4_saysSameAs_49
def f_X4_overFrom (th_from : Int32) (x1 : Int64) (x3 : Int64) : Option (Int64) :=
  some (((100 : Int64) * x1) - (th_from.toInt64 * x3))
abbrev w_X4_overFrom (tc : Nat → ClassId) (q_th : Nat)  (th_x : Int32) (th_y : Int32) (th_from : Int32) (th_to : Int32) (th_isOn : Int32) : va_W := [(q_th, .inr (4, [.int th_x, .int th_y, .int th_from, .int th_to, .int th_isOn]))]
set_option maxHeartbeats 4000000 in
set_option maxRecDepth 100000 in
theorem s_X4_overFrom {l : Launch} {E : (Nat → Prop) → State → Prop} (hEok : st_Eok E) {D : va_G} {tc : Nat → ClassId} (q_th : Nat) (th_x : Int32) (th_y : Int32) (th_from : Int32) (th_to : Int32) (th_isOn : Int32) (x1 : Int64) (x3 : Int64) (r0 : Int64) (h : f_X4_overFrom th_from x1 x3 = some r0) : st l yX4_overFrom wsX4_overFrom ({ frames := 0, cells := 0, slots := 0, locals := 0 }) E D tc [.ref q_th, .long x1, .long x3] (w_X4_overFrom tc q_th th_x th_y th_from th_to th_isOn) (some (.long r0)) (w_X4_overFrom tc q_th th_x th_y th_from th_to th_isOn) := by
  refine st_enter (cc := cX4_overFrom) (maxL := 5) (ret := (some .long)) (by decide) rfl (Nat.le_of_ble_eq_true rfl) ?_
  intro p e s m below meth c A ls hx hb hr hml hts hown hlocks hK hN hE hA hP hD hS hl
  have hl : lv_has ls 5 [(0, .ref q_th), (1, .long x1), (3, .long x3)] := hl
  have hinX4 : ∀ w ∈ wsX40, w ∈ wsX4_overFrom := by decide +kernel
  generalize hav : ([.ref q_th, .long x1, .long x3] : List Value).toArray = av at hts ⊢
  unfold f_X4_overFrom at h
  refine lv_ldc2 (v := (100 : Int64)) hx hb hown (hts (.constantLong RX4 36 (100)) (by decide +kernel)) dX4_overFrom_0 ?_
  refine lv_lload_n hx hb dX4_overFrom_3 rfl (lv_at hl 1 rfl) ?_
  refine lv_lmul hx hb dX4_overFrom_4 ?_
  refine lv_aload_n hx hb dX4_overFrom_5 rfl (lv_at hl 0 rfl) ?_
  refine va_get (D := D) (ci := 4) (v := .int th_from) (C := RX4) (T := TX4) (N := 5) hx hb hts hinX4 hown hK hP 0 rfl rfl 2 (by decide) (hts (.fieldLink RX4 18 "ChanceBounds$Saying" "from" "I") (by decide +kernel)) (fun _ h9 => h9) rfl dX4_overFrom_6 ?_
  refine lv_i2l (v := th_from.toInt64) hx hb dX4_overFrom_9 rfl ?_
  refine lv_lload_n hx hb dX4_overFrom_10 rfl (lv_at hl 2 rfl) ?_
  refine lv_lmul hx hb dX4_overFrom_11 ?_
  refine lv_lsub hx hb dX4_overFrom_12 ?_
  cases h
  exact st_lret hx hb hr hlocks hP hD hS dX4_overFrom_13
def f_X4_underTo (th_to : Int32) (x1 : Int64) (x3 : Int64) : Option (Int64) :=
  some ((th_to.toInt64 * x3) - ((100 : Int64) * x1))
abbrev w_X4_underTo (tc : Nat → ClassId) (q_th : Nat)  (th_x : Int32) (th_y : Int32) (th_from : Int32) (th_to : Int32) (th_isOn : Int32) : va_W := [(q_th, .inr (4, [.int th_x, .int th_y, .int th_from, .int th_to, .int th_isOn]))]
set_option maxHeartbeats 4000000 in
set_option maxRecDepth 100000 in
theorem s_X4_underTo {l : Launch} {E : (Nat → Prop) → State → Prop} (hEok : st_Eok E) {D : va_G} {tc : Nat → ClassId} (q_th : Nat) (th_x : Int32) (th_y : Int32) (th_from : Int32) (th_to : Int32) (th_isOn : Int32) (x1 : Int64) (x3 : Int64) (r0 : Int64) (h : f_X4_underTo th_to x1 x3 = some r0) : st l yX4_underTo wsX4_underTo ({ frames := 0, cells := 0, slots := 0, locals := 0 }) E D tc [.ref q_th, .long x1, .long x3] (w_X4_underTo tc q_th th_x th_y th_from th_to th_isOn) (some (.long r0)) (w_X4_underTo tc q_th th_x th_y th_from th_to th_isOn) := by
  refine st_enter (cc := cX4_underTo) (maxL := 5) (ret := (some .long)) (by decide) rfl (Nat.le_of_ble_eq_true rfl) ?_
  intro p e s m below meth c A ls hx hb hr hml hts hown hlocks hK hN hE hA hP hD hS hl
  have hl : lv_has ls 5 [(0, .ref q_th), (1, .long x1), (3, .long x3)] := hl
  have hinX4 : ∀ w ∈ wsX40, w ∈ wsX4_underTo := by decide +kernel
  generalize hav : ([.ref q_th, .long x1, .long x3] : List Value).toArray = av at hts ⊢
  unfold f_X4_underTo at h
  refine lv_aload_n hx hb dX4_underTo_0 rfl (lv_at hl 0 rfl) ?_
  refine va_get (D := D) (ci := 4) (v := .int th_to) (C := RX4) (T := TX4) (N := 5) hx hb hts hinX4 hown hK hP 0 rfl rfl 3 (by decide) (hts (.fieldLink RX4 21 "ChanceBounds$Saying" "to" "I") (by decide +kernel)) (fun _ h9 => h9) rfl dX4_underTo_1 ?_
  refine lv_i2l (v := th_to.toInt64) hx hb dX4_underTo_4 rfl ?_
  refine lv_lload_n hx hb dX4_underTo_5 rfl (lv_at hl 2 rfl) ?_
  refine lv_lmul hx hb dX4_underTo_6 ?_
  refine lv_ldc2 (v := (100 : Int64)) hx hb hown (hts (.constantLong RX4 36 (100)) (by decide +kernel)) dX4_underTo_7 ?_
  refine lv_lload_n hx hb dX4_underTo_10 rfl (lv_at hl 1 rfl) ?_
  refine lv_lmul hx hb dX4_underTo_11 ?_
  refine lv_lsub hx hb dX4_underTo_12 ?_
  cases h
  exact st_lret hx hb hr hlocks hP hD hS dX4_underTo_13
def f_X4_isKeptBy (th_from : Int32) (th_to : Int32) (x1 : Int64) (x3 : Int64) : Option (Int32) :=
  (f_X4_overFrom th_from x1 x3).bind fun z1_0 =>
  if (lg_cmp z1_0 (0 : Int64)) < (0 : Int32) then
    some (0 : Int32)
  else
    (f_X4_underTo th_to x1 x3).bind fun z3_0 =>
    if (lg_cmp z3_0 (0 : Int64)) < (0 : Int32) then
      some (0 : Int32)
    else
      some (1 : Int32)
abbrev w_X4_isKeptBy (tc : Nat → ClassId) (q_th : Nat)  (th_x : Int32) (th_y : Int32) (th_from : Int32) (th_to : Int32) (th_isOn : Int32) : va_W := [(q_th, .inr (4, [.int th_x, .int th_y, .int th_from, .int th_to, .int th_isOn]))]
set_option maxHeartbeats 4000000 in
set_option maxRecDepth 100000 in
theorem s_X4_isKeptBy {l : Launch} {E : (Nat → Prop) → State → Prop} (hEok : st_Eok E) {D : va_G} {tc : Nat → ClassId} (q_th : Nat) (th_x : Int32) (th_y : Int32) (th_from : Int32) (th_to : Int32) (th_isOn : Int32) (x1 : Int64) (x3 : Int64) (r0 : Int32) (h : f_X4_isKeptBy th_from th_to x1 x3 = some r0) : st l yX4_isKeptBy wsX4_isKeptBy ({ frames := 1, cells := 0, slots := 0, locals := 24 }) E D tc [.ref q_th, .long x1, .long x3] (w_X4_isKeptBy tc q_th th_x th_y th_from th_to th_isOn) (some (.int r0)) (w_X4_isKeptBy tc q_th th_x th_y th_from th_to th_isOn) := by
  refine st_enter (cc := cX4_isKeptBy) (maxL := 5) (ret := (some .boolean)) (by decide) rfl (Nat.le_of_ble_eq_true rfl) ?_
  intro p e s m below meth c A ls hx hb hr hml hts hown hlocks hK hN hE hA hP hD hS hl
  have hl : lv_has ls 5 [(0, .ref q_th), (1, .long x1), (3, .long x3)] := hl
  generalize hav : ([.ref q_th, .long x1, .long x3] : List Value).toArray = av at hts ⊢
  unfold f_X4_isKeptBy at h
  refine lv_aload_n hx hb dX4_isKeptBy_0 rfl (lv_at hl 0 rfl) ?_
  refine lv_lload_n hx hb dX4_isKeptBy_1 rfl (lv_at hl 1 rfl) ?_
  refine lv_lload_n hx hb dX4_isKeptBy_2 rfl (lv_at hl 2 rfl) ?_
  obtain ⟨z1_0, hc1, h⟩ := bd_ok h
  refine st_callV (As := [.long x1, .long x3]) (rest := []) (pos := [0]) ⟨hx, hb, hml, hown, hts⟩ (s_X4_overFrom (l := l) (D := D) (tc := tc) hEok q_th th_x th_y th_from th_to th_isOn x1 x3 z1_0 hc1) (cwV 2 hts gX4_isKeptBy_X4_overFrom rfl rfl rfl (by decide +kernel) ⟨Nat.le_of_ble_eq_true rfl, Nat.le_of_ble_eq_true rfl⟩) (st_recv (ci := 4) (q0 := 0) hK hP rfl rfl) hEok hE hK hN hP hD hS hA rfl rfl rfl rfl hl.1 rfl (Nat.le_of_ble_eq_true rfl) dX4_isKeptBy_3 ⟨Nat.zero_le _, Nat.zero_le _⟩ (fun H locs hP hD hS => ?_)
  have hP : va_P D vwCl (w_X4_isKeptBy tc q_th th_x th_y th_from th_to th_isOn) H := hP
  have hD : va_D A (w_X4_isKeptBy tc q_th th_x th_y th_from th_to th_isOn) := hD
  refine lv_lconst (v := (0 : Int64)) hx hb dX4_isKeptBy_6 (by decide) ?_
  refine W.lcmp hx hb dX4_isKeptBy_7 ?_
  refine lv_if_lt (tgt := 26) hx hb dX4_isKeptBy_8 (by decide) (fun c2 => ?_) (fun c2 => ?_)
  · replace h := ifp c2 h
    refine lv_iconst (v := (0 : Int32)) hx hb dX4_isKeptBy_26 (by decide) ?_
    cases h
    exact st_zret hx hb hr hlocks hP hD hS rfl dX4_isKeptBy_27
  · replace h := ifn c2 h
    refine lv_aload_n hx hb dX4_isKeptBy_11 rfl (lv_at hl 0 rfl) ?_
    refine lv_lload_n hx hb dX4_isKeptBy_12 rfl (lv_at hl 1 rfl) ?_
    refine lv_lload_n hx hb dX4_isKeptBy_13 rfl (lv_at hl 2 rfl) ?_
    obtain ⟨z3_0, hc3, h⟩ := bd_ok h
    refine st_callV (As := [.long x1, .long x3]) (rest := []) (pos := [0]) ⟨hx, hb, hml, hown, hts⟩ (s_X4_underTo (l := l) (D := D) (tc := tc) hEok q_th th_x th_y th_from th_to th_isOn x1 x3 z3_0 hc3) (cwV 2 hts gX4_isKeptBy_X4_underTo rfl rfl rfl (by decide +kernel) ⟨Nat.le_of_ble_eq_true rfl, Nat.le_of_ble_eq_true rfl⟩) (st_recv (ci := 4) (q0 := 0) hK hP rfl rfl) hEok hE hK hN hP hD hS hA rfl rfl rfl rfl hl.1 rfl (Nat.le_of_ble_eq_true rfl) dX4_isKeptBy_14 ⟨Nat.zero_le _, Nat.zero_le _⟩ (fun H locs hP hD hS => ?_)
    have hP : va_P D vwCl (w_X4_isKeptBy tc q_th th_x th_y th_from th_to th_isOn) H := hP
    have hD : va_D A (w_X4_isKeptBy tc q_th th_x th_y th_from th_to th_isOn) := hD
    refine lv_lconst (v := (0 : Int64)) hx hb dX4_isKeptBy_17 (by decide) ?_
    refine W.lcmp hx hb dX4_isKeptBy_18 ?_
    refine lv_if_lt (tgt := 26) hx hb dX4_isKeptBy_19 (by decide) (fun c4 => ?_) (fun c4 => ?_)
    · replace h := ifp c4 h
      refine lv_iconst (v := (0 : Int32)) hx hb dX4_isKeptBy_26 (by decide) ?_
      cases h
      exact st_zret hx hb hr hlocks hP hD hS rfl dX4_isKeptBy_27
    · replace h := ifn c4 h
      refine lv_iconst (v := (1 : Int32)) hx hb dX4_isKeptBy_22 (by decide) ?_
      refine lv_goto (tgt := 27) hx hb dX4_isKeptBy_23 (by decide) ?_
      cases h
      exact st_zret hx hb hr hlocks hP hD hS rfl dX4_isKeptBy_27

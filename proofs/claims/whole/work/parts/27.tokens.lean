def f_X6_isLetter (x0 : Int32) : Option (Int32) :=
  if x0 < (97 : Int32) then
    some (0 : Int32)
  else
    if (122 : Int32) < x0 then
      some (0 : Int32)
    else
      some (1 : Int32)
abbrev w_X6_isLetter : va_W := []
set_option maxHeartbeats 4000000 in
set_option maxRecDepth 100000 in
theorem s_X6_isLetter {l : Launch} {E : (Nat → Prop) → State → Prop} (hEok : st_Eok E) {D : va_G} {tc : Nat → ClassId} (x0 : Int32) (r0 : Int32) (h : f_X6_isLetter x0 = some r0) : st l yX6_isLetter wsX6_isLetter ({ frames := 0, cells := 0, slots := 0, locals := 0 }) E D tc [.int x0] w_X6_isLetter (some (.int r0)) w_X6_isLetter := by
  refine st_enter (cc := cX6_isLetter) (maxL := 1) (ret := (some .boolean)) (by decide) rfl (Nat.le_of_ble_eq_true rfl) ?_
  intro p e s m below meth c A ls hx hb hr hml hts hown hlocks hK hN hE hA hP hD hS hl
  have hl : lv_has ls 1 [(0, .int x0)] := hl
  generalize hav : ([.int x0] : List Value).toArray = av at hts ⊢
  unfold f_X6_isLetter at h
  refine lv_iload_n hx hb dX6_isLetter_0 rfl (lv_at hl 0 rfl) ?_
  refine lv_bipush (v := (97 : Int32)) hx hb dX6_isLetter_1 (by decide) ?_
  refine lv_icmp_lt (tgt := 16) hx hb dX6_isLetter_3 (by decide) (fun c1 => ?_) (fun c1 => ?_)
  · replace h := ifp c1 h
    refine lv_iconst (v := (0 : Int32)) hx hb dX6_isLetter_16 (by decide) ?_
    cases h
    exact st_zret hx hb hr hlocks hP hD hS rfl dX6_isLetter_17
  · replace h := ifn c1 h
    refine lv_iload_n hx hb dX6_isLetter_6 rfl (lv_at hl 0 rfl) ?_
    refine lv_bipush (v := (122 : Int32)) hx hb dX6_isLetter_7 (by decide) ?_
    refine lv_icmp_gt (tgt := 16) hx hb dX6_isLetter_9 (by decide) (fun c2 => ?_) (fun c2 => ?_)
    · replace h := ifp c2 h
      refine lv_iconst (v := (0 : Int32)) hx hb dX6_isLetter_16 (by decide) ?_
      cases h
      exact st_zret hx hb hr hlocks hP hD hS rfl dX6_isLetter_17
    · replace h := ifn c2 h
      refine lv_iconst (v := (1 : Int32)) hx hb dX6_isLetter_12 (by decide) ?_
      refine lv_goto (tgt := 17) hx hb dX6_isLetter_13 (by decide) ?_
      cases h
      exact st_zret hx hb hr hlocks hP hD hS rfl dX6_isLetter_17
def f_X6_isDigit (x0 : Int32) : Option (Int32) :=
  if x0 < (48 : Int32) then
    some (0 : Int32)
  else
    if (57 : Int32) < x0 then
      some (0 : Int32)
    else
      some (1 : Int32)
abbrev w_X6_isDigit : va_W := []
set_option maxHeartbeats 4000000 in
set_option maxRecDepth 100000 in
theorem s_X6_isDigit {l : Launch} {E : (Nat → Prop) → State → Prop} (hEok : st_Eok E) {D : va_G} {tc : Nat → ClassId} (x0 : Int32) (r0 : Int32) (h : f_X6_isDigit x0 = some r0) : st l yX6_isDigit wsX6_isDigit ({ frames := 0, cells := 0, slots := 0, locals := 0 }) E D tc [.int x0] w_X6_isDigit (some (.int r0)) w_X6_isDigit := by
  refine st_enter (cc := cX6_isDigit) (maxL := 1) (ret := (some .boolean)) (by decide) rfl (Nat.le_of_ble_eq_true rfl) ?_
  intro p e s m below meth c A ls hx hb hr hml hts hown hlocks hK hN hE hA hP hD hS hl
  have hl : lv_has ls 1 [(0, .int x0)] := hl
  generalize hav : ([.int x0] : List Value).toArray = av at hts ⊢
  unfold f_X6_isDigit at h
  refine lv_iload_n hx hb dX6_isDigit_0 rfl (lv_at hl 0 rfl) ?_
  refine lv_bipush (v := (48 : Int32)) hx hb dX6_isDigit_1 (by decide) ?_
  refine lv_icmp_lt (tgt := 16) hx hb dX6_isDigit_3 (by decide) (fun c1 => ?_) (fun c1 => ?_)
  · replace h := ifp c1 h
    refine lv_iconst (v := (0 : Int32)) hx hb dX6_isDigit_16 (by decide) ?_
    cases h
    exact st_zret hx hb hr hlocks hP hD hS rfl dX6_isDigit_17
  · replace h := ifn c1 h
    refine lv_iload_n hx hb dX6_isDigit_6 rfl (lv_at hl 0 rfl) ?_
    refine lv_bipush (v := (57 : Int32)) hx hb dX6_isDigit_7 (by decide) ?_
    refine lv_icmp_gt (tgt := 16) hx hb dX6_isDigit_9 (by decide) (fun c2 => ?_) (fun c2 => ?_)
    · replace h := ifp c2 h
      refine lv_iconst (v := (0 : Int32)) hx hb dX6_isDigit_16 (by decide) ?_
      cases h
      exact st_zret hx hb hr hlocks hP hD hS rfl dX6_isDigit_17
    · replace h := ifn c2 h
      refine lv_iconst (v := (1 : Int32)) hx hb dX6_isDigit_12 (by decide) ?_
      refine lv_goto (tgt := 17) hx hb dX6_isDigit_13 (by decide) ?_
      cases h
      exact st_zret hx hb hr hlocks hP hD hS rfl dX6_isDigit_17
def f_X6_stepOverWord_L0 (n_th_text_bytes : Nat) (th_text_length : Int32) (th_text_bytes : Nat → Int32) (s0 : Int32) : Option ((Int32) ⊕ (Int32)) :=
  (fun th_place => 
    if th_text_length ≤ th_place then
      some (.inl th_place)
    else
      (f_X5_at n_th_text_bytes th_text_length th_text_bytes th_place).bind fun z2_0 =>
      (f_X6_isLetter z2_0).bind fun z3_0 =>
      if z3_0 = (0 : Int32) then
        some (.inl th_place)
      else
        some (.inr (th_place + (1 : Int32)))
  ) s0
def f_X6_stepOverWord_J101 (n_th_text_bytes : Nat) (th_place : Int32) (th_start : Int32) (th_value : Int32) (th_text_length : Int32) (th_text_bytes : Nat → Int32) : Option (Int32 × Int32 × Int32) :=
  if (th_place - th_start) = (2 : Int32) then
    (f_X5_at n_th_text_bytes th_text_length th_text_bytes th_start).bind fun z6_0 =>
    if z6_0 = (105 : Int32) then
      (f_X5_at n_th_text_bytes th_text_length th_text_bytes (th_start + (1 : Int32))).bind fun z8_0 =>
      if z8_0 = (102 : Int32) then
        some (th_place, (2 : Int32), th_value)
      else
        some (th_place, (4 : Int32), th_value)
    else
      some (th_place, (4 : Int32), th_value)
  else
    some (th_place, (4 : Int32), th_value)
def f_X6_stepOverWord (K : Nat) (n_th_text_bytes : Nat) (th_place : Int32) (th_start : Int32) (th_value : Int32) (th_text_length : Int32) (th_text_bytes : Nat → Int32) : Option (Int32 × Int32 × Int32) :=
  if th_text_length ≤ th_place then
    (f_X5_at n_th_text_bytes th_text_length th_text_bytes th_start).bind fun z11_0 =>
    if (th_place - th_start) = (1 : Int32) then
      if (z11_0 - (97 : Int32)) < (0 : Int32) then
        f_X6_stepOverWord_J101 n_th_text_bytes th_place th_start th_value th_text_length th_text_bytes
      else
        if (3 : Int32) ≤ (z11_0 - (97 : Int32)) then
          f_X6_stepOverWord_J101 n_th_text_bytes th_place th_start th_value th_text_length th_text_bytes
        else
          if (z11_0 - (97 : Int32)) < 0 ∨ 3 ≤ (z11_0 - (97 : Int32)).toNatClampNeg then none else
          some (th_place, (1 : Int32), tk_wol (z11_0 - (97 : Int32)).toNatClampNeg)
    else
      f_X6_stepOverWord_J101 n_th_text_bytes th_place th_start th_value th_text_length th_text_bytes
  else
    (f_X5_at n_th_text_bytes th_text_length th_text_bytes th_place).bind fun z16_0 =>
    (f_X6_isLetter z16_0).bind fun z17_0 =>
    if z17_0 = (0 : Int32) then
      (f_X5_at n_th_text_bytes th_text_length th_text_bytes th_start).bind fun z19_0 =>
      if (th_place - th_start) = (1 : Int32) then
        if (z19_0 - (97 : Int32)) < (0 : Int32) then
          f_X6_stepOverWord_J101 n_th_text_bytes th_place th_start th_value th_text_length th_text_bytes
        else
          if (3 : Int32) ≤ (z19_0 - (97 : Int32)) then
            f_X6_stepOverWord_J101 n_th_text_bytes th_place th_start th_value th_text_length th_text_bytes
          else
            if (z19_0 - (97 : Int32)) < 0 ∨ 3 ≤ (z19_0 - (97 : Int32)).toNatClampNeg then none else
            some (th_place, (1 : Int32), tk_wol (z19_0 - (97 : Int32)).toNatClampNeg)
      else
        f_X6_stepOverWord_J101 n_th_text_bytes th_place th_start th_value th_text_length th_text_bytes
    else
      (lp (f_X6_stepOverWord_L0 n_th_text_bytes th_text_length th_text_bytes) K (th_place + (1 : Int32))).bind fun z24_0 =>
      (f_X5_at n_th_text_bytes th_text_length th_text_bytes th_start).bind fun z25_0 =>
      if (z24_0 - th_start) = (1 : Int32) then
        if (z25_0 - (97 : Int32)) < (0 : Int32) then
          f_X6_stepOverWord_J101 n_th_text_bytes z24_0 th_start th_value th_text_length th_text_bytes
        else
          if (3 : Int32) ≤ (z25_0 - (97 : Int32)) then
            f_X6_stepOverWord_J101 n_th_text_bytes z24_0 th_start th_value th_text_length th_text_bytes
          else
            if (z25_0 - (97 : Int32)) < 0 ∨ 3 ≤ (z25_0 - (97 : Int32)).toNatClampNeg then none else
            some (z24_0, (1 : Int32), tk_wol (z25_0 - (97 : Int32)).toNatClampNeg)
      else
        f_X6_stepOverWord_J101 n_th_text_bytes z24_0 th_start th_value th_text_length th_text_bytes
abbrev w_X6_stepOverWord (tc : Nat → ClassId) (q_th : Nat) (q_th_text : Nat) (q_th_text_bytes : Nat) (n_th_text_bytes : Nat) (th_place : Int32) (th_start : Int32) (th_kind : Int32) (th_value : Int32) (th_text_length : Int32) (th_text_bytes : Nat → Int32) : va_W := [(q_th, .inr (6, [.ref q_th_text, .int th_place, .int th_start, .int th_kind, .int th_value])), (q_th_text, .inr (5, [.ref q_th_text_bytes, .int th_text_length])), (q_th_text_bytes, .inl (tc 0, n_th_text_bytes, .inl th_text_bytes))]
set_option maxHeartbeats 4000000 in
set_option maxRecDepth 100000 in
theorem s_X6_stepOverWord {l : Launch} (t0 aK aV : Nat) {D : va_G} {tc : Nat → ClassId} (q_th : Nat) (q_th_text : Nat) (q_th_text_bytes : Nat) (n_th_text_bytes : Nat) (th_place : Int32) (th_start : Int32) (th_kind : Int32) (th_value : Int32) (th_text_length : Int32) (th_text_bytes : Nat → Int32) (K : Nat) (th_place' : Int32) (th_kind' : Int32) (th_value' : Int32) (h : f_X6_stepOverWord K n_th_text_bytes th_place th_start th_value th_text_length th_text_bytes = some (th_place', th_kind', th_value')) : st l yX6_stepOverWord wsX6_stepOverWord ({ frames := 1, cells := 0, slots := 0, locals := 21 }) (tk_E t0 aK aV) D tc [.ref q_th] (w_X6_stepOverWord tc q_th q_th_text q_th_text_bytes n_th_text_bytes th_place th_start th_kind th_value th_text_length th_text_bytes) none (w_X6_stepOverWord tc q_th q_th_text q_th_text_bytes n_th_text_bytes th_place' th_start th_kind' th_value' th_text_length th_text_bytes) := by
  have hEok : st_Eok (tk_E t0 aK aV) := tk_ok t0 aK aV
  refine st_enter (cc := cX6_stepOverWord) (maxL := 2) (ret := none) (by decide) rfl (Nat.le_of_ble_eq_true rfl) ?_
  intro p e s m below meth c A ls hx hb hr hml hts hown hlocks hK hN hE hA hP hD hS hl
  have hl : lv_has ls 2 [(0, .ref q_th)] := hl
  have hinX5 : ∀ w ∈ wsX50, w ∈ wsX6_stepOverWord := by decide +kernel
  have hinX6 : ∀ w ∈ wsX60, w ∈ wsX6_stepOverWord := by decide +kernel
  generalize hav : ([.ref q_th] : List Value).toArray = av at hts ⊢
  have L0 : ∀ (th_kind : Int32) (th_value : Int32), ∀ (k : Nat) (s0 : Int32) (r : Int32), lp (f_X6_stepOverWord_L0 n_th_text_bytes th_text_length th_text_bytes) k s0 = some r → (fun th_place : Int32 => ∀ (H : Heap) (locs : List Loc) (ls : Array Slot), va_P D vwCl (w_X6_stepOverWord tc q_th q_th_text q_th_text_bytes n_th_text_bytes th_place th_start th_kind th_value th_text_length th_text_bytes) H → va_D A (w_X6_stepOverWord tc q_th q_th_text q_th_text_bytes n_th_text_bytes th_place th_start th_kind th_value th_text_length th_text_bytes) → va_S A s.heap H locs → lv_has ls 2 [(0, .ref q_th)] → W p l e ({ frames := 1, cells := 0, slots := 0, locals := 21 } : Room) s m av below meth c H locs 0 0 (MQ below (st_Q D (w_X6_stepOverWord tc q_th q_th_text q_th_text_bytes n_th_text_bytes th_place' th_start th_kind' th_value' th_text_length th_text_bytes) none A) av s 0 0 A) (F0 m 44 ls [])) r → (fun th_place : Int32 => ∀ (H : Heap) (locs : List Loc) (ls : Array Slot), va_P D vwCl (w_X6_stepOverWord tc q_th q_th_text q_th_text_bytes n_th_text_bytes th_place th_start th_kind th_value th_text_length th_text_bytes) H → va_D A (w_X6_stepOverWord tc q_th q_th_text q_th_text_bytes n_th_text_bytes th_place th_start th_kind th_value th_text_length th_text_bytes) → va_S A s.heap H locs → lv_has ls 2 [(0, .ref q_th)] → W p l e ({ frames := 1, cells := 0, slots := 0, locals := 21 } : Room) s m av below meth c H locs 0 0 (MQ below (st_Q D (w_X6_stepOverWord tc q_th q_th_text q_th_text_bytes n_th_text_bytes th_place' th_start th_kind' th_value' th_text_length th_text_bytes) none A) av s 0 0 A) (F0 m 0 ls [])) s0 := by
    intro th_kind th_value
    refine lp_W (f_X6_stepOverWord_L0 n_th_text_bytes th_text_length th_text_bytes) (fun th_place : Int32 => ∀ (H : Heap) (locs : List Loc) (ls : Array Slot), va_P D vwCl (w_X6_stepOverWord tc q_th q_th_text q_th_text_bytes n_th_text_bytes th_place th_start th_kind th_value th_text_length th_text_bytes) H → va_D A (w_X6_stepOverWord tc q_th q_th_text q_th_text_bytes n_th_text_bytes th_place th_start th_kind th_value th_text_length th_text_bytes) → va_S A s.heap H locs → lv_has ls 2 [(0, .ref q_th)] → W p l e ({ frames := 1, cells := 0, slots := 0, locals := 21 } : Room) s m av below meth c H locs 0 0 (MQ below (st_Q D (w_X6_stepOverWord tc q_th q_th_text q_th_text_bytes n_th_text_bytes th_place' th_start th_kind' th_value' th_text_length th_text_bytes) none A) av s 0 0 A) (F0 m 0 ls [])) (fun th_place : Int32 => ∀ (H : Heap) (locs : List Loc) (ls : Array Slot), va_P D vwCl (w_X6_stepOverWord tc q_th q_th_text q_th_text_bytes n_th_text_bytes th_place th_start th_kind th_value th_text_length th_text_bytes) H → va_D A (w_X6_stepOverWord tc q_th q_th_text q_th_text_bytes n_th_text_bytes th_place th_start th_kind th_value th_text_length th_text_bytes) → va_S A s.heap H locs → lv_has ls 2 [(0, .ref q_th)] → W p l e ({ frames := 1, cells := 0, slots := 0, locals := 21 } : Room) s m av below meth c H locs 0 0 (MQ below (st_Q D (w_X6_stepOverWord tc q_th q_th_text q_th_text_bytes n_th_text_bytes th_place' th_start th_kind' th_value' th_text_length th_text_bytes) none A) av s 0 0 A) (F0 m 44 ls [])) ?_
    rintro th_place o h ih hz H locs ls hP hD hS hl
    unfold f_X6_stepOverWord_L0 at h
    refine lv_aload_n hx hb dX6_stepOverWord_0 rfl (lv_at hl 0 rfl) ?_
    refine va_get (D := D) (ci := 6) (v := .int th_place) (C := RX6) (T := TX6) (N := 5) hx hb hts hinX6 hown hK hP 0 rfl rfl 1 (by decide) (hts (.fieldLink RX6 13 "ChanceBounds$Tokens" "place" "I") (by decide +kernel)) (fun _ h9 => h9) rfl dX6_stepOverWord_1 ?_
    refine lv_aload_n hx hb dX6_stepOverWord_4 rfl (lv_at hl 0 rfl) ?_
    refine va_get (D := D) (ci := 6) (v := .ref q_th_text) (C := RX6) (T := TX6) (N := 5) hx hb hts hinX6 hown hK hP 0 rfl rfl 0 (by decide) (hts (.fieldLink RX6 7 "ChanceBounds$Tokens" "text" "LChanceBounds$Text;") (by decide +kernel)) (fun _ h9 => h9) rfl dX6_stepOverWord_5 ?_
    refine va_getN (D := D) (ci := 5) (v := .int th_text_length) (C := RX5) (T := TX5) (N := 2) hx hb hts hinX5 hown hK hP 1 rfl rfl 1 (by decide) (va_Nw.use rfl (hN (.fieldLinkNest RX6 20 "ChanceBounds$Text" "length" "I" "ChanceBounds") (by decide +kernel))) (fun _ h9 => h9) rfl dX6_stepOverWord_8 ?_
    refine lv_icmp_ge (tgt := 44) hx hb dX6_stepOverWord_11 (by decide) (fun c1 => ?_) (fun c1 => ?_)
    · replace h := ifp c1 h
      cases h
      exact hz _ rfl _ _ _ hP hD hS (lv_sub hl [0] rfl)
    · replace h := ifn c1 h
      refine lv_aload_n hx hb dX6_stepOverWord_14 rfl (lv_at hl 0 rfl) ?_
      refine va_get (D := D) (ci := 6) (v := .ref q_th_text) (C := RX6) (T := TX6) (N := 5) hx hb hts hinX6 hown hK hP 0 rfl rfl 0 (by decide) (hts (.fieldLink RX6 7 "ChanceBounds$Tokens" "text" "LChanceBounds$Text;") (by decide +kernel)) (fun _ h9 => h9) rfl dX6_stepOverWord_15 ?_
      refine lv_aload_n hx hb dX6_stepOverWord_18 rfl (lv_at hl 0 rfl) ?_
      refine va_get (D := D) (ci := 6) (v := .int th_place) (C := RX6) (T := TX6) (N := 5) hx hb hts hinX6 hown hK hP 0 rfl rfl 1 (by decide) (hts (.fieldLink RX6 13 "ChanceBounds$Tokens" "place" "I") (by decide +kernel)) (fun _ h9 => h9) rfl dX6_stepOverWord_19 ?_
      obtain ⟨z2_0, hc2, h⟩ := bd_ok h
      refine st_callV (As := [.int th_place]) (rest := []) (pos := [1, 2]) ⟨hx, hb, hml, hown, hts⟩ (s_X5_at (l := l) (D := D) (tc := tc) hEok q_th_text q_th_text_bytes n_th_text_bytes th_text_length th_text_bytes th_place z2_0 hc2) (cwV 1 hts gX6_stepOverWord_X5_at rfl rfl rfl (by decide +kernel) ⟨Nat.le_of_ble_eq_true rfl, Nat.le_of_ble_eq_true rfl⟩) (st_recv (ci := 5) (q0 := 1) hK hP rfl rfl) hEok hE hK hN hP hD hS hA rfl rfl rfl rfl hl.1 rfl (Nat.le_of_ble_eq_true rfl) dX6_stepOverWord_22 ⟨Nat.zero_le _, Nat.zero_le _⟩ (fun H locs hP hD hS => ?_)
      have hP : va_P D vwCl (w_X6_stepOverWord tc q_th q_th_text q_th_text_bytes n_th_text_bytes th_place th_start th_kind th_value th_text_length th_text_bytes) H := hP
      have hD : va_D A (w_X6_stepOverWord tc q_th q_th_text q_th_text_bytes n_th_text_bytes th_place th_start th_kind th_value th_text_length th_text_bytes) := hD
      obtain ⟨z3_0, hc3, h⟩ := bd_ok h
      refine st_callS (As := [.int z2_0]) (rest := []) (pos := []) ⟨hx, hb, hml, hown, hts⟩ (s_X6_isLetter (l := l) (D := D) (tc := tc) hEok z2_0 z3_0 hc3) (va_cwS 1 hts gX6_stepOverWord_X6_isLetter rfl rfl rfl (by decide +kernel) ⟨Nat.le_of_ble_eq_true rfl, Nat.le_of_ble_eq_true rfl⟩) hEok hE hK hN hP hD hS hA rfl rfl rfl rfl hl.1 rfl (Nat.le_of_ble_eq_true rfl) dX6_stepOverWord_25 ⟨Nat.zero_le _, Nat.zero_le _⟩ (fun H locs hP hD hS => ?_)
      have hP : va_P D vwCl (w_X6_stepOverWord tc q_th q_th_text q_th_text_bytes n_th_text_bytes th_place th_start th_kind th_value th_text_length th_text_bytes) H := hP
      have hD : va_D A (w_X6_stepOverWord tc q_th q_th_text q_th_text_bytes n_th_text_bytes th_place th_start th_kind th_value th_text_length th_text_bytes) := hD
      refine lv_if_eq (tgt := 44) hx hb dX6_stepOverWord_28 (by decide) (fun c4 => ?_) (fun c4 => ?_)
      · replace h := ifp c4 h
        cases h
        exact hz _ rfl _ _ _ hP hD hS (lv_sub hl [0] rfl)
      · replace h := ifn c4 h
        refine lv_aload_n hx hb dX6_stepOverWord_31 rfl (lv_at hl 0 rfl) ?_
        refine lv_dup hx hb dX6_stepOverWord_32 rfl ?_
        refine va_get (D := D) (ci := 6) (v := .int th_place) (C := RX6) (T := TX6) (N := 5) hx hb hts hinX6 hown hK hP 0 rfl rfl 1 (by decide) (hts (.fieldLink RX6 13 "ChanceBounds$Tokens" "place" "I") (by decide +kernel)) (fun _ h9 => h9) rfl dX6_stepOverWord_33 ?_
        refine lv_iconst (v := (1 : Int32)) hx hb dX6_stepOverWord_36 (by decide) ?_
        refine lv_iadd hx hb dX6_stepOverWord_37 ?_
        refine va_put (D := D) (ci := 6) (v := .int (th_place + (1 : Int32))) (ty := .int) (C := RX6) (T := TX6) (N := 5) hx hb hts hinX6 tyX6 tyX6_ok nmX6 hown hK hP hD hS 0 rfl rfl 1 (by decide) (hts (.fieldLink RX6 13 "ChanceBounds$Tokens" "place" "I") (by decide +kernel)) (fun _ h9 => h9) rfl (by decide +kernel) rfl rfl (Nat.le_of_ble_eq_true rfl) dX6_stepOverWord_38 (fun H locs hP hD hS => ?_)
        have hP : va_P D vwCl (w_X6_stepOverWord tc q_th q_th_text q_th_text_bytes n_th_text_bytes (th_place + (1 : Int32)) th_start th_kind th_value th_text_length th_text_bytes) H := hP
        have hD : va_D A (w_X6_stepOverWord tc q_th q_th_text q_th_text_bytes n_th_text_bytes (th_place + (1 : Int32)) th_start th_kind th_value th_text_length th_text_bytes) := hD
        refine lv_goto (tgt := 0) hx hb dX6_stepOverWord_41 (by decide) ?_
        cases h
        exact ih _ rfl _ _ _ hP hD hS (lv_sub hl [0] rfl)
  have J101 : ∀ (th_place : Int32) (th_kind : Int32) (th_value : Int32) (H : Heap) (locs : List Loc) (ls : Array Slot), f_X6_stepOverWord_J101 n_th_text_bytes th_place th_start th_value th_text_length th_text_bytes = some (th_place', th_kind', th_value') → va_P D vwCl (w_X6_stepOverWord tc q_th q_th_text q_th_text_bytes n_th_text_bytes th_place th_start th_kind th_value th_text_length th_text_bytes) H → va_D A (w_X6_stepOverWord tc q_th q_th_text q_th_text_bytes n_th_text_bytes th_place th_start th_kind th_value th_text_length th_text_bytes) → va_S A s.heap H locs → lv_has ls 2 [(0, .ref q_th)] → W p l e ({ frames := 1, cells := 0, slots := 0, locals := 21 } : Room) s m av below meth c H locs 0 0 (MQ below (st_Q D (w_X6_stepOverWord tc q_th q_th_text q_th_text_bytes n_th_text_bytes th_place' th_start th_kind' th_value' th_text_length th_text_bytes) none A) av s 0 0 A) (F0 m 101 ls []) := by
    intro th_place th_kind th_value H locs ls h hP hD hS hl
    unfold f_X6_stepOverWord_J101 at h
    refine lv_aload_n hx hb dX6_stepOverWord_101 rfl (lv_at hl 0 rfl) ?_
    refine va_get (D := D) (ci := 6) (v := .int th_place) (C := RX6) (T := TX6) (N := 5) hx hb hts hinX6 hown hK hP 0 rfl rfl 1 (by decide) (hts (.fieldLink RX6 13 "ChanceBounds$Tokens" "place" "I") (by decide +kernel)) (fun _ h9 => h9) rfl dX6_stepOverWord_102 ?_
    refine lv_aload_n hx hb dX6_stepOverWord_105 rfl (lv_at hl 0 rfl) ?_
    refine va_get (D := D) (ci := 6) (v := .int th_start) (C := RX6) (T := TX6) (N := 5) hx hb hts hinX6 hown hK hP 0 rfl rfl 2 (by decide) (hts (.fieldLink RX6 29 "ChanceBounds$Tokens" "start" "I") (by decide +kernel)) (fun _ h9 => h9) rfl dX6_stepOverWord_106 ?_
    refine lv_isub hx hb dX6_stepOverWord_109 ?_
    refine lv_iconst (v := (2 : Int32)) hx hb dX6_stepOverWord_110 (by decide) ?_
    refine lv_icmp_ne (tgt := 156) hx hb dX6_stepOverWord_111 (by decide) (fun c5 => ?_) (fun c5 => ?_)
    · replace h := ifn c5 h
      refine lv_aload_n hx hb dX6_stepOverWord_156 rfl (lv_at hl 0 rfl) ?_
      refine lv_iconst (v := (4 : Int32)) hx hb dX6_stepOverWord_157 (by decide) ?_
      refine va_put (D := D) (ci := 6) (v := .int (4 : Int32)) (ty := .int) (C := RX6) (T := TX6) (N := 5) hx hb hts hinX6 tyX6 tyX6_ok nmX6 hown hK hP hD hS 0 rfl rfl 3 (by decide) (hts (.fieldLink RX6 32 "ChanceBounds$Tokens" "kind" "I") (by decide +kernel)) (fun _ h9 => h9) rfl (by decide +kernel) rfl rfl (Nat.le_of_ble_eq_true rfl) dX6_stepOverWord_158 (fun H locs hP hD hS => ?_)
      have hP : va_P D vwCl (w_X6_stepOverWord tc q_th q_th_text q_th_text_bytes n_th_text_bytes th_place th_start (4 : Int32) th_value th_text_length th_text_bytes) H := hP
      have hD : va_D A (w_X6_stepOverWord tc q_th q_th_text q_th_text_bytes n_th_text_bytes th_place th_start (4 : Int32) th_value th_text_length th_text_bytes) := hD
      cases h
      exact st_vret hx hb hr hlocks hP hD hS dX6_stepOverWord_161
    · replace h := ifp c5 h
      refine lv_aload_n hx hb dX6_stepOverWord_114 rfl (lv_at hl 0 rfl) ?_
      refine va_get (D := D) (ci := 6) (v := .ref q_th_text) (C := RX6) (T := TX6) (N := 5) hx hb hts hinX6 hown hK hP 0 rfl rfl 0 (by decide) (hts (.fieldLink RX6 7 "ChanceBounds$Tokens" "text" "LChanceBounds$Text;") (by decide +kernel)) (fun _ h9 => h9) rfl dX6_stepOverWord_115 ?_
      refine lv_aload_n hx hb dX6_stepOverWord_118 rfl (lv_at hl 0 rfl) ?_
      refine va_get (D := D) (ci := 6) (v := .int th_start) (C := RX6) (T := TX6) (N := 5) hx hb hts hinX6 hown hK hP 0 rfl rfl 2 (by decide) (hts (.fieldLink RX6 29 "ChanceBounds$Tokens" "start" "I") (by decide +kernel)) (fun _ h9 => h9) rfl dX6_stepOverWord_119 ?_
      obtain ⟨z6_0, hc6, h⟩ := bd_ok h
      refine st_callV (As := [.int th_start]) (rest := []) (pos := [1, 2]) ⟨hx, hb, hml, hown, hts⟩ (s_X5_at (l := l) (D := D) (tc := tc) hEok q_th_text q_th_text_bytes n_th_text_bytes th_text_length th_text_bytes th_start z6_0 hc6) (cwV 1 hts gX6_stepOverWord_X5_at rfl rfl rfl (by decide +kernel) ⟨Nat.le_of_ble_eq_true rfl, Nat.le_of_ble_eq_true rfl⟩) (st_recv (ci := 5) (q0 := 1) hK hP rfl rfl) hEok hE hK hN hP hD hS hA rfl rfl rfl rfl hl.1 rfl (Nat.le_of_ble_eq_true rfl) dX6_stepOverWord_122 ⟨Nat.zero_le _, Nat.zero_le _⟩ (fun H locs hP hD hS => ?_)
      have hP : va_P D vwCl (w_X6_stepOverWord tc q_th q_th_text q_th_text_bytes n_th_text_bytes th_place th_start th_kind th_value th_text_length th_text_bytes) H := hP
      have hD : va_D A (w_X6_stepOverWord tc q_th q_th_text q_th_text_bytes n_th_text_bytes th_place th_start th_kind th_value th_text_length th_text_bytes) := hD
      refine lv_bipush (v := (105 : Int32)) hx hb dX6_stepOverWord_125 (by decide) ?_
      refine lv_icmp_ne (tgt := 156) hx hb dX6_stepOverWord_127 (by decide) (fun c7 => ?_) (fun c7 => ?_)
      · replace h := ifn c7 h
        refine lv_aload_n hx hb dX6_stepOverWord_156 rfl (lv_at hl 0 rfl) ?_
        refine lv_iconst (v := (4 : Int32)) hx hb dX6_stepOverWord_157 (by decide) ?_
        refine va_put (D := D) (ci := 6) (v := .int (4 : Int32)) (ty := .int) (C := RX6) (T := TX6) (N := 5) hx hb hts hinX6 tyX6 tyX6_ok nmX6 hown hK hP hD hS 0 rfl rfl 3 (by decide) (hts (.fieldLink RX6 32 "ChanceBounds$Tokens" "kind" "I") (by decide +kernel)) (fun _ h9 => h9) rfl (by decide +kernel) rfl rfl (Nat.le_of_ble_eq_true rfl) dX6_stepOverWord_158 (fun H locs hP hD hS => ?_)
        have hP : va_P D vwCl (w_X6_stepOverWord tc q_th q_th_text q_th_text_bytes n_th_text_bytes th_place th_start (4 : Int32) th_value th_text_length th_text_bytes) H := hP
        have hD : va_D A (w_X6_stepOverWord tc q_th q_th_text q_th_text_bytes n_th_text_bytes th_place th_start (4 : Int32) th_value th_text_length th_text_bytes) := hD
        cases h
        exact st_vret hx hb hr hlocks hP hD hS dX6_stepOverWord_161
      · replace h := ifp c7 h
        refine lv_aload_n hx hb dX6_stepOverWord_130 rfl (lv_at hl 0 rfl) ?_
        refine va_get (D := D) (ci := 6) (v := .ref q_th_text) (C := RX6) (T := TX6) (N := 5) hx hb hts hinX6 hown hK hP 0 rfl rfl 0 (by decide) (hts (.fieldLink RX6 7 "ChanceBounds$Tokens" "text" "LChanceBounds$Text;") (by decide +kernel)) (fun _ h9 => h9) rfl dX6_stepOverWord_131 ?_
        refine lv_aload_n hx hb dX6_stepOverWord_134 rfl (lv_at hl 0 rfl) ?_
        refine va_get (D := D) (ci := 6) (v := .int th_start) (C := RX6) (T := TX6) (N := 5) hx hb hts hinX6 hown hK hP 0 rfl rfl 2 (by decide) (hts (.fieldLink RX6 29 "ChanceBounds$Tokens" "start" "I") (by decide +kernel)) (fun _ h9 => h9) rfl dX6_stepOverWord_135 ?_
        refine lv_iconst (v := (1 : Int32)) hx hb dX6_stepOverWord_138 (by decide) ?_
        refine lv_iadd hx hb dX6_stepOverWord_139 ?_
        obtain ⟨z8_0, hc8, h⟩ := bd_ok h
        refine st_callV (As := [.int (th_start + (1 : Int32))]) (rest := []) (pos := [1, 2]) ⟨hx, hb, hml, hown, hts⟩ (s_X5_at (l := l) (D := D) (tc := tc) hEok q_th_text q_th_text_bytes n_th_text_bytes th_text_length th_text_bytes (th_start + (1 : Int32)) z8_0 hc8) (cwV 1 hts gX6_stepOverWord_X5_at rfl rfl rfl (by decide +kernel) ⟨Nat.le_of_ble_eq_true rfl, Nat.le_of_ble_eq_true rfl⟩) (st_recv (ci := 5) (q0 := 1) hK hP rfl rfl) hEok hE hK hN hP hD hS hA rfl rfl rfl rfl hl.1 rfl (Nat.le_of_ble_eq_true rfl) dX6_stepOverWord_140 ⟨Nat.zero_le _, Nat.zero_le _⟩ (fun H locs hP hD hS => ?_)
        have hP : va_P D vwCl (w_X6_stepOverWord tc q_th q_th_text q_th_text_bytes n_th_text_bytes th_place th_start th_kind th_value th_text_length th_text_bytes) H := hP
        have hD : va_D A (w_X6_stepOverWord tc q_th q_th_text q_th_text_bytes n_th_text_bytes th_place th_start th_kind th_value th_text_length th_text_bytes) := hD
        refine lv_bipush (v := (102 : Int32)) hx hb dX6_stepOverWord_143 (by decide) ?_
        refine lv_icmp_ne (tgt := 156) hx hb dX6_stepOverWord_145 (by decide) (fun c9 => ?_) (fun c9 => ?_)
        · replace h := ifn c9 h
          refine lv_aload_n hx hb dX6_stepOverWord_156 rfl (lv_at hl 0 rfl) ?_
          refine lv_iconst (v := (4 : Int32)) hx hb dX6_stepOverWord_157 (by decide) ?_
          refine va_put (D := D) (ci := 6) (v := .int (4 : Int32)) (ty := .int) (C := RX6) (T := TX6) (N := 5) hx hb hts hinX6 tyX6 tyX6_ok nmX6 hown hK hP hD hS 0 rfl rfl 3 (by decide) (hts (.fieldLink RX6 32 "ChanceBounds$Tokens" "kind" "I") (by decide +kernel)) (fun _ h9 => h9) rfl (by decide +kernel) rfl rfl (Nat.le_of_ble_eq_true rfl) dX6_stepOverWord_158 (fun H locs hP hD hS => ?_)
          have hP : va_P D vwCl (w_X6_stepOverWord tc q_th q_th_text q_th_text_bytes n_th_text_bytes th_place th_start (4 : Int32) th_value th_text_length th_text_bytes) H := hP
          have hD : va_D A (w_X6_stepOverWord tc q_th q_th_text q_th_text_bytes n_th_text_bytes th_place th_start (4 : Int32) th_value th_text_length th_text_bytes) := hD
          cases h
          exact st_vret hx hb hr hlocks hP hD hS dX6_stepOverWord_161
        · replace h := ifp c9 h
          refine lv_aload_n hx hb dX6_stepOverWord_148 rfl (lv_at hl 0 rfl) ?_
          refine lv_iconst (v := (2 : Int32)) hx hb dX6_stepOverWord_149 (by decide) ?_
          refine va_put (D := D) (ci := 6) (v := .int (2 : Int32)) (ty := .int) (C := RX6) (T := TX6) (N := 5) hx hb hts hinX6 tyX6 tyX6_ok nmX6 hown hK hP hD hS 0 rfl rfl 3 (by decide) (hts (.fieldLink RX6 32 "ChanceBounds$Tokens" "kind" "I") (by decide +kernel)) (fun _ h9 => h9) rfl (by decide +kernel) rfl rfl (Nat.le_of_ble_eq_true rfl) dX6_stepOverWord_150 (fun H locs hP hD hS => ?_)
          have hP : va_P D vwCl (w_X6_stepOverWord tc q_th q_th_text q_th_text_bytes n_th_text_bytes th_place th_start (2 : Int32) th_value th_text_length th_text_bytes) H := hP
          have hD : va_D A (w_X6_stepOverWord tc q_th q_th_text q_th_text_bytes n_th_text_bytes th_place th_start (2 : Int32) th_value th_text_length th_text_bytes) := hD
          refine lv_goto (tgt := 161) hx hb dX6_stepOverWord_153 (by decide) ?_
          cases h
          exact st_vret hx hb hr hlocks hP hD hS dX6_stepOverWord_161
  unfold f_X6_stepOverWord at h
  refine lv_aload_n hx hb dX6_stepOverWord_0 rfl (lv_at hl 0 rfl) ?_
  refine va_get (D := D) (ci := 6) (v := .int th_place) (C := RX6) (T := TX6) (N := 5) hx hb hts hinX6 hown hK hP 0 rfl rfl 1 (by decide) (hts (.fieldLink RX6 13 "ChanceBounds$Tokens" "place" "I") (by decide +kernel)) (fun _ h9 => h9) rfl dX6_stepOverWord_1 ?_
  refine lv_aload_n hx hb dX6_stepOverWord_4 rfl (lv_at hl 0 rfl) ?_
  refine va_get (D := D) (ci := 6) (v := .ref q_th_text) (C := RX6) (T := TX6) (N := 5) hx hb hts hinX6 hown hK hP 0 rfl rfl 0 (by decide) (hts (.fieldLink RX6 7 "ChanceBounds$Tokens" "text" "LChanceBounds$Text;") (by decide +kernel)) (fun _ h9 => h9) rfl dX6_stepOverWord_5 ?_
  refine va_getN (D := D) (ci := 5) (v := .int th_text_length) (C := RX5) (T := TX5) (N := 2) hx hb hts hinX5 hown hK hP 1 rfl rfl 1 (by decide) (va_Nw.use rfl (hN (.fieldLinkNest RX6 20 "ChanceBounds$Text" "length" "I" "ChanceBounds") (by decide +kernel))) (fun _ h9 => h9) rfl dX6_stepOverWord_8 ?_
  refine lv_icmp_ge (tgt := 44) hx hb dX6_stepOverWord_11 (by decide) (fun c10 => ?_) (fun c10 => ?_)
  · replace h := ifp c10 h
    refine lv_aload_n hx hb dX6_stepOverWord_44 rfl (lv_at hl 0 rfl) ?_
    refine va_get (D := D) (ci := 6) (v := .ref q_th_text) (C := RX6) (T := TX6) (N := 5) hx hb hts hinX6 hown hK hP 0 rfl rfl 0 (by decide) (hts (.fieldLink RX6 7 "ChanceBounds$Tokens" "text" "LChanceBounds$Text;") (by decide +kernel)) (fun _ h9 => h9) rfl dX6_stepOverWord_45 ?_
    refine lv_aload_n hx hb dX6_stepOverWord_48 rfl (lv_at hl 0 rfl) ?_
    refine va_get (D := D) (ci := 6) (v := .int th_start) (C := RX6) (T := TX6) (N := 5) hx hb hts hinX6 hown hK hP 0 rfl rfl 2 (by decide) (hts (.fieldLink RX6 29 "ChanceBounds$Tokens" "start" "I") (by decide +kernel)) (fun _ h9 => h9) rfl dX6_stepOverWord_49 ?_
    obtain ⟨z11_0, hc11, h⟩ := bd_ok h
    refine st_callV (As := [.int th_start]) (rest := []) (pos := [1, 2]) ⟨hx, hb, hml, hown, hts⟩ (s_X5_at (l := l) (D := D) (tc := tc) hEok q_th_text q_th_text_bytes n_th_text_bytes th_text_length th_text_bytes th_start z11_0 hc11) (cwV 1 hts gX6_stepOverWord_X5_at rfl rfl rfl (by decide +kernel) ⟨Nat.le_of_ble_eq_true rfl, Nat.le_of_ble_eq_true rfl⟩) (st_recv (ci := 5) (q0 := 1) hK hP rfl rfl) hEok hE hK hN hP hD hS hA rfl rfl rfl rfl hl.1 rfl (Nat.le_of_ble_eq_true rfl) dX6_stepOverWord_52 ⟨Nat.zero_le _, Nat.zero_le _⟩ (fun H locs hP hD hS => ?_)
    have hP : va_P D vwCl (w_X6_stepOverWord tc q_th q_th_text q_th_text_bytes n_th_text_bytes th_place th_start th_kind th_value th_text_length th_text_bytes) H := hP
    have hD : va_D A (w_X6_stepOverWord tc q_th q_th_text q_th_text_bytes n_th_text_bytes th_place th_start th_kind th_value th_text_length th_text_bytes) := hD
    refine lv_bipush (v := (97 : Int32)) hx hb dX6_stepOverWord_55 (by decide) ?_
    refine lv_isub hx hb dX6_stepOverWord_57 ?_
    refine lv_istore_n (lv' := [(1, .int (z11_0 - (97 : Int32))), (0, .ref q_th)]) hx hb dX6_stepOverWord_58 rfl hl (by decide) rfl (fun ls hl => ?_)
    refine lv_aload_n hx hb dX6_stepOverWord_59 rfl (lv_at hl 1 rfl) ?_
    refine va_get (D := D) (ci := 6) (v := .int th_place) (C := RX6) (T := TX6) (N := 5) hx hb hts hinX6 hown hK hP 0 rfl rfl 1 (by decide) (hts (.fieldLink RX6 13 "ChanceBounds$Tokens" "place" "I") (by decide +kernel)) (fun _ h9 => h9) rfl dX6_stepOverWord_60 ?_
    refine lv_aload_n hx hb dX6_stepOverWord_63 rfl (lv_at hl 1 rfl) ?_
    refine va_get (D := D) (ci := 6) (v := .int th_start) (C := RX6) (T := TX6) (N := 5) hx hb hts hinX6 hown hK hP 0 rfl rfl 2 (by decide) (hts (.fieldLink RX6 29 "ChanceBounds$Tokens" "start" "I") (by decide +kernel)) (fun _ h9 => h9) rfl dX6_stepOverWord_64 ?_
    refine lv_isub hx hb dX6_stepOverWord_67 ?_
    refine lv_iconst (v := (1 : Int32)) hx hb dX6_stepOverWord_68 (by decide) ?_
    refine lv_icmp_ne (tgt := 101) hx hb dX6_stepOverWord_69 (by decide) (fun c12 => ?_) (fun c12 => ?_)
    · replace h := ifn c12 h
      exact J101 th_place th_kind th_value _ _ _ h hP hD hS (lv_sub hl [1] rfl)
    · replace h := ifp c12 h
      refine lv_iload_n hx hb dX6_stepOverWord_72 rfl (lv_at hl 0 rfl) ?_
      refine lv_if_lt (tgt := 101) hx hb dX6_stepOverWord_73 (by decide) (fun c13 => ?_) (fun c13 => ?_)
      · replace h := ifp c13 h
        exact J101 th_place th_kind th_value _ _ _ h hP hD hS (lv_sub hl [1] rfl)
      · replace h := ifn c13 h
        refine lv_iload_n hx hb dX6_stepOverWord_76 rfl (lv_at hl 0 rfl) ?_
        refine va_gets hx hb hE.1 hS hown (hts (.fieldLink RX6 55 "ChanceBounds$Tokens" "WORLDS_OF_LETTER" "[I") (by decide +kernel)) (fun _ h9 => h9) dX6_stepOverWord_77 ?_
        refine va_tlen (v := (3 : Int32)) hx hb hE.2.1 hS rfl dX6_stepOverWord_80 ?_
        refine lv_icmp_ge (tgt := 101) hx hb dX6_stepOverWord_81 (by decide) (fun c14 => ?_) (fun c14 => ?_)
        · replace h := ifp c14 h
          exact J101 th_place th_kind th_value _ _ _ h hP hD hS (lv_sub hl [1] rfl)
        · replace h := ifn c14 h
          refine lv_aload_n hx hb dX6_stepOverWord_84 rfl (lv_at hl 1 rfl) ?_
          refine lv_iconst (v := (1 : Int32)) hx hb dX6_stepOverWord_85 (by decide) ?_
          refine va_put (D := D) (ci := 6) (v := .int (1 : Int32)) (ty := .int) (C := RX6) (T := TX6) (N := 5) hx hb hts hinX6 tyX6 tyX6_ok nmX6 hown hK hP hD hS 0 rfl rfl 3 (by decide) (hts (.fieldLink RX6 32 "ChanceBounds$Tokens" "kind" "I") (by decide +kernel)) (fun _ h9 => h9) rfl (by decide +kernel) rfl rfl (Nat.le_of_ble_eq_true rfl) dX6_stepOverWord_86 (fun H locs hP hD hS => ?_)
          have hP : va_P D vwCl (w_X6_stepOverWord tc q_th q_th_text q_th_text_bytes n_th_text_bytes th_place th_start (1 : Int32) th_value th_text_length th_text_bytes) H := hP
          have hD : va_D A (w_X6_stepOverWord tc q_th q_th_text q_th_text_bytes n_th_text_bytes th_place th_start (1 : Int32) th_value th_text_length th_text_bytes) := hD
          refine lv_aload_n hx hb dX6_stepOverWord_89 rfl (lv_at hl 1 rfl) ?_
          refine va_gets hx hb hE.1 hS hown (hts (.fieldLink RX6 55 "ChanceBounds$Tokens" "WORLDS_OF_LETTER" "[I") (by decide +kernel)) (fun _ h9 => h9) dX6_stepOverWord_90 ?_
          refine lv_iload_n hx hb dX6_stepOverWord_93 rfl (lv_at hl 0 rfl) ?_
          obtain ⟨g15, h⟩ := gd_ok h
          refine va_ti hx hb hE.2.1 hS g15 rfl dX6_stepOverWord_94 ?_
          refine va_put (D := D) (ci := 6) (v := .int (tk_wol (z11_0 - (97 : Int32)).toNatClampNeg)) (ty := .int) (C := RX6) (T := TX6) (N := 5) hx hb hts hinX6 tyX6 tyX6_ok nmX6 hown hK hP hD hS 0 rfl rfl 4 (by decide) (hts (.fieldLink RX6 59 "ChanceBounds$Tokens" "value" "I") (by decide +kernel)) (fun _ h9 => h9) rfl (by decide +kernel) rfl rfl (Nat.le_of_ble_eq_true rfl) dX6_stepOverWord_95 (fun H locs hP hD hS => ?_)
          have hP : va_P D vwCl (w_X6_stepOverWord tc q_th q_th_text q_th_text_bytes n_th_text_bytes th_place th_start (1 : Int32) (tk_wol (z11_0 - (97 : Int32)).toNatClampNeg) th_text_length th_text_bytes) H := hP
          have hD : va_D A (w_X6_stepOverWord tc q_th q_th_text q_th_text_bytes n_th_text_bytes th_place th_start (1 : Int32) (tk_wol (z11_0 - (97 : Int32)).toNatClampNeg) th_text_length th_text_bytes) := hD
          refine lv_goto (tgt := 161) hx hb dX6_stepOverWord_98 (by decide) ?_
          cases h
          exact st_vret hx hb hr hlocks hP hD hS dX6_stepOverWord_161
  · replace h := ifn c10 h
    refine lv_aload_n hx hb dX6_stepOverWord_14 rfl (lv_at hl 0 rfl) ?_
    refine va_get (D := D) (ci := 6) (v := .ref q_th_text) (C := RX6) (T := TX6) (N := 5) hx hb hts hinX6 hown hK hP 0 rfl rfl 0 (by decide) (hts (.fieldLink RX6 7 "ChanceBounds$Tokens" "text" "LChanceBounds$Text;") (by decide +kernel)) (fun _ h9 => h9) rfl dX6_stepOverWord_15 ?_
    refine lv_aload_n hx hb dX6_stepOverWord_18 rfl (lv_at hl 0 rfl) ?_
    refine va_get (D := D) (ci := 6) (v := .int th_place) (C := RX6) (T := TX6) (N := 5) hx hb hts hinX6 hown hK hP 0 rfl rfl 1 (by decide) (hts (.fieldLink RX6 13 "ChanceBounds$Tokens" "place" "I") (by decide +kernel)) (fun _ h9 => h9) rfl dX6_stepOverWord_19 ?_
    obtain ⟨z16_0, hc16, h⟩ := bd_ok h
    refine st_callV (As := [.int th_place]) (rest := []) (pos := [1, 2]) ⟨hx, hb, hml, hown, hts⟩ (s_X5_at (l := l) (D := D) (tc := tc) hEok q_th_text q_th_text_bytes n_th_text_bytes th_text_length th_text_bytes th_place z16_0 hc16) (cwV 1 hts gX6_stepOverWord_X5_at rfl rfl rfl (by decide +kernel) ⟨Nat.le_of_ble_eq_true rfl, Nat.le_of_ble_eq_true rfl⟩) (st_recv (ci := 5) (q0 := 1) hK hP rfl rfl) hEok hE hK hN hP hD hS hA rfl rfl rfl rfl hl.1 rfl (Nat.le_of_ble_eq_true rfl) dX6_stepOverWord_22 ⟨Nat.zero_le _, Nat.zero_le _⟩ (fun H locs hP hD hS => ?_)
    have hP : va_P D vwCl (w_X6_stepOverWord tc q_th q_th_text q_th_text_bytes n_th_text_bytes th_place th_start th_kind th_value th_text_length th_text_bytes) H := hP
    have hD : va_D A (w_X6_stepOverWord tc q_th q_th_text q_th_text_bytes n_th_text_bytes th_place th_start th_kind th_value th_text_length th_text_bytes) := hD
    obtain ⟨z17_0, hc17, h⟩ := bd_ok h
    refine st_callS (As := [.int z16_0]) (rest := []) (pos := []) ⟨hx, hb, hml, hown, hts⟩ (s_X6_isLetter (l := l) (D := D) (tc := tc) hEok z16_0 z17_0 hc17) (va_cwS 1 hts gX6_stepOverWord_X6_isLetter rfl rfl rfl (by decide +kernel) ⟨Nat.le_of_ble_eq_true rfl, Nat.le_of_ble_eq_true rfl⟩) hEok hE hK hN hP hD hS hA rfl rfl rfl rfl hl.1 rfl (Nat.le_of_ble_eq_true rfl) dX6_stepOverWord_25 ⟨Nat.zero_le _, Nat.zero_le _⟩ (fun H locs hP hD hS => ?_)
    have hP : va_P D vwCl (w_X6_stepOverWord tc q_th q_th_text q_th_text_bytes n_th_text_bytes th_place th_start th_kind th_value th_text_length th_text_bytes) H := hP
    have hD : va_D A (w_X6_stepOverWord tc q_th q_th_text q_th_text_bytes n_th_text_bytes th_place th_start th_kind th_value th_text_length th_text_bytes) := hD
    refine lv_if_eq (tgt := 44) hx hb dX6_stepOverWord_28 (by decide) (fun c18 => ?_) (fun c18 => ?_)
    · replace h := ifp c18 h
      refine lv_aload_n hx hb dX6_stepOverWord_44 rfl (lv_at hl 0 rfl) ?_
      refine va_get (D := D) (ci := 6) (v := .ref q_th_text) (C := RX6) (T := TX6) (N := 5) hx hb hts hinX6 hown hK hP 0 rfl rfl 0 (by decide) (hts (.fieldLink RX6 7 "ChanceBounds$Tokens" "text" "LChanceBounds$Text;") (by decide +kernel)) (fun _ h9 => h9) rfl dX6_stepOverWord_45 ?_
      refine lv_aload_n hx hb dX6_stepOverWord_48 rfl (lv_at hl 0 rfl) ?_
      refine va_get (D := D) (ci := 6) (v := .int th_start) (C := RX6) (T := TX6) (N := 5) hx hb hts hinX6 hown hK hP 0 rfl rfl 2 (by decide) (hts (.fieldLink RX6 29 "ChanceBounds$Tokens" "start" "I") (by decide +kernel)) (fun _ h9 => h9) rfl dX6_stepOverWord_49 ?_
      obtain ⟨z19_0, hc19, h⟩ := bd_ok h
      refine st_callV (As := [.int th_start]) (rest := []) (pos := [1, 2]) ⟨hx, hb, hml, hown, hts⟩ (s_X5_at (l := l) (D := D) (tc := tc) hEok q_th_text q_th_text_bytes n_th_text_bytes th_text_length th_text_bytes th_start z19_0 hc19) (cwV 1 hts gX6_stepOverWord_X5_at rfl rfl rfl (by decide +kernel) ⟨Nat.le_of_ble_eq_true rfl, Nat.le_of_ble_eq_true rfl⟩) (st_recv (ci := 5) (q0 := 1) hK hP rfl rfl) hEok hE hK hN hP hD hS hA rfl rfl rfl rfl hl.1 rfl (Nat.le_of_ble_eq_true rfl) dX6_stepOverWord_52 ⟨Nat.zero_le _, Nat.zero_le _⟩ (fun H locs hP hD hS => ?_)
      have hP : va_P D vwCl (w_X6_stepOverWord tc q_th q_th_text q_th_text_bytes n_th_text_bytes th_place th_start th_kind th_value th_text_length th_text_bytes) H := hP
      have hD : va_D A (w_X6_stepOverWord tc q_th q_th_text q_th_text_bytes n_th_text_bytes th_place th_start th_kind th_value th_text_length th_text_bytes) := hD
      refine lv_bipush (v := (97 : Int32)) hx hb dX6_stepOverWord_55 (by decide) ?_
      refine lv_isub hx hb dX6_stepOverWord_57 ?_
      refine lv_istore_n (lv' := [(1, .int (z19_0 - (97 : Int32))), (0, .ref q_th)]) hx hb dX6_stepOverWord_58 rfl hl (by decide) rfl (fun ls hl => ?_)
      refine lv_aload_n hx hb dX6_stepOverWord_59 rfl (lv_at hl 1 rfl) ?_
      refine va_get (D := D) (ci := 6) (v := .int th_place) (C := RX6) (T := TX6) (N := 5) hx hb hts hinX6 hown hK hP 0 rfl rfl 1 (by decide) (hts (.fieldLink RX6 13 "ChanceBounds$Tokens" "place" "I") (by decide +kernel)) (fun _ h9 => h9) rfl dX6_stepOverWord_60 ?_
      refine lv_aload_n hx hb dX6_stepOverWord_63 rfl (lv_at hl 1 rfl) ?_
      refine va_get (D := D) (ci := 6) (v := .int th_start) (C := RX6) (T := TX6) (N := 5) hx hb hts hinX6 hown hK hP 0 rfl rfl 2 (by decide) (hts (.fieldLink RX6 29 "ChanceBounds$Tokens" "start" "I") (by decide +kernel)) (fun _ h9 => h9) rfl dX6_stepOverWord_64 ?_
      refine lv_isub hx hb dX6_stepOverWord_67 ?_
      refine lv_iconst (v := (1 : Int32)) hx hb dX6_stepOverWord_68 (by decide) ?_
      refine lv_icmp_ne (tgt := 101) hx hb dX6_stepOverWord_69 (by decide) (fun c20 => ?_) (fun c20 => ?_)
      · replace h := ifn c20 h
        exact J101 th_place th_kind th_value _ _ _ h hP hD hS (lv_sub hl [1] rfl)
      · replace h := ifp c20 h
        refine lv_iload_n hx hb dX6_stepOverWord_72 rfl (lv_at hl 0 rfl) ?_
        refine lv_if_lt (tgt := 101) hx hb dX6_stepOverWord_73 (by decide) (fun c21 => ?_) (fun c21 => ?_)
        · replace h := ifp c21 h
          exact J101 th_place th_kind th_value _ _ _ h hP hD hS (lv_sub hl [1] rfl)
        · replace h := ifn c21 h
          refine lv_iload_n hx hb dX6_stepOverWord_76 rfl (lv_at hl 0 rfl) ?_
          refine va_gets hx hb hE.1 hS hown (hts (.fieldLink RX6 55 "ChanceBounds$Tokens" "WORLDS_OF_LETTER" "[I") (by decide +kernel)) (fun _ h9 => h9) dX6_stepOverWord_77 ?_
          refine va_tlen (v := (3 : Int32)) hx hb hE.2.1 hS rfl dX6_stepOverWord_80 ?_
          refine lv_icmp_ge (tgt := 101) hx hb dX6_stepOverWord_81 (by decide) (fun c22 => ?_) (fun c22 => ?_)
          · replace h := ifp c22 h
            exact J101 th_place th_kind th_value _ _ _ h hP hD hS (lv_sub hl [1] rfl)
          · replace h := ifn c22 h
            refine lv_aload_n hx hb dX6_stepOverWord_84 rfl (lv_at hl 1 rfl) ?_
            refine lv_iconst (v := (1 : Int32)) hx hb dX6_stepOverWord_85 (by decide) ?_
            refine va_put (D := D) (ci := 6) (v := .int (1 : Int32)) (ty := .int) (C := RX6) (T := TX6) (N := 5) hx hb hts hinX6 tyX6 tyX6_ok nmX6 hown hK hP hD hS 0 rfl rfl 3 (by decide) (hts (.fieldLink RX6 32 "ChanceBounds$Tokens" "kind" "I") (by decide +kernel)) (fun _ h9 => h9) rfl (by decide +kernel) rfl rfl (Nat.le_of_ble_eq_true rfl) dX6_stepOverWord_86 (fun H locs hP hD hS => ?_)
            have hP : va_P D vwCl (w_X6_stepOverWord tc q_th q_th_text q_th_text_bytes n_th_text_bytes th_place th_start (1 : Int32) th_value th_text_length th_text_bytes) H := hP
            have hD : va_D A (w_X6_stepOverWord tc q_th q_th_text q_th_text_bytes n_th_text_bytes th_place th_start (1 : Int32) th_value th_text_length th_text_bytes) := hD
            refine lv_aload_n hx hb dX6_stepOverWord_89 rfl (lv_at hl 1 rfl) ?_
            refine va_gets hx hb hE.1 hS hown (hts (.fieldLink RX6 55 "ChanceBounds$Tokens" "WORLDS_OF_LETTER" "[I") (by decide +kernel)) (fun _ h9 => h9) dX6_stepOverWord_90 ?_
            refine lv_iload_n hx hb dX6_stepOverWord_93 rfl (lv_at hl 0 rfl) ?_
            obtain ⟨g23, h⟩ := gd_ok h
            refine va_ti hx hb hE.2.1 hS g23 rfl dX6_stepOverWord_94 ?_
            refine va_put (D := D) (ci := 6) (v := .int (tk_wol (z19_0 - (97 : Int32)).toNatClampNeg)) (ty := .int) (C := RX6) (T := TX6) (N := 5) hx hb hts hinX6 tyX6 tyX6_ok nmX6 hown hK hP hD hS 0 rfl rfl 4 (by decide) (hts (.fieldLink RX6 59 "ChanceBounds$Tokens" "value" "I") (by decide +kernel)) (fun _ h9 => h9) rfl (by decide +kernel) rfl rfl (Nat.le_of_ble_eq_true rfl) dX6_stepOverWord_95 (fun H locs hP hD hS => ?_)
            have hP : va_P D vwCl (w_X6_stepOverWord tc q_th q_th_text q_th_text_bytes n_th_text_bytes th_place th_start (1 : Int32) (tk_wol (z19_0 - (97 : Int32)).toNatClampNeg) th_text_length th_text_bytes) H := hP
            have hD : va_D A (w_X6_stepOverWord tc q_th q_th_text q_th_text_bytes n_th_text_bytes th_place th_start (1 : Int32) (tk_wol (z19_0 - (97 : Int32)).toNatClampNeg) th_text_length th_text_bytes) := hD
            refine lv_goto (tgt := 161) hx hb dX6_stepOverWord_98 (by decide) ?_
            cases h
            exact st_vret hx hb hr hlocks hP hD hS dX6_stepOverWord_161
    · replace h := ifn c18 h
      refine lv_aload_n hx hb dX6_stepOverWord_31 rfl (lv_at hl 0 rfl) ?_
      refine lv_dup hx hb dX6_stepOverWord_32 rfl ?_
      refine va_get (D := D) (ci := 6) (v := .int th_place) (C := RX6) (T := TX6) (N := 5) hx hb hts hinX6 hown hK hP 0 rfl rfl 1 (by decide) (hts (.fieldLink RX6 13 "ChanceBounds$Tokens" "place" "I") (by decide +kernel)) (fun _ h9 => h9) rfl dX6_stepOverWord_33 ?_
      refine lv_iconst (v := (1 : Int32)) hx hb dX6_stepOverWord_36 (by decide) ?_
      refine lv_iadd hx hb dX6_stepOverWord_37 ?_
      refine va_put (D := D) (ci := 6) (v := .int (th_place + (1 : Int32))) (ty := .int) (C := RX6) (T := TX6) (N := 5) hx hb hts hinX6 tyX6 tyX6_ok nmX6 hown hK hP hD hS 0 rfl rfl 1 (by decide) (hts (.fieldLink RX6 13 "ChanceBounds$Tokens" "place" "I") (by decide +kernel)) (fun _ h9 => h9) rfl (by decide +kernel) rfl rfl (Nat.le_of_ble_eq_true rfl) dX6_stepOverWord_38 (fun H locs hP hD hS => ?_)
      have hP : va_P D vwCl (w_X6_stepOverWord tc q_th q_th_text q_th_text_bytes n_th_text_bytes (th_place + (1 : Int32)) th_start th_kind th_value th_text_length th_text_bytes) H := hP
      have hD : va_D A (w_X6_stepOverWord tc q_th q_th_text q_th_text_bytes n_th_text_bytes (th_place + (1 : Int32)) th_start th_kind th_value th_text_length th_text_bytes) := hD
      refine lv_goto (tgt := 0) hx hb dX6_stepOverWord_41 (by decide) ?_
      obtain ⟨z24_0, hl24, h⟩ := bd_ok h
      refine L0 th_kind th_value K _ _ hl24 ?_ _ _ _ hP hD hS (lv_sub hl [0] rfl)
      intro H locs ls hP hD hS hl
      refine lv_aload_n hx hb dX6_stepOverWord_44 rfl (lv_at hl 0 rfl) ?_
      refine va_get (D := D) (ci := 6) (v := .ref q_th_text) (C := RX6) (T := TX6) (N := 5) hx hb hts hinX6 hown hK hP 0 rfl rfl 0 (by decide) (hts (.fieldLink RX6 7 "ChanceBounds$Tokens" "text" "LChanceBounds$Text;") (by decide +kernel)) (fun _ h9 => h9) rfl dX6_stepOverWord_45 ?_
      refine lv_aload_n hx hb dX6_stepOverWord_48 rfl (lv_at hl 0 rfl) ?_
      refine va_get (D := D) (ci := 6) (v := .int th_start) (C := RX6) (T := TX6) (N := 5) hx hb hts hinX6 hown hK hP 0 rfl rfl 2 (by decide) (hts (.fieldLink RX6 29 "ChanceBounds$Tokens" "start" "I") (by decide +kernel)) (fun _ h9 => h9) rfl dX6_stepOverWord_49 ?_
      obtain ⟨z25_0, hc25, h⟩ := bd_ok h
      refine st_callV (As := [.int th_start]) (rest := []) (pos := [1, 2]) ⟨hx, hb, hml, hown, hts⟩ (s_X5_at (l := l) (D := D) (tc := tc) hEok q_th_text q_th_text_bytes n_th_text_bytes th_text_length th_text_bytes th_start z25_0 hc25) (cwV 1 hts gX6_stepOverWord_X5_at rfl rfl rfl (by decide +kernel) ⟨Nat.le_of_ble_eq_true rfl, Nat.le_of_ble_eq_true rfl⟩) (st_recv (ci := 5) (q0 := 1) hK hP rfl rfl) hEok hE hK hN hP hD hS hA rfl rfl rfl rfl hl.1 rfl (Nat.le_of_ble_eq_true rfl) dX6_stepOverWord_52 ⟨Nat.zero_le _, Nat.zero_le _⟩ (fun H locs hP hD hS => ?_)
      have hP : va_P D vwCl (w_X6_stepOverWord tc q_th q_th_text q_th_text_bytes n_th_text_bytes z24_0 th_start th_kind th_value th_text_length th_text_bytes) H := hP
      have hD : va_D A (w_X6_stepOverWord tc q_th q_th_text q_th_text_bytes n_th_text_bytes z24_0 th_start th_kind th_value th_text_length th_text_bytes) := hD
      refine lv_bipush (v := (97 : Int32)) hx hb dX6_stepOverWord_55 (by decide) ?_
      refine lv_isub hx hb dX6_stepOverWord_57 ?_
      refine lv_istore_n (lv' := [(1, .int (z25_0 - (97 : Int32))), (0, .ref q_th)]) hx hb dX6_stepOverWord_58 rfl hl (by decide) rfl (fun ls hl => ?_)
      refine lv_aload_n hx hb dX6_stepOverWord_59 rfl (lv_at hl 1 rfl) ?_
      refine va_get (D := D) (ci := 6) (v := .int z24_0) (C := RX6) (T := TX6) (N := 5) hx hb hts hinX6 hown hK hP 0 rfl rfl 1 (by decide) (hts (.fieldLink RX6 13 "ChanceBounds$Tokens" "place" "I") (by decide +kernel)) (fun _ h9 => h9) rfl dX6_stepOverWord_60 ?_
      refine lv_aload_n hx hb dX6_stepOverWord_63 rfl (lv_at hl 1 rfl) ?_
      refine va_get (D := D) (ci := 6) (v := .int th_start) (C := RX6) (T := TX6) (N := 5) hx hb hts hinX6 hown hK hP 0 rfl rfl 2 (by decide) (hts (.fieldLink RX6 29 "ChanceBounds$Tokens" "start" "I") (by decide +kernel)) (fun _ h9 => h9) rfl dX6_stepOverWord_64 ?_
      refine lv_isub hx hb dX6_stepOverWord_67 ?_
      refine lv_iconst (v := (1 : Int32)) hx hb dX6_stepOverWord_68 (by decide) ?_
      refine lv_icmp_ne (tgt := 101) hx hb dX6_stepOverWord_69 (by decide) (fun c26 => ?_) (fun c26 => ?_)
      · replace h := ifn c26 h
        exact J101 z24_0 th_kind th_value _ _ _ h hP hD hS (lv_sub hl [1] rfl)
      · replace h := ifp c26 h
        refine lv_iload_n hx hb dX6_stepOverWord_72 rfl (lv_at hl 0 rfl) ?_
        refine lv_if_lt (tgt := 101) hx hb dX6_stepOverWord_73 (by decide) (fun c27 => ?_) (fun c27 => ?_)
        · replace h := ifp c27 h
          exact J101 z24_0 th_kind th_value _ _ _ h hP hD hS (lv_sub hl [1] rfl)
        · replace h := ifn c27 h
          refine lv_iload_n hx hb dX6_stepOverWord_76 rfl (lv_at hl 0 rfl) ?_
          refine va_gets hx hb hE.1 hS hown (hts (.fieldLink RX6 55 "ChanceBounds$Tokens" "WORLDS_OF_LETTER" "[I") (by decide +kernel)) (fun _ h9 => h9) dX6_stepOverWord_77 ?_
          refine va_tlen (v := (3 : Int32)) hx hb hE.2.1 hS rfl dX6_stepOverWord_80 ?_
          refine lv_icmp_ge (tgt := 101) hx hb dX6_stepOverWord_81 (by decide) (fun c28 => ?_) (fun c28 => ?_)
          · replace h := ifp c28 h
            exact J101 z24_0 th_kind th_value _ _ _ h hP hD hS (lv_sub hl [1] rfl)
          · replace h := ifn c28 h
            refine lv_aload_n hx hb dX6_stepOverWord_84 rfl (lv_at hl 1 rfl) ?_
            refine lv_iconst (v := (1 : Int32)) hx hb dX6_stepOverWord_85 (by decide) ?_
            refine va_put (D := D) (ci := 6) (v := .int (1 : Int32)) (ty := .int) (C := RX6) (T := TX6) (N := 5) hx hb hts hinX6 tyX6 tyX6_ok nmX6 hown hK hP hD hS 0 rfl rfl 3 (by decide) (hts (.fieldLink RX6 32 "ChanceBounds$Tokens" "kind" "I") (by decide +kernel)) (fun _ h9 => h9) rfl (by decide +kernel) rfl rfl (Nat.le_of_ble_eq_true rfl) dX6_stepOverWord_86 (fun H locs hP hD hS => ?_)
            have hP : va_P D vwCl (w_X6_stepOverWord tc q_th q_th_text q_th_text_bytes n_th_text_bytes z24_0 th_start (1 : Int32) th_value th_text_length th_text_bytes) H := hP
            have hD : va_D A (w_X6_stepOverWord tc q_th q_th_text q_th_text_bytes n_th_text_bytes z24_0 th_start (1 : Int32) th_value th_text_length th_text_bytes) := hD
            refine lv_aload_n hx hb dX6_stepOverWord_89 rfl (lv_at hl 1 rfl) ?_
            refine va_gets hx hb hE.1 hS hown (hts (.fieldLink RX6 55 "ChanceBounds$Tokens" "WORLDS_OF_LETTER" "[I") (by decide +kernel)) (fun _ h9 => h9) dX6_stepOverWord_90 ?_
            refine lv_iload_n hx hb dX6_stepOverWord_93 rfl (lv_at hl 0 rfl) ?_
            obtain ⟨g29, h⟩ := gd_ok h
            refine va_ti hx hb hE.2.1 hS g29 rfl dX6_stepOverWord_94 ?_
            refine va_put (D := D) (ci := 6) (v := .int (tk_wol (z25_0 - (97 : Int32)).toNatClampNeg)) (ty := .int) (C := RX6) (T := TX6) (N := 5) hx hb hts hinX6 tyX6 tyX6_ok nmX6 hown hK hP hD hS 0 rfl rfl 4 (by decide) (hts (.fieldLink RX6 59 "ChanceBounds$Tokens" "value" "I") (by decide +kernel)) (fun _ h9 => h9) rfl (by decide +kernel) rfl rfl (Nat.le_of_ble_eq_true rfl) dX6_stepOverWord_95 (fun H locs hP hD hS => ?_)
            have hP : va_P D vwCl (w_X6_stepOverWord tc q_th q_th_text q_th_text_bytes n_th_text_bytes z24_0 th_start (1 : Int32) (tk_wol (z25_0 - (97 : Int32)).toNatClampNeg) th_text_length th_text_bytes) H := hP
            have hD : va_D A (w_X6_stepOverWord tc q_th q_th_text q_th_text_bytes n_th_text_bytes z24_0 th_start (1 : Int32) (tk_wol (z25_0 - (97 : Int32)).toNatClampNeg) th_text_length th_text_bytes) := hD
            refine lv_goto (tgt := 161) hx hb dX6_stepOverWord_98 (by decide) ?_
            cases h
            exact st_vret hx hb hr hlocks hP hD hS dX6_stepOverWord_161
def f_X6_stepOverNumber_L5 (n_th_text_bytes : Nat) (th_text_length : Int32) (th_text_bytes : Nat → Int32) (s5 : Int32 × Int32) : Option ((Int32 × Int32) ⊕ (Int32 × Int32)) :=
  match s5 with
  | (th_place, th_value) =>
    if th_text_length ≤ th_place then
      some (.inl (th_place, th_value))
    else
      (f_X5_at n_th_text_bytes th_text_length th_text_bytes th_place).bind fun z2_0 =>
      (f_X6_isDigit z2_0).bind fun z3_0 =>
      if z3_0 = (0 : Int32) then
        some (.inl (th_place, th_value))
      else
        (f_X5_at n_th_text_bytes th_text_length th_text_bytes th_place).bind fun z5_0 =>
        some (.inr (th_place + (1 : Int32), if (1000 : Int32) < ((((10 : Int32) * th_value) + z5_0) - (48 : Int32)) then (1000 : Int32) else ((((10 : Int32) * th_value) + z5_0) - (48 : Int32))))
def f_X6_stepOverNumber_J114 (th_place : Int32) (th_value : Int32) : Option (Int32 × Int32 × Int32) :=
  if (0 : Int32) = (0 : Int32) then
    if th_value = (1000 : Int32) then
      some (th_place, (4 : Int32), th_value)
    else
      some (th_place, (3 : Int32), th_value)
  else
    some (th_place, (4 : Int32), th_value)
def f_X6_stepOverNumber (K : Nat) (n_th_text_bytes : Nat) (th_place : Int32) (th_start : Int32) (th_text_length : Int32) (th_text_bytes : Nat → Int32) : Option (Int32 × Int32 × Int32) :=
  (lp (f_X6_stepOverNumber_L5 n_th_text_bytes th_text_length th_text_bytes) K (th_place, (0 : Int32))).bind fun z8 => match z8 with
  | (z8_0, z8_1) =>
    (f_X5_at n_th_text_bytes th_text_length th_text_bytes th_start).bind fun z9_0 =>
    if z9_0 = (48 : Int32) then
      if (z8_0 - th_start) ≤ (1 : Int32) then
        f_X6_stepOverNumber_J114 z8_0 z8_1
      else
        if (1 : Int32) = (0 : Int32) then
          if z8_1 = (1000 : Int32) then
            some (z8_0, (4 : Int32), z8_1)
          else
            some (z8_0, (3 : Int32), z8_1)
        else
          some (z8_0, (4 : Int32), z8_1)
    else
      f_X6_stepOverNumber_J114 z8_0 z8_1
abbrev w_X6_stepOverNumber (tc : Nat → ClassId) (q_th : Nat) (q_th_text : Nat) (q_th_text_bytes : Nat) (n_th_text_bytes : Nat) (th_place : Int32) (th_start : Int32) (th_kind : Int32) (th_value : Int32) (th_text_length : Int32) (th_text_bytes : Nat → Int32) : va_W := [(q_th, .inr (6, [.ref q_th_text, .int th_place, .int th_start, .int th_kind, .int th_value])), (q_th_text, .inr (5, [.ref q_th_text_bytes, .int th_text_length])), (q_th_text_bytes, .inl (tc 0, n_th_text_bytes, .inl th_text_bytes))]
set_option maxHeartbeats 4000000 in
set_option maxRecDepth 100000 in
theorem s_X6_stepOverNumber {l : Launch} (t0 aK aV : Nat) {D : va_G} {tc : Nat → ClassId} (q_th : Nat) (q_th_text : Nat) (q_th_text_bytes : Nat) (n_th_text_bytes : Nat) (th_place : Int32) (th_start : Int32) (th_kind : Int32) (th_value : Int32) (th_text_length : Int32) (th_text_bytes : Nat → Int32) (K : Nat) (th_place' : Int32) (th_kind' : Int32) (th_value' : Int32) (h : f_X6_stepOverNumber K n_th_text_bytes th_place th_start th_text_length th_text_bytes = some (th_place', th_kind', th_value')) : st l yX6_stepOverNumber wsX6_stepOverNumber ({ frames := 1, cells := 0, slots := 0, locals := 21 }) (tk_E t0 aK aV) D tc [.ref q_th] (w_X6_stepOverNumber tc q_th q_th_text q_th_text_bytes n_th_text_bytes th_place th_start th_kind th_value th_text_length th_text_bytes) none (w_X6_stepOverNumber tc q_th q_th_text q_th_text_bytes n_th_text_bytes th_place' th_start th_kind' th_value' th_text_length th_text_bytes) := by
  have hEok : st_Eok (tk_E t0 aK aV) := tk_ok t0 aK aV
  refine st_enter (cc := cX6_stepOverNumber) (maxL := 2) (ret := none) (by decide) rfl (Nat.le_of_ble_eq_true rfl) ?_
  intro p e s m below meth c A ls hx hb hr hml hts hown hlocks hK hN hE hA hP hD hS hl
  have hl : lv_has ls 2 [(0, .ref q_th)] := hl
  have hinX5 : ∀ w ∈ wsX50, w ∈ wsX6_stepOverNumber := by decide +kernel
  have hinX6 : ∀ w ∈ wsX60, w ∈ wsX6_stepOverNumber := by decide +kernel
  generalize hav : ([.ref q_th] : List Value).toArray = av at hts ⊢
  have L5 : ∀ (th_kind : Int32), ∀ (k : Nat) (s5 : Int32 × Int32) (r : Int32 × Int32), lp (f_X6_stepOverNumber_L5 n_th_text_bytes th_text_length th_text_bytes) k s5 = some r → (fun y5 : Int32 × Int32 => match y5 with | (th_place, th_value) => ∀ (H : Heap) (locs : List Loc) (ls : Array Slot), va_P D vwCl (w_X6_stepOverNumber tc q_th q_th_text q_th_text_bytes n_th_text_bytes th_place th_start th_kind th_value th_text_length th_text_bytes) H → va_D A (w_X6_stepOverNumber tc q_th q_th_text q_th_text_bytes n_th_text_bytes th_place th_start th_kind th_value th_text_length th_text_bytes) → va_S A s.heap H locs → lv_has ls 2 [(0, .ref q_th)] → W p l e ({ frames := 1, cells := 0, slots := 0, locals := 21 } : Room) s m av below meth c H locs 0 0 (MQ below (st_Q D (w_X6_stepOverNumber tc q_th q_th_text q_th_text_bytes n_th_text_bytes th_place' th_start th_kind' th_value' th_text_length th_text_bytes) none A) av s 0 0 A) (F0 m 81 ls [])) r → (fun s5 : Int32 × Int32 => match s5 with | (th_place, th_value) => ∀ (H : Heap) (locs : List Loc) (ls : Array Slot), va_P D vwCl (w_X6_stepOverNumber tc q_th q_th_text q_th_text_bytes n_th_text_bytes th_place th_start th_kind th_value th_text_length th_text_bytes) H → va_D A (w_X6_stepOverNumber tc q_th q_th_text q_th_text_bytes n_th_text_bytes th_place th_start th_kind th_value th_text_length th_text_bytes) → va_S A s.heap H locs → lv_has ls 2 [(0, .ref q_th)] → W p l e ({ frames := 1, cells := 0, slots := 0, locals := 21 } : Room) s m av below meth c H locs 0 0 (MQ below (st_Q D (w_X6_stepOverNumber tc q_th q_th_text q_th_text_bytes n_th_text_bytes th_place' th_start th_kind' th_value' th_text_length th_text_bytes) none A) av s 0 0 A) (F0 m 5 ls [])) s5 := by
    intro th_kind
    refine lp_W (f_X6_stepOverNumber_L5 n_th_text_bytes th_text_length th_text_bytes) (fun s5 : Int32 × Int32 => match s5 with | (th_place, th_value) => ∀ (H : Heap) (locs : List Loc) (ls : Array Slot), va_P D vwCl (w_X6_stepOverNumber tc q_th q_th_text q_th_text_bytes n_th_text_bytes th_place th_start th_kind th_value th_text_length th_text_bytes) H → va_D A (w_X6_stepOverNumber tc q_th q_th_text q_th_text_bytes n_th_text_bytes th_place th_start th_kind th_value th_text_length th_text_bytes) → va_S A s.heap H locs → lv_has ls 2 [(0, .ref q_th)] → W p l e ({ frames := 1, cells := 0, slots := 0, locals := 21 } : Room) s m av below meth c H locs 0 0 (MQ below (st_Q D (w_X6_stepOverNumber tc q_th q_th_text q_th_text_bytes n_th_text_bytes th_place' th_start th_kind' th_value' th_text_length th_text_bytes) none A) av s 0 0 A) (F0 m 5 ls [])) (fun y5 : Int32 × Int32 => match y5 with | (th_place, th_value) => ∀ (H : Heap) (locs : List Loc) (ls : Array Slot), va_P D vwCl (w_X6_stepOverNumber tc q_th q_th_text q_th_text_bytes n_th_text_bytes th_place th_start th_kind th_value th_text_length th_text_bytes) H → va_D A (w_X6_stepOverNumber tc q_th q_th_text q_th_text_bytes n_th_text_bytes th_place th_start th_kind th_value th_text_length th_text_bytes) → va_S A s.heap H locs → lv_has ls 2 [(0, .ref q_th)] → W p l e ({ frames := 1, cells := 0, slots := 0, locals := 21 } : Room) s m av below meth c H locs 0 0 (MQ below (st_Q D (w_X6_stepOverNumber tc q_th q_th_text q_th_text_bytes n_th_text_bytes th_place' th_start th_kind' th_value' th_text_length th_text_bytes) none A) av s 0 0 A) (F0 m 81 ls [])) ?_
    rintro ⟨th_place, th_value⟩ o h ih hz H locs ls hP hD hS hl
    unfold f_X6_stepOverNumber_L5 at h
    refine lv_aload_n hx hb dX6_stepOverNumber_5 rfl (lv_at hl 0 rfl) ?_
    refine va_get (D := D) (ci := 6) (v := .int th_place) (C := RX6) (T := TX6) (N := 5) hx hb hts hinX6 hown hK hP 0 rfl rfl 1 (by decide) (hts (.fieldLink RX6 13 "ChanceBounds$Tokens" "place" "I") (by decide +kernel)) (fun _ h9 => h9) rfl dX6_stepOverNumber_6 ?_
    refine lv_aload_n hx hb dX6_stepOverNumber_9 rfl (lv_at hl 0 rfl) ?_
    refine va_get (D := D) (ci := 6) (v := .ref q_th_text) (C := RX6) (T := TX6) (N := 5) hx hb hts hinX6 hown hK hP 0 rfl rfl 0 (by decide) (hts (.fieldLink RX6 7 "ChanceBounds$Tokens" "text" "LChanceBounds$Text;") (by decide +kernel)) (fun _ h9 => h9) rfl dX6_stepOverNumber_10 ?_
    refine va_getN (D := D) (ci := 5) (v := .int th_text_length) (C := RX5) (T := TX5) (N := 2) hx hb hts hinX5 hown hK hP 1 rfl rfl 1 (by decide) (va_Nw.use rfl (hN (.fieldLinkNest RX6 20 "ChanceBounds$Text" "length" "I" "ChanceBounds") (by decide +kernel))) (fun _ h9 => h9) rfl dX6_stepOverNumber_13 ?_
    refine lv_icmp_ge (tgt := 81) hx hb dX6_stepOverNumber_16 (by decide) (fun c1 => ?_) (fun c1 => ?_)
    · replace h := ifp c1 h
      cases h
      exact hz _ rfl _ _ _ hP hD hS (lv_sub hl [0] rfl)
    · replace h := ifn c1 h
      refine lv_aload_n hx hb dX6_stepOverNumber_19 rfl (lv_at hl 0 rfl) ?_
      refine va_get (D := D) (ci := 6) (v := .ref q_th_text) (C := RX6) (T := TX6) (N := 5) hx hb hts hinX6 hown hK hP 0 rfl rfl 0 (by decide) (hts (.fieldLink RX6 7 "ChanceBounds$Tokens" "text" "LChanceBounds$Text;") (by decide +kernel)) (fun _ h9 => h9) rfl dX6_stepOverNumber_20 ?_
      refine lv_aload_n hx hb dX6_stepOverNumber_23 rfl (lv_at hl 0 rfl) ?_
      refine va_get (D := D) (ci := 6) (v := .int th_place) (C := RX6) (T := TX6) (N := 5) hx hb hts hinX6 hown hK hP 0 rfl rfl 1 (by decide) (hts (.fieldLink RX6 13 "ChanceBounds$Tokens" "place" "I") (by decide +kernel)) (fun _ h9 => h9) rfl dX6_stepOverNumber_24 ?_
      obtain ⟨z2_0, hc2, h⟩ := bd_ok h
      refine st_callV (As := [.int th_place]) (rest := []) (pos := [1, 2]) ⟨hx, hb, hml, hown, hts⟩ (s_X5_at (l := l) (D := D) (tc := tc) hEok q_th_text q_th_text_bytes n_th_text_bytes th_text_length th_text_bytes th_place z2_0 hc2) (cwV 1 hts gX6_stepOverNumber_X5_at rfl rfl rfl (by decide +kernel) ⟨Nat.le_of_ble_eq_true rfl, Nat.le_of_ble_eq_true rfl⟩) (st_recv (ci := 5) (q0 := 1) hK hP rfl rfl) hEok hE hK hN hP hD hS hA rfl rfl rfl rfl hl.1 rfl (Nat.le_of_ble_eq_true rfl) dX6_stepOverNumber_27 ⟨Nat.zero_le _, Nat.zero_le _⟩ (fun H locs hP hD hS => ?_)
      have hP : va_P D vwCl (w_X6_stepOverNumber tc q_th q_th_text q_th_text_bytes n_th_text_bytes th_place th_start th_kind th_value th_text_length th_text_bytes) H := hP
      have hD : va_D A (w_X6_stepOverNumber tc q_th q_th_text q_th_text_bytes n_th_text_bytes th_place th_start th_kind th_value th_text_length th_text_bytes) := hD
      obtain ⟨z3_0, hc3, h⟩ := bd_ok h
      refine st_callS (As := [.int z2_0]) (rest := []) (pos := []) ⟨hx, hb, hml, hown, hts⟩ (s_X6_isDigit (l := l) (D := D) (tc := tc) hEok z2_0 z3_0 hc3) (va_cwS 1 hts gX6_stepOverNumber_X6_isDigit rfl rfl rfl (by decide +kernel) ⟨Nat.le_of_ble_eq_true rfl, Nat.le_of_ble_eq_true rfl⟩) hEok hE hK hN hP hD hS hA rfl rfl rfl rfl hl.1 rfl (Nat.le_of_ble_eq_true rfl) dX6_stepOverNumber_30 ⟨Nat.zero_le _, Nat.zero_le _⟩ (fun H locs hP hD hS => ?_)
      have hP : va_P D vwCl (w_X6_stepOverNumber tc q_th q_th_text q_th_text_bytes n_th_text_bytes th_place th_start th_kind th_value th_text_length th_text_bytes) H := hP
      have hD : va_D A (w_X6_stepOverNumber tc q_th q_th_text q_th_text_bytes n_th_text_bytes th_place th_start th_kind th_value th_text_length th_text_bytes) := hD
      refine lv_if_eq (tgt := 81) hx hb dX6_stepOverNumber_33 (by decide) (fun c4 => ?_) (fun c4 => ?_)
      · replace h := ifp c4 h
        cases h
        exact hz _ rfl _ _ _ hP hD hS (lv_sub hl [0] rfl)
      · replace h := ifn c4 h
        refine lv_aload_n hx hb dX6_stepOverNumber_36 rfl (lv_at hl 0 rfl) ?_
        refine lv_bipush (v := (10 : Int32)) hx hb dX6_stepOverNumber_37 (by decide) ?_
        refine lv_aload_n hx hb dX6_stepOverNumber_39 rfl (lv_at hl 0 rfl) ?_
        refine va_get (D := D) (ci := 6) (v := .int th_value) (C := RX6) (T := TX6) (N := 5) hx hb hts hinX6 hown hK hP 0 rfl rfl 4 (by decide) (hts (.fieldLink RX6 59 "ChanceBounds$Tokens" "value" "I") (by decide +kernel)) (fun _ h9 => h9) rfl dX6_stepOverNumber_40 ?_
        refine lv_imul hx hb dX6_stepOverNumber_43 ?_
        refine lv_aload_n hx hb dX6_stepOverNumber_44 rfl (lv_at hl 0 rfl) ?_
        refine va_get (D := D) (ci := 6) (v := .ref q_th_text) (C := RX6) (T := TX6) (N := 5) hx hb hts hinX6 hown hK hP 0 rfl rfl 0 (by decide) (hts (.fieldLink RX6 7 "ChanceBounds$Tokens" "text" "LChanceBounds$Text;") (by decide +kernel)) (fun _ h9 => h9) rfl dX6_stepOverNumber_45 ?_
        refine lv_aload_n hx hb dX6_stepOverNumber_48 rfl (lv_at hl 0 rfl) ?_
        refine va_get (D := D) (ci := 6) (v := .int th_place) (C := RX6) (T := TX6) (N := 5) hx hb hts hinX6 hown hK hP 0 rfl rfl 1 (by decide) (hts (.fieldLink RX6 13 "ChanceBounds$Tokens" "place" "I") (by decide +kernel)) (fun _ h9 => h9) rfl dX6_stepOverNumber_49 ?_
        obtain ⟨z5_0, hc5, h⟩ := bd_ok h
        refine st_callV (As := [.int th_place]) (rest := [.int ((10 : Int32) * th_value), .ref q_th]) (pos := [1, 2]) ⟨hx, hb, hml, hown, hts⟩ (s_X5_at (l := l) (D := D) (tc := tc) hEok q_th_text q_th_text_bytes n_th_text_bytes th_text_length th_text_bytes th_place z5_0 hc5) (cwV 1 hts gX6_stepOverNumber_X5_at rfl rfl rfl (by decide +kernel) ⟨Nat.le_of_ble_eq_true rfl, Nat.le_of_ble_eq_true rfl⟩) (st_recv (ci := 5) (q0 := 1) hK hP rfl rfl) hEok hE hK hN hP hD hS hA rfl rfl rfl rfl hl.1 rfl (Nat.le_of_ble_eq_true rfl) dX6_stepOverNumber_52 ⟨Nat.zero_le _, Nat.zero_le _⟩ (fun H locs hP hD hS => ?_)
        have hP : va_P D vwCl (w_X6_stepOverNumber tc q_th q_th_text q_th_text_bytes n_th_text_bytes th_place th_start th_kind th_value th_text_length th_text_bytes) H := hP
        have hD : va_D A (w_X6_stepOverNumber tc q_th q_th_text q_th_text_bytes n_th_text_bytes th_place th_start th_kind th_value th_text_length th_text_bytes) := hD
        refine lv_iadd hx hb dX6_stepOverNumber_55 ?_
        refine lv_bipush (v := (48 : Int32)) hx hb dX6_stepOverNumber_56 (by decide) ?_
        refine lv_isub hx hb dX6_stepOverNumber_58 ?_
        refine lv_sipush (v := (1000 : Int32)) hx hb dX6_stepOverNumber_59 (by decide) ?_
        refine va_mmin hx hb (by rw [hml]; exact hl.1.symm) hown (hts (.methodLink RX6 62 Lib.Math.min.name) (by decide +kernel)) (hts (.static Lib.Math.min.name) (by decide +kernel)) (hts (.initialized "java/lang/Math") (by decide +kernel)) (hts (.code Lib.Math.min.name Lib.Math.min.code 2 (some .int)) (by decide +kernel)) (Nat.le_of_ble_eq_true rfl) (Nat.le_of_ble_eq_true rfl) (Nat.zero_le _) (Nat.zero_le _) dX6_stepOverNumber_62 ?_
        refine va_put (D := D) (ci := 6) (v := .int (if (1000 : Int32) < ((((10 : Int32) * th_value) + z5_0) - (48 : Int32)) then (1000 : Int32) else ((((10 : Int32) * th_value) + z5_0) - (48 : Int32)))) (ty := .int) (C := RX6) (T := TX6) (N := 5) hx hb hts hinX6 tyX6 tyX6_ok nmX6 hown hK hP hD hS 0 rfl rfl 4 (by decide) (hts (.fieldLink RX6 59 "ChanceBounds$Tokens" "value" "I") (by decide +kernel)) (fun _ h9 => h9) rfl (by decide +kernel) rfl rfl (Nat.le_of_ble_eq_true rfl) dX6_stepOverNumber_65 (fun H locs hP hD hS => ?_)
        have hP : va_P D vwCl (w_X6_stepOverNumber tc q_th q_th_text q_th_text_bytes n_th_text_bytes th_place th_start th_kind (if (1000 : Int32) < ((((10 : Int32) * th_value) + z5_0) - (48 : Int32)) then (1000 : Int32) else ((((10 : Int32) * th_value) + z5_0) - (48 : Int32))) th_text_length th_text_bytes) H := hP
        have hD : va_D A (w_X6_stepOverNumber tc q_th q_th_text q_th_text_bytes n_th_text_bytes th_place th_start th_kind (if (1000 : Int32) < ((((10 : Int32) * th_value) + z5_0) - (48 : Int32)) then (1000 : Int32) else ((((10 : Int32) * th_value) + z5_0) - (48 : Int32))) th_text_length th_text_bytes) := hD
        refine lv_aload_n hx hb dX6_stepOverNumber_68 rfl (lv_at hl 0 rfl) ?_
        refine lv_dup hx hb dX6_stepOverNumber_69 rfl ?_
        refine va_get (D := D) (ci := 6) (v := .int th_place) (C := RX6) (T := TX6) (N := 5) hx hb hts hinX6 hown hK hP 0 rfl rfl 1 (by decide) (hts (.fieldLink RX6 13 "ChanceBounds$Tokens" "place" "I") (by decide +kernel)) (fun _ h9 => h9) rfl dX6_stepOverNumber_70 ?_
        refine lv_iconst (v := (1 : Int32)) hx hb dX6_stepOverNumber_73 (by decide) ?_
        refine lv_iadd hx hb dX6_stepOverNumber_74 ?_
        refine va_put (D := D) (ci := 6) (v := .int (th_place + (1 : Int32))) (ty := .int) (C := RX6) (T := TX6) (N := 5) hx hb hts hinX6 tyX6 tyX6_ok nmX6 hown hK hP hD hS 0 rfl rfl 1 (by decide) (hts (.fieldLink RX6 13 "ChanceBounds$Tokens" "place" "I") (by decide +kernel)) (fun _ h9 => h9) rfl (by decide +kernel) rfl rfl (Nat.le_of_ble_eq_true rfl) dX6_stepOverNumber_75 (fun H locs hP hD hS => ?_)
        have hP : va_P D vwCl (w_X6_stepOverNumber tc q_th q_th_text q_th_text_bytes n_th_text_bytes (th_place + (1 : Int32)) th_start th_kind (if (1000 : Int32) < ((((10 : Int32) * th_value) + z5_0) - (48 : Int32)) then (1000 : Int32) else ((((10 : Int32) * th_value) + z5_0) - (48 : Int32))) th_text_length th_text_bytes) H := hP
        have hD : va_D A (w_X6_stepOverNumber tc q_th q_th_text q_th_text_bytes n_th_text_bytes (th_place + (1 : Int32)) th_start th_kind (if (1000 : Int32) < ((((10 : Int32) * th_value) + z5_0) - (48 : Int32)) then (1000 : Int32) else ((((10 : Int32) * th_value) + z5_0) - (48 : Int32))) th_text_length th_text_bytes) := hD
        refine lv_goto (tgt := 5) hx hb dX6_stepOverNumber_78 (by decide) ?_
        cases h
        exact ih _ rfl _ _ _ hP hD hS (lv_sub hl [0] rfl)
  have J114 : ∀ (th_place : Int32) (th_kind : Int32) (th_value : Int32) (H : Heap) (locs : List Loc) (ls : Array Slot), f_X6_stepOverNumber_J114 th_place th_value = some (th_place', th_kind', th_value') → va_P D vwCl (w_X6_stepOverNumber tc q_th q_th_text q_th_text_bytes n_th_text_bytes th_place th_start th_kind th_value th_text_length th_text_bytes) H → va_D A (w_X6_stepOverNumber tc q_th q_th_text q_th_text_bytes n_th_text_bytes th_place th_start th_kind th_value th_text_length th_text_bytes) → va_S A s.heap H locs → lv_has ls 2 [(0, .ref q_th)] → W p l e ({ frames := 1, cells := 0, slots := 0, locals := 21 } : Room) s m av below meth c H locs 0 0 (MQ below (st_Q D (w_X6_stepOverNumber tc q_th q_th_text q_th_text_bytes n_th_text_bytes th_place' th_start th_kind' th_value' th_text_length th_text_bytes) none A) av s 0 0 A) (F0 m 114 ls []) := by
    intro th_place th_kind th_value H locs ls h hP hD hS hl
    unfold f_X6_stepOverNumber_J114 at h
    refine lv_iconst (v := (0 : Int32)) hx hb dX6_stepOverNumber_114 (by decide) ?_
    refine lv_istore_n (lv' := [(1, .int (0 : Int32)), (0, .ref q_th)]) hx hb dX6_stepOverNumber_115 rfl hl (by decide) rfl (fun ls hl => ?_)
    refine lv_aload_n hx hb dX6_stepOverNumber_116 rfl (lv_at hl 1 rfl) ?_
    refine lv_iload_n hx hb dX6_stepOverNumber_117 rfl (lv_at hl 0 rfl) ?_
    refine lv_if_ne (tgt := 131) hx hb dX6_stepOverNumber_118 (by decide) (fun c6 => ?_) (fun c6 => ?_)
    · replace h := ifn c6 h
      refine lv_iconst (v := (4 : Int32)) hx hb dX6_stepOverNumber_131 (by decide) ?_
      refine lv_goto (tgt := 136) hx hb dX6_stepOverNumber_132 (by decide) ?_
      refine va_put (D := D) (ci := 6) (v := .int (4 : Int32)) (ty := .int) (C := RX6) (T := TX6) (N := 5) hx hb hts hinX6 tyX6 tyX6_ok nmX6 hown hK hP hD hS 0 rfl rfl 3 (by decide) (hts (.fieldLink RX6 32 "ChanceBounds$Tokens" "kind" "I") (by decide +kernel)) (fun _ h9 => h9) rfl (by decide +kernel) rfl rfl (Nat.le_of_ble_eq_true rfl) dX6_stepOverNumber_136 (fun H locs hP hD hS => ?_)
      have hP : va_P D vwCl (w_X6_stepOverNumber tc q_th q_th_text q_th_text_bytes n_th_text_bytes th_place th_start (4 : Int32) th_value th_text_length th_text_bytes) H := hP
      have hD : va_D A (w_X6_stepOverNumber tc q_th q_th_text q_th_text_bytes n_th_text_bytes th_place th_start (4 : Int32) th_value th_text_length th_text_bytes) := hD
      cases h
      exact st_vret hx hb hr hlocks hP hD hS dX6_stepOverNumber_139
    · replace h := ifp c6 h
      refine lv_aload_n hx hb dX6_stepOverNumber_121 rfl (lv_at hl 1 rfl) ?_
      refine va_get (D := D) (ci := 6) (v := .int th_value) (C := RX6) (T := TX6) (N := 5) hx hb hts hinX6 hown hK hP 0 rfl rfl 4 (by decide) (hts (.fieldLink RX6 59 "ChanceBounds$Tokens" "value" "I") (by decide +kernel)) (fun _ h9 => h9) rfl dX6_stepOverNumber_122 ?_
      refine lv_sipush (v := (1000 : Int32)) hx hb dX6_stepOverNumber_125 (by decide) ?_
      refine lv_icmp_ne (tgt := 135) hx hb dX6_stepOverNumber_128 (by decide) (fun c7 => ?_) (fun c7 => ?_)
      · replace h := ifn c7 h
        refine lv_iconst (v := (3 : Int32)) hx hb dX6_stepOverNumber_135 (by decide) ?_
        refine va_put (D := D) (ci := 6) (v := .int (3 : Int32)) (ty := .int) (C := RX6) (T := TX6) (N := 5) hx hb hts hinX6 tyX6 tyX6_ok nmX6 hown hK hP hD hS 0 rfl rfl 3 (by decide) (hts (.fieldLink RX6 32 "ChanceBounds$Tokens" "kind" "I") (by decide +kernel)) (fun _ h9 => h9) rfl (by decide +kernel) rfl rfl (Nat.le_of_ble_eq_true rfl) dX6_stepOverNumber_136 (fun H locs hP hD hS => ?_)
        have hP : va_P D vwCl (w_X6_stepOverNumber tc q_th q_th_text q_th_text_bytes n_th_text_bytes th_place th_start (3 : Int32) th_value th_text_length th_text_bytes) H := hP
        have hD : va_D A (w_X6_stepOverNumber tc q_th q_th_text q_th_text_bytes n_th_text_bytes th_place th_start (3 : Int32) th_value th_text_length th_text_bytes) := hD
        cases h
        exact st_vret hx hb hr hlocks hP hD hS dX6_stepOverNumber_139
      · replace h := ifp c7 h
        refine lv_iconst (v := (4 : Int32)) hx hb dX6_stepOverNumber_131 (by decide) ?_
        refine lv_goto (tgt := 136) hx hb dX6_stepOverNumber_132 (by decide) ?_
        refine va_put (D := D) (ci := 6) (v := .int (4 : Int32)) (ty := .int) (C := RX6) (T := TX6) (N := 5) hx hb hts hinX6 tyX6 tyX6_ok nmX6 hown hK hP hD hS 0 rfl rfl 3 (by decide) (hts (.fieldLink RX6 32 "ChanceBounds$Tokens" "kind" "I") (by decide +kernel)) (fun _ h9 => h9) rfl (by decide +kernel) rfl rfl (Nat.le_of_ble_eq_true rfl) dX6_stepOverNumber_136 (fun H locs hP hD hS => ?_)
        have hP : va_P D vwCl (w_X6_stepOverNumber tc q_th q_th_text q_th_text_bytes n_th_text_bytes th_place th_start (4 : Int32) th_value th_text_length th_text_bytes) H := hP
        have hD : va_D A (w_X6_stepOverNumber tc q_th q_th_text q_th_text_bytes n_th_text_bytes th_place th_start (4 : Int32) th_value th_text_length th_text_bytes) := hD
        cases h
        exact st_vret hx hb hr hlocks hP hD hS dX6_stepOverNumber_139
  unfold f_X6_stepOverNumber at h
  refine lv_aload_n hx hb dX6_stepOverNumber_0 rfl (lv_at hl 0 rfl) ?_
  refine lv_iconst (v := (0 : Int32)) hx hb dX6_stepOverNumber_1 (by decide) ?_
  refine va_put (D := D) (ci := 6) (v := .int (0 : Int32)) (ty := .int) (C := RX6) (T := TX6) (N := 5) hx hb hts hinX6 tyX6 tyX6_ok nmX6 hown hK hP hD hS 0 rfl rfl 4 (by decide) (hts (.fieldLink RX6 59 "ChanceBounds$Tokens" "value" "I") (by decide +kernel)) (fun _ h9 => h9) rfl (by decide +kernel) rfl rfl (Nat.le_of_ble_eq_true rfl) dX6_stepOverNumber_2 (fun H locs hP hD hS => ?_)
  have hP : va_P D vwCl (w_X6_stepOverNumber tc q_th q_th_text q_th_text_bytes n_th_text_bytes th_place th_start th_kind (0 : Int32) th_text_length th_text_bytes) H := hP
  have hD : va_D A (w_X6_stepOverNumber tc q_th q_th_text q_th_text_bytes n_th_text_bytes th_place th_start th_kind (0 : Int32) th_text_length th_text_bytes) := hD
  obtain ⟨⟨z8_0, z8_1⟩, hl8, h⟩ := bd_ok h
  refine L5 th_kind K _ _ hl8 ?_ _ _ _ hP hD hS (lv_sub hl [0] rfl)
  intro H locs ls hP hD hS hl
  refine lv_aload_n hx hb dX6_stepOverNumber_81 rfl (lv_at hl 0 rfl) ?_
  refine va_get (D := D) (ci := 6) (v := .ref q_th_text) (C := RX6) (T := TX6) (N := 5) hx hb hts hinX6 hown hK hP 0 rfl rfl 0 (by decide) (hts (.fieldLink RX6 7 "ChanceBounds$Tokens" "text" "LChanceBounds$Text;") (by decide +kernel)) (fun _ h9 => h9) rfl dX6_stepOverNumber_82 ?_
  refine lv_aload_n hx hb dX6_stepOverNumber_85 rfl (lv_at hl 0 rfl) ?_
  refine va_get (D := D) (ci := 6) (v := .int th_start) (C := RX6) (T := TX6) (N := 5) hx hb hts hinX6 hown hK hP 0 rfl rfl 2 (by decide) (hts (.fieldLink RX6 29 "ChanceBounds$Tokens" "start" "I") (by decide +kernel)) (fun _ h9 => h9) rfl dX6_stepOverNumber_86 ?_
  obtain ⟨z9_0, hc9, h⟩ := bd_ok h
  refine st_callV (As := [.int th_start]) (rest := []) (pos := [1, 2]) ⟨hx, hb, hml, hown, hts⟩ (s_X5_at (l := l) (D := D) (tc := tc) hEok q_th_text q_th_text_bytes n_th_text_bytes th_text_length th_text_bytes th_start z9_0 hc9) (cwV 1 hts gX6_stepOverNumber_X5_at rfl rfl rfl (by decide +kernel) ⟨Nat.le_of_ble_eq_true rfl, Nat.le_of_ble_eq_true rfl⟩) (st_recv (ci := 5) (q0 := 1) hK hP rfl rfl) hEok hE hK hN hP hD hS hA rfl rfl rfl rfl hl.1 rfl (Nat.le_of_ble_eq_true rfl) dX6_stepOverNumber_89 ⟨Nat.zero_le _, Nat.zero_le _⟩ (fun H locs hP hD hS => ?_)
  have hP : va_P D vwCl (w_X6_stepOverNumber tc q_th q_th_text q_th_text_bytes n_th_text_bytes z8_0 th_start th_kind z8_1 th_text_length th_text_bytes) H := hP
  have hD : va_D A (w_X6_stepOverNumber tc q_th q_th_text q_th_text_bytes n_th_text_bytes z8_0 th_start th_kind z8_1 th_text_length th_text_bytes) := hD
  refine lv_bipush (v := (48 : Int32)) hx hb dX6_stepOverNumber_92 (by decide) ?_
  refine lv_icmp_ne (tgt := 114) hx hb dX6_stepOverNumber_94 (by decide) (fun c10 => ?_) (fun c10 => ?_)
  · replace h := ifn c10 h
    exact J114 z8_0 th_kind z8_1 _ _ _ h hP hD hS (lv_sub hl [0] rfl)
  · replace h := ifp c10 h
    refine lv_aload_n hx hb dX6_stepOverNumber_97 rfl (lv_at hl 0 rfl) ?_
    refine va_get (D := D) (ci := 6) (v := .int z8_0) (C := RX6) (T := TX6) (N := 5) hx hb hts hinX6 hown hK hP 0 rfl rfl 1 (by decide) (hts (.fieldLink RX6 13 "ChanceBounds$Tokens" "place" "I") (by decide +kernel)) (fun _ h9 => h9) rfl dX6_stepOverNumber_98 ?_
    refine lv_aload_n hx hb dX6_stepOverNumber_101 rfl (lv_at hl 0 rfl) ?_
    refine va_get (D := D) (ci := 6) (v := .int th_start) (C := RX6) (T := TX6) (N := 5) hx hb hts hinX6 hown hK hP 0 rfl rfl 2 (by decide) (hts (.fieldLink RX6 29 "ChanceBounds$Tokens" "start" "I") (by decide +kernel)) (fun _ h9 => h9) rfl dX6_stepOverNumber_102 ?_
    refine lv_isub hx hb dX6_stepOverNumber_105 ?_
    refine lv_iconst (v := (1 : Int32)) hx hb dX6_stepOverNumber_106 (by decide) ?_
    refine lv_icmp_le (tgt := 114) hx hb dX6_stepOverNumber_107 (by decide) (fun c11 => ?_) (fun c11 => ?_)
    · replace h := ifp c11 h
      exact J114 z8_0 th_kind z8_1 _ _ _ h hP hD hS (lv_sub hl [0] rfl)
    · replace h := ifn c11 h
      refine lv_iconst (v := (1 : Int32)) hx hb dX6_stepOverNumber_110 (by decide) ?_
      refine lv_goto (tgt := 115) hx hb dX6_stepOverNumber_111 (by decide) ?_
      refine lv_istore_n (lv' := [(1, .int (1 : Int32)), (0, .ref q_th)]) hx hb dX6_stepOverNumber_115 rfl hl (by decide) rfl (fun ls hl => ?_)
      refine lv_aload_n hx hb dX6_stepOverNumber_116 rfl (lv_at hl 1 rfl) ?_
      refine lv_iload_n hx hb dX6_stepOverNumber_117 rfl (lv_at hl 0 rfl) ?_
      refine lv_if_ne (tgt := 131) hx hb dX6_stepOverNumber_118 (by decide) (fun c12 => ?_) (fun c12 => ?_)
      · replace h := ifn c12 h
        refine lv_iconst (v := (4 : Int32)) hx hb dX6_stepOverNumber_131 (by decide) ?_
        refine lv_goto (tgt := 136) hx hb dX6_stepOverNumber_132 (by decide) ?_
        refine va_put (D := D) (ci := 6) (v := .int (4 : Int32)) (ty := .int) (C := RX6) (T := TX6) (N := 5) hx hb hts hinX6 tyX6 tyX6_ok nmX6 hown hK hP hD hS 0 rfl rfl 3 (by decide) (hts (.fieldLink RX6 32 "ChanceBounds$Tokens" "kind" "I") (by decide +kernel)) (fun _ h9 => h9) rfl (by decide +kernel) rfl rfl (Nat.le_of_ble_eq_true rfl) dX6_stepOverNumber_136 (fun H locs hP hD hS => ?_)
        have hP : va_P D vwCl (w_X6_stepOverNumber tc q_th q_th_text q_th_text_bytes n_th_text_bytes z8_0 th_start (4 : Int32) z8_1 th_text_length th_text_bytes) H := hP
        have hD : va_D A (w_X6_stepOverNumber tc q_th q_th_text q_th_text_bytes n_th_text_bytes z8_0 th_start (4 : Int32) z8_1 th_text_length th_text_bytes) := hD
        cases h
        exact st_vret hx hb hr hlocks hP hD hS dX6_stepOverNumber_139
      · replace h := ifp c12 h
        refine lv_aload_n hx hb dX6_stepOverNumber_121 rfl (lv_at hl 1 rfl) ?_
        refine va_get (D := D) (ci := 6) (v := .int z8_1) (C := RX6) (T := TX6) (N := 5) hx hb hts hinX6 hown hK hP 0 rfl rfl 4 (by decide) (hts (.fieldLink RX6 59 "ChanceBounds$Tokens" "value" "I") (by decide +kernel)) (fun _ h9 => h9) rfl dX6_stepOverNumber_122 ?_
        refine lv_sipush (v := (1000 : Int32)) hx hb dX6_stepOverNumber_125 (by decide) ?_
        refine lv_icmp_ne (tgt := 135) hx hb dX6_stepOverNumber_128 (by decide) (fun c13 => ?_) (fun c13 => ?_)
        · replace h := ifn c13 h
          refine lv_iconst (v := (3 : Int32)) hx hb dX6_stepOverNumber_135 (by decide) ?_
          refine va_put (D := D) (ci := 6) (v := .int (3 : Int32)) (ty := .int) (C := RX6) (T := TX6) (N := 5) hx hb hts hinX6 tyX6 tyX6_ok nmX6 hown hK hP hD hS 0 rfl rfl 3 (by decide) (hts (.fieldLink RX6 32 "ChanceBounds$Tokens" "kind" "I") (by decide +kernel)) (fun _ h9 => h9) rfl (by decide +kernel) rfl rfl (Nat.le_of_ble_eq_true rfl) dX6_stepOverNumber_136 (fun H locs hP hD hS => ?_)
          have hP : va_P D vwCl (w_X6_stepOverNumber tc q_th q_th_text q_th_text_bytes n_th_text_bytes z8_0 th_start (3 : Int32) z8_1 th_text_length th_text_bytes) H := hP
          have hD : va_D A (w_X6_stepOverNumber tc q_th q_th_text q_th_text_bytes n_th_text_bytes z8_0 th_start (3 : Int32) z8_1 th_text_length th_text_bytes) := hD
          cases h
          exact st_vret hx hb hr hlocks hP hD hS dX6_stepOverNumber_139
        · replace h := ifp c13 h
          refine lv_iconst (v := (4 : Int32)) hx hb dX6_stepOverNumber_131 (by decide) ?_
          refine lv_goto (tgt := 136) hx hb dX6_stepOverNumber_132 (by decide) ?_
          refine va_put (D := D) (ci := 6) (v := .int (4 : Int32)) (ty := .int) (C := RX6) (T := TX6) (N := 5) hx hb hts hinX6 tyX6 tyX6_ok nmX6 hown hK hP hD hS 0 rfl rfl 3 (by decide) (hts (.fieldLink RX6 32 "ChanceBounds$Tokens" "kind" "I") (by decide +kernel)) (fun _ h9 => h9) rfl (by decide +kernel) rfl rfl (Nat.le_of_ble_eq_true rfl) dX6_stepOverNumber_136 (fun H locs hP hD hS => ?_)
          have hP : va_P D vwCl (w_X6_stepOverNumber tc q_th q_th_text q_th_text_bytes n_th_text_bytes z8_0 th_start (4 : Int32) z8_1 th_text_length th_text_bytes) H := hP
          have hD : va_D A (w_X6_stepOverNumber tc q_th q_th_text q_th_text_bytes n_th_text_bytes z8_0 th_start (4 : Int32) z8_1 th_text_length th_text_bytes) := hD
          cases h
          exact st_vret hx hb hr hlocks hP hD hS dX6_stepOverNumber_139
def f_X6_step_L0 (n_th_text_bytes : Nat) (th_text_length : Int32) (th_text_bytes : Nat → Int32) (s0 : Int32) : Option ((Int32) ⊕ (Int32)) :=
  (fun th_place => 
    if th_text_length ≤ th_place then
      some (.inl th_place)
    else
      (f_X5_at n_th_text_bytes th_text_length th_text_bytes th_place).bind fun z2_0 =>
      if z2_0 = (32 : Int32) then
        some (.inr (th_place + (1 : Int32)))
      else
        some (.inl th_place)
  ) s0
def f_X6_step (K : Nat) (n_th_text_bytes : Nat) (th_place : Int32) (th_value : Int32) (th_text_length : Int32) (th_text_bytes : Nat → Int32) : Option (Int32 × Int32 × Int32 × Int32) :=
  if th_text_length ≤ th_place then
    (f_X5_at n_th_text_bytes th_text_length th_text_bytes th_place).bind fun z5_0 =>
    if (0 : Int32) ≤ z5_0 then
      (f_X6_isLetter z5_0).bind fun z7_0 =>
      if z7_0 = (0 : Int32) then
        (f_X6_isDigit z5_0).bind fun z9_0 =>
        if z9_0 = (0 : Int32) then
          (f_J0_indexOf_0f7a4 K ((z5_0.toUInt32 % 65536).toInt32)).bind fun z11_0 =>
          if z11_0 < (0 : Int32) then
            some (th_place + (1 : Int32), th_place, (4 : Int32), th_value)
          else
            some (th_place + (1 : Int32), th_place, z5_0, th_value)
        else
          (f_X6_stepOverNumber K n_th_text_bytes th_place th_place th_text_length th_text_bytes).bind fun z13 => match z13 with
          | (z13_0, z13_1, z13_2) =>
            some (z13_0, th_place, z13_1, z13_2)
      else
        (f_X6_stepOverWord K n_th_text_bytes th_place th_place th_value th_text_length th_text_bytes).bind fun z14 => match z14 with
        | (z14_0, z14_1, z14_2) =>
          some (z14_0, th_place, z14_1, z14_2)
    else
      some (th_place, th_place, (0 : Int32), th_value)
  else
    (f_X5_at n_th_text_bytes th_text_length th_text_bytes th_place).bind fun z15_0 =>
    if z15_0 = (32 : Int32) then
      (lp (f_X6_step_L0 n_th_text_bytes th_text_length th_text_bytes) K (th_place + (1 : Int32))).bind fun z27_0 =>
      (f_X5_at n_th_text_bytes th_text_length th_text_bytes z27_0).bind fun z28_0 =>
      if (0 : Int32) ≤ z28_0 then
        (f_X6_isLetter z28_0).bind fun z30_0 =>
        if z30_0 = (0 : Int32) then
          (f_X6_isDigit z28_0).bind fun z32_0 =>
          if z32_0 = (0 : Int32) then
            (f_J0_indexOf_0f7a4 K ((z28_0.toUInt32 % 65536).toInt32)).bind fun z34_0 =>
            if z34_0 < (0 : Int32) then
              some (z27_0 + (1 : Int32), z27_0, (4 : Int32), th_value)
            else
              some (z27_0 + (1 : Int32), z27_0, z28_0, th_value)
          else
            (f_X6_stepOverNumber K n_th_text_bytes z27_0 z27_0 th_text_length th_text_bytes).bind fun z36 => match z36 with
            | (z36_0, z36_1, z36_2) =>
              some (z36_0, z27_0, z36_1, z36_2)
        else
          (f_X6_stepOverWord K n_th_text_bytes z27_0 z27_0 th_value th_text_length th_text_bytes).bind fun z37 => match z37 with
          | (z37_0, z37_1, z37_2) =>
            some (z37_0, z27_0, z37_1, z37_2)
      else
        some (z27_0, z27_0, (0 : Int32), th_value)
    else
      (f_X5_at n_th_text_bytes th_text_length th_text_bytes th_place).bind fun z17_0 =>
      if (0 : Int32) ≤ z17_0 then
        (f_X6_isLetter z17_0).bind fun z19_0 =>
        if z19_0 = (0 : Int32) then
          (f_X6_isDigit z17_0).bind fun z21_0 =>
          if z21_0 = (0 : Int32) then
            (f_J0_indexOf_0f7a4 K ((z17_0.toUInt32 % 65536).toInt32)).bind fun z23_0 =>
            if z23_0 < (0 : Int32) then
              some (th_place + (1 : Int32), th_place, (4 : Int32), th_value)
            else
              some (th_place + (1 : Int32), th_place, z17_0, th_value)
          else
            (f_X6_stepOverNumber K n_th_text_bytes th_place th_place th_text_length th_text_bytes).bind fun z25 => match z25 with
            | (z25_0, z25_1, z25_2) =>
              some (z25_0, th_place, z25_1, z25_2)
        else
          (f_X6_stepOverWord K n_th_text_bytes th_place th_place th_value th_text_length th_text_bytes).bind fun z26 => match z26 with
          | (z26_0, z26_1, z26_2) =>
            some (z26_0, th_place, z26_1, z26_2)
      else
        some (th_place, th_place, (0 : Int32), th_value)
abbrev w_X6_step (tc : Nat → ClassId) (q_th : Nat) (q_th_text : Nat) (q_th_text_bytes : Nat) (n_th_text_bytes : Nat) (th_place : Int32) (th_start : Int32) (th_kind : Int32) (th_value : Int32) (th_text_length : Int32) (th_text_bytes : Nat → Int32) : va_W := [(q_th, .inr (6, [.ref q_th_text, .int th_place, .int th_start, .int th_kind, .int th_value])), (q_th_text, .inr (5, [.ref q_th_text_bytes, .int th_text_length])), (q_th_text_bytes, .inl (tc 0, n_th_text_bytes, .inl th_text_bytes))]
set_option maxHeartbeats 4000000 in
set_option maxRecDepth 100000 in
theorem s_X6_step {l : Launch} (t0 aK aV : Nat) {D : va_G} {tc : Nat → ClassId} (q_th : Nat) (q_th_text : Nat) (q_th_text_bytes : Nat) (n_th_text_bytes : Nat) (th_place : Int32) (th_start : Int32) (th_kind : Int32) (th_value : Int32) (th_text_length : Int32) (th_text_bytes : Nat → Int32) (K : Nat) (th_place' : Int32) (th_start' : Int32) (th_kind' : Int32) (th_value' : Int32) (h : f_X6_step K n_th_text_bytes th_place th_value th_text_length th_text_bytes = some (th_place', th_start', th_kind', th_value')) : st l yX6_step wsX6_step ({ frames := 4, cells := 0, slots := 0, locals := 91 }) (tk_E t0 aK aV) D tc [.ref q_th] (w_X6_step tc q_th q_th_text q_th_text_bytes n_th_text_bytes th_place th_start th_kind th_value th_text_length th_text_bytes) none (w_X6_step tc q_th q_th_text q_th_text_bytes n_th_text_bytes th_place' th_start' th_kind' th_value' th_text_length th_text_bytes) := by
  have hEok : st_Eok (tk_E t0 aK aV) := tk_ok t0 aK aV
  refine st_enter (cc := cX6_step) (maxL := 2) (ret := none) (by decide) rfl (Nat.le_of_ble_eq_true rfl) ?_
  intro p e s m below meth c A ls hx hb hr hml hts hown hlocks hK hN hE hA hP hD hS hl
  have hl : lv_has ls 2 [(0, .ref q_th)] := hl
  have hinX5 : ∀ w ∈ wsX50, w ∈ wsX6_step := by decide +kernel
  have hinX6 : ∀ w ∈ wsX60, w ∈ wsX6_step := by decide +kernel
  generalize hav : ([.ref q_th] : List Value).toArray = av at hts ⊢
  have L0 : ∀ (th_start : Int32) (th_kind : Int32) (th_value : Int32), ∀ (k : Nat) (s0 : Int32) (r : Int32), lp (f_X6_step_L0 n_th_text_bytes th_text_length th_text_bytes) k s0 = some r → (fun th_place : Int32 => ∀ (H : Heap) (locs : List Loc) (ls : Array Slot), va_P D vwCl (w_X6_step tc q_th q_th_text q_th_text_bytes n_th_text_bytes th_place th_start th_kind th_value th_text_length th_text_bytes) H → va_D A (w_X6_step tc q_th q_th_text q_th_text_bytes n_th_text_bytes th_place th_start th_kind th_value th_text_length th_text_bytes) → va_S A s.heap H locs → lv_has ls 2 [(0, .ref q_th)] → W p l e ({ frames := 4, cells := 0, slots := 0, locals := 91 } : Room) s m av below meth c H locs 0 0 (MQ below (st_Q D (w_X6_step tc q_th q_th_text q_th_text_bytes n_th_text_bytes th_place' th_start' th_kind' th_value' th_text_length th_text_bytes) none A) av s 0 0 A) (F0 m 43 ls [])) r → (fun th_place : Int32 => ∀ (H : Heap) (locs : List Loc) (ls : Array Slot), va_P D vwCl (w_X6_step tc q_th q_th_text q_th_text_bytes n_th_text_bytes th_place th_start th_kind th_value th_text_length th_text_bytes) H → va_D A (w_X6_step tc q_th q_th_text q_th_text_bytes n_th_text_bytes th_place th_start th_kind th_value th_text_length th_text_bytes) → va_S A s.heap H locs → lv_has ls 2 [(0, .ref q_th)] → W p l e ({ frames := 4, cells := 0, slots := 0, locals := 91 } : Room) s m av below meth c H locs 0 0 (MQ below (st_Q D (w_X6_step tc q_th q_th_text q_th_text_bytes n_th_text_bytes th_place' th_start' th_kind' th_value' th_text_length th_text_bytes) none A) av s 0 0 A) (F0 m 0 ls [])) s0 := by
    intro th_start th_kind th_value
    refine lp_W (f_X6_step_L0 n_th_text_bytes th_text_length th_text_bytes) (fun th_place : Int32 => ∀ (H : Heap) (locs : List Loc) (ls : Array Slot), va_P D vwCl (w_X6_step tc q_th q_th_text q_th_text_bytes n_th_text_bytes th_place th_start th_kind th_value th_text_length th_text_bytes) H → va_D A (w_X6_step tc q_th q_th_text q_th_text_bytes n_th_text_bytes th_place th_start th_kind th_value th_text_length th_text_bytes) → va_S A s.heap H locs → lv_has ls 2 [(0, .ref q_th)] → W p l e ({ frames := 4, cells := 0, slots := 0, locals := 91 } : Room) s m av below meth c H locs 0 0 (MQ below (st_Q D (w_X6_step tc q_th q_th_text q_th_text_bytes n_th_text_bytes th_place' th_start' th_kind' th_value' th_text_length th_text_bytes) none A) av s 0 0 A) (F0 m 0 ls [])) (fun th_place : Int32 => ∀ (H : Heap) (locs : List Loc) (ls : Array Slot), va_P D vwCl (w_X6_step tc q_th q_th_text q_th_text_bytes n_th_text_bytes th_place th_start th_kind th_value th_text_length th_text_bytes) H → va_D A (w_X6_step tc q_th q_th_text q_th_text_bytes n_th_text_bytes th_place th_start th_kind th_value th_text_length th_text_bytes) → va_S A s.heap H locs → lv_has ls 2 [(0, .ref q_th)] → W p l e ({ frames := 4, cells := 0, slots := 0, locals := 91 } : Room) s m av below meth c H locs 0 0 (MQ below (st_Q D (w_X6_step tc q_th q_th_text q_th_text_bytes n_th_text_bytes th_place' th_start' th_kind' th_value' th_text_length th_text_bytes) none A) av s 0 0 A) (F0 m 43 ls [])) ?_
    rintro th_place o h ih hz H locs ls hP hD hS hl
    unfold f_X6_step_L0 at h
    refine lv_aload_n hx hb dX6_step_0 rfl (lv_at hl 0 rfl) ?_
    refine va_get (D := D) (ci := 6) (v := .int th_place) (C := RX6) (T := TX6) (N := 5) hx hb hts hinX6 hown hK hP 0 rfl rfl 1 (by decide) (hts (.fieldLink RX6 13 "ChanceBounds$Tokens" "place" "I") (by decide +kernel)) (fun _ h9 => h9) rfl dX6_step_1 ?_
    refine lv_aload_n hx hb dX6_step_4 rfl (lv_at hl 0 rfl) ?_
    refine va_get (D := D) (ci := 6) (v := .ref q_th_text) (C := RX6) (T := TX6) (N := 5) hx hb hts hinX6 hown hK hP 0 rfl rfl 0 (by decide) (hts (.fieldLink RX6 7 "ChanceBounds$Tokens" "text" "LChanceBounds$Text;") (by decide +kernel)) (fun _ h9 => h9) rfl dX6_step_5 ?_
    refine va_getN (D := D) (ci := 5) (v := .int th_text_length) (C := RX5) (T := TX5) (N := 2) hx hb hts hinX5 hown hK hP 1 rfl rfl 1 (by decide) (va_Nw.use rfl (hN (.fieldLinkNest RX6 20 "ChanceBounds$Text" "length" "I" "ChanceBounds") (by decide +kernel))) (fun _ h9 => h9) rfl dX6_step_8 ?_
    refine lv_icmp_ge (tgt := 43) hx hb dX6_step_11 (by decide) (fun c1 => ?_) (fun c1 => ?_)
    · replace h := ifp c1 h
      cases h
      exact hz _ rfl _ _ _ hP hD hS (lv_sub hl [0] rfl)
    · replace h := ifn c1 h
      refine lv_aload_n hx hb dX6_step_14 rfl (lv_at hl 0 rfl) ?_
      refine va_get (D := D) (ci := 6) (v := .ref q_th_text) (C := RX6) (T := TX6) (N := 5) hx hb hts hinX6 hown hK hP 0 rfl rfl 0 (by decide) (hts (.fieldLink RX6 7 "ChanceBounds$Tokens" "text" "LChanceBounds$Text;") (by decide +kernel)) (fun _ h9 => h9) rfl dX6_step_15 ?_
      refine lv_aload_n hx hb dX6_step_18 rfl (lv_at hl 0 rfl) ?_
      refine va_get (D := D) (ci := 6) (v := .int th_place) (C := RX6) (T := TX6) (N := 5) hx hb hts hinX6 hown hK hP 0 rfl rfl 1 (by decide) (hts (.fieldLink RX6 13 "ChanceBounds$Tokens" "place" "I") (by decide +kernel)) (fun _ h9 => h9) rfl dX6_step_19 ?_
      obtain ⟨z2_0, hc2, h⟩ := bd_ok h
      refine st_callV (As := [.int th_place]) (rest := []) (pos := [1, 2]) ⟨hx, hb, hml, hown, hts⟩ (s_X5_at (l := l) (D := D) (tc := tc) hEok q_th_text q_th_text_bytes n_th_text_bytes th_text_length th_text_bytes th_place z2_0 hc2) (cwV 1 hts gX6_step_X5_at rfl rfl rfl (by decide +kernel) ⟨Nat.le_of_ble_eq_true rfl, Nat.le_of_ble_eq_true rfl⟩) (st_recv (ci := 5) (q0 := 1) hK hP rfl rfl) hEok hE hK hN hP hD hS hA rfl rfl rfl rfl hl.1 rfl (Nat.le_of_ble_eq_true rfl) dX6_step_22 ⟨Nat.zero_le _, Nat.zero_le _⟩ (fun H locs hP hD hS => ?_)
      have hP : va_P D vwCl (w_X6_step tc q_th q_th_text q_th_text_bytes n_th_text_bytes th_place th_start th_kind th_value th_text_length th_text_bytes) H := hP
      have hD : va_D A (w_X6_step tc q_th q_th_text q_th_text_bytes n_th_text_bytes th_place th_start th_kind th_value th_text_length th_text_bytes) := hD
      refine lv_bipush (v := (32 : Int32)) hx hb dX6_step_25 (by decide) ?_
      refine lv_icmp_ne (tgt := 43) hx hb dX6_step_27 (by decide) (fun c3 => ?_) (fun c3 => ?_)
      · replace h := ifn c3 h
        cases h
        exact hz _ rfl _ _ _ hP hD hS (lv_sub hl [0] rfl)
      · replace h := ifp c3 h
        refine lv_aload_n hx hb dX6_step_30 rfl (lv_at hl 0 rfl) ?_
        refine lv_dup hx hb dX6_step_31 rfl ?_
        refine va_get (D := D) (ci := 6) (v := .int th_place) (C := RX6) (T := TX6) (N := 5) hx hb hts hinX6 hown hK hP 0 rfl rfl 1 (by decide) (hts (.fieldLink RX6 13 "ChanceBounds$Tokens" "place" "I") (by decide +kernel)) (fun _ h9 => h9) rfl dX6_step_32 ?_
        refine lv_iconst (v := (1 : Int32)) hx hb dX6_step_35 (by decide) ?_
        refine lv_iadd hx hb dX6_step_36 ?_
        refine va_put (D := D) (ci := 6) (v := .int (th_place + (1 : Int32))) (ty := .int) (C := RX6) (T := TX6) (N := 5) hx hb hts hinX6 tyX6 tyX6_ok nmX6 hown hK hP hD hS 0 rfl rfl 1 (by decide) (hts (.fieldLink RX6 13 "ChanceBounds$Tokens" "place" "I") (by decide +kernel)) (fun _ h9 => h9) rfl (by decide +kernel) rfl rfl (Nat.le_of_ble_eq_true rfl) dX6_step_37 (fun H locs hP hD hS => ?_)
        have hP : va_P D vwCl (w_X6_step tc q_th q_th_text q_th_text_bytes n_th_text_bytes (th_place + (1 : Int32)) th_start th_kind th_value th_text_length th_text_bytes) H := hP
        have hD : va_D A (w_X6_step tc q_th q_th_text q_th_text_bytes n_th_text_bytes (th_place + (1 : Int32)) th_start th_kind th_value th_text_length th_text_bytes) := hD
        refine lv_goto (tgt := 0) hx hb dX6_step_40 (by decide) ?_
        cases h
        exact ih _ rfl _ _ _ hP hD hS (lv_sub hl [0] rfl)
  unfold f_X6_step at h
  refine lv_aload_n hx hb dX6_step_0 rfl (lv_at hl 0 rfl) ?_
  refine va_get (D := D) (ci := 6) (v := .int th_place) (C := RX6) (T := TX6) (N := 5) hx hb hts hinX6 hown hK hP 0 rfl rfl 1 (by decide) (hts (.fieldLink RX6 13 "ChanceBounds$Tokens" "place" "I") (by decide +kernel)) (fun _ h9 => h9) rfl dX6_step_1 ?_
  refine lv_aload_n hx hb dX6_step_4 rfl (lv_at hl 0 rfl) ?_
  refine va_get (D := D) (ci := 6) (v := .ref q_th_text) (C := RX6) (T := TX6) (N := 5) hx hb hts hinX6 hown hK hP 0 rfl rfl 0 (by decide) (hts (.fieldLink RX6 7 "ChanceBounds$Tokens" "text" "LChanceBounds$Text;") (by decide +kernel)) (fun _ h9 => h9) rfl dX6_step_5 ?_
  refine va_getN (D := D) (ci := 5) (v := .int th_text_length) (C := RX5) (T := TX5) (N := 2) hx hb hts hinX5 hown hK hP 1 rfl rfl 1 (by decide) (va_Nw.use rfl (hN (.fieldLinkNest RX6 20 "ChanceBounds$Text" "length" "I" "ChanceBounds") (by decide +kernel))) (fun _ h9 => h9) rfl dX6_step_8 ?_
  refine lv_icmp_ge (tgt := 43) hx hb dX6_step_11 (by decide) (fun c4 => ?_) (fun c4 => ?_)
  · replace h := ifp c4 h
    refine lv_aload_n hx hb dX6_step_43 rfl (lv_at hl 0 rfl) ?_
    refine lv_aload_n hx hb dX6_step_44 rfl (lv_at hl 0 rfl) ?_
    refine va_get (D := D) (ci := 6) (v := .int th_place) (C := RX6) (T := TX6) (N := 5) hx hb hts hinX6 hown hK hP 0 rfl rfl 1 (by decide) (hts (.fieldLink RX6 13 "ChanceBounds$Tokens" "place" "I") (by decide +kernel)) (fun _ h9 => h9) rfl dX6_step_45 ?_
    refine va_put (D := D) (ci := 6) (v := .int th_place) (ty := .int) (C := RX6) (T := TX6) (N := 5) hx hb hts hinX6 tyX6 tyX6_ok nmX6 hown hK hP hD hS 0 rfl rfl 2 (by decide) (hts (.fieldLink RX6 29 "ChanceBounds$Tokens" "start" "I") (by decide +kernel)) (fun _ h9 => h9) rfl (by decide +kernel) rfl rfl (Nat.le_of_ble_eq_true rfl) dX6_step_48 (fun H locs hP hD hS => ?_)
    have hP : va_P D vwCl (w_X6_step tc q_th q_th_text q_th_text_bytes n_th_text_bytes th_place th_place th_kind th_value th_text_length th_text_bytes) H := hP
    have hD : va_D A (w_X6_step tc q_th q_th_text q_th_text_bytes n_th_text_bytes th_place th_place th_kind th_value th_text_length th_text_bytes) := hD
    refine lv_aload_n hx hb dX6_step_51 rfl (lv_at hl 0 rfl) ?_
    refine va_get (D := D) (ci := 6) (v := .ref q_th_text) (C := RX6) (T := TX6) (N := 5) hx hb hts hinX6 hown hK hP 0 rfl rfl 0 (by decide) (hts (.fieldLink RX6 7 "ChanceBounds$Tokens" "text" "LChanceBounds$Text;") (by decide +kernel)) (fun _ h9 => h9) rfl dX6_step_52 ?_
    refine lv_aload_n hx hb dX6_step_55 rfl (lv_at hl 0 rfl) ?_
    refine va_get (D := D) (ci := 6) (v := .int th_place) (C := RX6) (T := TX6) (N := 5) hx hb hts hinX6 hown hK hP 0 rfl rfl 1 (by decide) (hts (.fieldLink RX6 13 "ChanceBounds$Tokens" "place" "I") (by decide +kernel)) (fun _ h9 => h9) rfl dX6_step_56 ?_
    obtain ⟨z5_0, hc5, h⟩ := bd_ok h
    refine st_callV (As := [.int th_place]) (rest := []) (pos := [1, 2]) ⟨hx, hb, hml, hown, hts⟩ (s_X5_at (l := l) (D := D) (tc := tc) hEok q_th_text q_th_text_bytes n_th_text_bytes th_text_length th_text_bytes th_place z5_0 hc5) (cwV 1 hts gX6_step_X5_at rfl rfl rfl (by decide +kernel) ⟨Nat.le_of_ble_eq_true rfl, Nat.le_of_ble_eq_true rfl⟩) (st_recv (ci := 5) (q0 := 1) hK hP rfl rfl) hEok hE hK hN hP hD hS hA rfl rfl rfl rfl hl.1 rfl (Nat.le_of_ble_eq_true rfl) dX6_step_59 ⟨Nat.zero_le _, Nat.zero_le _⟩ (fun H locs hP hD hS => ?_)
    have hP : va_P D vwCl (w_X6_step tc q_th q_th_text q_th_text_bytes n_th_text_bytes th_place th_place th_kind th_value th_text_length th_text_bytes) H := hP
    have hD : va_D A (w_X6_step tc q_th q_th_text q_th_text_bytes n_th_text_bytes th_place th_place th_kind th_value th_text_length th_text_bytes) := hD
    refine lv_istore_n (lv' := [(1, .int z5_0), (0, .ref q_th)]) hx hb dX6_step_62 rfl hl (by decide) rfl (fun ls hl => ?_)
    refine lv_iload_n hx hb dX6_step_63 rfl (lv_at hl 0 rfl) ?_
    refine lv_if_ge (tgt := 75) hx hb dX6_step_64 (by decide) (fun c6 => ?_) (fun c6 => ?_)
    · replace h := ifp c6 h
      refine lv_iload_n hx hb dX6_step_75 rfl (lv_at hl 0 rfl) ?_
      obtain ⟨z7_0, hc7, h⟩ := bd_ok h
      refine st_callS (As := [.int z5_0]) (rest := []) (pos := []) ⟨hx, hb, hml, hown, hts⟩ (s_X6_isLetter (l := l) (D := D) (tc := tc) hEok z5_0 z7_0 hc7) (va_cwS 1 hts gX6_step_X6_isLetter rfl rfl rfl (by decide +kernel) ⟨Nat.le_of_ble_eq_true rfl, Nat.le_of_ble_eq_true rfl⟩) hEok hE hK hN hP hD hS hA rfl rfl rfl rfl hl.1 rfl (Nat.le_of_ble_eq_true rfl) dX6_step_76 ⟨Nat.zero_le _, Nat.zero_le _⟩ (fun H locs hP hD hS => ?_)
      have hP : va_P D vwCl (w_X6_step tc q_th q_th_text q_th_text_bytes n_th_text_bytes th_place th_place th_kind th_value th_text_length th_text_bytes) H := hP
      have hD : va_D A (w_X6_step tc q_th q_th_text q_th_text_bytes n_th_text_bytes th_place th_place th_kind th_value th_text_length th_text_bytes) := hD
      refine lv_if_eq (tgt := 89) hx hb dX6_step_79 (by decide) (fun c8 => ?_) (fun c8 => ?_)
      · replace h := ifp c8 h
        refine lv_iload_n hx hb dX6_step_89 rfl (lv_at hl 0 rfl) ?_
        obtain ⟨z9_0, hc9, h⟩ := bd_ok h
        refine st_callS (As := [.int z5_0]) (rest := []) (pos := []) ⟨hx, hb, hml, hown, hts⟩ (s_X6_isDigit (l := l) (D := D) (tc := tc) hEok z5_0 z9_0 hc9) (va_cwS 1 hts gX6_step_X6_isDigit rfl rfl rfl (by decide +kernel) ⟨Nat.le_of_ble_eq_true rfl, Nat.le_of_ble_eq_true rfl⟩) hEok hE hK hN hP hD hS hA rfl rfl rfl rfl hl.1 rfl (Nat.le_of_ble_eq_true rfl) dX6_step_90 ⟨Nat.zero_le _, Nat.zero_le _⟩ (fun H locs hP hD hS => ?_)
        have hP : va_P D vwCl (w_X6_step tc q_th q_th_text q_th_text_bytes n_th_text_bytes th_place th_place th_kind th_value th_text_length th_text_bytes) H := hP
        have hD : va_D A (w_X6_step tc q_th q_th_text q_th_text_bytes n_th_text_bytes th_place th_place th_kind th_value th_text_length th_text_bytes) := hD
        refine lv_if_eq (tgt := 103) hx hb dX6_step_93 (by decide) (fun c10 => ?_) (fun c10 => ?_)
        · replace h := ifp c10 h
          refine lv_aload_n hx hb dX6_step_103 rfl (lv_at hl 1 rfl) ?_
          refine va_ldcS hx hb hown hE.2.2.1 dX6_step_104 ?_
          refine lv_iload_n hx hb dX6_step_106 rfl (lv_at hl 0 rfl) ?_
          refine lv_i2c (v := (z5_0.toUInt32 % 65536).toInt32) hx hb dX6_step_107 rfl ?_
          obtain ⟨z11_0, hc11, h⟩ := bd_ok h
          refine st_callV (As := [.int ((z5_0.toUInt32 % 65536).toInt32)]) (rest := [.ref q_th]) (pos := []) ⟨hx, hb, hml, hown, hts⟩ (s_J0_indexOf_0f7a4 (l := l) (D := D) (tc := tc) t0 aK aV ((z5_0.toUInt32 % 65536).toInt32) K z11_0 hc11) (cwV 1 hts gX6_step_J0_indexOf_0f7a4 rfl rfl rfl (by decide +kernel) ⟨Nat.le_of_ble_eq_true rfl, Nat.le_of_ble_eq_true rfl⟩) (vk_recv (i := 0) hE.2.2.2.1 (by decide) hS) hEok hE hK hN hP hD hS hA rfl rfl rfl rfl hl.1 rfl (Nat.le_of_ble_eq_true rfl) dX6_step_108 ⟨Nat.zero_le _, Nat.zero_le _⟩ (fun H locs hP hD hS => ?_)
          have hP : va_P D vwCl (w_X6_step tc q_th q_th_text q_th_text_bytes n_th_text_bytes th_place th_place th_kind th_value th_text_length th_text_bytes) H := hP
          have hD : va_D A (w_X6_step tc q_th q_th_text q_th_text_bytes n_th_text_bytes th_place th_place th_kind th_value th_text_length th_text_bytes) := hD
          refine lv_if_lt (tgt := 118) hx hb dX6_step_111 (by decide) (fun c12 => ?_) (fun c12 => ?_)
          · replace h := ifp c12 h
            refine lv_iconst (v := (4 : Int32)) hx hb dX6_step_118 (by decide) ?_
            refine va_put (D := D) (ci := 6) (v := .int (4 : Int32)) (ty := .int) (C := RX6) (T := TX6) (N := 5) hx hb hts hinX6 tyX6 tyX6_ok nmX6 hown hK hP hD hS 0 rfl rfl 3 (by decide) (hts (.fieldLink RX6 32 "ChanceBounds$Tokens" "kind" "I") (by decide +kernel)) (fun _ h9 => h9) rfl (by decide +kernel) rfl rfl (Nat.le_of_ble_eq_true rfl) dX6_step_119 (fun H locs hP hD hS => ?_)
            have hP : va_P D vwCl (w_X6_step tc q_th q_th_text q_th_text_bytes n_th_text_bytes th_place th_place (4 : Int32) th_value th_text_length th_text_bytes) H := hP
            have hD : va_D A (w_X6_step tc q_th q_th_text q_th_text_bytes n_th_text_bytes th_place th_place (4 : Int32) th_value th_text_length th_text_bytes) := hD
            refine lv_aload_n hx hb dX6_step_122 rfl (lv_at hl 1 rfl) ?_
            refine lv_dup hx hb dX6_step_123 rfl ?_
            refine va_get (D := D) (ci := 6) (v := .int th_place) (C := RX6) (T := TX6) (N := 5) hx hb hts hinX6 hown hK hP 0 rfl rfl 1 (by decide) (hts (.fieldLink RX6 13 "ChanceBounds$Tokens" "place" "I") (by decide +kernel)) (fun _ h9 => h9) rfl dX6_step_124 ?_
            refine lv_iconst (v := (1 : Int32)) hx hb dX6_step_127 (by decide) ?_
            refine lv_iadd hx hb dX6_step_128 ?_
            refine va_put (D := D) (ci := 6) (v := .int (th_place + (1 : Int32))) (ty := .int) (C := RX6) (T := TX6) (N := 5) hx hb hts hinX6 tyX6 tyX6_ok nmX6 hown hK hP hD hS 0 rfl rfl 1 (by decide) (hts (.fieldLink RX6 13 "ChanceBounds$Tokens" "place" "I") (by decide +kernel)) (fun _ h9 => h9) rfl (by decide +kernel) rfl rfl (Nat.le_of_ble_eq_true rfl) dX6_step_129 (fun H locs hP hD hS => ?_)
            have hP : va_P D vwCl (w_X6_step tc q_th q_th_text q_th_text_bytes n_th_text_bytes (th_place + (1 : Int32)) th_place (4 : Int32) th_value th_text_length th_text_bytes) H := hP
            have hD : va_D A (w_X6_step tc q_th q_th_text q_th_text_bytes n_th_text_bytes (th_place + (1 : Int32)) th_place (4 : Int32) th_value th_text_length th_text_bytes) := hD
            cases h
            exact st_vret hx hb hr hlocks hP hD hS dX6_step_132
          · replace h := ifn c12 h
            refine lv_iload_n hx hb dX6_step_114 rfl (lv_at hl 0 rfl) ?_
            refine lv_goto (tgt := 119) hx hb dX6_step_115 (by decide) ?_
            refine va_put (D := D) (ci := 6) (v := .int z5_0) (ty := .int) (C := RX6) (T := TX6) (N := 5) hx hb hts hinX6 tyX6 tyX6_ok nmX6 hown hK hP hD hS 0 rfl rfl 3 (by decide) (hts (.fieldLink RX6 32 "ChanceBounds$Tokens" "kind" "I") (by decide +kernel)) (fun _ h9 => h9) rfl (by decide +kernel) rfl rfl (Nat.le_of_ble_eq_true rfl) dX6_step_119 (fun H locs hP hD hS => ?_)
            have hP : va_P D vwCl (w_X6_step tc q_th q_th_text q_th_text_bytes n_th_text_bytes th_place th_place z5_0 th_value th_text_length th_text_bytes) H := hP
            have hD : va_D A (w_X6_step tc q_th q_th_text q_th_text_bytes n_th_text_bytes th_place th_place z5_0 th_value th_text_length th_text_bytes) := hD
            refine lv_aload_n hx hb dX6_step_122 rfl (lv_at hl 1 rfl) ?_
            refine lv_dup hx hb dX6_step_123 rfl ?_
            refine va_get (D := D) (ci := 6) (v := .int th_place) (C := RX6) (T := TX6) (N := 5) hx hb hts hinX6 hown hK hP 0 rfl rfl 1 (by decide) (hts (.fieldLink RX6 13 "ChanceBounds$Tokens" "place" "I") (by decide +kernel)) (fun _ h9 => h9) rfl dX6_step_124 ?_
            refine lv_iconst (v := (1 : Int32)) hx hb dX6_step_127 (by decide) ?_
            refine lv_iadd hx hb dX6_step_128 ?_
            refine va_put (D := D) (ci := 6) (v := .int (th_place + (1 : Int32))) (ty := .int) (C := RX6) (T := TX6) (N := 5) hx hb hts hinX6 tyX6 tyX6_ok nmX6 hown hK hP hD hS 0 rfl rfl 1 (by decide) (hts (.fieldLink RX6 13 "ChanceBounds$Tokens" "place" "I") (by decide +kernel)) (fun _ h9 => h9) rfl (by decide +kernel) rfl rfl (Nat.le_of_ble_eq_true rfl) dX6_step_129 (fun H locs hP hD hS => ?_)
            have hP : va_P D vwCl (w_X6_step tc q_th q_th_text q_th_text_bytes n_th_text_bytes (th_place + (1 : Int32)) th_place z5_0 th_value th_text_length th_text_bytes) H := hP
            have hD : va_D A (w_X6_step tc q_th q_th_text q_th_text_bytes n_th_text_bytes (th_place + (1 : Int32)) th_place z5_0 th_value th_text_length th_text_bytes) := hD
            cases h
            exact st_vret hx hb hr hlocks hP hD hS dX6_step_132
        · replace h := ifn c10 h
          refine lv_aload_n hx hb dX6_step_96 rfl (lv_at hl 1 rfl) ?_
          obtain ⟨⟨z13_0, z13_1, z13_2⟩, hc13, h⟩ := bd_ok h
          refine st_callV (As := []) (rest := []) (pos := [0, 1, 2]) ⟨hx, hb, hml, hown, hts⟩ (s_X6_stepOverNumber (l := l) (D := D) (tc := tc) t0 aK aV q_th q_th_text q_th_text_bytes n_th_text_bytes th_place th_place th_kind th_value th_text_length th_text_bytes K z13_0 z13_1 z13_2 hc13) (cwV 0 hts gX6_step_X6_stepOverNumber rfl rfl rfl (by decide +kernel) ⟨Nat.le_of_ble_eq_true rfl, Nat.le_of_ble_eq_true rfl⟩) (st_recv (ci := 6) (q0 := 0) hK hP rfl rfl) hEok hE hK hN hP hD hS hA rfl rfl rfl rfl hl.1 rfl (Nat.le_of_ble_eq_true rfl) dX6_step_97 ⟨Nat.zero_le _, Nat.zero_le _⟩ (fun H locs hP hD hS => ?_)
          have hP : va_P D vwCl (w_X6_step tc q_th q_th_text q_th_text_bytes n_th_text_bytes z13_0 th_place z13_1 z13_2 th_text_length th_text_bytes) H := hP
          have hD : va_D A (w_X6_step tc q_th q_th_text q_th_text_bytes n_th_text_bytes z13_0 th_place z13_1 z13_2 th_text_length th_text_bytes) := hD
          refine lv_goto (tgt := 132) hx hb dX6_step_100 (by decide) ?_
          cases h
          exact st_vret hx hb hr hlocks hP hD hS dX6_step_132
      · replace h := ifn c8 h
        refine lv_aload_n hx hb dX6_step_82 rfl (lv_at hl 1 rfl) ?_
        obtain ⟨⟨z14_0, z14_1, z14_2⟩, hc14, h⟩ := bd_ok h
        refine st_callV (As := []) (rest := []) (pos := [0, 1, 2]) ⟨hx, hb, hml, hown, hts⟩ (s_X6_stepOverWord (l := l) (D := D) (tc := tc) t0 aK aV q_th q_th_text q_th_text_bytes n_th_text_bytes th_place th_place th_kind th_value th_text_length th_text_bytes K z14_0 z14_1 z14_2 hc14) (cwV 0 hts gX6_step_X6_stepOverWord rfl rfl rfl (by decide +kernel) ⟨Nat.le_of_ble_eq_true rfl, Nat.le_of_ble_eq_true rfl⟩) (st_recv (ci := 6) (q0 := 0) hK hP rfl rfl) hEok hE hK hN hP hD hS hA rfl rfl rfl rfl hl.1 rfl (Nat.le_of_ble_eq_true rfl) dX6_step_83 ⟨Nat.zero_le _, Nat.zero_le _⟩ (fun H locs hP hD hS => ?_)
        have hP : va_P D vwCl (w_X6_step tc q_th q_th_text q_th_text_bytes n_th_text_bytes z14_0 th_place z14_1 z14_2 th_text_length th_text_bytes) H := hP
        have hD : va_D A (w_X6_step tc q_th q_th_text q_th_text_bytes n_th_text_bytes z14_0 th_place z14_1 z14_2 th_text_length th_text_bytes) := hD
        refine lv_goto (tgt := 132) hx hb dX6_step_86 (by decide) ?_
        cases h
        exact st_vret hx hb hr hlocks hP hD hS dX6_step_132
    · replace h := ifn c6 h
      refine lv_aload_n hx hb dX6_step_67 rfl (lv_at hl 1 rfl) ?_
      refine lv_iconst (v := (0 : Int32)) hx hb dX6_step_68 (by decide) ?_
      refine va_put (D := D) (ci := 6) (v := .int (0 : Int32)) (ty := .int) (C := RX6) (T := TX6) (N := 5) hx hb hts hinX6 tyX6 tyX6_ok nmX6 hown hK hP hD hS 0 rfl rfl 3 (by decide) (hts (.fieldLink RX6 32 "ChanceBounds$Tokens" "kind" "I") (by decide +kernel)) (fun _ h9 => h9) rfl (by decide +kernel) rfl rfl (Nat.le_of_ble_eq_true rfl) dX6_step_69 (fun H locs hP hD hS => ?_)
      have hP : va_P D vwCl (w_X6_step tc q_th q_th_text q_th_text_bytes n_th_text_bytes th_place th_place (0 : Int32) th_value th_text_length th_text_bytes) H := hP
      have hD : va_D A (w_X6_step tc q_th q_th_text q_th_text_bytes n_th_text_bytes th_place th_place (0 : Int32) th_value th_text_length th_text_bytes) := hD
      refine lv_goto (tgt := 132) hx hb dX6_step_72 (by decide) ?_
      cases h
      exact st_vret hx hb hr hlocks hP hD hS dX6_step_132
  · replace h := ifn c4 h
    refine lv_aload_n hx hb dX6_step_14 rfl (lv_at hl 0 rfl) ?_
    refine va_get (D := D) (ci := 6) (v := .ref q_th_text) (C := RX6) (T := TX6) (N := 5) hx hb hts hinX6 hown hK hP 0 rfl rfl 0 (by decide) (hts (.fieldLink RX6 7 "ChanceBounds$Tokens" "text" "LChanceBounds$Text;") (by decide +kernel)) (fun _ h9 => h9) rfl dX6_step_15 ?_
    refine lv_aload_n hx hb dX6_step_18 rfl (lv_at hl 0 rfl) ?_
    refine va_get (D := D) (ci := 6) (v := .int th_place) (C := RX6) (T := TX6) (N := 5) hx hb hts hinX6 hown hK hP 0 rfl rfl 1 (by decide) (hts (.fieldLink RX6 13 "ChanceBounds$Tokens" "place" "I") (by decide +kernel)) (fun _ h9 => h9) rfl dX6_step_19 ?_
    obtain ⟨z15_0, hc15, h⟩ := bd_ok h
    refine st_callV (As := [.int th_place]) (rest := []) (pos := [1, 2]) ⟨hx, hb, hml, hown, hts⟩ (s_X5_at (l := l) (D := D) (tc := tc) hEok q_th_text q_th_text_bytes n_th_text_bytes th_text_length th_text_bytes th_place z15_0 hc15) (cwV 1 hts gX6_step_X5_at rfl rfl rfl (by decide +kernel) ⟨Nat.le_of_ble_eq_true rfl, Nat.le_of_ble_eq_true rfl⟩) (st_recv (ci := 5) (q0 := 1) hK hP rfl rfl) hEok hE hK hN hP hD hS hA rfl rfl rfl rfl hl.1 rfl (Nat.le_of_ble_eq_true rfl) dX6_step_22 ⟨Nat.zero_le _, Nat.zero_le _⟩ (fun H locs hP hD hS => ?_)
    have hP : va_P D vwCl (w_X6_step tc q_th q_th_text q_th_text_bytes n_th_text_bytes th_place th_start th_kind th_value th_text_length th_text_bytes) H := hP
    have hD : va_D A (w_X6_step tc q_th q_th_text q_th_text_bytes n_th_text_bytes th_place th_start th_kind th_value th_text_length th_text_bytes) := hD
    refine lv_bipush (v := (32 : Int32)) hx hb dX6_step_25 (by decide) ?_
    refine lv_icmp_ne (tgt := 43) hx hb dX6_step_27 (by decide) (fun c16 => ?_) (fun c16 => ?_)
    · replace h := ifn c16 h
      refine lv_aload_n hx hb dX6_step_43 rfl (lv_at hl 0 rfl) ?_
      refine lv_aload_n hx hb dX6_step_44 rfl (lv_at hl 0 rfl) ?_
      refine va_get (D := D) (ci := 6) (v := .int th_place) (C := RX6) (T := TX6) (N := 5) hx hb hts hinX6 hown hK hP 0 rfl rfl 1 (by decide) (hts (.fieldLink RX6 13 "ChanceBounds$Tokens" "place" "I") (by decide +kernel)) (fun _ h9 => h9) rfl dX6_step_45 ?_
      refine va_put (D := D) (ci := 6) (v := .int th_place) (ty := .int) (C := RX6) (T := TX6) (N := 5) hx hb hts hinX6 tyX6 tyX6_ok nmX6 hown hK hP hD hS 0 rfl rfl 2 (by decide) (hts (.fieldLink RX6 29 "ChanceBounds$Tokens" "start" "I") (by decide +kernel)) (fun _ h9 => h9) rfl (by decide +kernel) rfl rfl (Nat.le_of_ble_eq_true rfl) dX6_step_48 (fun H locs hP hD hS => ?_)
      have hP : va_P D vwCl (w_X6_step tc q_th q_th_text q_th_text_bytes n_th_text_bytes th_place th_place th_kind th_value th_text_length th_text_bytes) H := hP
      have hD : va_D A (w_X6_step tc q_th q_th_text q_th_text_bytes n_th_text_bytes th_place th_place th_kind th_value th_text_length th_text_bytes) := hD
      refine lv_aload_n hx hb dX6_step_51 rfl (lv_at hl 0 rfl) ?_
      refine va_get (D := D) (ci := 6) (v := .ref q_th_text) (C := RX6) (T := TX6) (N := 5) hx hb hts hinX6 hown hK hP 0 rfl rfl 0 (by decide) (hts (.fieldLink RX6 7 "ChanceBounds$Tokens" "text" "LChanceBounds$Text;") (by decide +kernel)) (fun _ h9 => h9) rfl dX6_step_52 ?_
      refine lv_aload_n hx hb dX6_step_55 rfl (lv_at hl 0 rfl) ?_
      refine va_get (D := D) (ci := 6) (v := .int th_place) (C := RX6) (T := TX6) (N := 5) hx hb hts hinX6 hown hK hP 0 rfl rfl 1 (by decide) (hts (.fieldLink RX6 13 "ChanceBounds$Tokens" "place" "I") (by decide +kernel)) (fun _ h9 => h9) rfl dX6_step_56 ?_
      obtain ⟨z17_0, hc17, h⟩ := bd_ok h
      refine st_callV (As := [.int th_place]) (rest := []) (pos := [1, 2]) ⟨hx, hb, hml, hown, hts⟩ (s_X5_at (l := l) (D := D) (tc := tc) hEok q_th_text q_th_text_bytes n_th_text_bytes th_text_length th_text_bytes th_place z17_0 hc17) (cwV 1 hts gX6_step_X5_at rfl rfl rfl (by decide +kernel) ⟨Nat.le_of_ble_eq_true rfl, Nat.le_of_ble_eq_true rfl⟩) (st_recv (ci := 5) (q0 := 1) hK hP rfl rfl) hEok hE hK hN hP hD hS hA rfl rfl rfl rfl hl.1 rfl (Nat.le_of_ble_eq_true rfl) dX6_step_59 ⟨Nat.zero_le _, Nat.zero_le _⟩ (fun H locs hP hD hS => ?_)
      have hP : va_P D vwCl (w_X6_step tc q_th q_th_text q_th_text_bytes n_th_text_bytes th_place th_place th_kind th_value th_text_length th_text_bytes) H := hP
      have hD : va_D A (w_X6_step tc q_th q_th_text q_th_text_bytes n_th_text_bytes th_place th_place th_kind th_value th_text_length th_text_bytes) := hD
      refine lv_istore_n (lv' := [(1, .int z17_0), (0, .ref q_th)]) hx hb dX6_step_62 rfl hl (by decide) rfl (fun ls hl => ?_)
      refine lv_iload_n hx hb dX6_step_63 rfl (lv_at hl 0 rfl) ?_
      refine lv_if_ge (tgt := 75) hx hb dX6_step_64 (by decide) (fun c18 => ?_) (fun c18 => ?_)
      · replace h := ifp c18 h
        refine lv_iload_n hx hb dX6_step_75 rfl (lv_at hl 0 rfl) ?_
        obtain ⟨z19_0, hc19, h⟩ := bd_ok h
        refine st_callS (As := [.int z17_0]) (rest := []) (pos := []) ⟨hx, hb, hml, hown, hts⟩ (s_X6_isLetter (l := l) (D := D) (tc := tc) hEok z17_0 z19_0 hc19) (va_cwS 1 hts gX6_step_X6_isLetter rfl rfl rfl (by decide +kernel) ⟨Nat.le_of_ble_eq_true rfl, Nat.le_of_ble_eq_true rfl⟩) hEok hE hK hN hP hD hS hA rfl rfl rfl rfl hl.1 rfl (Nat.le_of_ble_eq_true rfl) dX6_step_76 ⟨Nat.zero_le _, Nat.zero_le _⟩ (fun H locs hP hD hS => ?_)
        have hP : va_P D vwCl (w_X6_step tc q_th q_th_text q_th_text_bytes n_th_text_bytes th_place th_place th_kind th_value th_text_length th_text_bytes) H := hP
        have hD : va_D A (w_X6_step tc q_th q_th_text q_th_text_bytes n_th_text_bytes th_place th_place th_kind th_value th_text_length th_text_bytes) := hD
        refine lv_if_eq (tgt := 89) hx hb dX6_step_79 (by decide) (fun c20 => ?_) (fun c20 => ?_)
        · replace h := ifp c20 h
          refine lv_iload_n hx hb dX6_step_89 rfl (lv_at hl 0 rfl) ?_
          obtain ⟨z21_0, hc21, h⟩ := bd_ok h
          refine st_callS (As := [.int z17_0]) (rest := []) (pos := []) ⟨hx, hb, hml, hown, hts⟩ (s_X6_isDigit (l := l) (D := D) (tc := tc) hEok z17_0 z21_0 hc21) (va_cwS 1 hts gX6_step_X6_isDigit rfl rfl rfl (by decide +kernel) ⟨Nat.le_of_ble_eq_true rfl, Nat.le_of_ble_eq_true rfl⟩) hEok hE hK hN hP hD hS hA rfl rfl rfl rfl hl.1 rfl (Nat.le_of_ble_eq_true rfl) dX6_step_90 ⟨Nat.zero_le _, Nat.zero_le _⟩ (fun H locs hP hD hS => ?_)
          have hP : va_P D vwCl (w_X6_step tc q_th q_th_text q_th_text_bytes n_th_text_bytes th_place th_place th_kind th_value th_text_length th_text_bytes) H := hP
          have hD : va_D A (w_X6_step tc q_th q_th_text q_th_text_bytes n_th_text_bytes th_place th_place th_kind th_value th_text_length th_text_bytes) := hD
          refine lv_if_eq (tgt := 103) hx hb dX6_step_93 (by decide) (fun c22 => ?_) (fun c22 => ?_)
          · replace h := ifp c22 h
            refine lv_aload_n hx hb dX6_step_103 rfl (lv_at hl 1 rfl) ?_
            refine va_ldcS hx hb hown hE.2.2.1 dX6_step_104 ?_
            refine lv_iload_n hx hb dX6_step_106 rfl (lv_at hl 0 rfl) ?_
            refine lv_i2c (v := (z17_0.toUInt32 % 65536).toInt32) hx hb dX6_step_107 rfl ?_
            obtain ⟨z23_0, hc23, h⟩ := bd_ok h
            refine st_callV (As := [.int ((z17_0.toUInt32 % 65536).toInt32)]) (rest := [.ref q_th]) (pos := []) ⟨hx, hb, hml, hown, hts⟩ (s_J0_indexOf_0f7a4 (l := l) (D := D) (tc := tc) t0 aK aV ((z17_0.toUInt32 % 65536).toInt32) K z23_0 hc23) (cwV 1 hts gX6_step_J0_indexOf_0f7a4 rfl rfl rfl (by decide +kernel) ⟨Nat.le_of_ble_eq_true rfl, Nat.le_of_ble_eq_true rfl⟩) (vk_recv (i := 0) hE.2.2.2.1 (by decide) hS) hEok hE hK hN hP hD hS hA rfl rfl rfl rfl hl.1 rfl (Nat.le_of_ble_eq_true rfl) dX6_step_108 ⟨Nat.zero_le _, Nat.zero_le _⟩ (fun H locs hP hD hS => ?_)
            have hP : va_P D vwCl (w_X6_step tc q_th q_th_text q_th_text_bytes n_th_text_bytes th_place th_place th_kind th_value th_text_length th_text_bytes) H := hP
            have hD : va_D A (w_X6_step tc q_th q_th_text q_th_text_bytes n_th_text_bytes th_place th_place th_kind th_value th_text_length th_text_bytes) := hD
            refine lv_if_lt (tgt := 118) hx hb dX6_step_111 (by decide) (fun c24 => ?_) (fun c24 => ?_)
            · replace h := ifp c24 h
              refine lv_iconst (v := (4 : Int32)) hx hb dX6_step_118 (by decide) ?_
              refine va_put (D := D) (ci := 6) (v := .int (4 : Int32)) (ty := .int) (C := RX6) (T := TX6) (N := 5) hx hb hts hinX6 tyX6 tyX6_ok nmX6 hown hK hP hD hS 0 rfl rfl 3 (by decide) (hts (.fieldLink RX6 32 "ChanceBounds$Tokens" "kind" "I") (by decide +kernel)) (fun _ h9 => h9) rfl (by decide +kernel) rfl rfl (Nat.le_of_ble_eq_true rfl) dX6_step_119 (fun H locs hP hD hS => ?_)
              have hP : va_P D vwCl (w_X6_step tc q_th q_th_text q_th_text_bytes n_th_text_bytes th_place th_place (4 : Int32) th_value th_text_length th_text_bytes) H := hP
              have hD : va_D A (w_X6_step tc q_th q_th_text q_th_text_bytes n_th_text_bytes th_place th_place (4 : Int32) th_value th_text_length th_text_bytes) := hD
              refine lv_aload_n hx hb dX6_step_122 rfl (lv_at hl 1 rfl) ?_
              refine lv_dup hx hb dX6_step_123 rfl ?_
              refine va_get (D := D) (ci := 6) (v := .int th_place) (C := RX6) (T := TX6) (N := 5) hx hb hts hinX6 hown hK hP 0 rfl rfl 1 (by decide) (hts (.fieldLink RX6 13 "ChanceBounds$Tokens" "place" "I") (by decide +kernel)) (fun _ h9 => h9) rfl dX6_step_124 ?_
              refine lv_iconst (v := (1 : Int32)) hx hb dX6_step_127 (by decide) ?_
              refine lv_iadd hx hb dX6_step_128 ?_
              refine va_put (D := D) (ci := 6) (v := .int (th_place + (1 : Int32))) (ty := .int) (C := RX6) (T := TX6) (N := 5) hx hb hts hinX6 tyX6 tyX6_ok nmX6 hown hK hP hD hS 0 rfl rfl 1 (by decide) (hts (.fieldLink RX6 13 "ChanceBounds$Tokens" "place" "I") (by decide +kernel)) (fun _ h9 => h9) rfl (by decide +kernel) rfl rfl (Nat.le_of_ble_eq_true rfl) dX6_step_129 (fun H locs hP hD hS => ?_)
              have hP : va_P D vwCl (w_X6_step tc q_th q_th_text q_th_text_bytes n_th_text_bytes (th_place + (1 : Int32)) th_place (4 : Int32) th_value th_text_length th_text_bytes) H := hP
              have hD : va_D A (w_X6_step tc q_th q_th_text q_th_text_bytes n_th_text_bytes (th_place + (1 : Int32)) th_place (4 : Int32) th_value th_text_length th_text_bytes) := hD
              cases h
              exact st_vret hx hb hr hlocks hP hD hS dX6_step_132
            · replace h := ifn c24 h
              refine lv_iload_n hx hb dX6_step_114 rfl (lv_at hl 0 rfl) ?_
              refine lv_goto (tgt := 119) hx hb dX6_step_115 (by decide) ?_
              refine va_put (D := D) (ci := 6) (v := .int z17_0) (ty := .int) (C := RX6) (T := TX6) (N := 5) hx hb hts hinX6 tyX6 tyX6_ok nmX6 hown hK hP hD hS 0 rfl rfl 3 (by decide) (hts (.fieldLink RX6 32 "ChanceBounds$Tokens" "kind" "I") (by decide +kernel)) (fun _ h9 => h9) rfl (by decide +kernel) rfl rfl (Nat.le_of_ble_eq_true rfl) dX6_step_119 (fun H locs hP hD hS => ?_)
              have hP : va_P D vwCl (w_X6_step tc q_th q_th_text q_th_text_bytes n_th_text_bytes th_place th_place z17_0 th_value th_text_length th_text_bytes) H := hP
              have hD : va_D A (w_X6_step tc q_th q_th_text q_th_text_bytes n_th_text_bytes th_place th_place z17_0 th_value th_text_length th_text_bytes) := hD
              refine lv_aload_n hx hb dX6_step_122 rfl (lv_at hl 1 rfl) ?_
              refine lv_dup hx hb dX6_step_123 rfl ?_
              refine va_get (D := D) (ci := 6) (v := .int th_place) (C := RX6) (T := TX6) (N := 5) hx hb hts hinX6 hown hK hP 0 rfl rfl 1 (by decide) (hts (.fieldLink RX6 13 "ChanceBounds$Tokens" "place" "I") (by decide +kernel)) (fun _ h9 => h9) rfl dX6_step_124 ?_
              refine lv_iconst (v := (1 : Int32)) hx hb dX6_step_127 (by decide) ?_
              refine lv_iadd hx hb dX6_step_128 ?_
              refine va_put (D := D) (ci := 6) (v := .int (th_place + (1 : Int32))) (ty := .int) (C := RX6) (T := TX6) (N := 5) hx hb hts hinX6 tyX6 tyX6_ok nmX6 hown hK hP hD hS 0 rfl rfl 1 (by decide) (hts (.fieldLink RX6 13 "ChanceBounds$Tokens" "place" "I") (by decide +kernel)) (fun _ h9 => h9) rfl (by decide +kernel) rfl rfl (Nat.le_of_ble_eq_true rfl) dX6_step_129 (fun H locs hP hD hS => ?_)
              have hP : va_P D vwCl (w_X6_step tc q_th q_th_text q_th_text_bytes n_th_text_bytes (th_place + (1 : Int32)) th_place z17_0 th_value th_text_length th_text_bytes) H := hP
              have hD : va_D A (w_X6_step tc q_th q_th_text q_th_text_bytes n_th_text_bytes (th_place + (1 : Int32)) th_place z17_0 th_value th_text_length th_text_bytes) := hD
              cases h
              exact st_vret hx hb hr hlocks hP hD hS dX6_step_132
          · replace h := ifn c22 h
            refine lv_aload_n hx hb dX6_step_96 rfl (lv_at hl 1 rfl) ?_
            obtain ⟨⟨z25_0, z25_1, z25_2⟩, hc25, h⟩ := bd_ok h
            refine st_callV (As := []) (rest := []) (pos := [0, 1, 2]) ⟨hx, hb, hml, hown, hts⟩ (s_X6_stepOverNumber (l := l) (D := D) (tc := tc) t0 aK aV q_th q_th_text q_th_text_bytes n_th_text_bytes th_place th_place th_kind th_value th_text_length th_text_bytes K z25_0 z25_1 z25_2 hc25) (cwV 0 hts gX6_step_X6_stepOverNumber rfl rfl rfl (by decide +kernel) ⟨Nat.le_of_ble_eq_true rfl, Nat.le_of_ble_eq_true rfl⟩) (st_recv (ci := 6) (q0 := 0) hK hP rfl rfl) hEok hE hK hN hP hD hS hA rfl rfl rfl rfl hl.1 rfl (Nat.le_of_ble_eq_true rfl) dX6_step_97 ⟨Nat.zero_le _, Nat.zero_le _⟩ (fun H locs hP hD hS => ?_)
            have hP : va_P D vwCl (w_X6_step tc q_th q_th_text q_th_text_bytes n_th_text_bytes z25_0 th_place z25_1 z25_2 th_text_length th_text_bytes) H := hP
            have hD : va_D A (w_X6_step tc q_th q_th_text q_th_text_bytes n_th_text_bytes z25_0 th_place z25_1 z25_2 th_text_length th_text_bytes) := hD
            refine lv_goto (tgt := 132) hx hb dX6_step_100 (by decide) ?_
            cases h
            exact st_vret hx hb hr hlocks hP hD hS dX6_step_132
        · replace h := ifn c20 h
          refine lv_aload_n hx hb dX6_step_82 rfl (lv_at hl 1 rfl) ?_
          obtain ⟨⟨z26_0, z26_1, z26_2⟩, hc26, h⟩ := bd_ok h
          refine st_callV (As := []) (rest := []) (pos := [0, 1, 2]) ⟨hx, hb, hml, hown, hts⟩ (s_X6_stepOverWord (l := l) (D := D) (tc := tc) t0 aK aV q_th q_th_text q_th_text_bytes n_th_text_bytes th_place th_place th_kind th_value th_text_length th_text_bytes K z26_0 z26_1 z26_2 hc26) (cwV 0 hts gX6_step_X6_stepOverWord rfl rfl rfl (by decide +kernel) ⟨Nat.le_of_ble_eq_true rfl, Nat.le_of_ble_eq_true rfl⟩) (st_recv (ci := 6) (q0 := 0) hK hP rfl rfl) hEok hE hK hN hP hD hS hA rfl rfl rfl rfl hl.1 rfl (Nat.le_of_ble_eq_true rfl) dX6_step_83 ⟨Nat.zero_le _, Nat.zero_le _⟩ (fun H locs hP hD hS => ?_)
          have hP : va_P D vwCl (w_X6_step tc q_th q_th_text q_th_text_bytes n_th_text_bytes z26_0 th_place z26_1 z26_2 th_text_length th_text_bytes) H := hP
          have hD : va_D A (w_X6_step tc q_th q_th_text q_th_text_bytes n_th_text_bytes z26_0 th_place z26_1 z26_2 th_text_length th_text_bytes) := hD
          refine lv_goto (tgt := 132) hx hb dX6_step_86 (by decide) ?_
          cases h
          exact st_vret hx hb hr hlocks hP hD hS dX6_step_132
      · replace h := ifn c18 h
        refine lv_aload_n hx hb dX6_step_67 rfl (lv_at hl 1 rfl) ?_
        refine lv_iconst (v := (0 : Int32)) hx hb dX6_step_68 (by decide) ?_
        refine va_put (D := D) (ci := 6) (v := .int (0 : Int32)) (ty := .int) (C := RX6) (T := TX6) (N := 5) hx hb hts hinX6 tyX6 tyX6_ok nmX6 hown hK hP hD hS 0 rfl rfl 3 (by decide) (hts (.fieldLink RX6 32 "ChanceBounds$Tokens" "kind" "I") (by decide +kernel)) (fun _ h9 => h9) rfl (by decide +kernel) rfl rfl (Nat.le_of_ble_eq_true rfl) dX6_step_69 (fun H locs hP hD hS => ?_)
        have hP : va_P D vwCl (w_X6_step tc q_th q_th_text q_th_text_bytes n_th_text_bytes th_place th_place (0 : Int32) th_value th_text_length th_text_bytes) H := hP
        have hD : va_D A (w_X6_step tc q_th q_th_text q_th_text_bytes n_th_text_bytes th_place th_place (0 : Int32) th_value th_text_length th_text_bytes) := hD
        refine lv_goto (tgt := 132) hx hb dX6_step_72 (by decide) ?_
        cases h
        exact st_vret hx hb hr hlocks hP hD hS dX6_step_132
    · replace h := ifp c16 h
      refine lv_aload_n hx hb dX6_step_30 rfl (lv_at hl 0 rfl) ?_
      refine lv_dup hx hb dX6_step_31 rfl ?_
      refine va_get (D := D) (ci := 6) (v := .int th_place) (C := RX6) (T := TX6) (N := 5) hx hb hts hinX6 hown hK hP 0 rfl rfl 1 (by decide) (hts (.fieldLink RX6 13 "ChanceBounds$Tokens" "place" "I") (by decide +kernel)) (fun _ h9 => h9) rfl dX6_step_32 ?_
      refine lv_iconst (v := (1 : Int32)) hx hb dX6_step_35 (by decide) ?_
      refine lv_iadd hx hb dX6_step_36 ?_
      refine va_put (D := D) (ci := 6) (v := .int (th_place + (1 : Int32))) (ty := .int) (C := RX6) (T := TX6) (N := 5) hx hb hts hinX6 tyX6 tyX6_ok nmX6 hown hK hP hD hS 0 rfl rfl 1 (by decide) (hts (.fieldLink RX6 13 "ChanceBounds$Tokens" "place" "I") (by decide +kernel)) (fun _ h9 => h9) rfl (by decide +kernel) rfl rfl (Nat.le_of_ble_eq_true rfl) dX6_step_37 (fun H locs hP hD hS => ?_)
      have hP : va_P D vwCl (w_X6_step tc q_th q_th_text q_th_text_bytes n_th_text_bytes (th_place + (1 : Int32)) th_start th_kind th_value th_text_length th_text_bytes) H := hP
      have hD : va_D A (w_X6_step tc q_th q_th_text q_th_text_bytes n_th_text_bytes (th_place + (1 : Int32)) th_start th_kind th_value th_text_length th_text_bytes) := hD
      refine lv_goto (tgt := 0) hx hb dX6_step_40 (by decide) ?_
      obtain ⟨z27_0, hl27, h⟩ := bd_ok h
      refine L0 th_start th_kind th_value K _ _ hl27 ?_ _ _ _ hP hD hS (lv_sub hl [0] rfl)
      intro H locs ls hP hD hS hl
      refine lv_aload_n hx hb dX6_step_43 rfl (lv_at hl 0 rfl) ?_
      refine lv_aload_n hx hb dX6_step_44 rfl (lv_at hl 0 rfl) ?_
      refine va_get (D := D) (ci := 6) (v := .int z27_0) (C := RX6) (T := TX6) (N := 5) hx hb hts hinX6 hown hK hP 0 rfl rfl 1 (by decide) (hts (.fieldLink RX6 13 "ChanceBounds$Tokens" "place" "I") (by decide +kernel)) (fun _ h9 => h9) rfl dX6_step_45 ?_
      refine va_put (D := D) (ci := 6) (v := .int z27_0) (ty := .int) (C := RX6) (T := TX6) (N := 5) hx hb hts hinX6 tyX6 tyX6_ok nmX6 hown hK hP hD hS 0 rfl rfl 2 (by decide) (hts (.fieldLink RX6 29 "ChanceBounds$Tokens" "start" "I") (by decide +kernel)) (fun _ h9 => h9) rfl (by decide +kernel) rfl rfl (Nat.le_of_ble_eq_true rfl) dX6_step_48 (fun H locs hP hD hS => ?_)
      have hP : va_P D vwCl (w_X6_step tc q_th q_th_text q_th_text_bytes n_th_text_bytes z27_0 z27_0 th_kind th_value th_text_length th_text_bytes) H := hP
      have hD : va_D A (w_X6_step tc q_th q_th_text q_th_text_bytes n_th_text_bytes z27_0 z27_0 th_kind th_value th_text_length th_text_bytes) := hD
      refine lv_aload_n hx hb dX6_step_51 rfl (lv_at hl 0 rfl) ?_
      refine va_get (D := D) (ci := 6) (v := .ref q_th_text) (C := RX6) (T := TX6) (N := 5) hx hb hts hinX6 hown hK hP 0 rfl rfl 0 (by decide) (hts (.fieldLink RX6 7 "ChanceBounds$Tokens" "text" "LChanceBounds$Text;") (by decide +kernel)) (fun _ h9 => h9) rfl dX6_step_52 ?_
      refine lv_aload_n hx hb dX6_step_55 rfl (lv_at hl 0 rfl) ?_
      refine va_get (D := D) (ci := 6) (v := .int z27_0) (C := RX6) (T := TX6) (N := 5) hx hb hts hinX6 hown hK hP 0 rfl rfl 1 (by decide) (hts (.fieldLink RX6 13 "ChanceBounds$Tokens" "place" "I") (by decide +kernel)) (fun _ h9 => h9) rfl dX6_step_56 ?_
      obtain ⟨z28_0, hc28, h⟩ := bd_ok h
      refine st_callV (As := [.int z27_0]) (rest := []) (pos := [1, 2]) ⟨hx, hb, hml, hown, hts⟩ (s_X5_at (l := l) (D := D) (tc := tc) hEok q_th_text q_th_text_bytes n_th_text_bytes th_text_length th_text_bytes z27_0 z28_0 hc28) (cwV 1 hts gX6_step_X5_at rfl rfl rfl (by decide +kernel) ⟨Nat.le_of_ble_eq_true rfl, Nat.le_of_ble_eq_true rfl⟩) (st_recv (ci := 5) (q0 := 1) hK hP rfl rfl) hEok hE hK hN hP hD hS hA rfl rfl rfl rfl hl.1 rfl (Nat.le_of_ble_eq_true rfl) dX6_step_59 ⟨Nat.zero_le _, Nat.zero_le _⟩ (fun H locs hP hD hS => ?_)
      have hP : va_P D vwCl (w_X6_step tc q_th q_th_text q_th_text_bytes n_th_text_bytes z27_0 z27_0 th_kind th_value th_text_length th_text_bytes) H := hP
      have hD : va_D A (w_X6_step tc q_th q_th_text q_th_text_bytes n_th_text_bytes z27_0 z27_0 th_kind th_value th_text_length th_text_bytes) := hD
      refine lv_istore_n (lv' := [(1, .int z28_0), (0, .ref q_th)]) hx hb dX6_step_62 rfl hl (by decide) rfl (fun ls hl => ?_)
      refine lv_iload_n hx hb dX6_step_63 rfl (lv_at hl 0 rfl) ?_
      refine lv_if_ge (tgt := 75) hx hb dX6_step_64 (by decide) (fun c29 => ?_) (fun c29 => ?_)
      · replace h := ifp c29 h
        refine lv_iload_n hx hb dX6_step_75 rfl (lv_at hl 0 rfl) ?_
        obtain ⟨z30_0, hc30, h⟩ := bd_ok h
        refine st_callS (As := [.int z28_0]) (rest := []) (pos := []) ⟨hx, hb, hml, hown, hts⟩ (s_X6_isLetter (l := l) (D := D) (tc := tc) hEok z28_0 z30_0 hc30) (va_cwS 1 hts gX6_step_X6_isLetter rfl rfl rfl (by decide +kernel) ⟨Nat.le_of_ble_eq_true rfl, Nat.le_of_ble_eq_true rfl⟩) hEok hE hK hN hP hD hS hA rfl rfl rfl rfl hl.1 rfl (Nat.le_of_ble_eq_true rfl) dX6_step_76 ⟨Nat.zero_le _, Nat.zero_le _⟩ (fun H locs hP hD hS => ?_)
        have hP : va_P D vwCl (w_X6_step tc q_th q_th_text q_th_text_bytes n_th_text_bytes z27_0 z27_0 th_kind th_value th_text_length th_text_bytes) H := hP
        have hD : va_D A (w_X6_step tc q_th q_th_text q_th_text_bytes n_th_text_bytes z27_0 z27_0 th_kind th_value th_text_length th_text_bytes) := hD
        refine lv_if_eq (tgt := 89) hx hb dX6_step_79 (by decide) (fun c31 => ?_) (fun c31 => ?_)
        · replace h := ifp c31 h
          refine lv_iload_n hx hb dX6_step_89 rfl (lv_at hl 0 rfl) ?_
          obtain ⟨z32_0, hc32, h⟩ := bd_ok h
          refine st_callS (As := [.int z28_0]) (rest := []) (pos := []) ⟨hx, hb, hml, hown, hts⟩ (s_X6_isDigit (l := l) (D := D) (tc := tc) hEok z28_0 z32_0 hc32) (va_cwS 1 hts gX6_step_X6_isDigit rfl rfl rfl (by decide +kernel) ⟨Nat.le_of_ble_eq_true rfl, Nat.le_of_ble_eq_true rfl⟩) hEok hE hK hN hP hD hS hA rfl rfl rfl rfl hl.1 rfl (Nat.le_of_ble_eq_true rfl) dX6_step_90 ⟨Nat.zero_le _, Nat.zero_le _⟩ (fun H locs hP hD hS => ?_)
          have hP : va_P D vwCl (w_X6_step tc q_th q_th_text q_th_text_bytes n_th_text_bytes z27_0 z27_0 th_kind th_value th_text_length th_text_bytes) H := hP
          have hD : va_D A (w_X6_step tc q_th q_th_text q_th_text_bytes n_th_text_bytes z27_0 z27_0 th_kind th_value th_text_length th_text_bytes) := hD
          refine lv_if_eq (tgt := 103) hx hb dX6_step_93 (by decide) (fun c33 => ?_) (fun c33 => ?_)
          · replace h := ifp c33 h
            refine lv_aload_n hx hb dX6_step_103 rfl (lv_at hl 1 rfl) ?_
            refine va_ldcS hx hb hown hE.2.2.1 dX6_step_104 ?_
            refine lv_iload_n hx hb dX6_step_106 rfl (lv_at hl 0 rfl) ?_
            refine lv_i2c (v := (z28_0.toUInt32 % 65536).toInt32) hx hb dX6_step_107 rfl ?_
            obtain ⟨z34_0, hc34, h⟩ := bd_ok h
            refine st_callV (As := [.int ((z28_0.toUInt32 % 65536).toInt32)]) (rest := [.ref q_th]) (pos := []) ⟨hx, hb, hml, hown, hts⟩ (s_J0_indexOf_0f7a4 (l := l) (D := D) (tc := tc) t0 aK aV ((z28_0.toUInt32 % 65536).toInt32) K z34_0 hc34) (cwV 1 hts gX6_step_J0_indexOf_0f7a4 rfl rfl rfl (by decide +kernel) ⟨Nat.le_of_ble_eq_true rfl, Nat.le_of_ble_eq_true rfl⟩) (vk_recv (i := 0) hE.2.2.2.1 (by decide) hS) hEok hE hK hN hP hD hS hA rfl rfl rfl rfl hl.1 rfl (Nat.le_of_ble_eq_true rfl) dX6_step_108 ⟨Nat.zero_le _, Nat.zero_le _⟩ (fun H locs hP hD hS => ?_)
            have hP : va_P D vwCl (w_X6_step tc q_th q_th_text q_th_text_bytes n_th_text_bytes z27_0 z27_0 th_kind th_value th_text_length th_text_bytes) H := hP
            have hD : va_D A (w_X6_step tc q_th q_th_text q_th_text_bytes n_th_text_bytes z27_0 z27_0 th_kind th_value th_text_length th_text_bytes) := hD
            refine lv_if_lt (tgt := 118) hx hb dX6_step_111 (by decide) (fun c35 => ?_) (fun c35 => ?_)
            · replace h := ifp c35 h
              refine lv_iconst (v := (4 : Int32)) hx hb dX6_step_118 (by decide) ?_
              refine va_put (D := D) (ci := 6) (v := .int (4 : Int32)) (ty := .int) (C := RX6) (T := TX6) (N := 5) hx hb hts hinX6 tyX6 tyX6_ok nmX6 hown hK hP hD hS 0 rfl rfl 3 (by decide) (hts (.fieldLink RX6 32 "ChanceBounds$Tokens" "kind" "I") (by decide +kernel)) (fun _ h9 => h9) rfl (by decide +kernel) rfl rfl (Nat.le_of_ble_eq_true rfl) dX6_step_119 (fun H locs hP hD hS => ?_)
              have hP : va_P D vwCl (w_X6_step tc q_th q_th_text q_th_text_bytes n_th_text_bytes z27_0 z27_0 (4 : Int32) th_value th_text_length th_text_bytes) H := hP
              have hD : va_D A (w_X6_step tc q_th q_th_text q_th_text_bytes n_th_text_bytes z27_0 z27_0 (4 : Int32) th_value th_text_length th_text_bytes) := hD
              refine lv_aload_n hx hb dX6_step_122 rfl (lv_at hl 1 rfl) ?_
              refine lv_dup hx hb dX6_step_123 rfl ?_
              refine va_get (D := D) (ci := 6) (v := .int z27_0) (C := RX6) (T := TX6) (N := 5) hx hb hts hinX6 hown hK hP 0 rfl rfl 1 (by decide) (hts (.fieldLink RX6 13 "ChanceBounds$Tokens" "place" "I") (by decide +kernel)) (fun _ h9 => h9) rfl dX6_step_124 ?_
              refine lv_iconst (v := (1 : Int32)) hx hb dX6_step_127 (by decide) ?_
              refine lv_iadd hx hb dX6_step_128 ?_
              refine va_put (D := D) (ci := 6) (v := .int (z27_0 + (1 : Int32))) (ty := .int) (C := RX6) (T := TX6) (N := 5) hx hb hts hinX6 tyX6 tyX6_ok nmX6 hown hK hP hD hS 0 rfl rfl 1 (by decide) (hts (.fieldLink RX6 13 "ChanceBounds$Tokens" "place" "I") (by decide +kernel)) (fun _ h9 => h9) rfl (by decide +kernel) rfl rfl (Nat.le_of_ble_eq_true rfl) dX6_step_129 (fun H locs hP hD hS => ?_)
              have hP : va_P D vwCl (w_X6_step tc q_th q_th_text q_th_text_bytes n_th_text_bytes (z27_0 + (1 : Int32)) z27_0 (4 : Int32) th_value th_text_length th_text_bytes) H := hP
              have hD : va_D A (w_X6_step tc q_th q_th_text q_th_text_bytes n_th_text_bytes (z27_0 + (1 : Int32)) z27_0 (4 : Int32) th_value th_text_length th_text_bytes) := hD
              cases h
              exact st_vret hx hb hr hlocks hP hD hS dX6_step_132
            · replace h := ifn c35 h
              refine lv_iload_n hx hb dX6_step_114 rfl (lv_at hl 0 rfl) ?_
              refine lv_goto (tgt := 119) hx hb dX6_step_115 (by decide) ?_
              refine va_put (D := D) (ci := 6) (v := .int z28_0) (ty := .int) (C := RX6) (T := TX6) (N := 5) hx hb hts hinX6 tyX6 tyX6_ok nmX6 hown hK hP hD hS 0 rfl rfl 3 (by decide) (hts (.fieldLink RX6 32 "ChanceBounds$Tokens" "kind" "I") (by decide +kernel)) (fun _ h9 => h9) rfl (by decide +kernel) rfl rfl (Nat.le_of_ble_eq_true rfl) dX6_step_119 (fun H locs hP hD hS => ?_)
              have hP : va_P D vwCl (w_X6_step tc q_th q_th_text q_th_text_bytes n_th_text_bytes z27_0 z27_0 z28_0 th_value th_text_length th_text_bytes) H := hP
              have hD : va_D A (w_X6_step tc q_th q_th_text q_th_text_bytes n_th_text_bytes z27_0 z27_0 z28_0 th_value th_text_length th_text_bytes) := hD
              refine lv_aload_n hx hb dX6_step_122 rfl (lv_at hl 1 rfl) ?_
              refine lv_dup hx hb dX6_step_123 rfl ?_
              refine va_get (D := D) (ci := 6) (v := .int z27_0) (C := RX6) (T := TX6) (N := 5) hx hb hts hinX6 hown hK hP 0 rfl rfl 1 (by decide) (hts (.fieldLink RX6 13 "ChanceBounds$Tokens" "place" "I") (by decide +kernel)) (fun _ h9 => h9) rfl dX6_step_124 ?_
              refine lv_iconst (v := (1 : Int32)) hx hb dX6_step_127 (by decide) ?_
              refine lv_iadd hx hb dX6_step_128 ?_
              refine va_put (D := D) (ci := 6) (v := .int (z27_0 + (1 : Int32))) (ty := .int) (C := RX6) (T := TX6) (N := 5) hx hb hts hinX6 tyX6 tyX6_ok nmX6 hown hK hP hD hS 0 rfl rfl 1 (by decide) (hts (.fieldLink RX6 13 "ChanceBounds$Tokens" "place" "I") (by decide +kernel)) (fun _ h9 => h9) rfl (by decide +kernel) rfl rfl (Nat.le_of_ble_eq_true rfl) dX6_step_129 (fun H locs hP hD hS => ?_)
              have hP : va_P D vwCl (w_X6_step tc q_th q_th_text q_th_text_bytes n_th_text_bytes (z27_0 + (1 : Int32)) z27_0 z28_0 th_value th_text_length th_text_bytes) H := hP
              have hD : va_D A (w_X6_step tc q_th q_th_text q_th_text_bytes n_th_text_bytes (z27_0 + (1 : Int32)) z27_0 z28_0 th_value th_text_length th_text_bytes) := hD
              cases h
              exact st_vret hx hb hr hlocks hP hD hS dX6_step_132
          · replace h := ifn c33 h
            refine lv_aload_n hx hb dX6_step_96 rfl (lv_at hl 1 rfl) ?_
            obtain ⟨⟨z36_0, z36_1, z36_2⟩, hc36, h⟩ := bd_ok h
            refine st_callV (As := []) (rest := []) (pos := [0, 1, 2]) ⟨hx, hb, hml, hown, hts⟩ (s_X6_stepOverNumber (l := l) (D := D) (tc := tc) t0 aK aV q_th q_th_text q_th_text_bytes n_th_text_bytes z27_0 z27_0 th_kind th_value th_text_length th_text_bytes K z36_0 z36_1 z36_2 hc36) (cwV 0 hts gX6_step_X6_stepOverNumber rfl rfl rfl (by decide +kernel) ⟨Nat.le_of_ble_eq_true rfl, Nat.le_of_ble_eq_true rfl⟩) (st_recv (ci := 6) (q0 := 0) hK hP rfl rfl) hEok hE hK hN hP hD hS hA rfl rfl rfl rfl hl.1 rfl (Nat.le_of_ble_eq_true rfl) dX6_step_97 ⟨Nat.zero_le _, Nat.zero_le _⟩ (fun H locs hP hD hS => ?_)
            have hP : va_P D vwCl (w_X6_step tc q_th q_th_text q_th_text_bytes n_th_text_bytes z36_0 z27_0 z36_1 z36_2 th_text_length th_text_bytes) H := hP
            have hD : va_D A (w_X6_step tc q_th q_th_text q_th_text_bytes n_th_text_bytes z36_0 z27_0 z36_1 z36_2 th_text_length th_text_bytes) := hD
            refine lv_goto (tgt := 132) hx hb dX6_step_100 (by decide) ?_
            cases h
            exact st_vret hx hb hr hlocks hP hD hS dX6_step_132
        · replace h := ifn c31 h
          refine lv_aload_n hx hb dX6_step_82 rfl (lv_at hl 1 rfl) ?_
          obtain ⟨⟨z37_0, z37_1, z37_2⟩, hc37, h⟩ := bd_ok h
          refine st_callV (As := []) (rest := []) (pos := [0, 1, 2]) ⟨hx, hb, hml, hown, hts⟩ (s_X6_stepOverWord (l := l) (D := D) (tc := tc) t0 aK aV q_th q_th_text q_th_text_bytes n_th_text_bytes z27_0 z27_0 th_kind th_value th_text_length th_text_bytes K z37_0 z37_1 z37_2 hc37) (cwV 0 hts gX6_step_X6_stepOverWord rfl rfl rfl (by decide +kernel) ⟨Nat.le_of_ble_eq_true rfl, Nat.le_of_ble_eq_true rfl⟩) (st_recv (ci := 6) (q0 := 0) hK hP rfl rfl) hEok hE hK hN hP hD hS hA rfl rfl rfl rfl hl.1 rfl (Nat.le_of_ble_eq_true rfl) dX6_step_83 ⟨Nat.zero_le _, Nat.zero_le _⟩ (fun H locs hP hD hS => ?_)
          have hP : va_P D vwCl (w_X6_step tc q_th q_th_text q_th_text_bytes n_th_text_bytes z37_0 z27_0 z37_1 z37_2 th_text_length th_text_bytes) H := hP
          have hD : va_D A (w_X6_step tc q_th q_th_text q_th_text_bytes n_th_text_bytes z37_0 z27_0 z37_1 z37_2 th_text_length th_text_bytes) := hD
          refine lv_goto (tgt := 132) hx hb dX6_step_86 (by decide) ?_
          cases h
          exact st_vret hx hb hr hlocks hP hD hS dX6_step_132
      · replace h := ifn c29 h
        refine lv_aload_n hx hb dX6_step_67 rfl (lv_at hl 1 rfl) ?_
        refine lv_iconst (v := (0 : Int32)) hx hb dX6_step_68 (by decide) ?_
        refine va_put (D := D) (ci := 6) (v := .int (0 : Int32)) (ty := .int) (C := RX6) (T := TX6) (N := 5) hx hb hts hinX6 tyX6 tyX6_ok nmX6 hown hK hP hD hS 0 rfl rfl 3 (by decide) (hts (.fieldLink RX6 32 "ChanceBounds$Tokens" "kind" "I") (by decide +kernel)) (fun _ h9 => h9) rfl (by decide +kernel) rfl rfl (Nat.le_of_ble_eq_true rfl) dX6_step_69 (fun H locs hP hD hS => ?_)
        have hP : va_P D vwCl (w_X6_step tc q_th q_th_text q_th_text_bytes n_th_text_bytes z27_0 z27_0 (0 : Int32) th_value th_text_length th_text_bytes) H := hP
        have hD : va_D A (w_X6_step tc q_th q_th_text q_th_text_bytes n_th_text_bytes z27_0 z27_0 (0 : Int32) th_value th_text_length th_text_bytes) := hD
        refine lv_goto (tgt := 132) hx hb dX6_step_72 (by decide) ?_
        cases h
        exact st_vret hx hb hr hlocks hP hD hS dX6_step_132
def f_X6_restart (K : Nat) (n_th_text_bytes : Nat) (th_value : Int32) (th_text_length : Int32) (th_text_bytes : Nat → Int32) : Option (Int32 × Int32 × Int32 × Int32) :=
  (f_X6_step K n_th_text_bytes (0 : Int32) th_value th_text_length th_text_bytes).bind fun z1 => match z1 with
  | (z1_0, z1_1, z1_2, z1_3) =>
    some (z1_0, z1_1, z1_2, z1_3)
abbrev w_X6_restart (tc : Nat → ClassId) (q_th : Nat) (q_th_text : Nat) (q_th_text_bytes : Nat) (n_th_text_bytes : Nat) (th_place : Int32) (th_start : Int32) (th_kind : Int32) (th_value : Int32) (th_text_length : Int32) (th_text_bytes : Nat → Int32) : va_W := [(q_th, .inr (6, [.ref q_th_text, .int th_place, .int th_start, .int th_kind, .int th_value])), (q_th_text, .inr (5, [.ref q_th_text_bytes, .int th_text_length])), (q_th_text_bytes, .inl (tc 0, n_th_text_bytes, .inl th_text_bytes))]
set_option maxHeartbeats 4000000 in
set_option maxRecDepth 100000 in
theorem s_X6_restart {l : Launch} (t0 aK aV : Nat) {D : va_G} {tc : Nat → ClassId} (q_th : Nat) (q_th_text : Nat) (q_th_text_bytes : Nat) (n_th_text_bytes : Nat) (th_place : Int32) (th_start : Int32) (th_kind : Int32) (th_value : Int32) (th_text_length : Int32) (th_text_bytes : Nat → Int32) (K : Nat) (th_place' : Int32) (th_start' : Int32) (th_kind' : Int32) (th_value' : Int32) (h : f_X6_restart K n_th_text_bytes th_value th_text_length th_text_bytes = some (th_place', th_start', th_kind', th_value')) : st l yX6_restart wsX6_restart ({ frames := 5, cells := 0, slots := 0, locals := 112 }) (tk_E t0 aK aV) D tc [.ref q_th] (w_X6_restart tc q_th q_th_text q_th_text_bytes n_th_text_bytes th_place th_start th_kind th_value th_text_length th_text_bytes) none (w_X6_restart tc q_th q_th_text q_th_text_bytes n_th_text_bytes th_place' th_start' th_kind' th_value' th_text_length th_text_bytes) := by
  have hEok : st_Eok (tk_E t0 aK aV) := tk_ok t0 aK aV
  refine st_enter (cc := cX6_restart) (maxL := 1) (ret := none) (by decide) rfl (Nat.le_of_ble_eq_true rfl) ?_
  intro p e s m below meth c A ls hx hb hr hml hts hown hlocks hK hN hE hA hP hD hS hl
  have hl : lv_has ls 1 [(0, .ref q_th)] := hl
  have hinX6 : ∀ w ∈ wsX60, w ∈ wsX6_restart := by decide +kernel
  generalize hav : ([.ref q_th] : List Value).toArray = av at hts ⊢
  unfold f_X6_restart at h
  refine lv_aload_n hx hb dX6_restart_0 rfl (lv_at hl 0 rfl) ?_
  refine lv_iconst (v := (0 : Int32)) hx hb dX6_restart_1 (by decide) ?_
  refine va_put (D := D) (ci := 6) (v := .int (0 : Int32)) (ty := .int) (C := RX6) (T := TX6) (N := 5) hx hb hts hinX6 tyX6 tyX6_ok nmX6 hown hK hP hD hS 0 rfl rfl 1 (by decide) (hts (.fieldLink RX6 13 "ChanceBounds$Tokens" "place" "I") (by decide +kernel)) (fun _ h9 => h9) rfl (by decide +kernel) rfl rfl (Nat.le_of_ble_eq_true rfl) dX6_restart_2 (fun H locs hP hD hS => ?_)
  have hP : va_P D vwCl (w_X6_restart tc q_th q_th_text q_th_text_bytes n_th_text_bytes (0 : Int32) th_start th_kind th_value th_text_length th_text_bytes) H := hP
  have hD : va_D A (w_X6_restart tc q_th q_th_text q_th_text_bytes n_th_text_bytes (0 : Int32) th_start th_kind th_value th_text_length th_text_bytes) := hD
  refine lv_aload_n hx hb dX6_restart_5 rfl (lv_at hl 0 rfl) ?_
  obtain ⟨⟨z1_0, z1_1, z1_2, z1_3⟩, hc1, h⟩ := bd_ok h
  refine st_callV (As := []) (rest := []) (pos := [0, 1, 2]) ⟨hx, hb, hml, hown, hts⟩ (s_X6_step (l := l) (D := D) (tc := tc) t0 aK aV q_th q_th_text q_th_text_bytes n_th_text_bytes (0 : Int32) th_start th_kind th_value th_text_length th_text_bytes K z1_0 z1_1 z1_2 z1_3 hc1) (cwV 0 hts gX6_restart_X6_step rfl rfl rfl (by decide +kernel) ⟨Nat.le_of_ble_eq_true rfl, Nat.le_of_ble_eq_true rfl⟩) (st_recv (ci := 6) (q0 := 0) hK hP rfl rfl) hEok hE hK hN hP hD hS hA rfl rfl rfl rfl hl.1 rfl (Nat.le_of_ble_eq_true rfl) dX6_restart_6 ⟨Nat.zero_le _, Nat.zero_le _⟩ (fun H locs hP hD hS => ?_)
  have hP : va_P D vwCl (w_X6_restart tc q_th q_th_text q_th_text_bytes n_th_text_bytes z1_0 z1_1 z1_2 z1_3 th_text_length th_text_bytes) H := hP
  have hD : va_D A (w_X6_restart tc q_th q_th_text q_th_text_bytes n_th_text_bytes z1_0 z1_1 z1_2 z1_3 th_text_length th_text_bytes) := hD
  cases h
  exact st_vret hx hb hr hlocks hP hD hS dX6_restart_9

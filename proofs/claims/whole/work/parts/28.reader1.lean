def f_X3_isMore (th_fault : Int32) (th_tokens_kind : Int32) : Option (Int32) :=
  if (0 : Int32) ≤ th_fault then
    some (0 : Int32)
  else
    if th_tokens_kind = (0 : Int32) then
      some (0 : Int32)
    else
      some (1 : Int32)
abbrev w_X3_isMore (tc : Nat → ClassId) (q_th : Nat) (q_th_tokens : Nat) (q_th_found : Nat) (q_th_tokens_text : Nat)  (th_complete : Int32) (th_letters : Int32) (th_fault : Int32) (th_tokens_place : Int32) (th_tokens_start : Int32) (th_tokens_kind : Int32) (th_tokens_value : Int32) : va_W := [(q_th, .inr (3, [.ref q_th_tokens, .ref q_th_found, .int th_complete, .int th_letters, .int th_fault])), (q_th_tokens, .inr (6, [.ref q_th_tokens_text, .int th_tokens_place, .int th_tokens_start, .int th_tokens_kind, .int th_tokens_value]))]
set_option maxHeartbeats 4000000 in
set_option maxRecDepth 100000 in
theorem s_X3_isMore {l : Launch} {E : (Nat → Prop) → State → Prop} (hEok : st_Eok E) {D : va_G} {tc : Nat → ClassId} (q_th : Nat) (q_th_tokens : Nat) (q_th_found : Nat) (q_th_tokens_text : Nat) (th_complete : Int32) (th_letters : Int32) (th_fault : Int32) (th_tokens_place : Int32) (th_tokens_start : Int32) (th_tokens_kind : Int32) (th_tokens_value : Int32) (r0 : Int32) (h : f_X3_isMore th_fault th_tokens_kind = some r0) : st l yX3_isMore wsX3_isMore ({ frames := 0, cells := 0, slots := 0, locals := 0 }) E D tc [.ref q_th] (w_X3_isMore tc q_th q_th_tokens q_th_found q_th_tokens_text th_complete th_letters th_fault th_tokens_place th_tokens_start th_tokens_kind th_tokens_value) (some (.int r0)) (w_X3_isMore tc q_th q_th_tokens q_th_found q_th_tokens_text th_complete th_letters th_fault th_tokens_place th_tokens_start th_tokens_kind th_tokens_value) := by
  refine st_enter (cc := cX3_isMore) (maxL := 1) (ret := (some .boolean)) (by decide) rfl (Nat.le_of_ble_eq_true rfl) ?_
  intro p e s m below meth c A ls hx hb hr hml hts hown hlocks hK hN hE hA hP hD hS hl
  have hl : lv_has ls 1 [(0, .ref q_th)] := hl
  have hinX3 : ∀ w ∈ wsX30, w ∈ wsX3_isMore := by decide +kernel
  have hinX6 : ∀ w ∈ wsX60, w ∈ wsX3_isMore := by decide +kernel
  generalize hav : ([.ref q_th] : List Value).toArray = av at hts ⊢
  unfold f_X3_isMore at h
  refine lv_aload_n hx hb dX3_isMore_0 rfl (lv_at hl 0 rfl) ?_
  refine va_get (D := D) (ci := 3) (v := .int th_fault) (C := RX3) (T := TX3) (N := 5) hx hb hts hinX3 hown hK hP 0 rfl rfl 4 (by decide) (hts (.fieldLink RX3 31 "ChanceBounds$Reader" "fault" "I") (by decide +kernel)) (fun _ h9 => h9) rfl dX3_isMore_1 ?_
  refine lv_if_ge (tgt := 21) hx hb dX3_isMore_4 (by decide) (fun c1 => ?_) (fun c1 => ?_)
  · replace h := ifp c1 h
    refine lv_iconst (v := (0 : Int32)) hx hb dX3_isMore_21 (by decide) ?_
    cases h
    exact st_zret hx hb hr hlocks hP hD hS rfl dX3_isMore_22
  · replace h := ifn c1 h
    refine lv_aload_n hx hb dX3_isMore_7 rfl (lv_at hl 0 rfl) ?_
    refine va_get (D := D) (ci := 3) (v := .ref q_th_tokens) (C := RX3) (T := TX3) (N := 5) hx hb hts hinX3 hown hK hP 0 rfl rfl 0 (by decide) (hts (.fieldLink RX3 14 "ChanceBounds$Reader" "tokens" "LChanceBounds$Tokens;") (by decide +kernel)) (fun _ h9 => h9) rfl dX3_isMore_8 ?_
    refine va_getN (D := D) (ci := 6) (v := .int th_tokens_kind) (C := RX6) (T := TX6) (N := 5) hx hb hts hinX6 hown hK hP 1 rfl rfl 3 (by decide) (va_Nw.use rfl (hN (.fieldLinkNest RX3 37 "ChanceBounds$Tokens" "kind" "I" "ChanceBounds") (by decide +kernel))) (fun _ h9 => h9) rfl dX3_isMore_11 ?_
    refine lv_if_eq (tgt := 21) hx hb dX3_isMore_14 (by decide) (fun c2 => ?_) (fun c2 => ?_)
    · replace h := ifp c2 h
      refine lv_iconst (v := (0 : Int32)) hx hb dX3_isMore_21 (by decide) ?_
      cases h
      exact st_zret hx hb hr hlocks hP hD hS rfl dX3_isMore_22
    · replace h := ifn c2 h
      refine lv_iconst (v := (1 : Int32)) hx hb dX3_isMore_17 (by decide) ?_
      refine lv_goto (tgt := 22) hx hb dX3_isMore_18 (by decide) ?_
      cases h
      exact st_zret hx hb hr hlocks hP hD hS rfl dX3_isMore_22
def f_X3_isAt (th_fault : Int32) (th_tokens_kind : Int32) (x1 : Int32) : Option (Int32) :=
  if (0 : Int32) ≤ th_fault then
    some (0 : Int32)
  else
    if th_tokens_kind = x1 then
      some (1 : Int32)
    else
      some (0 : Int32)
abbrev w_X3_isAt (tc : Nat → ClassId) (q_th : Nat) (q_th_tokens : Nat) (q_th_found : Nat) (q_th_tokens_text : Nat)  (th_complete : Int32) (th_letters : Int32) (th_fault : Int32) (th_tokens_place : Int32) (th_tokens_start : Int32) (th_tokens_kind : Int32) (th_tokens_value : Int32) : va_W := [(q_th, .inr (3, [.ref q_th_tokens, .ref q_th_found, .int th_complete, .int th_letters, .int th_fault])), (q_th_tokens, .inr (6, [.ref q_th_tokens_text, .int th_tokens_place, .int th_tokens_start, .int th_tokens_kind, .int th_tokens_value]))]
set_option maxHeartbeats 4000000 in
set_option maxRecDepth 100000 in
theorem s_X3_isAt {l : Launch} {E : (Nat → Prop) → State → Prop} (hEok : st_Eok E) {D : va_G} {tc : Nat → ClassId} (q_th : Nat) (q_th_tokens : Nat) (q_th_found : Nat) (q_th_tokens_text : Nat) (th_complete : Int32) (th_letters : Int32) (th_fault : Int32) (th_tokens_place : Int32) (th_tokens_start : Int32) (th_tokens_kind : Int32) (th_tokens_value : Int32) (x1 : Int32) (r0 : Int32) (h : f_X3_isAt th_fault th_tokens_kind x1 = some r0) : st l yX3_isAt wsX3_isAt ({ frames := 0, cells := 0, slots := 0, locals := 0 }) E D tc [.ref q_th, .int x1] (w_X3_isAt tc q_th q_th_tokens q_th_found q_th_tokens_text th_complete th_letters th_fault th_tokens_place th_tokens_start th_tokens_kind th_tokens_value) (some (.int r0)) (w_X3_isAt tc q_th q_th_tokens q_th_found q_th_tokens_text th_complete th_letters th_fault th_tokens_place th_tokens_start th_tokens_kind th_tokens_value) := by
  refine st_enter (cc := cX3_isAt) (maxL := 2) (ret := (some .boolean)) (by decide) rfl (Nat.le_of_ble_eq_true rfl) ?_
  intro p e s m below meth c A ls hx hb hr hml hts hown hlocks hK hN hE hA hP hD hS hl
  have hl : lv_has ls 2 [(0, .ref q_th), (1, .int x1)] := hl
  have hinX3 : ∀ w ∈ wsX30, w ∈ wsX3_isAt := by decide +kernel
  have hinX6 : ∀ w ∈ wsX60, w ∈ wsX3_isAt := by decide +kernel
  generalize hav : ([.ref q_th, .int x1] : List Value).toArray = av at hts ⊢
  unfold f_X3_isAt at h
  refine lv_aload_n hx hb dX3_isAt_0 rfl (lv_at hl 0 rfl) ?_
  refine va_get (D := D) (ci := 3) (v := .int th_fault) (C := RX3) (T := TX3) (N := 5) hx hb hts hinX3 hown hK hP 0 rfl rfl 4 (by decide) (hts (.fieldLink RX3 31 "ChanceBounds$Reader" "fault" "I") (by decide +kernel)) (fun _ h9 => h9) rfl dX3_isAt_1 ?_
  refine lv_if_ge (tgt := 22) hx hb dX3_isAt_4 (by decide) (fun c1 => ?_) (fun c1 => ?_)
  · replace h := ifp c1 h
    refine lv_iconst (v := (0 : Int32)) hx hb dX3_isAt_22 (by decide) ?_
    cases h
    exact st_zret hx hb hr hlocks hP hD hS rfl dX3_isAt_23
  · replace h := ifn c1 h
    refine lv_aload_n hx hb dX3_isAt_7 rfl (lv_at hl 0 rfl) ?_
    refine va_get (D := D) (ci := 3) (v := .ref q_th_tokens) (C := RX3) (T := TX3) (N := 5) hx hb hts hinX3 hown hK hP 0 rfl rfl 0 (by decide) (hts (.fieldLink RX3 14 "ChanceBounds$Reader" "tokens" "LChanceBounds$Tokens;") (by decide +kernel)) (fun _ h9 => h9) rfl dX3_isAt_8 ?_
    refine va_getN (D := D) (ci := 6) (v := .int th_tokens_kind) (C := RX6) (T := TX6) (N := 5) hx hb hts hinX6 hown hK hP 1 rfl rfl 3 (by decide) (va_Nw.use rfl (hN (.fieldLinkNest RX3 37 "ChanceBounds$Tokens" "kind" "I" "ChanceBounds") (by decide +kernel))) (fun _ h9 => h9) rfl dX3_isAt_11 ?_
    refine lv_iload_n hx hb dX3_isAt_14 rfl (lv_at hl 1 rfl) ?_
    refine lv_icmp_ne (tgt := 22) hx hb dX3_isAt_15 (by decide) (fun c2 => ?_) (fun c2 => ?_)
    · replace h := ifn c2 h
      refine lv_iconst (v := (0 : Int32)) hx hb dX3_isAt_22 (by decide) ?_
      cases h
      exact st_zret hx hb hr hlocks hP hD hS rfl dX3_isAt_23
    · replace h := ifp c2 h
      refine lv_iconst (v := (1 : Int32)) hx hb dX3_isAt_18 (by decide) ?_
      refine lv_goto (tgt := 23) hx hb dX3_isAt_19 (by decide) ?_
      cases h
      exact st_zret hx hb hr hlocks hP hD hS rfl dX3_isAt_23
def f_X3_fail (th_fault : Int32) (th_tokens_start : Int32) : Option (Int32) :=
  if (0 : Int32) ≤ th_fault then
    some th_fault
  else
    some th_tokens_start
abbrev w_X3_fail (tc : Nat → ClassId) (q_th : Nat) (q_th_tokens : Nat) (q_th_found : Nat) (q_th_tokens_text : Nat)  (th_complete : Int32) (th_letters : Int32) (th_fault : Int32) (th_tokens_place : Int32) (th_tokens_start : Int32) (th_tokens_kind : Int32) (th_tokens_value : Int32) : va_W := [(q_th, .inr (3, [.ref q_th_tokens, .ref q_th_found, .int th_complete, .int th_letters, .int th_fault])), (q_th_tokens, .inr (6, [.ref q_th_tokens_text, .int th_tokens_place, .int th_tokens_start, .int th_tokens_kind, .int th_tokens_value]))]
set_option maxHeartbeats 4000000 in
set_option maxRecDepth 100000 in
theorem s_X3_fail {l : Launch} {E : (Nat → Prop) → State → Prop} (hEok : st_Eok E) {D : va_G} {tc : Nat → ClassId} (q_th : Nat) (q_th_tokens : Nat) (q_th_found : Nat) (q_th_tokens_text : Nat) (th_complete : Int32) (th_letters : Int32) (th_fault : Int32) (th_tokens_place : Int32) (th_tokens_start : Int32) (th_tokens_kind : Int32) (th_tokens_value : Int32) (th_fault' : Int32) (h : f_X3_fail th_fault th_tokens_start = some th_fault') : st l yX3_fail wsX3_fail ({ frames := 0, cells := 0, slots := 0, locals := 0 }) E D tc [.ref q_th] (w_X3_fail tc q_th q_th_tokens q_th_found q_th_tokens_text th_complete th_letters th_fault th_tokens_place th_tokens_start th_tokens_kind th_tokens_value) none (w_X3_fail tc q_th q_th_tokens q_th_found q_th_tokens_text th_complete th_letters th_fault' th_tokens_place th_tokens_start th_tokens_kind th_tokens_value) := by
  refine st_enter (cc := cX3_fail) (maxL := 1) (ret := none) (by decide) rfl (Nat.le_of_ble_eq_true rfl) ?_
  intro p e s m below meth c A ls hx hb hr hml hts hown hlocks hK hN hE hA hP hD hS hl
  have hl : lv_has ls 1 [(0, .ref q_th)] := hl
  have hinX3 : ∀ w ∈ wsX30, w ∈ wsX3_fail := by decide +kernel
  have hinX6 : ∀ w ∈ wsX60, w ∈ wsX3_fail := by decide +kernel
  generalize hav : ([.ref q_th] : List Value).toArray = av at hts ⊢
  unfold f_X3_fail at h
  refine lv_aload_n hx hb dX3_fail_0 rfl (lv_at hl 0 rfl) ?_
  refine va_get (D := D) (ci := 3) (v := .int th_fault) (C := RX3) (T := TX3) (N := 5) hx hb hts hinX3 hown hK hP 0 rfl rfl 4 (by decide) (hts (.fieldLink RX3 31 "ChanceBounds$Reader" "fault" "I") (by decide +kernel)) (fun _ h9 => h9) rfl dX3_fail_1 ?_
  refine lv_if_ge (tgt := 18) hx hb dX3_fail_4 (by decide) (fun c1 => ?_) (fun c1 => ?_)
  · replace h := ifp c1 h
    cases h
    exact st_vret hx hb hr hlocks hP hD hS dX3_fail_18
  · replace h := ifn c1 h
    refine lv_aload_n hx hb dX3_fail_7 rfl (lv_at hl 0 rfl) ?_
    refine lv_aload_n hx hb dX3_fail_8 rfl (lv_at hl 0 rfl) ?_
    refine va_get (D := D) (ci := 3) (v := .ref q_th_tokens) (C := RX3) (T := TX3) (N := 5) hx hb hts hinX3 hown hK hP 0 rfl rfl 0 (by decide) (hts (.fieldLink RX3 14 "ChanceBounds$Reader" "tokens" "LChanceBounds$Tokens;") (by decide +kernel)) (fun _ h9 => h9) rfl dX3_fail_9 ?_
    refine va_getN (D := D) (ci := 6) (v := .int th_tokens_start) (C := RX6) (T := TX6) (N := 5) hx hb hts hinX6 hown hK hP 1 rfl rfl 2 (by decide) (va_Nw.use rfl (hN (.fieldLinkNest RX3 90 "ChanceBounds$Tokens" "start" "I" "ChanceBounds") (by decide +kernel))) (fun _ h9 => h9) rfl dX3_fail_12 ?_
    refine va_put (D := D) (ci := 3) (v := .int th_tokens_start) (ty := .int) (C := RX3) (T := TX3) (N := 5) hx hb hts hinX3 tyX3 tyX3_ok nmX3 hown hK hP hD hS 0 rfl rfl 4 (by decide) (hts (.fieldLink RX3 31 "ChanceBounds$Reader" "fault" "I") (by decide +kernel)) (fun _ h9 => h9) rfl (by decide +kernel) rfl rfl (Nat.le_of_ble_eq_true rfl) dX3_fail_15 (fun H locs hP hD hS => ?_)
    have hP : va_P D vwCl (w_X3_fail tc q_th q_th_tokens q_th_found q_th_tokens_text th_complete th_letters th_tokens_start th_tokens_place th_tokens_start th_tokens_kind th_tokens_value) H := hP
    have hD : va_D A (w_X3_fail tc q_th q_th_tokens q_th_found q_th_tokens_text th_complete th_letters th_tokens_start th_tokens_place th_tokens_start th_tokens_kind th_tokens_value) := hD
    cases h
    exact st_vret hx hb hr hlocks hP hD hS dX3_fail_18
def f_X3_expect (K : Nat) (n_th_tokens_text_bytes : Nat) (th_fault : Int32) (th_tokens_place : Int32) (th_tokens_start : Int32) (th_tokens_kind : Int32) (th_tokens_value : Int32) (th_tokens_text_length : Int32) (th_tokens_text_bytes : Nat → Int32) (x1 : Int32) : Option (Int32 × Int32 × Int32 × Int32 × Int32) :=
  (f_X3_isAt th_fault th_tokens_kind x1).bind fun z1_0 =>
  if z1_0 = (0 : Int32) then
    (f_X3_fail th_fault th_tokens_start).bind fun z3_0 =>
    some (z3_0, th_tokens_place, th_tokens_start, th_tokens_kind, th_tokens_value)
  else
    (f_X6_step K n_th_tokens_text_bytes th_tokens_place th_tokens_value th_tokens_text_length th_tokens_text_bytes).bind fun z4 => match z4 with
    | (z4_0, z4_1, z4_2, z4_3) =>
      some (th_fault, z4_0, z4_1, z4_2, z4_3)
abbrev w_X3_expect (tc : Nat → ClassId) (q_th : Nat) (q_th_tokens : Nat) (q_th_found : Nat) (q_th_tokens_text : Nat) (q_th_tokens_text_bytes : Nat) (n_th_tokens_text_bytes : Nat) (th_complete : Int32) (th_letters : Int32) (th_fault : Int32) (th_tokens_place : Int32) (th_tokens_start : Int32) (th_tokens_kind : Int32) (th_tokens_value : Int32) (th_tokens_text_length : Int32) (th_tokens_text_bytes : Nat → Int32) : va_W := [(q_th, .inr (3, [.ref q_th_tokens, .ref q_th_found, .int th_complete, .int th_letters, .int th_fault])), (q_th_tokens, .inr (6, [.ref q_th_tokens_text, .int th_tokens_place, .int th_tokens_start, .int th_tokens_kind, .int th_tokens_value])), (q_th_tokens_text, .inr (5, [.ref q_th_tokens_text_bytes, .int th_tokens_text_length])), (q_th_tokens_text_bytes, .inl (tc 0, n_th_tokens_text_bytes, .inl th_tokens_text_bytes))]
set_option maxHeartbeats 4000000 in
set_option maxRecDepth 100000 in
theorem s_X3_expect {l : Launch} (t0 aK aV : Nat) {D : va_G} {tc : Nat → ClassId} (q_th : Nat) (q_th_tokens : Nat) (q_th_found : Nat) (q_th_tokens_text : Nat) (q_th_tokens_text_bytes : Nat) (n_th_tokens_text_bytes : Nat) (th_complete : Int32) (th_letters : Int32) (th_fault : Int32) (th_tokens_place : Int32) (th_tokens_start : Int32) (th_tokens_kind : Int32) (th_tokens_value : Int32) (th_tokens_text_length : Int32) (th_tokens_text_bytes : Nat → Int32) (x1 : Int32) (K : Nat) (th_fault' : Int32) (th_tokens_place' : Int32) (th_tokens_start' : Int32) (th_tokens_kind' : Int32) (th_tokens_value' : Int32) (h : f_X3_expect K n_th_tokens_text_bytes th_fault th_tokens_place th_tokens_start th_tokens_kind th_tokens_value th_tokens_text_length th_tokens_text_bytes x1 = some (th_fault', th_tokens_place', th_tokens_start', th_tokens_kind', th_tokens_value')) : st l yX3_expect wsX3_expect ({ frames := 5, cells := 0, slots := 0, locals := 112 }) (tk_E t0 aK aV) D tc [.ref q_th, .int x1] (w_X3_expect tc q_th q_th_tokens q_th_found q_th_tokens_text q_th_tokens_text_bytes n_th_tokens_text_bytes th_complete th_letters th_fault th_tokens_place th_tokens_start th_tokens_kind th_tokens_value th_tokens_text_length th_tokens_text_bytes) none (w_X3_expect tc q_th q_th_tokens q_th_found q_th_tokens_text q_th_tokens_text_bytes n_th_tokens_text_bytes th_complete th_letters th_fault' th_tokens_place' th_tokens_start' th_tokens_kind' th_tokens_value' th_tokens_text_length th_tokens_text_bytes) := by
  have hEok : st_Eok (tk_E t0 aK aV) := tk_ok t0 aK aV
  refine st_enter (cc := cX3_expect) (maxL := 2) (ret := none) (by decide) rfl (Nat.le_of_ble_eq_true rfl) ?_
  intro p e s m below meth c A ls hx hb hr hml hts hown hlocks hK hN hE hA hP hD hS hl
  have hl : lv_has ls 2 [(0, .ref q_th), (1, .int x1)] := hl
  have hinX3 : ∀ w ∈ wsX30, w ∈ wsX3_expect := by decide +kernel
  generalize hav : ([.ref q_th, .int x1] : List Value).toArray = av at hts ⊢
  unfold f_X3_expect at h
  refine lv_aload_n hx hb dX3_expect_0 rfl (lv_at hl 0 rfl) ?_
  refine lv_iload_n hx hb dX3_expect_1 rfl (lv_at hl 1 rfl) ?_
  obtain ⟨z1_0, hc1, h⟩ := bd_ok h
  refine st_callV (As := [.int x1]) (rest := []) (pos := [0, 1]) ⟨hx, hb, hml, hown, hts⟩ (s_X3_isAt (l := l) (D := D) (tc := tc) hEok q_th q_th_tokens q_th_found q_th_tokens_text th_complete th_letters th_fault th_tokens_place th_tokens_start th_tokens_kind th_tokens_value x1 z1_0 hc1) (cwV 1 hts gX3_expect_X3_isAt rfl rfl rfl (by decide +kernel) ⟨Nat.le_of_ble_eq_true rfl, Nat.le_of_ble_eq_true rfl⟩) (st_recv (ci := 3) (q0 := 0) hK hP rfl rfl) hEok hE hK hN hP hD hS hA rfl rfl rfl rfl hl.1 rfl (Nat.le_of_ble_eq_true rfl) dX3_expect_2 ⟨Nat.zero_le _, Nat.zero_le _⟩ (fun H locs hP hD hS => ?_)
  have hP : va_P D vwCl (w_X3_expect tc q_th q_th_tokens q_th_found q_th_tokens_text q_th_tokens_text_bytes n_th_tokens_text_bytes th_complete th_letters th_fault th_tokens_place th_tokens_start th_tokens_kind th_tokens_value th_tokens_text_length th_tokens_text_bytes) H := hP
  have hD : va_D A (w_X3_expect tc q_th q_th_tokens q_th_found q_th_tokens_text q_th_tokens_text_bytes n_th_tokens_text_bytes th_complete th_letters th_fault th_tokens_place th_tokens_start th_tokens_kind th_tokens_value th_tokens_text_length th_tokens_text_bytes) := hD
  refine lv_if_eq (tgt := 18) hx hb dX3_expect_5 (by decide) (fun c2 => ?_) (fun c2 => ?_)
  · replace h := ifp c2 h
    refine lv_aload_n hx hb dX3_expect_18 rfl (lv_at hl 0 rfl) ?_
    obtain ⟨z3_0, hc3, h⟩ := bd_ok h
    refine st_callV (As := []) (rest := []) (pos := [0, 1]) ⟨hx, hb, hml, hown, hts⟩ (s_X3_fail (l := l) (D := D) (tc := tc) hEok q_th q_th_tokens q_th_found q_th_tokens_text th_complete th_letters th_fault th_tokens_place th_tokens_start th_tokens_kind th_tokens_value z3_0 hc3) (cwV 0 hts gX3_expect_X3_fail rfl rfl rfl (by decide +kernel) ⟨Nat.le_of_ble_eq_true rfl, Nat.le_of_ble_eq_true rfl⟩) (st_recv (ci := 3) (q0 := 0) hK hP rfl rfl) hEok hE hK hN hP hD hS hA rfl rfl rfl rfl hl.1 rfl (Nat.le_of_ble_eq_true rfl) dX3_expect_19 ⟨Nat.zero_le _, Nat.zero_le _⟩ (fun H locs hP hD hS => ?_)
    have hP : va_P D vwCl (w_X3_expect tc q_th q_th_tokens q_th_found q_th_tokens_text q_th_tokens_text_bytes n_th_tokens_text_bytes th_complete th_letters z3_0 th_tokens_place th_tokens_start th_tokens_kind th_tokens_value th_tokens_text_length th_tokens_text_bytes) H := hP
    have hD : va_D A (w_X3_expect tc q_th q_th_tokens q_th_found q_th_tokens_text q_th_tokens_text_bytes n_th_tokens_text_bytes th_complete th_letters z3_0 th_tokens_place th_tokens_start th_tokens_kind th_tokens_value th_tokens_text_length th_tokens_text_bytes) := hD
    cases h
    exact st_vret hx hb hr hlocks hP hD hS dX3_expect_22
  · replace h := ifn c2 h
    refine lv_aload_n hx hb dX3_expect_8 rfl (lv_at hl 0 rfl) ?_
    refine va_get (D := D) (ci := 3) (v := .ref q_th_tokens) (C := RX3) (T := TX3) (N := 5) hx hb hts hinX3 hown hK hP 0 rfl rfl 0 (by decide) (hts (.fieldLink RX3 14 "ChanceBounds$Reader" "tokens" "LChanceBounds$Tokens;") (by decide +kernel)) (fun _ h9 => h9) rfl dX3_expect_9 ?_
    obtain ⟨⟨z4_0, z4_1, z4_2, z4_3⟩, hc4, h⟩ := bd_ok h
    refine st_callV (As := []) (rest := []) (pos := [1, 2, 3]) ⟨hx, hb, hml, hown, hts⟩ (s_X6_step (l := l) (D := D) (tc := tc) t0 aK aV q_th_tokens q_th_tokens_text q_th_tokens_text_bytes n_th_tokens_text_bytes th_tokens_place th_tokens_start th_tokens_kind th_tokens_value th_tokens_text_length th_tokens_text_bytes K z4_0 z4_1 z4_2 z4_3 hc4) (cwV 0 hts gX3_expect_X6_step rfl rfl rfl (by decide +kernel) ⟨Nat.le_of_ble_eq_true rfl, Nat.le_of_ble_eq_true rfl⟩) (st_recv (ci := 6) (q0 := 1) hK hP rfl rfl) hEok hE hK hN hP hD hS hA rfl rfl rfl rfl hl.1 rfl (Nat.le_of_ble_eq_true rfl) dX3_expect_12 ⟨Nat.zero_le _, Nat.zero_le _⟩ (fun H locs hP hD hS => ?_)
    have hP : va_P D vwCl (w_X3_expect tc q_th q_th_tokens q_th_found q_th_tokens_text q_th_tokens_text_bytes n_th_tokens_text_bytes th_complete th_letters th_fault z4_0 z4_1 z4_2 z4_3 th_tokens_text_length th_tokens_text_bytes) H := hP
    have hD : va_D A (w_X3_expect tc q_th q_th_tokens q_th_found q_th_tokens_text q_th_tokens_text_bytes n_th_tokens_text_bytes th_complete th_letters th_fault z4_0 z4_1 z4_2 z4_3 th_tokens_text_length th_tokens_text_bytes) := hD
    refine lv_goto (tgt := 22) hx hb dX3_expect_15 (by decide) ?_
    cases h
    exact st_vret hx hb hr hlocks hP hD hS dX3_expect_22
def f_X3_readHundredths_J48 (th_fault : Int32) (th_tokens_place : Int32) (th_tokens_start : Int32) (th_tokens_kind : Int32) (th_tokens_value : Int32) : Option (Int32 × Int32 × Int32 × Int32 × Int32 × Int32) :=
  (f_X3_fail th_fault th_tokens_start).bind fun z1_0 =>
  some ((0 : Int32), z1_0, th_tokens_place, th_tokens_start, th_tokens_kind, th_tokens_value)
def f_X3_readHundredths (K : Nat) (n_th_tokens_text_bytes : Nat) (th_fault : Int32) (th_tokens_place : Int32) (th_tokens_start : Int32) (th_tokens_kind : Int32) (th_tokens_value : Int32) (th_tokens_text_length : Int32) (th_tokens_text_bytes : Nat → Int32) (x1 : Int32) : Option (Int32 × Int32 × Int32 × Int32 × Int32 × Int32) :=
  (f_X3_isAt th_fault th_tokens_kind (3 : Int32)).bind fun z2_0 =>
  if z2_0 = (0 : Int32) then
    f_X3_readHundredths_J48 th_fault th_tokens_place th_tokens_start th_tokens_kind th_tokens_value
  else
    if th_tokens_value < x1 then
      f_X3_readHundredths_J48 th_fault th_tokens_place th_tokens_start th_tokens_kind th_tokens_value
    else
      if (100 : Int32) < th_tokens_value then
        f_X3_readHundredths_J48 th_fault th_tokens_place th_tokens_start th_tokens_kind th_tokens_value
      else
        (f_X6_step K n_th_tokens_text_bytes th_tokens_place th_tokens_value th_tokens_text_length th_tokens_text_bytes).bind fun z6 => match z6 with
        | (z6_0, z6_1, z6_2, z6_3) =>
          some (th_tokens_value, th_fault, z6_0, z6_1, z6_2, z6_3)
abbrev w_X3_readHundredths (tc : Nat → ClassId) (q_th : Nat) (q_th_tokens : Nat) (q_th_found : Nat) (q_th_tokens_text : Nat) (q_th_tokens_text_bytes : Nat) (n_th_tokens_text_bytes : Nat) (th_complete : Int32) (th_letters : Int32) (th_fault : Int32) (th_tokens_place : Int32) (th_tokens_start : Int32) (th_tokens_kind : Int32) (th_tokens_value : Int32) (th_tokens_text_length : Int32) (th_tokens_text_bytes : Nat → Int32) : va_W := [(q_th, .inr (3, [.ref q_th_tokens, .ref q_th_found, .int th_complete, .int th_letters, .int th_fault])), (q_th_tokens, .inr (6, [.ref q_th_tokens_text, .int th_tokens_place, .int th_tokens_start, .int th_tokens_kind, .int th_tokens_value])), (q_th_tokens_text, .inr (5, [.ref q_th_tokens_text_bytes, .int th_tokens_text_length])), (q_th_tokens_text_bytes, .inl (tc 0, n_th_tokens_text_bytes, .inl th_tokens_text_bytes))]
set_option maxHeartbeats 4000000 in
set_option maxRecDepth 100000 in
theorem s_X3_readHundredths {l : Launch} (t0 aK aV : Nat) {D : va_G} {tc : Nat → ClassId} (q_th : Nat) (q_th_tokens : Nat) (q_th_found : Nat) (q_th_tokens_text : Nat) (q_th_tokens_text_bytes : Nat) (n_th_tokens_text_bytes : Nat) (th_complete : Int32) (th_letters : Int32) (th_fault : Int32) (th_tokens_place : Int32) (th_tokens_start : Int32) (th_tokens_kind : Int32) (th_tokens_value : Int32) (th_tokens_text_length : Int32) (th_tokens_text_bytes : Nat → Int32) (x1 : Int32) (K : Nat) (r0 : Int32) (th_fault' : Int32) (th_tokens_place' : Int32) (th_tokens_start' : Int32) (th_tokens_kind' : Int32) (th_tokens_value' : Int32) (h : f_X3_readHundredths K n_th_tokens_text_bytes th_fault th_tokens_place th_tokens_start th_tokens_kind th_tokens_value th_tokens_text_length th_tokens_text_bytes x1 = some (r0, th_fault', th_tokens_place', th_tokens_start', th_tokens_kind', th_tokens_value')) : st l yX3_readHundredths wsX3_readHundredths ({ frames := 5, cells := 0, slots := 0, locals := 112 }) (tk_E t0 aK aV) D tc [.ref q_th, .int x1] (w_X3_readHundredths tc q_th q_th_tokens q_th_found q_th_tokens_text q_th_tokens_text_bytes n_th_tokens_text_bytes th_complete th_letters th_fault th_tokens_place th_tokens_start th_tokens_kind th_tokens_value th_tokens_text_length th_tokens_text_bytes) (some (.int r0)) (w_X3_readHundredths tc q_th q_th_tokens q_th_found q_th_tokens_text q_th_tokens_text_bytes n_th_tokens_text_bytes th_complete th_letters th_fault' th_tokens_place' th_tokens_start' th_tokens_kind' th_tokens_value' th_tokens_text_length th_tokens_text_bytes) := by
  have hEok : st_Eok (tk_E t0 aK aV) := tk_ok t0 aK aV
  refine st_enter (cc := cX3_readHundredths) (maxL := 3) (ret := (some .int)) (by decide) rfl (Nat.le_of_ble_eq_true rfl) ?_
  intro p e s m below meth c A ls hx hb hr hml hts hown hlocks hK hN hE hA hP hD hS hl
  have hl : lv_has ls 3 [(0, .ref q_th), (1, .int x1)] := hl
  have hinX3 : ∀ w ∈ wsX30, w ∈ wsX3_readHundredths := by decide +kernel
  have hinX6 : ∀ w ∈ wsX60, w ∈ wsX3_readHundredths := by decide +kernel
  generalize hav : ([.ref q_th, .int x1] : List Value).toArray = av at hts ⊢
  have J48 : ∀ (th_fault : Int32) (th_tokens_place : Int32) (th_tokens_start : Int32) (th_tokens_kind : Int32) (th_tokens_value : Int32) (H : Heap) (locs : List Loc) (ls : Array Slot), f_X3_readHundredths_J48 th_fault th_tokens_place th_tokens_start th_tokens_kind th_tokens_value = some (r0, th_fault', th_tokens_place', th_tokens_start', th_tokens_kind', th_tokens_value') → va_P D vwCl (w_X3_readHundredths tc q_th q_th_tokens q_th_found q_th_tokens_text q_th_tokens_text_bytes n_th_tokens_text_bytes th_complete th_letters th_fault th_tokens_place th_tokens_start th_tokens_kind th_tokens_value th_tokens_text_length th_tokens_text_bytes) H → va_D A (w_X3_readHundredths tc q_th q_th_tokens q_th_found q_th_tokens_text q_th_tokens_text_bytes n_th_tokens_text_bytes th_complete th_letters th_fault th_tokens_place th_tokens_start th_tokens_kind th_tokens_value th_tokens_text_length th_tokens_text_bytes) → va_S A s.heap H locs → lv_has ls 3 [(0, .ref q_th)] → W p l e ({ frames := 5, cells := 0, slots := 0, locals := 112 } : Room) s m av below meth c H locs 0 0 (MQ below (st_Q D (w_X3_readHundredths tc q_th q_th_tokens q_th_found q_th_tokens_text q_th_tokens_text_bytes n_th_tokens_text_bytes th_complete th_letters th_fault' th_tokens_place' th_tokens_start' th_tokens_kind' th_tokens_value' th_tokens_text_length th_tokens_text_bytes) (some (.int r0)) A) av s 0 0 A) (F0 m 48 ls []) := by
    intro th_fault th_tokens_place th_tokens_start th_tokens_kind th_tokens_value H locs ls h hP hD hS hl
    unfold f_X3_readHundredths_J48 at h
    refine lv_aload_n hx hb dX3_readHundredths_48 rfl (lv_at hl 0 rfl) ?_
    obtain ⟨z1_0, hc1, h⟩ := bd_ok h
    refine st_callV (As := []) (rest := []) (pos := [0, 1]) ⟨hx, hb, hml, hown, hts⟩ (s_X3_fail (l := l) (D := D) (tc := tc) hEok q_th q_th_tokens q_th_found q_th_tokens_text th_complete th_letters th_fault th_tokens_place th_tokens_start th_tokens_kind th_tokens_value z1_0 hc1) (cwV 0 hts gX3_readHundredths_X3_fail rfl rfl rfl (by decide +kernel) ⟨Nat.le_of_ble_eq_true rfl, Nat.le_of_ble_eq_true rfl⟩) (st_recv (ci := 3) (q0 := 0) hK hP rfl rfl) hEok hE hK hN hP hD hS hA rfl rfl rfl rfl hl.1 rfl (Nat.le_of_ble_eq_true rfl) dX3_readHundredths_49 ⟨Nat.zero_le _, Nat.zero_le _⟩ (fun H locs hP hD hS => ?_)
    have hP : va_P D vwCl (w_X3_readHundredths tc q_th q_th_tokens q_th_found q_th_tokens_text q_th_tokens_text_bytes n_th_tokens_text_bytes th_complete th_letters z1_0 th_tokens_place th_tokens_start th_tokens_kind th_tokens_value th_tokens_text_length th_tokens_text_bytes) H := hP
    have hD : va_D A (w_X3_readHundredths tc q_th q_th_tokens q_th_found q_th_tokens_text q_th_tokens_text_bytes n_th_tokens_text_bytes th_complete th_letters z1_0 th_tokens_place th_tokens_start th_tokens_kind th_tokens_value th_tokens_text_length th_tokens_text_bytes) := hD
    refine lv_iconst (v := (0 : Int32)) hx hb dX3_readHundredths_52 (by decide) ?_
    cases h
    exact st_iret hx hb hr hlocks hP hD hS dX3_readHundredths_53
  unfold f_X3_readHundredths at h
  refine lv_aload_n hx hb dX3_readHundredths_0 rfl (lv_at hl 0 rfl) ?_
  refine lv_iconst (v := (3 : Int32)) hx hb dX3_readHundredths_1 (by decide) ?_
  obtain ⟨z2_0, hc2, h⟩ := bd_ok h
  refine st_callV (As := [.int (3 : Int32)]) (rest := []) (pos := [0, 1]) ⟨hx, hb, hml, hown, hts⟩ (s_X3_isAt (l := l) (D := D) (tc := tc) hEok q_th q_th_tokens q_th_found q_th_tokens_text th_complete th_letters th_fault th_tokens_place th_tokens_start th_tokens_kind th_tokens_value (3 : Int32) z2_0 hc2) (cwV 1 hts gX3_readHundredths_X3_isAt rfl rfl rfl (by decide +kernel) ⟨Nat.le_of_ble_eq_true rfl, Nat.le_of_ble_eq_true rfl⟩) (st_recv (ci := 3) (q0 := 0) hK hP rfl rfl) hEok hE hK hN hP hD hS hA rfl rfl rfl rfl hl.1 rfl (Nat.le_of_ble_eq_true rfl) dX3_readHundredths_2 ⟨Nat.zero_le _, Nat.zero_le _⟩ (fun H locs hP hD hS => ?_)
  have hP : va_P D vwCl (w_X3_readHundredths tc q_th q_th_tokens q_th_found q_th_tokens_text q_th_tokens_text_bytes n_th_tokens_text_bytes th_complete th_letters th_fault th_tokens_place th_tokens_start th_tokens_kind th_tokens_value th_tokens_text_length th_tokens_text_bytes) H := hP
  have hD : va_D A (w_X3_readHundredths tc q_th q_th_tokens q_th_found q_th_tokens_text q_th_tokens_text_bytes n_th_tokens_text_bytes th_complete th_letters th_fault th_tokens_place th_tokens_start th_tokens_kind th_tokens_value th_tokens_text_length th_tokens_text_bytes) := hD
  refine lv_if_eq (tgt := 48) hx hb dX3_readHundredths_5 (by decide) (fun c3 => ?_) (fun c3 => ?_)
  · replace h := ifp c3 h
    exact J48 th_fault th_tokens_place th_tokens_start th_tokens_kind th_tokens_value _ _ _ h hP hD hS (lv_sub hl [0] rfl)
  · replace h := ifn c3 h
    refine lv_aload_n hx hb dX3_readHundredths_8 rfl (lv_at hl 0 rfl) ?_
    refine va_get (D := D) (ci := 3) (v := .ref q_th_tokens) (C := RX3) (T := TX3) (N := 5) hx hb hts hinX3 hown hK hP 0 rfl rfl 0 (by decide) (hts (.fieldLink RX3 14 "ChanceBounds$Reader" "tokens" "LChanceBounds$Tokens;") (by decide +kernel)) (fun _ h9 => h9) rfl dX3_readHundredths_9 ?_
    refine va_getN (D := D) (ci := 6) (v := .int th_tokens_value) (C := RX6) (T := TX6) (N := 5) hx hb hts hinX6 hown hK hP 1 rfl rfl 4 (by decide) (va_Nw.use rfl (hN (.fieldLinkNest RX3 87 "ChanceBounds$Tokens" "value" "I" "ChanceBounds") (by decide +kernel))) (fun _ h9 => h9) rfl dX3_readHundredths_12 ?_
    refine lv_iload_n hx hb dX3_readHundredths_15 rfl (lv_at hl 1 rfl) ?_
    refine lv_icmp_lt (tgt := 48) hx hb dX3_readHundredths_16 (by decide) (fun c4 => ?_) (fun c4 => ?_)
    · replace h := ifp c4 h
      exact J48 th_fault th_tokens_place th_tokens_start th_tokens_kind th_tokens_value _ _ _ h hP hD hS (lv_sub hl [0] rfl)
    · replace h := ifn c4 h
      refine lv_aload_n hx hb dX3_readHundredths_19 rfl (lv_at hl 0 rfl) ?_
      refine va_get (D := D) (ci := 3) (v := .ref q_th_tokens) (C := RX3) (T := TX3) (N := 5) hx hb hts hinX3 hown hK hP 0 rfl rfl 0 (by decide) (hts (.fieldLink RX3 14 "ChanceBounds$Reader" "tokens" "LChanceBounds$Tokens;") (by decide +kernel)) (fun _ h9 => h9) rfl dX3_readHundredths_20 ?_
      refine va_getN (D := D) (ci := 6) (v := .int th_tokens_value) (C := RX6) (T := TX6) (N := 5) hx hb hts hinX6 hown hK hP 1 rfl rfl 4 (by decide) (va_Nw.use rfl (hN (.fieldLinkNest RX3 87 "ChanceBounds$Tokens" "value" "I" "ChanceBounds") (by decide +kernel))) (fun _ h9 => h9) rfl dX3_readHundredths_23 ?_
      refine lv_bipush (v := (100 : Int32)) hx hb dX3_readHundredths_26 (by decide) ?_
      refine lv_icmp_gt (tgt := 48) hx hb dX3_readHundredths_28 (by decide) (fun c5 => ?_) (fun c5 => ?_)
      · replace h := ifp c5 h
        exact J48 th_fault th_tokens_place th_tokens_start th_tokens_kind th_tokens_value _ _ _ h hP hD hS (lv_sub hl [0] rfl)
      · replace h := ifn c5 h
        refine lv_aload_n hx hb dX3_readHundredths_31 rfl (lv_at hl 0 rfl) ?_
        refine va_get (D := D) (ci := 3) (v := .ref q_th_tokens) (C := RX3) (T := TX3) (N := 5) hx hb hts hinX3 hown hK hP 0 rfl rfl 0 (by decide) (hts (.fieldLink RX3 14 "ChanceBounds$Reader" "tokens" "LChanceBounds$Tokens;") (by decide +kernel)) (fun _ h9 => h9) rfl dX3_readHundredths_32 ?_
        refine va_getN (D := D) (ci := 6) (v := .int th_tokens_value) (C := RX6) (T := TX6) (N := 5) hx hb hts hinX6 hown hK hP 1 rfl rfl 4 (by decide) (va_Nw.use rfl (hN (.fieldLinkNest RX3 87 "ChanceBounds$Tokens" "value" "I" "ChanceBounds") (by decide +kernel))) (fun _ h9 => h9) rfl dX3_readHundredths_35 ?_
        refine lv_istore_n (lv' := [(2, .int th_tokens_value), (0, .ref q_th), (1, .int x1)]) hx hb dX3_readHundredths_38 rfl hl (by decide) rfl (fun ls hl => ?_)
        refine lv_aload_n hx hb dX3_readHundredths_39 rfl (lv_at hl 1 rfl) ?_
        refine va_get (D := D) (ci := 3) (v := .ref q_th_tokens) (C := RX3) (T := TX3) (N := 5) hx hb hts hinX3 hown hK hP 0 rfl rfl 0 (by decide) (hts (.fieldLink RX3 14 "ChanceBounds$Reader" "tokens" "LChanceBounds$Tokens;") (by decide +kernel)) (fun _ h9 => h9) rfl dX3_readHundredths_40 ?_
        obtain ⟨⟨z6_0, z6_1, z6_2, z6_3⟩, hc6, h⟩ := bd_ok h
        refine st_callV (As := []) (rest := []) (pos := [1, 2, 3]) ⟨hx, hb, hml, hown, hts⟩ (s_X6_step (l := l) (D := D) (tc := tc) t0 aK aV q_th_tokens q_th_tokens_text q_th_tokens_text_bytes n_th_tokens_text_bytes th_tokens_place th_tokens_start th_tokens_kind th_tokens_value th_tokens_text_length th_tokens_text_bytes K z6_0 z6_1 z6_2 z6_3 hc6) (cwV 0 hts gX3_readHundredths_X6_step rfl rfl rfl (by decide +kernel) ⟨Nat.le_of_ble_eq_true rfl, Nat.le_of_ble_eq_true rfl⟩) (st_recv (ci := 6) (q0 := 1) hK hP rfl rfl) hEok hE hK hN hP hD hS hA rfl rfl rfl rfl hl.1 rfl (Nat.le_of_ble_eq_true rfl) dX3_readHundredths_43 ⟨Nat.zero_le _, Nat.zero_le _⟩ (fun H locs hP hD hS => ?_)
        have hP : va_P D vwCl (w_X3_readHundredths tc q_th q_th_tokens q_th_found q_th_tokens_text q_th_tokens_text_bytes n_th_tokens_text_bytes th_complete th_letters th_fault z6_0 z6_1 z6_2 z6_3 th_tokens_text_length th_tokens_text_bytes) H := hP
        have hD : va_D A (w_X3_readHundredths tc q_th q_th_tokens q_th_found q_th_tokens_text q_th_tokens_text_bytes n_th_tokens_text_bytes th_complete th_letters th_fault z6_0 z6_1 z6_2 z6_3 th_tokens_text_length th_tokens_text_bytes) := hD
        refine lv_iload_n hx hb dX3_readHundredths_46 rfl (lv_at hl 0 rfl) ?_
        cases h
        exact st_iret hx hb hr hlocks hP hD hS dX3_readHundredths_47
def f_X3_start (K : Nat) (n_th_tokens_text_bytes : Nat) (th_tokens_value : Int32) (th_tokens_text_length : Int32) (th_tokens_text_bytes : Nat → Int32) : Option (Int32 × Int32 × Int32 × Int32 × Int32 × Int32) :=
  (f_X6_restart K n_th_tokens_text_bytes th_tokens_value th_tokens_text_length th_tokens_text_bytes).bind fun z1 => match z1 with
  | (z1_0, z1_1, z1_2, z1_3) =>
    some ((0 : Int32), (-1 : Int32), z1_0, z1_1, z1_2, z1_3)
abbrev w_X3_start (tc : Nat → ClassId) (q_th : Nat) (q_th_tokens : Nat) (q_th_found : Nat) (q_th_tokens_text : Nat) (q_th_tokens_text_bytes : Nat) (n_th_tokens_text_bytes : Nat) (th_complete : Int32) (th_letters : Int32) (th_fault : Int32) (th_tokens_place : Int32) (th_tokens_start : Int32) (th_tokens_kind : Int32) (th_tokens_value : Int32) (th_tokens_text_length : Int32) (th_tokens_text_bytes : Nat → Int32) : va_W := [(q_th, .inr (3, [.ref q_th_tokens, .ref q_th_found, .int th_complete, .int th_letters, .int th_fault])), (q_th_tokens, .inr (6, [.ref q_th_tokens_text, .int th_tokens_place, .int th_tokens_start, .int th_tokens_kind, .int th_tokens_value])), (q_th_tokens_text, .inr (5, [.ref q_th_tokens_text_bytes, .int th_tokens_text_length])), (q_th_tokens_text_bytes, .inl (tc 0, n_th_tokens_text_bytes, .inl th_tokens_text_bytes))]
set_option maxHeartbeats 4000000 in
set_option maxRecDepth 100000 in
theorem s_X3_start {l : Launch} (t0 aK aV : Nat) {D : va_G} {tc : Nat → ClassId} (q_th : Nat) (q_th_tokens : Nat) (q_th_found : Nat) (q_th_tokens_text : Nat) (q_th_tokens_text_bytes : Nat) (n_th_tokens_text_bytes : Nat) (th_complete : Int32) (th_letters : Int32) (th_fault : Int32) (th_tokens_place : Int32) (th_tokens_start : Int32) (th_tokens_kind : Int32) (th_tokens_value : Int32) (th_tokens_text_length : Int32) (th_tokens_text_bytes : Nat → Int32) (K : Nat) (th_complete' : Int32) (th_fault' : Int32) (th_tokens_place' : Int32) (th_tokens_start' : Int32) (th_tokens_kind' : Int32) (th_tokens_value' : Int32) (h : f_X3_start K n_th_tokens_text_bytes th_tokens_value th_tokens_text_length th_tokens_text_bytes = some (th_complete', th_fault', th_tokens_place', th_tokens_start', th_tokens_kind', th_tokens_value')) : st l yX3_start wsX3_start ({ frames := 6, cells := 0, slots := 0, locals := 132 }) (tk_E t0 aK aV) D tc [.ref q_th] (w_X3_start tc q_th q_th_tokens q_th_found q_th_tokens_text q_th_tokens_text_bytes n_th_tokens_text_bytes th_complete th_letters th_fault th_tokens_place th_tokens_start th_tokens_kind th_tokens_value th_tokens_text_length th_tokens_text_bytes) none (w_X3_start tc q_th q_th_tokens q_th_found q_th_tokens_text q_th_tokens_text_bytes n_th_tokens_text_bytes th_complete' th_letters th_fault' th_tokens_place' th_tokens_start' th_tokens_kind' th_tokens_value' th_tokens_text_length th_tokens_text_bytes) := by
  have hEok : st_Eok (tk_E t0 aK aV) := tk_ok t0 aK aV
  refine st_enter (cc := cX3_start) (maxL := 1) (ret := none) (by decide) rfl (Nat.le_of_ble_eq_true rfl) ?_
  intro p e s m below meth c A ls hx hb hr hml hts hown hlocks hK hN hE hA hP hD hS hl
  have hl : lv_has ls 1 [(0, .ref q_th)] := hl
  have hinX3 : ∀ w ∈ wsX30, w ∈ wsX3_start := by decide +kernel
  generalize hav : ([.ref q_th] : List Value).toArray = av at hts ⊢
  unfold f_X3_start at h
  refine lv_aload_n hx hb dX3_start_0 rfl (lv_at hl 0 rfl) ?_
  refine lv_iconst (v := (0 : Int32)) hx hb dX3_start_1 (by decide) ?_
  refine va_put (D := D) (ci := 3) (v := .int (0 : Int32)) (ty := .int) (C := RX3) (T := TX3) (N := 5) hx hb hts hinX3 tyX3 tyX3_ok nmX3 hown hK hP hD hS 0 rfl rfl 2 (by decide) (hts (.fieldLink RX3 27 "ChanceBounds$Reader" "complete" "I") (by decide +kernel)) (fun _ h9 => h9) rfl (by decide +kernel) rfl rfl (Nat.le_of_ble_eq_true rfl) dX3_start_2 (fun H locs hP hD hS => ?_)
  have hP : va_P D vwCl (w_X3_start tc q_th q_th_tokens q_th_found q_th_tokens_text q_th_tokens_text_bytes n_th_tokens_text_bytes (0 : Int32) th_letters th_fault th_tokens_place th_tokens_start th_tokens_kind th_tokens_value th_tokens_text_length th_tokens_text_bytes) H := hP
  have hD : va_D A (w_X3_start tc q_th q_th_tokens q_th_found q_th_tokens_text q_th_tokens_text_bytes n_th_tokens_text_bytes (0 : Int32) th_letters th_fault th_tokens_place th_tokens_start th_tokens_kind th_tokens_value th_tokens_text_length th_tokens_text_bytes) := hD
  refine lv_aload_n hx hb dX3_start_5 rfl (lv_at hl 0 rfl) ?_
  refine lv_iconst (v := (-1 : Int32)) hx hb dX3_start_6 (by decide) ?_
  refine va_put (D := D) (ci := 3) (v := .int (-1 : Int32)) (ty := .int) (C := RX3) (T := TX3) (N := 5) hx hb hts hinX3 tyX3 tyX3_ok nmX3 hown hK hP hD hS 0 rfl rfl 4 (by decide) (hts (.fieldLink RX3 31 "ChanceBounds$Reader" "fault" "I") (by decide +kernel)) (fun _ h9 => h9) rfl (by decide +kernel) rfl rfl (Nat.le_of_ble_eq_true rfl) dX3_start_7 (fun H locs hP hD hS => ?_)
  have hP : va_P D vwCl (w_X3_start tc q_th q_th_tokens q_th_found q_th_tokens_text q_th_tokens_text_bytes n_th_tokens_text_bytes (0 : Int32) th_letters (-1 : Int32) th_tokens_place th_tokens_start th_tokens_kind th_tokens_value th_tokens_text_length th_tokens_text_bytes) H := hP
  have hD : va_D A (w_X3_start tc q_th q_th_tokens q_th_found q_th_tokens_text q_th_tokens_text_bytes n_th_tokens_text_bytes (0 : Int32) th_letters (-1 : Int32) th_tokens_place th_tokens_start th_tokens_kind th_tokens_value th_tokens_text_length th_tokens_text_bytes) := hD
  refine lv_aload_n hx hb dX3_start_10 rfl (lv_at hl 0 rfl) ?_
  refine va_get (D := D) (ci := 3) (v := .ref q_th_tokens) (C := RX3) (T := TX3) (N := 5) hx hb hts hinX3 hown hK hP 0 rfl rfl 0 (by decide) (hts (.fieldLink RX3 14 "ChanceBounds$Reader" "tokens" "LChanceBounds$Tokens;") (by decide +kernel)) (fun _ h9 => h9) rfl dX3_start_11 ?_
  obtain ⟨⟨z1_0, z1_1, z1_2, z1_3⟩, hc1, h⟩ := bd_ok h
  refine st_callV (As := []) (rest := []) (pos := [1, 2, 3]) ⟨hx, hb, hml, hown, hts⟩ (s_X6_restart (l := l) (D := D) (tc := tc) t0 aK aV q_th_tokens q_th_tokens_text q_th_tokens_text_bytes n_th_tokens_text_bytes th_tokens_place th_tokens_start th_tokens_kind th_tokens_value th_tokens_text_length th_tokens_text_bytes K z1_0 z1_1 z1_2 z1_3 hc1) (cwV 0 hts gX3_start_X6_restart rfl rfl rfl (by decide +kernel) ⟨Nat.le_of_ble_eq_true rfl, Nat.le_of_ble_eq_true rfl⟩) (st_recv (ci := 6) (q0 := 1) hK hP rfl rfl) hEok hE hK hN hP hD hS hA rfl rfl rfl rfl hl.1 rfl (Nat.le_of_ble_eq_true rfl) dX3_start_14 ⟨Nat.zero_le _, Nat.zero_le _⟩ (fun H locs hP hD hS => ?_)
  have hP : va_P D vwCl (w_X3_start tc q_th q_th_tokens q_th_found q_th_tokens_text q_th_tokens_text_bytes n_th_tokens_text_bytes (0 : Int32) th_letters (-1 : Int32) z1_0 z1_1 z1_2 z1_3 th_tokens_text_length th_tokens_text_bytes) H := hP
  have hD : va_D A (w_X3_start tc q_th q_th_tokens q_th_found q_th_tokens_text q_th_tokens_text_bytes n_th_tokens_text_bytes (0 : Int32) th_letters (-1 : Int32) z1_0 z1_1 z1_2 z1_3 th_tokens_text_length th_tokens_text_bytes) := hD
  cases h
  exact st_vret hx hb hr hlocks hP hD hS dX3_start_17

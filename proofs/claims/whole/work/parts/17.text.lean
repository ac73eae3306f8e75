def f_X5_append (n_th_bytes : Nat) (th_length : Int32) (th_bytes : Nat → Int32) (x1 : Int32) : Option (Int32 × (Nat → Int32)) :=
  if (200 : Int32) ≤ th_length then
    some (th_length, th_bytes)
  else
    if th_length < 0 ∨ n_th_bytes ≤ th_length.toNatClampNeg then none else
    some (th_length + (1 : Int32), upd th_bytes th_length.toNatClampNeg x1)
abbrev w_X5_append (tc : Nat → ClassId) (q_th : Nat) (q_th_bytes : Nat) (n_th_bytes : Nat) (th_length : Int32) (th_bytes : Nat → Int32) : va_W := [(q_th, .inr (5, [.ref q_th_bytes, .int th_length])), (q_th_bytes, .inl (tc 0, n_th_bytes, .inl th_bytes))]
set_option maxHeartbeats 4000000 in
set_option maxRecDepth 100000 in
theorem s_X5_append {l : Launch} {E : (Nat → Prop) → State → Prop} (hEok : st_Eok E) {D : va_G} {tc : Nat → ClassId} (q_th : Nat) (q_th_bytes : Nat) (n_th_bytes : Nat) (th_length : Int32) (th_bytes : Nat → Int32) (x1 : Int32) (th_length' : Int32) (th_bytes' : Nat → Int32) (h : f_X5_append n_th_bytes th_length th_bytes x1 = some (th_length', th_bytes')) : st l yX5_append wsX5_append ({ frames := 0, cells := 0, slots := 0, locals := 0 }) E D tc [.ref q_th, .int x1] (w_X5_append tc q_th q_th_bytes n_th_bytes th_length th_bytes) none (w_X5_append tc q_th q_th_bytes n_th_bytes th_length' th_bytes') := by
  refine st_enter (cc := cX5_append) (maxL := 2) (ret := none) (by decide) rfl (Nat.le_of_ble_eq_true rfl) ?_
  intro p e s m below meth c A ls hx hb hr hml hts hown hlocks hK hN hE hA hP hD hS hl
  have hl : lv_has ls 2 [(0, .ref q_th), (1, .int x1)] := hl
  have hinX5 : ∀ w ∈ wsX50, w ∈ wsX5_append := by decide +kernel
  generalize hav : ([.ref q_th, .int x1] : List Value).toArray = av at hts ⊢
  unfold f_X5_append at h
  refine lv_aload_n hx hb dX5_append_0 rfl (lv_at hl 0 rfl) ?_
  refine va_get (D := D) (ci := 5) (v := .int th_length) (C := RX5) (T := TX5) (N := 2) hx hb hts hinX5 hown hK hP 0 rfl rfl 1 (by decide) (hts (.fieldLink RX5 13 "ChanceBounds$Text" "length" "I") (by decide +kernel)) (fun _ h9 => h9) rfl dX5_append_1 ?_
  refine lv_sipush (v := (200 : Int32)) hx hb dX5_append_4 (by decide) ?_
  refine lv_icmp_ge (tgt := 30) hx hb dX5_append_7 (by decide) (fun c1 => ?_) (fun c1 => ?_)
  · replace h := ifp c1 h
    cases h
    exact st_vret hx hb hr hlocks hP hD hS dX5_append_30
  · replace h := ifn c1 h
    refine lv_aload_n hx hb dX5_append_10 rfl (lv_at hl 0 rfl) ?_
    refine va_get (D := D) (ci := 5) (v := .ref q_th_bytes) (C := RX5) (T := TX5) (N := 2) hx hb hts hinX5 hown hK hP 0 rfl rfl 0 (by decide) (hts (.fieldLink RX5 9 "ChanceBounds$Text" "bytes" "[I") (by decide +kernel)) (fun _ h9 => h9) rfl dX5_append_11 ?_
    refine lv_aload_n hx hb dX5_append_14 rfl (lv_at hl 0 rfl) ?_
    refine va_get (D := D) (ci := 5) (v := .int th_length) (C := RX5) (T := TX5) (N := 2) hx hb hts hinX5 hown hK hP 0 rfl rfl 1 (by decide) (hts (.fieldLink RX5 13 "ChanceBounds$Text" "length" "I") (by decide +kernel)) (fun _ h9 => h9) rfl dX5_append_15 ?_
    refine lv_iload_n hx hb dX5_append_18 rfl (lv_at hl 1 rfl) ?_
    obtain ⟨g2, h⟩ := gd_ok h
    refine va_iast hx hb hK hP hD hS 1 0 rfl rfl g2 dX5_append_19 (fun H locs hP hD hS => ?_)
    have hP : va_P D vwCl (w_X5_append tc q_th q_th_bytes n_th_bytes th_length (upd th_bytes th_length.toNatClampNeg x1)) H := hP
    have hD : va_D A (w_X5_append tc q_th q_th_bytes n_th_bytes th_length (upd th_bytes th_length.toNatClampNeg x1)) := hD
    refine lv_aload_n hx hb dX5_append_20 rfl (lv_at hl 0 rfl) ?_
    refine lv_dup hx hb dX5_append_21 rfl ?_
    refine va_get (D := D) (ci := 5) (v := .int th_length) (C := RX5) (T := TX5) (N := 2) hx hb hts hinX5 hown hK hP 0 rfl rfl 1 (by decide) (hts (.fieldLink RX5 13 "ChanceBounds$Text" "length" "I") (by decide +kernel)) (fun _ h9 => h9) rfl dX5_append_22 ?_
    refine lv_iconst (v := (1 : Int32)) hx hb dX5_append_25 (by decide) ?_
    refine lv_iadd hx hb dX5_append_26 ?_
    refine va_put (D := D) (ci := 5) (v := .int (th_length + (1 : Int32))) (ty := .int) (C := RX5) (T := TX5) (N := 2) hx hb hts hinX5 tyX5 tyX5_ok nmX5 hown hK hP hD hS 0 rfl rfl 1 (by decide) (hts (.fieldLink RX5 13 "ChanceBounds$Text" "length" "I") (by decide +kernel)) (fun _ h9 => h9) rfl (by decide +kernel) rfl rfl (Nat.le_of_ble_eq_true rfl) dX5_append_27 (fun H locs hP hD hS => ?_)
    have hP : va_P D vwCl (w_X5_append tc q_th q_th_bytes n_th_bytes (th_length + (1 : Int32)) (upd th_bytes th_length.toNatClampNeg x1)) H := hP
    have hD : va_D A (w_X5_append tc q_th q_th_bytes n_th_bytes (th_length + (1 : Int32)) (upd th_bytes th_length.toNatClampNeg x1)) := hD
    cases h
    exact st_vret hx hb hr hlocks hP hD hS dX5_append_30
def f_X5_at (n_th_bytes : Nat) (th_length : Int32) (th_bytes : Nat → Int32) (x1 : Int32) : Option (Int32) :=
  if x1 < (0 : Int32) then
    some (-1 : Int32)
  else
    if th_length ≤ x1 then
      some (-1 : Int32)
    else
      if (200 : Int32) ≤ x1 then
        some (-1 : Int32)
      else
        if x1 < 0 ∨ n_th_bytes ≤ x1.toNatClampNeg then none else
        some (th_bytes x1.toNatClampNeg)
abbrev w_X5_at (tc : Nat → ClassId) (q_th : Nat) (q_th_bytes : Nat) (n_th_bytes : Nat) (th_length : Int32) (th_bytes : Nat → Int32) : va_W := [(q_th, .inr (5, [.ref q_th_bytes, .int th_length])), (q_th_bytes, .inl (tc 0, n_th_bytes, .inl th_bytes))]
set_option maxHeartbeats 4000000 in
set_option maxRecDepth 100000 in
theorem s_X5_at {l : Launch} {E : (Nat → Prop) → State → Prop} (hEok : st_Eok E) {D : va_G} {tc : Nat → ClassId} (q_th : Nat) (q_th_bytes : Nat) (n_th_bytes : Nat) (th_length : Int32) (th_bytes : Nat → Int32) (x1 : Int32) (r0 : Int32) (h : f_X5_at n_th_bytes th_length th_bytes x1 = some r0) : st l yX5_at wsX5_at ({ frames := 0, cells := 0, slots := 0, locals := 0 }) E D tc [.ref q_th, .int x1] (w_X5_at tc q_th q_th_bytes n_th_bytes th_length th_bytes) (some (.int r0)) (w_X5_at tc q_th q_th_bytes n_th_bytes th_length th_bytes) := by
  refine st_enter (cc := cX5_at) (maxL := 2) (ret := (some .int)) (by decide) rfl (Nat.le_of_ble_eq_true rfl) ?_
  intro p e s m below meth c A ls hx hb hr hml hts hown hlocks hK hN hE hA hP hD hS hl
  have hl : lv_has ls 2 [(0, .ref q_th), (1, .int x1)] := hl
  have hinX5 : ∀ w ∈ wsX50, w ∈ wsX5_at := by decide +kernel
  generalize hav : ([.ref q_th, .int x1] : List Value).toArray = av at hts ⊢
  unfold f_X5_at at h
  refine lv_iload_n hx hb dX5_at_0 rfl (lv_at hl 1 rfl) ?_
  refine lv_if_lt (tgt := 28) hx hb dX5_at_1 (by decide) (fun c1 => ?_) (fun c1 => ?_)
  · replace h := ifp c1 h
    refine lv_iconst (v := (-1 : Int32)) hx hb dX5_at_28 (by decide) ?_
    cases h
    exact st_iret hx hb hr hlocks hP hD hS dX5_at_29
  · replace h := ifn c1 h
    refine lv_iload_n hx hb dX5_at_4 rfl (lv_at hl 1 rfl) ?_
    refine lv_aload_n hx hb dX5_at_5 rfl (lv_at hl 0 rfl) ?_
    refine va_get (D := D) (ci := 5) (v := .int th_length) (C := RX5) (T := TX5) (N := 2) hx hb hts hinX5 hown hK hP 0 rfl rfl 1 (by decide) (hts (.fieldLink RX5 13 "ChanceBounds$Text" "length" "I") (by decide +kernel)) (fun _ h9 => h9) rfl dX5_at_6 ?_
    refine lv_icmp_ge (tgt := 28) hx hb dX5_at_9 (by decide) (fun c2 => ?_) (fun c2 => ?_)
    · replace h := ifp c2 h
      refine lv_iconst (v := (-1 : Int32)) hx hb dX5_at_28 (by decide) ?_
      cases h
      exact st_iret hx hb hr hlocks hP hD hS dX5_at_29
    · replace h := ifn c2 h
      refine lv_iload_n hx hb dX5_at_12 rfl (lv_at hl 1 rfl) ?_
      refine lv_sipush (v := (200 : Int32)) hx hb dX5_at_13 (by decide) ?_
      refine lv_icmp_ge (tgt := 28) hx hb dX5_at_16 (by decide) (fun c3 => ?_) (fun c3 => ?_)
      · replace h := ifp c3 h
        refine lv_iconst (v := (-1 : Int32)) hx hb dX5_at_28 (by decide) ?_
        cases h
        exact st_iret hx hb hr hlocks hP hD hS dX5_at_29
      · replace h := ifn c3 h
        refine lv_aload_n hx hb dX5_at_19 rfl (lv_at hl 0 rfl) ?_
        refine va_get (D := D) (ci := 5) (v := .ref q_th_bytes) (C := RX5) (T := TX5) (N := 2) hx hb hts hinX5 hown hK hP 0 rfl rfl 0 (by decide) (hts (.fieldLink RX5 9 "ChanceBounds$Text" "bytes" "[I") (by decide +kernel)) (fun _ h9 => h9) rfl dX5_at_20 ?_
        refine lv_iload_n hx hb dX5_at_23 rfl (lv_at hl 1 rfl) ?_
        obtain ⟨g4, h⟩ := gd_ok h
        refine va_iald hx hb hK hP 1 0 rfl rfl g4 dX5_at_24 ?_
        refine lv_goto (tgt := 29) hx hb dX5_at_25 (by decide) ?_
        cases h
        exact st_iret hx hb hr hlocks hP hD hS dX5_at_29
def f_X8_type_L39 (n_th_text_bytes : Nat) (x1 : Int64) (s39 : Int32 × Int32 × (Nat → Int32)) : Option ((Int32 × (Nat → Int32)) ⊕ (Int32 × Int32 × (Nat → Int32))) :=
  match s39 with
  | (x4, th_text_length, th_text_bytes) =>
    if x4 < (0 : Int32) then
      some (.inl (th_text_length, th_text_bytes))
    else
      (f_X5_append n_th_text_bytes th_text_length th_text_bytes (((x1 >>> (x4.toInt64 &&& 63)).toInt32) &&& (255 : Int32))).bind fun z2 => match z2 with
      | (z2_0, z2_1) =>
        some (.inr (x4 + (-8), z2_0, z2_1))
def f_X8_type (K : Nat) (n_th_text_bytes : Nat) (th_text_length : Int32) (th_text_bytes : Nat → Int32) (x1 : Int64) (x3 : Int32) : Option (Int32 × Int32 × (Nat → Int32)) :=
  if x3 < (1 : Int32) then
    some ((-1 : Int32), th_text_length, th_text_bytes)
  else
    if x3 ≤ (8 : Int32) then
      if (th_text_length + x3) ≤ (200 : Int32) then
        (lp (f_X8_type_L39 n_th_text_bytes x1) K ((8 : Int32) * (x3 - (1 : Int32)), th_text_length, th_text_bytes)).bind fun z6 => match z6 with
        | (z6_0, z6_1) =>
          some (z6_0, z6_0, z6_1)
      else
        some ((-3 : Int32), th_text_length, th_text_bytes)
    else
      some ((-1 : Int32), th_text_length, th_text_bytes)
abbrev w_X8_type (tc : Nat → ClassId) (q_th : Nat) (q_th_text : Nat) (q_th_reader : Nat) (q_th_sayings : Nat) (q_th_ladder : Nat) (q_th_told : Nat) (q_th_answer : Nat) (q_th_least : Nat) (q_th_greatest : Nat) (q_th_leastByAll : Nat) (q_th_greatestByAll : Nat) (q_th_text_bytes : Nat) (n_th_text_bytes : Nat) (th_many : Int32) (th_text_length : Int32) (th_text_bytes : Nat → Int32) : va_W := [(q_th, .inr (8, [.ref q_th_text, .ref q_th_reader, .ref q_th_sayings, .int th_many, .ref q_th_ladder, .ref q_th_told, .ref q_th_answer, .ref q_th_least, .ref q_th_greatest, .ref q_th_leastByAll, .ref q_th_greatestByAll])), (q_th_text, .inr (5, [.ref q_th_text_bytes, .int th_text_length])), (q_th_text_bytes, .inl (tc 0, n_th_text_bytes, .inl th_text_bytes))]
set_option maxHeartbeats 4000000 in
set_option maxRecDepth 100000 in
theorem s_X8_type {l : Launch} {E : (Nat → Prop) → State → Prop} (hEok : st_Eok E) {D : va_G} {tc : Nat → ClassId} (q_th : Nat) (q_th_text : Nat) (q_th_reader : Nat) (q_th_sayings : Nat) (q_th_ladder : Nat) (q_th_told : Nat) (q_th_answer : Nat) (q_th_least : Nat) (q_th_greatest : Nat) (q_th_leastByAll : Nat) (q_th_greatestByAll : Nat) (q_th_text_bytes : Nat) (n_th_text_bytes : Nat) (th_many : Int32) (th_text_length : Int32) (th_text_bytes : Nat → Int32) (x1 : Int64) (x3 : Int32) (K : Nat) (r0 : Int32) (th_text_length' : Int32) (th_text_bytes' : Nat → Int32) (h : f_X8_type K n_th_text_bytes th_text_length th_text_bytes x1 x3 = some (r0, th_text_length', th_text_bytes')) : st l yX8_type wsX8_type ({ frames := 1, cells := 0, slots := 0, locals := 21 }) E D tc [.ref q_th, .long x1, .int x3] (w_X8_type tc q_th q_th_text q_th_reader q_th_sayings q_th_ladder q_th_told q_th_answer q_th_least q_th_greatest q_th_leastByAll q_th_greatestByAll q_th_text_bytes n_th_text_bytes th_many th_text_length th_text_bytes) (some (.int r0)) (w_X8_type tc q_th q_th_text q_th_reader q_th_sayings q_th_ladder q_th_told q_th_answer q_th_least q_th_greatest q_th_leastByAll q_th_greatestByAll q_th_text_bytes n_th_text_bytes th_many th_text_length' th_text_bytes') := by
  refine st_enter (cc := cX8_type) (maxL := 5) (ret := (some .int)) (by decide) rfl (Nat.le_of_ble_eq_true rfl) ?_
  intro p e s m below meth c A ls hx hb hr hml hts hown hlocks hK hN hE hA hP hD hS hl
  have hl : lv_has ls 5 [(0, .ref q_th), (1, .long x1), (3, .int x3)] := hl
  have hinX5 : ∀ w ∈ wsX50, w ∈ wsX8_type := by decide +kernel
  have hinX8 : ∀ w ∈ wsX80, w ∈ wsX8_type := by decide +kernel
  generalize hav : ([.ref q_th, .long x1, .int x3] : List Value).toArray = av at hts ⊢
  have L39 : ∀ (x1 : Int64), ∀ (k : Nat) (s39 : Int32 × Int32 × (Nat → Int32)) (r : Int32 × (Nat → Int32)), lp (f_X8_type_L39 n_th_text_bytes x1) k s39 = some r → (fun y39 : Int32 × (Nat → Int32) => match y39 with | (th_text_length, th_text_bytes) => ∀ (H : Heap) (locs : List Loc) (ls : Array Slot), va_P D vwCl (w_X8_type tc q_th q_th_text q_th_reader q_th_sayings q_th_ladder q_th_told q_th_answer q_th_least q_th_greatest q_th_leastByAll q_th_greatestByAll q_th_text_bytes n_th_text_bytes th_many th_text_length th_text_bytes) H → va_D A (w_X8_type tc q_th q_th_text q_th_reader q_th_sayings q_th_ladder q_th_told q_th_answer q_th_least q_th_greatest q_th_leastByAll q_th_greatestByAll q_th_text_bytes n_th_text_bytes th_many th_text_length th_text_bytes) → va_S A s.heap H locs → lv_has ls 5 [(0, .ref q_th)] → W p l e ({ frames := 1, cells := 0, slots := 0, locals := 21 } : Room) s m av below meth c H locs 0 0 (MQ below (st_Q D (w_X8_type tc q_th q_th_text q_th_reader q_th_sayings q_th_ladder q_th_told q_th_answer q_th_least q_th_greatest q_th_leastByAll q_th_greatestByAll q_th_text_bytes n_th_text_bytes th_many th_text_length' th_text_bytes') (some (.int r0)) A) av s 0 0 A) (F0 m 66 ls [])) r → (fun s39 : Int32 × Int32 × (Nat → Int32) => match s39 with | (x4, th_text_length, th_text_bytes) => ∀ (H : Heap) (locs : List Loc) (ls : Array Slot), va_P D vwCl (w_X8_type tc q_th q_th_text q_th_reader q_th_sayings q_th_ladder q_th_told q_th_answer q_th_least q_th_greatest q_th_leastByAll q_th_greatestByAll q_th_text_bytes n_th_text_bytes th_many th_text_length th_text_bytes) H → va_D A (w_X8_type tc q_th q_th_text q_th_reader q_th_sayings q_th_ladder q_th_told q_th_answer q_th_least q_th_greatest q_th_leastByAll q_th_greatestByAll q_th_text_bytes n_th_text_bytes th_many th_text_length th_text_bytes) → va_S A s.heap H locs → lv_has ls 5 [(0, .ref q_th), (1, .long x1), (4, .int x4)] → W p l e ({ frames := 1, cells := 0, slots := 0, locals := 21 } : Room) s m av below meth c H locs 0 0 (MQ below (st_Q D (w_X8_type tc q_th q_th_text q_th_reader q_th_sayings q_th_ladder q_th_told q_th_answer q_th_least q_th_greatest q_th_leastByAll q_th_greatestByAll q_th_text_bytes n_th_text_bytes th_many th_text_length' th_text_bytes') (some (.int r0)) A) av s 0 0 A) (F0 m 39 ls [])) s39 := by
    intro x1
    refine lp_W (f_X8_type_L39 n_th_text_bytes x1) (fun s39 : Int32 × Int32 × (Nat → Int32) => match s39 with | (x4, th_text_length, th_text_bytes) => ∀ (H : Heap) (locs : List Loc) (ls : Array Slot), va_P D vwCl (w_X8_type tc q_th q_th_text q_th_reader q_th_sayings q_th_ladder q_th_told q_th_answer q_th_least q_th_greatest q_th_leastByAll q_th_greatestByAll q_th_text_bytes n_th_text_bytes th_many th_text_length th_text_bytes) H → va_D A (w_X8_type tc q_th q_th_text q_th_reader q_th_sayings q_th_ladder q_th_told q_th_answer q_th_least q_th_greatest q_th_leastByAll q_th_greatestByAll q_th_text_bytes n_th_text_bytes th_many th_text_length th_text_bytes) → va_S A s.heap H locs → lv_has ls 5 [(0, .ref q_th), (1, .long x1), (4, .int x4)] → W p l e ({ frames := 1, cells := 0, slots := 0, locals := 21 } : Room) s m av below meth c H locs 0 0 (MQ below (st_Q D (w_X8_type tc q_th q_th_text q_th_reader q_th_sayings q_th_ladder q_th_told q_th_answer q_th_least q_th_greatest q_th_leastByAll q_th_greatestByAll q_th_text_bytes n_th_text_bytes th_many th_text_length' th_text_bytes') (some (.int r0)) A) av s 0 0 A) (F0 m 39 ls [])) (fun y39 : Int32 × (Nat → Int32) => match y39 with | (th_text_length, th_text_bytes) => ∀ (H : Heap) (locs : List Loc) (ls : Array Slot), va_P D vwCl (w_X8_type tc q_th q_th_text q_th_reader q_th_sayings q_th_ladder q_th_told q_th_answer q_th_least q_th_greatest q_th_leastByAll q_th_greatestByAll q_th_text_bytes n_th_text_bytes th_many th_text_length th_text_bytes) H → va_D A (w_X8_type tc q_th q_th_text q_th_reader q_th_sayings q_th_ladder q_th_told q_th_answer q_th_least q_th_greatest q_th_leastByAll q_th_greatestByAll q_th_text_bytes n_th_text_bytes th_many th_text_length th_text_bytes) → va_S A s.heap H locs → lv_has ls 5 [(0, .ref q_th)] → W p l e ({ frames := 1, cells := 0, slots := 0, locals := 21 } : Room) s m av below meth c H locs 0 0 (MQ below (st_Q D (w_X8_type tc q_th q_th_text q_th_reader q_th_sayings q_th_ladder q_th_told q_th_answer q_th_least q_th_greatest q_th_leastByAll q_th_greatestByAll q_th_text_bytes n_th_text_bytes th_many th_text_length' th_text_bytes') (some (.int r0)) A) av s 0 0 A) (F0 m 66 ls [])) ?_
    rintro ⟨x4, th_text_length, th_text_bytes⟩ o h ih hz H locs ls hP hD hS hl
    unfold f_X8_type_L39 at h
    refine lv_iload hx hb dX8_type_39 (lv_at hl 2 rfl) ?_
    refine lv_if_lt (tgt := 66) hx hb dX8_type_41 (by decide) (fun c1 => ?_) (fun c1 => ?_)
    · replace h := ifp c1 h
      cases h
      exact hz _ rfl _ _ _ hP hD hS (lv_sub hl [0] rfl)
    · replace h := ifn c1 h
      refine lv_aload_n hx hb dX8_type_44 rfl (lv_at hl 0 rfl) ?_
      refine va_get (D := D) (ci := 8) (v := .ref q_th_text) (C := RX8) (T := TX8) (N := 11) hx hb hts hinX8 hown hK hP 0 rfl rfl 0 (by decide) (hts (.fieldLink RX8 10 "ChanceBounds" "text" "LChanceBounds$Text;") (by decide +kernel)) (fun _ h9 => h9) rfl dX8_type_45 ?_
      refine lv_lload_n hx hb dX8_type_48 rfl (lv_at hl 1 rfl) ?_
      refine lv_iload hx hb dX8_type_49 (lv_at hl 2 rfl) ?_
      refine lv_lshr (v := x1 >>> (x4.toInt64 &&& 63)) hx hb dX8_type_51 rfl ?_
      refine lv_l2i (v := (x1 >>> (x4.toInt64 &&& 63)).toInt32) hx hb dX8_type_52 rfl ?_
      refine lv_sipush (v := (255 : Int32)) hx hb dX8_type_53 (by decide) ?_
      refine lv_iand hx hb dX8_type_56 ?_
      obtain ⟨⟨z2_0, z2_1⟩, hc2, h⟩ := bd_ok h
      refine st_callV (As := [.int (((x1 >>> (x4.toInt64 &&& 63)).toInt32) &&& (255 : Int32))]) (rest := []) (pos := [1, 2]) ⟨hx, hb, hml, hown, hts⟩ (s_X5_append (l := l) (D := D) (tc := tc) hEok q_th_text q_th_text_bytes n_th_text_bytes th_text_length th_text_bytes (((x1 >>> (x4.toInt64 &&& 63)).toInt32) &&& (255 : Int32)) z2_0 z2_1 hc2) (cwV 1 hts gX8_type_X5_append rfl rfl rfl (by decide +kernel) ⟨Nat.le_of_ble_eq_true rfl, Nat.le_of_ble_eq_true rfl⟩) (st_recv (ci := 5) (q0 := 1) hK hP rfl rfl) hEok hE hK hN hP hD hS hA rfl rfl rfl rfl hl.1 rfl (Nat.le_of_ble_eq_true rfl) dX8_type_57 ⟨Nat.zero_le _, Nat.zero_le _⟩ (fun H locs hP hD hS => ?_)
      have hP : va_P D vwCl (w_X8_type tc q_th q_th_text q_th_reader q_th_sayings q_th_ladder q_th_told q_th_answer q_th_least q_th_greatest q_th_leastByAll q_th_greatestByAll q_th_text_bytes n_th_text_bytes th_many z2_0 z2_1) H := hP
      have hD : va_D A (w_X8_type tc q_th q_th_text q_th_reader q_th_sayings q_th_ladder q_th_told q_th_answer q_th_least q_th_greatest q_th_leastByAll q_th_greatestByAll q_th_text_bytes n_th_text_bytes th_many z2_0 z2_1) := hD
      refine lv_iinc (v := x4 + (-8)) (lv' := [(4, .int (x4 + (-8))), (0, .ref q_th), (1, .long x1)]) hx hb dX8_type_60 hl (k := 2) rfl rfl (by decide) rfl (fun ls hl => ?_)
      refine lv_goto (tgt := 39) hx hb dX8_type_63 (by decide) ?_
      cases h
      exact ih _ rfl _ _ _ hP hD hS (lv_sub hl [1, 2, 0] rfl)
  unfold f_X8_type at h
  refine lv_iload_n hx hb dX8_type_0 rfl (lv_at hl 2 rfl) ?_
  refine lv_iconst (v := (1 : Int32)) hx hb dX8_type_1 (by decide) ?_
  refine lv_icmp_lt (tgt := 11) hx hb dX8_type_2 (by decide) (fun c3 => ?_) (fun c3 => ?_)
  · replace h := ifp c3 h
    refine lv_iconst (v := (-1 : Int32)) hx hb dX8_type_11 (by decide) ?_
    cases h
    exact st_iret hx hb hr hlocks hP hD hS dX8_type_12
  · replace h := ifn c3 h
    refine lv_iload_n hx hb dX8_type_5 rfl (lv_at hl 2 rfl) ?_
    refine lv_bipush (v := (8 : Int32)) hx hb dX8_type_6 (by decide) ?_
    refine lv_icmp_le (tgt := 13) hx hb dX8_type_8 (by decide) (fun c4 => ?_) (fun c4 => ?_)
    · replace h := ifp c4 h
      refine lv_aload_n hx hb dX8_type_13 rfl (lv_at hl 0 rfl) ?_
      refine va_get (D := D) (ci := 8) (v := .ref q_th_text) (C := RX8) (T := TX8) (N := 11) hx hb hts hinX8 hown hK hP 0 rfl rfl 0 (by decide) (hts (.fieldLink RX8 10 "ChanceBounds" "text" "LChanceBounds$Text;") (by decide +kernel)) (fun _ h9 => h9) rfl dX8_type_14 ?_
      refine va_getN (D := D) (ci := 5) (v := .int th_text_length) (C := RX5) (T := TX5) (N := 2) hx hb hts hinX5 hown hK hP 1 rfl rfl 1 (by decide) (va_Nw.use rfl (hN (.fieldLinkNest RX8 69 "ChanceBounds$Text" "length" "I" "ChanceBounds") (by decide +kernel))) (fun _ h9 => h9) rfl dX8_type_17 ?_
      refine lv_iload_n hx hb dX8_type_20 rfl (lv_at hl 2 rfl) ?_
      refine lv_iadd hx hb dX8_type_21 ?_
      refine lv_sipush (v := (200 : Int32)) hx hb dX8_type_22 (by decide) ?_
      refine lv_icmp_le (tgt := 31) hx hb dX8_type_25 (by decide) (fun c5 => ?_) (fun c5 => ?_)
      · replace h := ifp c5 h
        refine lv_bipush (v := (8 : Int32)) hx hb dX8_type_31 (by decide) ?_
        refine lv_iload_n hx hb dX8_type_33 rfl (lv_at hl 2 rfl) ?_
        refine lv_iconst (v := (1 : Int32)) hx hb dX8_type_34 (by decide) ?_
        refine lv_isub hx hb dX8_type_35 ?_
        refine lv_imul hx hb dX8_type_36 ?_
        refine lv_istore (lv' := [(4, .int ((8 : Int32) * (x3 - (1 : Int32)))), (0, .ref q_th), (1, .long x1), (3, .int x3)]) hx hb dX8_type_37 hl (by decide) rfl (fun ls hl => ?_)
        obtain ⟨⟨z6_0, z6_1⟩, hl6, h⟩ := bd_ok h
        refine L39 x1 K _ _ hl6 ?_ _ _ _ hP hD hS (lv_sub hl [1, 2, 0] rfl)
        intro H locs ls hP hD hS hl
        refine lv_aload_n hx hb dX8_type_66 rfl (lv_at hl 0 rfl) ?_
        refine va_get (D := D) (ci := 8) (v := .ref q_th_text) (C := RX8) (T := TX8) (N := 11) hx hb hts hinX8 hown hK hP 0 rfl rfl 0 (by decide) (hts (.fieldLink RX8 10 "ChanceBounds" "text" "LChanceBounds$Text;") (by decide +kernel)) (fun _ h9 => h9) rfl dX8_type_67 ?_
        refine va_getN (D := D) (ci := 5) (v := .int z6_0) (C := RX5) (T := TX5) (N := 2) hx hb hts hinX5 hown hK hP 1 rfl rfl 1 (by decide) (va_Nw.use rfl (hN (.fieldLinkNest RX8 69 "ChanceBounds$Text" "length" "I" "ChanceBounds") (by decide +kernel))) (fun _ h9 => h9) rfl dX8_type_70 ?_
        cases h
        exact st_iret hx hb hr hlocks hP hD hS dX8_type_73
      · replace h := ifn c5 h
        refine lv_bipush (v := (-3 : Int32)) hx hb dX8_type_28 (by decide) ?_
        cases h
        exact st_iret hx hb hr hlocks hP hD hS dX8_type_30
    · replace h := ifn c4 h
      refine lv_iconst (v := (-1 : Int32)) hx hb dX8_type_11 (by decide) ?_
      cases h
      exact st_iret hx hb hr hlocks hP hD hS dX8_type_12
def f_X8_clear (th_text_length : Int32) : Option (Int32 × Int32) :=
  some (th_text_length, (0 : Int32))
abbrev w_X8_clear (tc : Nat → ClassId) (q_th : Nat) (q_th_text : Nat) (q_th_reader : Nat) (q_th_sayings : Nat) (q_th_ladder : Nat) (q_th_told : Nat) (q_th_answer : Nat) (q_th_least : Nat) (q_th_greatest : Nat) (q_th_leastByAll : Nat) (q_th_greatestByAll : Nat) (q_th_text_bytes : Nat)  (th_many : Int32) (th_text_length : Int32) : va_W := [(q_th, .inr (8, [.ref q_th_text, .ref q_th_reader, .ref q_th_sayings, .int th_many, .ref q_th_ladder, .ref q_th_told, .ref q_th_answer, .ref q_th_least, .ref q_th_greatest, .ref q_th_leastByAll, .ref q_th_greatestByAll])), (q_th_text, .inr (5, [.ref q_th_text_bytes, .int th_text_length]))]
set_option maxHeartbeats 4000000 in
set_option maxRecDepth 100000 in
theorem s_X8_clear {l : Launch} {E : (Nat → Prop) → State → Prop} (hEok : st_Eok E) {D : va_G} {tc : Nat → ClassId} (q_th : Nat) (q_th_text : Nat) (q_th_reader : Nat) (q_th_sayings : Nat) (q_th_ladder : Nat) (q_th_told : Nat) (q_th_answer : Nat) (q_th_least : Nat) (q_th_greatest : Nat) (q_th_leastByAll : Nat) (q_th_greatestByAll : Nat) (q_th_text_bytes : Nat) (th_many : Int32) (th_text_length : Int32) (r0 : Int32) (th_text_length' : Int32) (h : f_X8_clear th_text_length = some (r0, th_text_length')) : st l yX8_clear wsX8_clear ({ frames := 0, cells := 0, slots := 0, locals := 0 }) E D tc [.ref q_th] (w_X8_clear tc q_th q_th_text q_th_reader q_th_sayings q_th_ladder q_th_told q_th_answer q_th_least q_th_greatest q_th_leastByAll q_th_greatestByAll q_th_text_bytes th_many th_text_length) (some (.int r0)) (w_X8_clear tc q_th q_th_text q_th_reader q_th_sayings q_th_ladder q_th_told q_th_answer q_th_least q_th_greatest q_th_leastByAll q_th_greatestByAll q_th_text_bytes th_many th_text_length') := by
  refine st_enter (cc := cX8_clear) (maxL := 2) (ret := (some .int)) (by decide) rfl (Nat.le_of_ble_eq_true rfl) ?_
  intro p e s m below meth c A ls hx hb hr hml hts hown hlocks hK hN hE hA hP hD hS hl
  have hl : lv_has ls 2 [(0, .ref q_th)] := hl
  have hinX5 : ∀ w ∈ wsX50, w ∈ wsX8_clear := by decide +kernel
  have hinX8 : ∀ w ∈ wsX80, w ∈ wsX8_clear := by decide +kernel
  generalize hav : ([.ref q_th] : List Value).toArray = av at hts ⊢
  unfold f_X8_clear at h
  refine lv_aload_n hx hb dX8_clear_0 rfl (lv_at hl 0 rfl) ?_
  refine va_get (D := D) (ci := 8) (v := .ref q_th_text) (C := RX8) (T := TX8) (N := 11) hx hb hts hinX8 hown hK hP 0 rfl rfl 0 (by decide) (hts (.fieldLink RX8 10 "ChanceBounds" "text" "LChanceBounds$Text;") (by decide +kernel)) (fun _ h9 => h9) rfl dX8_clear_1 ?_
  refine va_getN (D := D) (ci := 5) (v := .int th_text_length) (C := RX5) (T := TX5) (N := 2) hx hb hts hinX5 hown hK hP 1 rfl rfl 1 (by decide) (va_Nw.use rfl (hN (.fieldLinkNest RX8 69 "ChanceBounds$Text" "length" "I" "ChanceBounds") (by decide +kernel))) (fun _ h9 => h9) rfl dX8_clear_4 ?_
  refine lv_istore_n (lv' := [(1, .int th_text_length), (0, .ref q_th)]) hx hb dX8_clear_7 rfl hl (by decide) rfl (fun ls hl => ?_)
  refine lv_aload_n hx hb dX8_clear_8 rfl (lv_at hl 1 rfl) ?_
  refine va_get (D := D) (ci := 8) (v := .ref q_th_text) (C := RX8) (T := TX8) (N := 11) hx hb hts hinX8 hown hK hP 0 rfl rfl 0 (by decide) (hts (.fieldLink RX8 10 "ChanceBounds" "text" "LChanceBounds$Text;") (by decide +kernel)) (fun _ h9 => h9) rfl dX8_clear_9 ?_
  refine lv_iconst (v := (0 : Int32)) hx hb dX8_clear_12 (by decide) ?_
  refine va_putN (D := D) (ci := 5) (v := .int (0 : Int32)) (ty := .int) (C := RX5) (T := TX5) (N := 2) hx hb hts hinX5 tyX5 tyX5_ok nmX5 hown hK hP hD hS 1 rfl rfl 1 (by decide) (va_Nw.use rfl (hN (.fieldLinkNest RX8 69 "ChanceBounds$Text" "length" "I" "ChanceBounds") (by decide +kernel))) (fun _ h9 => h9) rfl (by decide +kernel) rfl rfl (Nat.le_of_ble_eq_true rfl) dX8_clear_13 (fun H locs hP hD hS => ?_)
  have hP : va_P D vwCl (w_X8_clear tc q_th q_th_text q_th_reader q_th_sayings q_th_ladder q_th_told q_th_answer q_th_least q_th_greatest q_th_leastByAll q_th_greatestByAll q_th_text_bytes th_many (0 : Int32)) H := hP
  have hD : va_D A (w_X8_clear tc q_th q_th_text q_th_reader q_th_sayings q_th_ladder q_th_told q_th_answer q_th_least q_th_greatest q_th_leastByAll q_th_greatestByAll q_th_text_bytes th_many (0 : Int32)) := hD
  refine lv_iload_n hx hb dX8_clear_16 rfl (lv_at hl 0 rfl) ?_
  cases h
  exact st_iret hx hb hr hlocks hP hD hS dX8_clear_17
def f_X8_isSaying (th_many : Int32) (x1 : Int32) : Option (Int32) :=
  if x1 < (0 : Int32) then
    some (0 : Int32)
  else
    if th_many ≤ x1 then
      some (0 : Int32)
    else
      some (1 : Int32)
abbrev w_X8_isSaying (tc : Nat → ClassId) (q_th : Nat) (q_th_text : Nat) (q_th_reader : Nat) (q_th_sayings : Nat) (q_th_ladder : Nat) (q_th_told : Nat) (q_th_answer : Nat) (q_th_least : Nat) (q_th_greatest : Nat) (q_th_leastByAll : Nat) (q_th_greatestByAll : Nat)  (th_many : Int32) : va_W := [(q_th, .inr (8, [.ref q_th_text, .ref q_th_reader, .ref q_th_sayings, .int th_many, .ref q_th_ladder, .ref q_th_told, .ref q_th_answer, .ref q_th_least, .ref q_th_greatest, .ref q_th_leastByAll, .ref q_th_greatestByAll]))]
set_option maxHeartbeats 4000000 in
set_option maxRecDepth 100000 in
theorem s_X8_isSaying {l : Launch} {E : (Nat → Prop) → State → Prop} (hEok : st_Eok E) {D : va_G} {tc : Nat → ClassId} (q_th : Nat) (q_th_text : Nat) (q_th_reader : Nat) (q_th_sayings : Nat) (q_th_ladder : Nat) (q_th_told : Nat) (q_th_answer : Nat) (q_th_least : Nat) (q_th_greatest : Nat) (q_th_leastByAll : Nat) (q_th_greatestByAll : Nat) (th_many : Int32) (x1 : Int32) (r0 : Int32) (h : f_X8_isSaying th_many x1 = some r0) : st l yX8_isSaying wsX8_isSaying ({ frames := 0, cells := 0, slots := 0, locals := 0 }) E D tc [.ref q_th, .int x1] (w_X8_isSaying tc q_th q_th_text q_th_reader q_th_sayings q_th_ladder q_th_told q_th_answer q_th_least q_th_greatest q_th_leastByAll q_th_greatestByAll th_many) (some (.int r0)) (w_X8_isSaying tc q_th q_th_text q_th_reader q_th_sayings q_th_ladder q_th_told q_th_answer q_th_least q_th_greatest q_th_leastByAll q_th_greatestByAll th_many) := by
  refine st_enter (cc := cX8_isSaying) (maxL := 2) (ret := (some .boolean)) (by decide) rfl (Nat.le_of_ble_eq_true rfl) ?_
  intro p e s m below meth c A ls hx hb hr hml hts hown hlocks hK hN hE hA hP hD hS hl
  have hl : lv_has ls 2 [(0, .ref q_th), (1, .int x1)] := hl
  have hinX8 : ∀ w ∈ wsX80, w ∈ wsX8_isSaying := by decide +kernel
  generalize hav : ([.ref q_th, .int x1] : List Value).toArray = av at hts ⊢
  unfold f_X8_isSaying at h
  refine lv_iload_n hx hb dX8_isSaying_0 rfl (lv_at hl 1 rfl) ?_
  refine lv_if_lt (tgt := 16) hx hb dX8_isSaying_1 (by decide) (fun c1 => ?_) (fun c1 => ?_)
  · replace h := ifp c1 h
    refine lv_iconst (v := (0 : Int32)) hx hb dX8_isSaying_16 (by decide) ?_
    cases h
    exact st_zret hx hb hr hlocks hP hD hS rfl dX8_isSaying_17
  · replace h := ifn c1 h
    refine lv_iload_n hx hb dX8_isSaying_4 rfl (lv_at hl 1 rfl) ?_
    refine lv_aload_n hx hb dX8_isSaying_5 rfl (lv_at hl 0 rfl) ?_
    refine va_get (D := D) (ci := 8) (v := .int th_many) (C := RX8) (T := TX8) (N := 11) hx hb hts hinX8 hown hK hP 0 rfl rfl 3 (by decide) (hts (.fieldLink RX8 32 "ChanceBounds" "many" "I") (by decide +kernel)) (fun _ h9 => h9) rfl dX8_isSaying_6 ?_
    refine lv_icmp_ge (tgt := 16) hx hb dX8_isSaying_9 (by decide) (fun c2 => ?_) (fun c2 => ?_)
    · replace h := ifp c2 h
      refine lv_iconst (v := (0 : Int32)) hx hb dX8_isSaying_16 (by decide) ?_
      cases h
      exact st_zret hx hb hr hlocks hP hD hS rfl dX8_isSaying_17
    · replace h := ifn c2 h
      refine lv_iconst (v := (1 : Int32)) hx hb dX8_isSaying_12 (by decide) ?_
      refine lv_goto (tgt := 17) hx hb dX8_isSaying_13 (by decide) ?_
      cases h
      exact st_zret hx hb hr hlocks hP hD hS rfl dX8_isSaying_17
def f_X8_saying (th_many : Int32) (th_sayings_e_x : Nat → Int32) (th_sayings_e_y : Nat → Int32) (th_sayings_e_from : Nat → Int32) (th_sayings_e_to : Nat → Int32) (th_sayings_e_isOn : Nat → Int32) (x1 : Int32) (x2 : Int32) : Option (Int32) :=
  (f_X8_isSaying th_many x1).bind fun z1_0 =>
  if z1_0 = (0 : Int32) then
    some (-1 : Int32)
  else
    if x2 = (0 : Int32) then
      if x1 < 0 ∨ 4 ≤ x1.toNatClampNeg then none else
      some (th_sayings_e_x x1.toNatClampNeg)
    else
      if x2 = (1 : Int32) then
        if x1 < 0 ∨ 4 ≤ x1.toNatClampNeg then none else
        some (th_sayings_e_y x1.toNatClampNeg)
      else
        if x2 = (2 : Int32) then
          if x1 < 0 ∨ 4 ≤ x1.toNatClampNeg then none else
          some (th_sayings_e_from x1.toNatClampNeg)
        else
          if x2 = (3 : Int32) then
            if x1 < 0 ∨ 4 ≤ x1.toNatClampNeg then none else
            some (th_sayings_e_to x1.toNatClampNeg)
          else
            if x2 = (4 : Int32) then
              if x1 < 0 ∨ 4 ≤ x1.toNatClampNeg then none else
              some (th_sayings_e_isOn x1.toNatClampNeg)
            else
              some (-1 : Int32)
abbrev w_X8_saying (tc : Nat → ClassId) (q_th : Nat) (q_th_text : Nat) (q_th_reader : Nat) (q_th_sayings : Nat) (q_th_ladder : Nat) (q_th_told : Nat) (q_th_answer : Nat) (q_th_least : Nat) (q_th_greatest : Nat) (q_th_leastByAll : Nat) (q_th_greatestByAll : Nat) (q_th_sayings_e : Nat → Nat)  (th_many : Int32) (th_sayings_e_x : Nat → Int32) (th_sayings_e_y : Nat → Int32) (th_sayings_e_from : Nat → Int32) (th_sayings_e_to : Nat → Int32) (th_sayings_e_isOn : Nat → Int32) : va_W := [(q_th, .inr (8, [.ref q_th_text, .ref q_th_reader, .ref q_th_sayings, .int th_many, .ref q_th_ladder, .ref q_th_told, .ref q_th_answer, .ref q_th_least, .ref q_th_greatest, .ref q_th_leastByAll, .ref q_th_greatestByAll])), (q_th_sayings, .inl (tc 2, 4, .inr (.inr (.inr (.inr (fun j => some (q_th_sayings_e j))))))), ((q_th_sayings_e 0), .inr (4, [.int (th_sayings_e_x 0), .int (th_sayings_e_y 0), .int (th_sayings_e_from 0), .int (th_sayings_e_to 0), .int (th_sayings_e_isOn 0)])), ((q_th_sayings_e 1), .inr (4, [.int (th_sayings_e_x 1), .int (th_sayings_e_y 1), .int (th_sayings_e_from 1), .int (th_sayings_e_to 1), .int (th_sayings_e_isOn 1)])), ((q_th_sayings_e 2), .inr (4, [.int (th_sayings_e_x 2), .int (th_sayings_e_y 2), .int (th_sayings_e_from 2), .int (th_sayings_e_to 2), .int (th_sayings_e_isOn 2)])), ((q_th_sayings_e 3), .inr (4, [.int (th_sayings_e_x 3), .int (th_sayings_e_y 3), .int (th_sayings_e_from 3), .int (th_sayings_e_to 3), .int (th_sayings_e_isOn 3)]))]
set_option maxHeartbeats 4000000 in
set_option maxRecDepth 100000 in
theorem s_X8_saying {l : Launch} {E : (Nat → Prop) → State → Prop} (hEok : st_Eok E) {D : va_G} {tc : Nat → ClassId} (q_th : Nat) (q_th_text : Nat) (q_th_reader : Nat) (q_th_sayings : Nat) (q_th_ladder : Nat) (q_th_told : Nat) (q_th_answer : Nat) (q_th_least : Nat) (q_th_greatest : Nat) (q_th_leastByAll : Nat) (q_th_greatestByAll : Nat) (q_th_sayings_e : Nat → Nat) (th_many : Int32) (th_sayings_e_x : Nat → Int32) (th_sayings_e_y : Nat → Int32) (th_sayings_e_from : Nat → Int32) (th_sayings_e_to : Nat → Int32) (th_sayings_e_isOn : Nat → Int32) (x1 : Int32) (x2 : Int32) (r0 : Int32) (h : f_X8_saying th_many th_sayings_e_x th_sayings_e_y th_sayings_e_from th_sayings_e_to th_sayings_e_isOn x1 x2 = some r0) : st l yX8_saying wsX8_saying ({ frames := 1, cells := 0, slots := 0, locals := 21 }) E D tc [.ref q_th, .int x1, .int x2] (w_X8_saying tc q_th q_th_text q_th_reader q_th_sayings q_th_ladder q_th_told q_th_answer q_th_least q_th_greatest q_th_leastByAll q_th_greatestByAll q_th_sayings_e th_many th_sayings_e_x th_sayings_e_y th_sayings_e_from th_sayings_e_to th_sayings_e_isOn) (some (.int r0)) (w_X8_saying tc q_th q_th_text q_th_reader q_th_sayings q_th_ladder q_th_told q_th_answer q_th_least q_th_greatest q_th_leastByAll q_th_greatestByAll q_th_sayings_e th_many th_sayings_e_x th_sayings_e_y th_sayings_e_from th_sayings_e_to th_sayings_e_isOn) := by
  refine st_enter (cc := cX8_saying) (maxL := 3) (ret := (some .int)) (by decide) rfl (Nat.le_of_ble_eq_true rfl) ?_
  intro p e s m below meth c A ls hx hb hr hml hts hown hlocks hK hN hE hA hP hD hS hl
  have hl : lv_has ls 3 [(0, .ref q_th), (1, .int x1), (2, .int x2)] := hl
  have hinX4 : ∀ w ∈ wsX40, w ∈ wsX8_saying := by decide +kernel
  have hinX8 : ∀ w ∈ wsX80, w ∈ wsX8_saying := by decide +kernel
  generalize hav : ([.ref q_th, .int x1, .int x2] : List Value).toArray = av at hts ⊢
  unfold f_X8_saying at h
  refine lv_aload_n hx hb dX8_saying_0 rfl (lv_at hl 0 rfl) ?_
  refine lv_iload_n hx hb dX8_saying_1 rfl (lv_at hl 1 rfl) ?_
  obtain ⟨z1_0, hc1, h⟩ := bd_ok h
  refine st_callV (As := [.int x1]) (rest := []) (pos := [0]) ⟨hx, hb, hml, hown, hts⟩ (s_X8_isSaying (l := l) (D := D) (tc := tc) hEok q_th q_th_text q_th_reader q_th_sayings q_th_ladder q_th_told q_th_answer q_th_least q_th_greatest q_th_leastByAll q_th_greatestByAll th_many x1 z1_0 hc1) (cwV 1 hts gX8_saying_X8_isSaying rfl rfl rfl (by decide +kernel) ⟨Nat.le_of_ble_eq_true rfl, Nat.le_of_ble_eq_true rfl⟩) (st_recv (ci := 8) (q0 := 0) hK hP rfl rfl) hEok hE hK hN hP hD hS hA rfl rfl rfl rfl hl.1 rfl (Nat.le_of_ble_eq_true rfl) dX8_saying_2 ⟨Nat.zero_le _, Nat.zero_le _⟩ (fun H locs hP hD hS => ?_)
  have hP : va_P D vwCl (w_X8_saying tc q_th q_th_text q_th_reader q_th_sayings q_th_ladder q_th_told q_th_answer q_th_least q_th_greatest q_th_leastByAll q_th_greatestByAll q_th_sayings_e th_many th_sayings_e_x th_sayings_e_y th_sayings_e_from th_sayings_e_to th_sayings_e_isOn) H := hP
  have hD : va_D A (w_X8_saying tc q_th q_th_text q_th_reader q_th_sayings q_th_ladder q_th_told q_th_answer q_th_least q_th_greatest q_th_leastByAll q_th_greatestByAll q_th_sayings_e th_many th_sayings_e_x th_sayings_e_y th_sayings_e_from th_sayings_e_to th_sayings_e_isOn) := hD
  refine lv_if_ne (tgt := 10) hx hb dX8_saying_5 (by decide) (fun c2 => ?_) (fun c2 => ?_)
  · replace h := ifn c2 h
    refine lv_iload_n hx hb dX8_saying_10 rfl (lv_at hl 2 rfl) ?_
    by_cases c3 : x2 = (0 : Int32)
    · replace h := ifp c3 h
      refine lv_tableIn (off := 33) (tgt := 44) hx hb dX8_saying_11 (by rw [c3]; decide) (by rw [c3]; decide) (by rw [c3]; rfl) (by decide) ?_
      refine lv_aload_n hx hb dX8_saying_44 rfl (lv_at hl 0 rfl) ?_
      refine va_get (D := D) (ci := 8) (v := .ref q_th_sayings) (C := RX8) (T := TX8) (N := 11) hx hb hts hinX8 hown hK hP 0 rfl rfl 2 (by decide) (hts (.fieldLink RX8 27 "ChanceBounds" "sayings" "[LChanceBounds$Saying;") (by decide +kernel)) (fun _ h9 => h9) rfl dX8_saying_45 ?_
      refine lv_iload_n hx hb dX8_saying_48 rfl (lv_at hl 1 rfl) ?_
      obtain ⟨g4, h⟩ := gd_ok h
      refine va_aldq hx hb hK hP 1 2 rfl rfl g4 dX8_saying_49 ?_
      refine va_getN (fs := [.int (th_sayings_e_x x1.toNatClampNeg), .int (th_sayings_e_y x1.toNatClampNeg), .int (th_sayings_e_from x1.toNatClampNeg), .int (th_sayings_e_to x1.toNatClampNeg), .int (th_sayings_e_isOn x1.toNatClampNeg)]) (D := D) (ci := 4) (v := .int (th_sayings_e_x x1.toNatClampNeg)) (C := RX4) (T := TX4) (N := 5) hx hb hts hinX4 hown hK hP (2 + x1.toNatClampNeg) (by have q9 := st_lt4 g4; revert q9; generalize x1.toNatClampNeg = k9; rintro (rfl | rfl | rfl | rfl) <;> rfl) rfl 0 (by decide) (va_Nw.use rfl (hN (.fieldLinkNest RX8 103 "ChanceBounds$Saying" "x" "I" "ChanceBounds") (by decide +kernel))) (fun _ h9 => h9) rfl dX8_saying_50 ?_
      cases h
      exact st_iret hx hb hr hlocks hP hD hS dX8_saying_53
    replace h := ifn c3 h
    by_cases c5 : x2 = (1 : Int32)
    · replace h := ifp c5 h
      refine lv_tableIn (off := 43) (tgt := 54) hx hb dX8_saying_11 (by rw [c5]; decide) (by rw [c5]; decide) (by rw [c5]; rfl) (by decide) ?_
      refine lv_aload_n hx hb dX8_saying_54 rfl (lv_at hl 0 rfl) ?_
      refine va_get (D := D) (ci := 8) (v := .ref q_th_sayings) (C := RX8) (T := TX8) (N := 11) hx hb hts hinX8 hown hK hP 0 rfl rfl 2 (by decide) (hts (.fieldLink RX8 27 "ChanceBounds" "sayings" "[LChanceBounds$Saying;") (by decide +kernel)) (fun _ h9 => h9) rfl dX8_saying_55 ?_
      refine lv_iload_n hx hb dX8_saying_58 rfl (lv_at hl 1 rfl) ?_
      obtain ⟨g6, h⟩ := gd_ok h
      refine va_aldq hx hb hK hP 1 2 rfl rfl g6 dX8_saying_59 ?_
      refine va_getN (fs := [.int (th_sayings_e_x x1.toNatClampNeg), .int (th_sayings_e_y x1.toNatClampNeg), .int (th_sayings_e_from x1.toNatClampNeg), .int (th_sayings_e_to x1.toNatClampNeg), .int (th_sayings_e_isOn x1.toNatClampNeg)]) (D := D) (ci := 4) (v := .int (th_sayings_e_y x1.toNatClampNeg)) (C := RX4) (T := TX4) (N := 5) hx hb hts hinX4 hown hK hP (2 + x1.toNatClampNeg) (by have q9 := st_lt4 g6; revert q9; generalize x1.toNatClampNeg = k9; rintro (rfl | rfl | rfl | rfl) <;> rfl) rfl 1 (by decide) (va_Nw.use rfl (hN (.fieldLinkNest RX8 106 "ChanceBounds$Saying" "y" "I" "ChanceBounds") (by decide +kernel))) (fun _ h9 => h9) rfl dX8_saying_60 ?_
      cases h
      exact st_iret hx hb hr hlocks hP hD hS dX8_saying_63
    replace h := ifn c5 h
    by_cases c7 : x2 = (2 : Int32)
    · replace h := ifp c7 h
      refine lv_tableIn (off := 53) (tgt := 64) hx hb dX8_saying_11 (by rw [c7]; decide) (by rw [c7]; decide) (by rw [c7]; rfl) (by decide) ?_
      refine lv_aload_n hx hb dX8_saying_64 rfl (lv_at hl 0 rfl) ?_
      refine va_get (D := D) (ci := 8) (v := .ref q_th_sayings) (C := RX8) (T := TX8) (N := 11) hx hb hts hinX8 hown hK hP 0 rfl rfl 2 (by decide) (hts (.fieldLink RX8 27 "ChanceBounds" "sayings" "[LChanceBounds$Saying;") (by decide +kernel)) (fun _ h9 => h9) rfl dX8_saying_65 ?_
      refine lv_iload_n hx hb dX8_saying_68 rfl (lv_at hl 1 rfl) ?_
      obtain ⟨g8, h⟩ := gd_ok h
      refine va_aldq hx hb hK hP 1 2 rfl rfl g8 dX8_saying_69 ?_
      refine va_getN (fs := [.int (th_sayings_e_x x1.toNatClampNeg), .int (th_sayings_e_y x1.toNatClampNeg), .int (th_sayings_e_from x1.toNatClampNeg), .int (th_sayings_e_to x1.toNatClampNeg), .int (th_sayings_e_isOn x1.toNatClampNeg)]) (D := D) (ci := 4) (v := .int (th_sayings_e_from x1.toNatClampNeg)) (C := RX4) (T := TX4) (N := 5) hx hb hts hinX4 hown hK hP (2 + x1.toNatClampNeg) (by have q9 := st_lt4 g8; revert q9; generalize x1.toNatClampNeg = k9; rintro (rfl | rfl | rfl | rfl) <;> rfl) rfl 2 (by decide) (va_Nw.use rfl (hN (.fieldLinkNest RX8 109 "ChanceBounds$Saying" "from" "I" "ChanceBounds") (by decide +kernel))) (fun _ h9 => h9) rfl dX8_saying_70 ?_
      cases h
      exact st_iret hx hb hr hlocks hP hD hS dX8_saying_73
    replace h := ifn c7 h
    by_cases c9 : x2 = (3 : Int32)
    · replace h := ifp c9 h
      refine lv_tableIn (off := 63) (tgt := 74) hx hb dX8_saying_11 (by rw [c9]; decide) (by rw [c9]; decide) (by rw [c9]; rfl) (by decide) ?_
      refine lv_aload_n hx hb dX8_saying_74 rfl (lv_at hl 0 rfl) ?_
      refine va_get (D := D) (ci := 8) (v := .ref q_th_sayings) (C := RX8) (T := TX8) (N := 11) hx hb hts hinX8 hown hK hP 0 rfl rfl 2 (by decide) (hts (.fieldLink RX8 27 "ChanceBounds" "sayings" "[LChanceBounds$Saying;") (by decide +kernel)) (fun _ h9 => h9) rfl dX8_saying_75 ?_
      refine lv_iload_n hx hb dX8_saying_78 rfl (lv_at hl 1 rfl) ?_
      obtain ⟨g10, h⟩ := gd_ok h
      refine va_aldq hx hb hK hP 1 2 rfl rfl g10 dX8_saying_79 ?_
      refine va_getN (fs := [.int (th_sayings_e_x x1.toNatClampNeg), .int (th_sayings_e_y x1.toNatClampNeg), .int (th_sayings_e_from x1.toNatClampNeg), .int (th_sayings_e_to x1.toNatClampNeg), .int (th_sayings_e_isOn x1.toNatClampNeg)]) (D := D) (ci := 4) (v := .int (th_sayings_e_to x1.toNatClampNeg)) (C := RX4) (T := TX4) (N := 5) hx hb hts hinX4 hown hK hP (2 + x1.toNatClampNeg) (by have q9 := st_lt4 g10; revert q9; generalize x1.toNatClampNeg = k9; rintro (rfl | rfl | rfl | rfl) <;> rfl) rfl 3 (by decide) (va_Nw.use rfl (hN (.fieldLinkNest RX8 112 "ChanceBounds$Saying" "to" "I" "ChanceBounds") (by decide +kernel))) (fun _ h9 => h9) rfl dX8_saying_80 ?_
      cases h
      exact st_iret hx hb hr hlocks hP hD hS dX8_saying_83
    replace h := ifn c9 h
    by_cases c11 : x2 = (4 : Int32)
    · replace h := ifp c11 h
      refine lv_tableIn (off := 73) (tgt := 84) hx hb dX8_saying_11 (by rw [c11]; decide) (by rw [c11]; decide) (by rw [c11]; rfl) (by decide) ?_
      refine lv_aload_n hx hb dX8_saying_84 rfl (lv_at hl 0 rfl) ?_
      refine va_get (D := D) (ci := 8) (v := .ref q_th_sayings) (C := RX8) (T := TX8) (N := 11) hx hb hts hinX8 hown hK hP 0 rfl rfl 2 (by decide) (hts (.fieldLink RX8 27 "ChanceBounds" "sayings" "[LChanceBounds$Saying;") (by decide +kernel)) (fun _ h9 => h9) rfl dX8_saying_85 ?_
      refine lv_iload_n hx hb dX8_saying_88 rfl (lv_at hl 1 rfl) ?_
      obtain ⟨g12, h⟩ := gd_ok h
      refine va_aldq hx hb hK hP 1 2 rfl rfl g12 dX8_saying_89 ?_
      refine va_getN (fs := [.int (th_sayings_e_x x1.toNatClampNeg), .int (th_sayings_e_y x1.toNatClampNeg), .int (th_sayings_e_from x1.toNatClampNeg), .int (th_sayings_e_to x1.toNatClampNeg), .int (th_sayings_e_isOn x1.toNatClampNeg)]) (D := D) (ci := 4) (v := .int (th_sayings_e_isOn x1.toNatClampNeg)) (C := RX4) (T := TX4) (N := 5) hx hb hts hinX4 hown hK hP (2 + x1.toNatClampNeg) (by have q9 := st_lt4 g12; revert q9; generalize x1.toNatClampNeg = k9; rintro (rfl | rfl | rfl | rfl) <;> rfl) rfl 4 (by decide) (va_Nw.use rfl (hN (.fieldLinkNest RX8 115 "ChanceBounds$Saying" "isOn" "I" "ChanceBounds") (by decide +kernel))) (fun _ h9 => h9) rfl dX8_saying_90 ?_
      cases h
      exact st_iret hx hb hr hlocks hP hD hS dX8_saying_93
    replace h := ifn c11 h
    refine lv_tableOut (tgt := 94) hx hb dX8_saying_11 (sw_out5 c3 c5 c7 c9 c11) (by decide) ?_
    refine lv_iconst (v := (-1 : Int32)) hx hb dX8_saying_94 (by decide) ?_
    cases h
    exact st_iret hx hb hr hlocks hP hD hS dX8_saying_95
  · replace h := ifp c2 h
    refine lv_iconst (v := (-1 : Int32)) hx hb dX8_saying_8 (by decide) ?_
    cases h
    exact st_iret hx hb hr hlocks hP hD hS dX8_saying_9
def f_X8_on (th_many : Int32) (th_sayings_e_isOn : Nat → Int32) (x1 : Int32) (x2 : Int32) : Option (Int32 × (Nat → Int32)) :=
  (f_X8_isSaying th_many x1).bind fun z1_0 =>
  if z1_0 = (0 : Int32) then
    some ((-1 : Int32), th_sayings_e_isOn)
  else
    (f_X8_isZeroOrOne x2).bind fun z3_0 =>
    if z3_0 = (0 : Int32) then
      some ((-1 : Int32), th_sayings_e_isOn)
    else
      if x1 < 0 ∨ 4 ≤ x1.toNatClampNeg then none else
      if x1 < 0 ∨ 4 ≤ x1.toNatClampNeg then none else
      some ((th_sayings_e_isOn x1.toNatClampNeg), (va_up th_sayings_e_isOn x1.toNatClampNeg x2))
abbrev w_X8_on (tc : Nat → ClassId) (q_th : Nat) (q_th_text : Nat) (q_th_reader : Nat) (q_th_sayings : Nat) (q_th_ladder : Nat) (q_th_told : Nat) (q_th_answer : Nat) (q_th_least : Nat) (q_th_greatest : Nat) (q_th_leastByAll : Nat) (q_th_greatestByAll : Nat) (q_th_sayings_e : Nat → Nat)  (th_many : Int32) (th_sayings_e_x : Nat → Int32) (th_sayings_e_y : Nat → Int32) (th_sayings_e_from : Nat → Int32) (th_sayings_e_to : Nat → Int32) (th_sayings_e_isOn : Nat → Int32) : va_W := [(q_th, .inr (8, [.ref q_th_text, .ref q_th_reader, .ref q_th_sayings, .int th_many, .ref q_th_ladder, .ref q_th_told, .ref q_th_answer, .ref q_th_least, .ref q_th_greatest, .ref q_th_leastByAll, .ref q_th_greatestByAll])), (q_th_sayings, .inl (tc 2, 4, .inr (.inr (.inr (.inr (fun j => some (q_th_sayings_e j))))))), ((q_th_sayings_e 0), .inr (4, [.int (th_sayings_e_x 0), .int (th_sayings_e_y 0), .int (th_sayings_e_from 0), .int (th_sayings_e_to 0), .int (th_sayings_e_isOn 0)])), ((q_th_sayings_e 1), .inr (4, [.int (th_sayings_e_x 1), .int (th_sayings_e_y 1), .int (th_sayings_e_from 1), .int (th_sayings_e_to 1), .int (th_sayings_e_isOn 1)])), ((q_th_sayings_e 2), .inr (4, [.int (th_sayings_e_x 2), .int (th_sayings_e_y 2), .int (th_sayings_e_from 2), .int (th_sayings_e_to 2), .int (th_sayings_e_isOn 2)])), ((q_th_sayings_e 3), .inr (4, [.int (th_sayings_e_x 3), .int (th_sayings_e_y 3), .int (th_sayings_e_from 3), .int (th_sayings_e_to 3), .int (th_sayings_e_isOn 3)]))]
set_option maxHeartbeats 4000000 in
set_option maxRecDepth 100000 in
theorem s_X8_on {l : Launch} {E : (Nat → Prop) → State → Prop} (hEok : st_Eok E) {D : va_G} {tc : Nat → ClassId} (q_th : Nat) (q_th_text : Nat) (q_th_reader : Nat) (q_th_sayings : Nat) (q_th_ladder : Nat) (q_th_told : Nat) (q_th_answer : Nat) (q_th_least : Nat) (q_th_greatest : Nat) (q_th_leastByAll : Nat) (q_th_greatestByAll : Nat) (q_th_sayings_e : Nat → Nat) (th_many : Int32) (th_sayings_e_x : Nat → Int32) (th_sayings_e_y : Nat → Int32) (th_sayings_e_from : Nat → Int32) (th_sayings_e_to : Nat → Int32) (th_sayings_e_isOn : Nat → Int32) (x1 : Int32) (x2 : Int32) (r0 : Int32) (th_sayings_e_isOn' : Nat → Int32) (h : f_X8_on th_many th_sayings_e_isOn x1 x2 = some (r0, th_sayings_e_isOn')) : st l yX8_on wsX8_on ({ frames := 1, cells := 0, slots := 0, locals := 21 }) E D tc [.ref q_th, .int x1, .int x2] (w_X8_on tc q_th q_th_text q_th_reader q_th_sayings q_th_ladder q_th_told q_th_answer q_th_least q_th_greatest q_th_leastByAll q_th_greatestByAll q_th_sayings_e th_many th_sayings_e_x th_sayings_e_y th_sayings_e_from th_sayings_e_to th_sayings_e_isOn) (some (.int r0)) (w_X8_on tc q_th q_th_text q_th_reader q_th_sayings q_th_ladder q_th_told q_th_answer q_th_least q_th_greatest q_th_leastByAll q_th_greatestByAll q_th_sayings_e th_many th_sayings_e_x th_sayings_e_y th_sayings_e_from th_sayings_e_to th_sayings_e_isOn') := by
  refine st_enter (cc := cX8_on) (maxL := 4) (ret := (some .int)) (by decide) rfl (Nat.le_of_ble_eq_true rfl) ?_
  intro p e s m below meth c A ls hx hb hr hml hts hown hlocks hK hN hE hA hP hD hS hl
  have hl : lv_has ls 4 [(0, .ref q_th), (1, .int x1), (2, .int x2)] := hl
  have hinX4 : ∀ w ∈ wsX40, w ∈ wsX8_on := by decide +kernel
  have hinX8 : ∀ w ∈ wsX80, w ∈ wsX8_on := by decide +kernel
  generalize hav : ([.ref q_th, .int x1, .int x2] : List Value).toArray = av at hts ⊢
  unfold f_X8_on at h
  refine lv_aload_n hx hb dX8_on_0 rfl (lv_at hl 0 rfl) ?_
  refine lv_iload_n hx hb dX8_on_1 rfl (lv_at hl 1 rfl) ?_
  obtain ⟨z1_0, hc1, h⟩ := bd_ok h
  refine st_callV (As := [.int x1]) (rest := []) (pos := [0]) ⟨hx, hb, hml, hown, hts⟩ (s_X8_isSaying (l := l) (D := D) (tc := tc) hEok q_th q_th_text q_th_reader q_th_sayings q_th_ladder q_th_told q_th_answer q_th_least q_th_greatest q_th_leastByAll q_th_greatestByAll th_many x1 z1_0 hc1) (cwV 1 hts gX8_on_X8_isSaying rfl rfl rfl (by decide +kernel) ⟨Nat.le_of_ble_eq_true rfl, Nat.le_of_ble_eq_true rfl⟩) (st_recv (ci := 8) (q0 := 0) hK hP rfl rfl) hEok hE hK hN hP hD hS hA rfl rfl rfl rfl hl.1 rfl (Nat.le_of_ble_eq_true rfl) dX8_on_2 ⟨Nat.zero_le _, Nat.zero_le _⟩ (fun H locs hP hD hS => ?_)
  have hP : va_P D vwCl (w_X8_on tc q_th q_th_text q_th_reader q_th_sayings q_th_ladder q_th_told q_th_answer q_th_least q_th_greatest q_th_leastByAll q_th_greatestByAll q_th_sayings_e th_many th_sayings_e_x th_sayings_e_y th_sayings_e_from th_sayings_e_to th_sayings_e_isOn) H := hP
  have hD : va_D A (w_X8_on tc q_th q_th_text q_th_reader q_th_sayings q_th_ladder q_th_told q_th_answer q_th_least q_th_greatest q_th_leastByAll q_th_greatestByAll q_th_sayings_e th_many th_sayings_e_x th_sayings_e_y th_sayings_e_from th_sayings_e_to th_sayings_e_isOn) := hD
  refine lv_if_eq (tgt := 15) hx hb dX8_on_5 (by decide) (fun c2 => ?_) (fun c2 => ?_)
  · replace h := ifp c2 h
    refine lv_iconst (v := (-1 : Int32)) hx hb dX8_on_15 (by decide) ?_
    cases h
    exact st_iret hx hb hr hlocks hP hD hS dX8_on_16
  · replace h := ifn c2 h
    refine lv_iload_n hx hb dX8_on_8 rfl (lv_at hl 2 rfl) ?_
    obtain ⟨z3_0, hc3, h⟩ := bd_ok h
    refine st_callS (As := [.int x2]) (rest := []) (pos := []) ⟨hx, hb, hml, hown, hts⟩ (s_X8_isZeroOrOne (l := l) (D := D) (tc := tc) hEok x2 z3_0 hc3) (va_cwS 1 hts gX8_on_X8_isZeroOrOne rfl rfl rfl (by decide +kernel) ⟨Nat.le_of_ble_eq_true rfl, Nat.le_of_ble_eq_true rfl⟩) hEok hE hK hN hP hD hS hA rfl rfl rfl rfl hl.1 rfl (Nat.le_of_ble_eq_true rfl) dX8_on_9 ⟨Nat.zero_le _, Nat.zero_le _⟩ (fun H locs hP hD hS => ?_)
    have hP : va_P D vwCl (w_X8_on tc q_th q_th_text q_th_reader q_th_sayings q_th_ladder q_th_told q_th_answer q_th_least q_th_greatest q_th_leastByAll q_th_greatestByAll q_th_sayings_e th_many th_sayings_e_x th_sayings_e_y th_sayings_e_from th_sayings_e_to th_sayings_e_isOn) H := hP
    have hD : va_D A (w_X8_on tc q_th q_th_text q_th_reader q_th_sayings q_th_ladder q_th_told q_th_answer q_th_least q_th_greatest q_th_leastByAll q_th_greatestByAll q_th_sayings_e th_many th_sayings_e_x th_sayings_e_y th_sayings_e_from th_sayings_e_to th_sayings_e_isOn) := hD
    refine lv_if_ne (tgt := 17) hx hb dX8_on_12 (by decide) (fun c4 => ?_) (fun c4 => ?_)
    · replace h := ifn c4 h
      refine lv_aload_n hx hb dX8_on_17 rfl (lv_at hl 0 rfl) ?_
      refine va_get (D := D) (ci := 8) (v := .ref q_th_sayings) (C := RX8) (T := TX8) (N := 11) hx hb hts hinX8 hown hK hP 0 rfl rfl 2 (by decide) (hts (.fieldLink RX8 27 "ChanceBounds" "sayings" "[LChanceBounds$Saying;") (by decide +kernel)) (fun _ h9 => h9) rfl dX8_on_18 ?_
      refine lv_iload_n hx hb dX8_on_21 rfl (lv_at hl 1 rfl) ?_
      obtain ⟨g5, h⟩ := gd_ok h
      refine va_aldq hx hb hK hP 1 2 rfl rfl g5 dX8_on_22 ?_
      refine va_getN (fs := [.int (th_sayings_e_x x1.toNatClampNeg), .int (th_sayings_e_y x1.toNatClampNeg), .int (th_sayings_e_from x1.toNatClampNeg), .int (th_sayings_e_to x1.toNatClampNeg), .int (th_sayings_e_isOn x1.toNatClampNeg)]) (D := D) (ci := 4) (v := .int (th_sayings_e_isOn x1.toNatClampNeg)) (C := RX4) (T := TX4) (N := 5) hx hb hts hinX4 hown hK hP (2 + x1.toNatClampNeg) (by have q9 := st_lt4 g5; revert q9; generalize x1.toNatClampNeg = k9; rintro (rfl | rfl | rfl | rfl) <;> rfl) rfl 4 (by decide) (va_Nw.use rfl (hN (.fieldLinkNest RX8 115 "ChanceBounds$Saying" "isOn" "I" "ChanceBounds") (by decide +kernel))) (fun _ h9 => h9) rfl dX8_on_23 ?_
      refine lv_istore_n (lv' := [(3, .int (th_sayings_e_isOn x1.toNatClampNeg)), (0, .ref q_th), (1, .int x1), (2, .int x2)]) hx hb dX8_on_26 rfl hl (by decide) rfl (fun ls hl => ?_)
      refine lv_aload_n hx hb dX8_on_27 rfl (lv_at hl 1 rfl) ?_
      refine va_get (D := D) (ci := 8) (v := .ref q_th_sayings) (C := RX8) (T := TX8) (N := 11) hx hb hts hinX8 hown hK hP 0 rfl rfl 2 (by decide) (hts (.fieldLink RX8 27 "ChanceBounds" "sayings" "[LChanceBounds$Saying;") (by decide +kernel)) (fun _ h9 => h9) rfl dX8_on_28 ?_
      refine lv_iload_n hx hb dX8_on_31 rfl (lv_at hl 2 rfl) ?_
      obtain ⟨g6, h⟩ := gd_ok h
      refine va_aldq hx hb hK hP 1 2 rfl rfl g6 dX8_on_32 ?_
      refine lv_iload_n hx hb dX8_on_33 rfl (lv_at hl 3 rfl) ?_
      refine va_putN (fs := [.int (th_sayings_e_x x1.toNatClampNeg), .int (th_sayings_e_y x1.toNatClampNeg), .int (th_sayings_e_from x1.toNatClampNeg), .int (th_sayings_e_to x1.toNatClampNeg), .int (th_sayings_e_isOn x1.toNatClampNeg)]) (D := D) (ci := 4) (v := .int x2) (ty := .int) (C := RX4) (T := TX4) (N := 5) hx hb hts hinX4 tyX4 tyX4_ok nmX4 hown hK hP hD hS (2 + x1.toNatClampNeg) (by have q9 := st_lt4 g6; revert q9; generalize x1.toNatClampNeg = k9; rintro (rfl | rfl | rfl | rfl) <;> rfl) rfl 4 (by decide) (va_Nw.use rfl (hN (.fieldLinkNest RX8 115 "ChanceBounds$Saying" "isOn" "I" "ChanceBounds") (by decide +kernel))) (fun _ h9 => h9) rfl (by decide +kernel) rfl rfl (Nat.le_of_ble_eq_true rfl) dX8_on_34 (fun H locs hP hD hS => ?_)
      have hP : va_P D vwCl (w_X8_on tc q_th q_th_text q_th_reader q_th_sayings q_th_ladder q_th_told q_th_answer q_th_least q_th_greatest q_th_leastByAll q_th_greatestByAll q_th_sayings_e th_many th_sayings_e_x th_sayings_e_y th_sayings_e_from th_sayings_e_to (va_up th_sayings_e_isOn x1.toNatClampNeg x2)) H := by
        have q9 := st_lt4 g6; revert q9 hP; generalize x1.toNatClampNeg = k9; rintro hP (rfl | rfl | rfl | rfl) <;> exact hP
      have hD : va_D A (w_X8_on tc q_th q_th_text q_th_reader q_th_sayings q_th_ladder q_th_told q_th_answer q_th_least q_th_greatest q_th_leastByAll q_th_greatestByAll q_th_sayings_e th_many th_sayings_e_x th_sayings_e_y th_sayings_e_from th_sayings_e_to (va_up th_sayings_e_isOn x1.toNatClampNeg x2)) := by
        have q9 := st_lt4 g6; revert q9 hD; generalize x1.toNatClampNeg = k9; rintro hD (rfl | rfl | rfl | rfl) <;> exact hD
      refine lv_iload_n hx hb dX8_on_37 rfl (lv_at hl 0 rfl) ?_
      cases h
      exact st_iret hx hb hr hlocks hP hD hS dX8_on_38
    · replace h := ifp c4 h
      refine lv_iconst (v := (-1 : Int32)) hx hb dX8_on_15 (by decide) ?_
      cases h
      exact st_iret hx hb hr hlocks hP hD hS dX8_on_16
def f_X8_moveFrom (a0_from : Int32) (a0_to : Int32) (x1 : Int32) : Option (Int32 × Int32) :=
  if x1 ≤ a0_to then
    some (a0_from, x1)
  else
    some ((-1 : Int32), a0_from)
abbrev w_X8_moveFrom (tc : Nat → ClassId) (q_a0 : Nat)  (a0_x : Int32) (a0_y : Int32) (a0_from : Int32) (a0_to : Int32) (a0_isOn : Int32) : va_W := [(q_a0, .inr (4, [.int a0_x, .int a0_y, .int a0_from, .int a0_to, .int a0_isOn]))]
set_option maxHeartbeats 4000000 in
set_option maxRecDepth 100000 in
theorem s_X8_moveFrom {l : Launch} {E : (Nat → Prop) → State → Prop} (hEok : st_Eok E) {D : va_G} {tc : Nat → ClassId} (q_a0 : Nat) (a0_x : Int32) (a0_y : Int32) (a0_from : Int32) (a0_to : Int32) (a0_isOn : Int32) (x1 : Int32) (r0 : Int32) (a0_from' : Int32) (h : f_X8_moveFrom a0_from a0_to x1 = some (r0, a0_from')) : st l yX8_moveFrom wsX8_moveFrom ({ frames := 0, cells := 0, slots := 0, locals := 0 }) E D tc [.ref q_a0, .int x1] (w_X8_moveFrom tc q_a0 a0_x a0_y a0_from a0_to a0_isOn) (some (.int r0)) (w_X8_moveFrom tc q_a0 a0_x a0_y a0_from' a0_to a0_isOn) := by
  refine st_enter (cc := cX8_moveFrom) (maxL := 3) (ret := (some .int)) (by decide) rfl (Nat.le_of_ble_eq_true rfl) ?_
  intro p e s m below meth c A ls hx hb hr hml hts hown hlocks hK hN hE hA hP hD hS hl
  have hl : lv_has ls 3 [(0, .ref q_a0), (1, .int x1)] := hl
  have hinX4 : ∀ w ∈ wsX40, w ∈ wsX8_moveFrom := by decide +kernel
  generalize hav : ([.ref q_a0, .int x1] : List Value).toArray = av at hts ⊢
  unfold f_X8_moveFrom at h
  refine lv_iload_n hx hb dX8_moveFrom_0 rfl (lv_at hl 1 rfl) ?_
  refine lv_aload_n hx hb dX8_moveFrom_1 rfl (lv_at hl 0 rfl) ?_
  refine va_getN (D := D) (ci := 4) (v := .int a0_to) (C := RX4) (T := TX4) (N := 5) hx hb hts hinX4 hown hK hP 0 rfl rfl 3 (by decide) (va_Nw.use rfl (hN (.fieldLinkNest RX8 112 "ChanceBounds$Saying" "to" "I" "ChanceBounds") (by decide +kernel))) (fun _ h9 => h9) rfl dX8_moveFrom_2 ?_
  refine lv_icmp_le (tgt := 10) hx hb dX8_moveFrom_5 (by decide) (fun c1 => ?_) (fun c1 => ?_)
  · replace h := ifp c1 h
    refine lv_aload_n hx hb dX8_moveFrom_10 rfl (lv_at hl 0 rfl) ?_
    refine va_getN (D := D) (ci := 4) (v := .int a0_from) (C := RX4) (T := TX4) (N := 5) hx hb hts hinX4 hown hK hP 0 rfl rfl 2 (by decide) (va_Nw.use rfl (hN (.fieldLinkNest RX8 109 "ChanceBounds$Saying" "from" "I" "ChanceBounds") (by decide +kernel))) (fun _ h9 => h9) rfl dX8_moveFrom_11 ?_
    refine lv_istore_n (lv' := [(2, .int a0_from), (0, .ref q_a0), (1, .int x1)]) hx hb dX8_moveFrom_14 rfl hl (by decide) rfl (fun ls hl => ?_)
    refine lv_aload_n hx hb dX8_moveFrom_15 rfl (lv_at hl 1 rfl) ?_
    refine lv_iload_n hx hb dX8_moveFrom_16 rfl (lv_at hl 2 rfl) ?_
    refine va_putN (D := D) (ci := 4) (v := .int x1) (ty := .int) (C := RX4) (T := TX4) (N := 5) hx hb hts hinX4 tyX4 tyX4_ok nmX4 hown hK hP hD hS 0 rfl rfl 2 (by decide) (va_Nw.use rfl (hN (.fieldLinkNest RX8 109 "ChanceBounds$Saying" "from" "I" "ChanceBounds") (by decide +kernel))) (fun _ h9 => h9) rfl (by decide +kernel) rfl rfl (Nat.le_of_ble_eq_true rfl) dX8_moveFrom_17 (fun H locs hP hD hS => ?_)
    have hP : va_P D vwCl (w_X8_moveFrom tc q_a0 a0_x a0_y x1 a0_to a0_isOn) H := hP
    have hD : va_D A (w_X8_moveFrom tc q_a0 a0_x a0_y x1 a0_to a0_isOn) := hD
    refine lv_iload_n hx hb dX8_moveFrom_20 rfl (lv_at hl 0 rfl) ?_
    cases h
    exact st_iret hx hb hr hlocks hP hD hS dX8_moveFrom_21
  · replace h := ifn c1 h
    refine lv_iconst (v := (-1 : Int32)) hx hb dX8_moveFrom_8 (by decide) ?_
    cases h
    exact st_iret hx hb hr hlocks hP hD hS dX8_moveFrom_9
def f_X8_moveTo (a0_from : Int32) (a0_to : Int32) (x1 : Int32) : Option (Int32 × Int32) :=
  if a0_from ≤ x1 then
    some (a0_to, x1)
  else
    some ((-1 : Int32), a0_to)
abbrev w_X8_moveTo (tc : Nat → ClassId) (q_a0 : Nat)  (a0_x : Int32) (a0_y : Int32) (a0_from : Int32) (a0_to : Int32) (a0_isOn : Int32) : va_W := [(q_a0, .inr (4, [.int a0_x, .int a0_y, .int a0_from, .int a0_to, .int a0_isOn]))]
set_option maxHeartbeats 4000000 in
set_option maxRecDepth 100000 in
theorem s_X8_moveTo {l : Launch} {E : (Nat → Prop) → State → Prop} (hEok : st_Eok E) {D : va_G} {tc : Nat → ClassId} (q_a0 : Nat) (a0_x : Int32) (a0_y : Int32) (a0_from : Int32) (a0_to : Int32) (a0_isOn : Int32) (x1 : Int32) (r0 : Int32) (a0_to' : Int32) (h : f_X8_moveTo a0_from a0_to x1 = some (r0, a0_to')) : st l yX8_moveTo wsX8_moveTo ({ frames := 0, cells := 0, slots := 0, locals := 0 }) E D tc [.ref q_a0, .int x1] (w_X8_moveTo tc q_a0 a0_x a0_y a0_from a0_to a0_isOn) (some (.int r0)) (w_X8_moveTo tc q_a0 a0_x a0_y a0_from a0_to' a0_isOn) := by
  refine st_enter (cc := cX8_moveTo) (maxL := 3) (ret := (some .int)) (by decide) rfl (Nat.le_of_ble_eq_true rfl) ?_
  intro p e s m below meth c A ls hx hb hr hml hts hown hlocks hK hN hE hA hP hD hS hl
  have hl : lv_has ls 3 [(0, .ref q_a0), (1, .int x1)] := hl
  have hinX4 : ∀ w ∈ wsX40, w ∈ wsX8_moveTo := by decide +kernel
  generalize hav : ([.ref q_a0, .int x1] : List Value).toArray = av at hts ⊢
  unfold f_X8_moveTo at h
  refine lv_iload_n hx hb dX8_moveTo_0 rfl (lv_at hl 1 rfl) ?_
  refine lv_aload_n hx hb dX8_moveTo_1 rfl (lv_at hl 0 rfl) ?_
  refine va_getN (D := D) (ci := 4) (v := .int a0_from) (C := RX4) (T := TX4) (N := 5) hx hb hts hinX4 hown hK hP 0 rfl rfl 2 (by decide) (va_Nw.use rfl (hN (.fieldLinkNest RX8 109 "ChanceBounds$Saying" "from" "I" "ChanceBounds") (by decide +kernel))) (fun _ h9 => h9) rfl dX8_moveTo_2 ?_
  refine lv_icmp_ge (tgt := 10) hx hb dX8_moveTo_5 (by decide) (fun c1 => ?_) (fun c1 => ?_)
  · replace h := ifp c1 h
    refine lv_aload_n hx hb dX8_moveTo_10 rfl (lv_at hl 0 rfl) ?_
    refine va_getN (D := D) (ci := 4) (v := .int a0_to) (C := RX4) (T := TX4) (N := 5) hx hb hts hinX4 hown hK hP 0 rfl rfl 3 (by decide) (va_Nw.use rfl (hN (.fieldLinkNest RX8 112 "ChanceBounds$Saying" "to" "I" "ChanceBounds") (by decide +kernel))) (fun _ h9 => h9) rfl dX8_moveTo_11 ?_
    refine lv_istore_n (lv' := [(2, .int a0_to), (0, .ref q_a0), (1, .int x1)]) hx hb dX8_moveTo_14 rfl hl (by decide) rfl (fun ls hl => ?_)
    refine lv_aload_n hx hb dX8_moveTo_15 rfl (lv_at hl 1 rfl) ?_
    refine lv_iload_n hx hb dX8_moveTo_16 rfl (lv_at hl 2 rfl) ?_
    refine va_putN (D := D) (ci := 4) (v := .int x1) (ty := .int) (C := RX4) (T := TX4) (N := 5) hx hb hts hinX4 tyX4 tyX4_ok nmX4 hown hK hP hD hS 0 rfl rfl 3 (by decide) (va_Nw.use rfl (hN (.fieldLinkNest RX8 112 "ChanceBounds$Saying" "to" "I" "ChanceBounds") (by decide +kernel))) (fun _ h9 => h9) rfl (by decide +kernel) rfl rfl (Nat.le_of_ble_eq_true rfl) dX8_moveTo_17 (fun H locs hP hD hS => ?_)
    have hP : va_P D vwCl (w_X8_moveTo tc q_a0 a0_x a0_y a0_from x1 a0_isOn) H := hP
    have hD : va_D A (w_X8_moveTo tc q_a0 a0_x a0_y a0_from x1 a0_isOn) := hD
    refine lv_iload_n hx hb dX8_moveTo_20 rfl (lv_at hl 0 rfl) ?_
    cases h
    exact st_iret hx hb hr hlocks hP hD hS dX8_moveTo_21
  · replace h := ifn c1 h
    refine lv_iconst (v := (-1 : Int32)) hx hb dX8_moveTo_8 (by decide) ?_
    cases h
    exact st_iret hx hb hr hlocks hP hD hS dX8_moveTo_9
def f_X8_move (th_many : Int32) (th_sayings_e_from : Nat → Int32) (th_sayings_e_to : Nat → Int32) (x1 : Int32) (x2 : Int32) (x3 : Int32) : Option (Int32 × (Nat → Int32) × (Nat → Int32)) :=
  (f_X8_isSaying th_many x1).bind fun z1_0 =>
  if z1_0 = (0 : Int32) then
    some ((-1 : Int32), th_sayings_e_from, th_sayings_e_to)
  else
    (f_X8_isZeroOrOne x2).bind fun z3_0 =>
    if z3_0 = (0 : Int32) then
      some ((-1 : Int32), th_sayings_e_from, th_sayings_e_to)
    else
      if x3 < (0 : Int32) then
        some ((-1 : Int32), th_sayings_e_from, th_sayings_e_to)
      else
        if x3 ≤ (100 : Int32) then
          if x2 = (0 : Int32) then
            if x1 < 0 ∨ 4 ≤ x1.toNatClampNeg then none else
            (f_X8_moveFrom (th_sayings_e_from x1.toNatClampNeg) (th_sayings_e_to x1.toNatClampNeg) x3).bind fun z11 => match z11 with
            | (z11_0, z11_1) =>
              some (z11_0, (va_up th_sayings_e_from x1.toNatClampNeg z11_1), th_sayings_e_to)
          else
            if x1 < 0 ∨ 4 ≤ x1.toNatClampNeg then none else
            (f_X8_moveTo (th_sayings_e_from x1.toNatClampNeg) (th_sayings_e_to x1.toNatClampNeg) x3).bind fun z9 => match z9 with
            | (z9_0, z9_1) =>
              some (z9_0, th_sayings_e_from, (va_up th_sayings_e_to x1.toNatClampNeg z9_1))
        else
          some ((-1 : Int32), th_sayings_e_from, th_sayings_e_to)
abbrev w_X8_move (tc : Nat → ClassId) (q_th : Nat) (q_th_text : Nat) (q_th_reader : Nat) (q_th_sayings : Nat) (q_th_ladder : Nat) (q_th_told : Nat) (q_th_answer : Nat) (q_th_least : Nat) (q_th_greatest : Nat) (q_th_leastByAll : Nat) (q_th_greatestByAll : Nat) (q_th_sayings_e : Nat → Nat)  (th_many : Int32) (th_sayings_e_x : Nat → Int32) (th_sayings_e_y : Nat → Int32) (th_sayings_e_from : Nat → Int32) (th_sayings_e_to : Nat → Int32) (th_sayings_e_isOn : Nat → Int32) : va_W := [(q_th, .inr (8, [.ref q_th_text, .ref q_th_reader, .ref q_th_sayings, .int th_many, .ref q_th_ladder, .ref q_th_told, .ref q_th_answer, .ref q_th_least, .ref q_th_greatest, .ref q_th_leastByAll, .ref q_th_greatestByAll])), (q_th_sayings, .inl (tc 2, 4, .inr (.inr (.inr (.inr (fun j => some (q_th_sayings_e j))))))), ((q_th_sayings_e 0), .inr (4, [.int (th_sayings_e_x 0), .int (th_sayings_e_y 0), .int (th_sayings_e_from 0), .int (th_sayings_e_to 0), .int (th_sayings_e_isOn 0)])), ((q_th_sayings_e 1), .inr (4, [.int (th_sayings_e_x 1), .int (th_sayings_e_y 1), .int (th_sayings_e_from 1), .int (th_sayings_e_to 1), .int (th_sayings_e_isOn 1)])), ((q_th_sayings_e 2), .inr (4, [.int (th_sayings_e_x 2), .int (th_sayings_e_y 2), .int (th_sayings_e_from 2), .int (th_sayings_e_to 2), .int (th_sayings_e_isOn 2)])), ((q_th_sayings_e 3), .inr (4, [.int (th_sayings_e_x 3), .int (th_sayings_e_y 3), .int (th_sayings_e_from 3), .int (th_sayings_e_to 3), .int (th_sayings_e_isOn 3)]))]
set_option maxHeartbeats 4000000 in
set_option maxRecDepth 100000 in
theorem s_X8_move {l : Launch} {E : (Nat → Prop) → State → Prop} (hEok : st_Eok E) {D : va_G} {tc : Nat → ClassId} (q_th : Nat) (q_th_text : Nat) (q_th_reader : Nat) (q_th_sayings : Nat) (q_th_ladder : Nat) (q_th_told : Nat) (q_th_answer : Nat) (q_th_least : Nat) (q_th_greatest : Nat) (q_th_leastByAll : Nat) (q_th_greatestByAll : Nat) (q_th_sayings_e : Nat → Nat) (th_many : Int32) (th_sayings_e_x : Nat → Int32) (th_sayings_e_y : Nat → Int32) (th_sayings_e_from : Nat → Int32) (th_sayings_e_to : Nat → Int32) (th_sayings_e_isOn : Nat → Int32) (x1 : Int32) (x2 : Int32) (x3 : Int32) (r0 : Int32) (th_sayings_e_from' : Nat → Int32) (th_sayings_e_to' : Nat → Int32) (h : f_X8_move th_many th_sayings_e_from th_sayings_e_to x1 x2 x3 = some (r0, th_sayings_e_from', th_sayings_e_to')) : st l yX8_move wsX8_move ({ frames := 1, cells := 0, slots := 0, locals := 22 }) E D tc [.ref q_th, .int x1, .int x2, .int x3] (w_X8_move tc q_th q_th_text q_th_reader q_th_sayings q_th_ladder q_th_told q_th_answer q_th_least q_th_greatest q_th_leastByAll q_th_greatestByAll q_th_sayings_e th_many th_sayings_e_x th_sayings_e_y th_sayings_e_from th_sayings_e_to th_sayings_e_isOn) (some (.int r0)) (w_X8_move tc q_th q_th_text q_th_reader q_th_sayings q_th_ladder q_th_told q_th_answer q_th_least q_th_greatest q_th_leastByAll q_th_greatestByAll q_th_sayings_e th_many th_sayings_e_x th_sayings_e_y th_sayings_e_from' th_sayings_e_to' th_sayings_e_isOn) := by
  refine st_enter (cc := cX8_move) (maxL := 4) (ret := (some .int)) (by decide) rfl (Nat.le_of_ble_eq_true rfl) ?_
  intro p e s m below meth c A ls hx hb hr hml hts hown hlocks hK hN hE hA hP hD hS hl
  have hl : lv_has ls 4 [(0, .ref q_th), (1, .int x1), (2, .int x2), (3, .int x3)] := hl
  have hinX8 : ∀ w ∈ wsX80, w ∈ wsX8_move := by decide +kernel
  generalize hav : ([.ref q_th, .int x1, .int x2, .int x3] : List Value).toArray = av at hts ⊢
  unfold f_X8_move at h
  refine lv_aload_n hx hb dX8_move_0 rfl (lv_at hl 0 rfl) ?_
  refine lv_iload_n hx hb dX8_move_1 rfl (lv_at hl 1 rfl) ?_
  obtain ⟨z1_0, hc1, h⟩ := bd_ok h
  refine st_callV (As := [.int x1]) (rest := []) (pos := [0]) ⟨hx, hb, hml, hown, hts⟩ (s_X8_isSaying (l := l) (D := D) (tc := tc) hEok q_th q_th_text q_th_reader q_th_sayings q_th_ladder q_th_told q_th_answer q_th_least q_th_greatest q_th_leastByAll q_th_greatestByAll th_many x1 z1_0 hc1) (cwV 1 hts gX8_move_X8_isSaying rfl rfl rfl (by decide +kernel) ⟨Nat.le_of_ble_eq_true rfl, Nat.le_of_ble_eq_true rfl⟩) (st_recv (ci := 8) (q0 := 0) hK hP rfl rfl) hEok hE hK hN hP hD hS hA rfl rfl rfl rfl hl.1 rfl (Nat.le_of_ble_eq_true rfl) dX8_move_2 ⟨Nat.zero_le _, Nat.zero_le _⟩ (fun H locs hP hD hS => ?_)
  have hP : va_P D vwCl (w_X8_move tc q_th q_th_text q_th_reader q_th_sayings q_th_ladder q_th_told q_th_answer q_th_least q_th_greatest q_th_leastByAll q_th_greatestByAll q_th_sayings_e th_many th_sayings_e_x th_sayings_e_y th_sayings_e_from th_sayings_e_to th_sayings_e_isOn) H := hP
  have hD : va_D A (w_X8_move tc q_th q_th_text q_th_reader q_th_sayings q_th_ladder q_th_told q_th_answer q_th_least q_th_greatest q_th_leastByAll q_th_greatestByAll q_th_sayings_e th_many th_sayings_e_x th_sayings_e_y th_sayings_e_from th_sayings_e_to th_sayings_e_isOn) := hD
  refine lv_if_eq (tgt := 25) hx hb dX8_move_5 (by decide) (fun c2 => ?_) (fun c2 => ?_)
  · replace h := ifp c2 h
    refine lv_iconst (v := (-1 : Int32)) hx hb dX8_move_25 (by decide) ?_
    cases h
    exact st_iret hx hb hr hlocks hP hD hS dX8_move_26
  · replace h := ifn c2 h
    refine lv_iload_n hx hb dX8_move_8 rfl (lv_at hl 2 rfl) ?_
    obtain ⟨z3_0, hc3, h⟩ := bd_ok h
    refine st_callS (As := [.int x2]) (rest := []) (pos := []) ⟨hx, hb, hml, hown, hts⟩ (s_X8_isZeroOrOne (l := l) (D := D) (tc := tc) hEok x2 z3_0 hc3) (va_cwS 1 hts gX8_move_X8_isZeroOrOne rfl rfl rfl (by decide +kernel) ⟨Nat.le_of_ble_eq_true rfl, Nat.le_of_ble_eq_true rfl⟩) hEok hE hK hN hP hD hS hA rfl rfl rfl rfl hl.1 rfl (Nat.le_of_ble_eq_true rfl) dX8_move_9 ⟨Nat.zero_le _, Nat.zero_le _⟩ (fun H locs hP hD hS => ?_)
    have hP : va_P D vwCl (w_X8_move tc q_th q_th_text q_th_reader q_th_sayings q_th_ladder q_th_told q_th_answer q_th_least q_th_greatest q_th_leastByAll q_th_greatestByAll q_th_sayings_e th_many th_sayings_e_x th_sayings_e_y th_sayings_e_from th_sayings_e_to th_sayings_e_isOn) H := hP
    have hD : va_D A (w_X8_move tc q_th q_th_text q_th_reader q_th_sayings q_th_ladder q_th_told q_th_answer q_th_least q_th_greatest q_th_leastByAll q_th_greatestByAll q_th_sayings_e th_many th_sayings_e_x th_sayings_e_y th_sayings_e_from th_sayings_e_to th_sayings_e_isOn) := hD
    refine lv_if_eq (tgt := 25) hx hb dX8_move_12 (by decide) (fun c4 => ?_) (fun c4 => ?_)
    · replace h := ifp c4 h
      refine lv_iconst (v := (-1 : Int32)) hx hb dX8_move_25 (by decide) ?_
      cases h
      exact st_iret hx hb hr hlocks hP hD hS dX8_move_26
    · replace h := ifn c4 h
      refine lv_iload_n hx hb dX8_move_15 rfl (lv_at hl 3 rfl) ?_
      refine lv_if_lt (tgt := 25) hx hb dX8_move_16 (by decide) (fun c5 => ?_) (fun c5 => ?_)
      · replace h := ifp c5 h
        refine lv_iconst (v := (-1 : Int32)) hx hb dX8_move_25 (by decide) ?_
        cases h
        exact st_iret hx hb hr hlocks hP hD hS dX8_move_26
      · replace h := ifn c5 h
        refine lv_iload_n hx hb dX8_move_19 rfl (lv_at hl 3 rfl) ?_
        refine lv_bipush (v := (100 : Int32)) hx hb dX8_move_20 (by decide) ?_
        refine lv_icmp_le (tgt := 27) hx hb dX8_move_22 (by decide) (fun c6 => ?_) (fun c6 => ?_)
        · replace h := ifp c6 h
          refine lv_iload_n hx hb dX8_move_27 rfl (lv_at hl 2 rfl) ?_
          refine lv_if_ne (tgt := 44) hx hb dX8_move_28 (by decide) (fun c7 => ?_) (fun c7 => ?_)
          · replace h := ifn c7 h
            refine lv_aload_n hx hb dX8_move_44 rfl (lv_at hl 0 rfl) ?_
            refine va_get (D := D) (ci := 8) (v := .ref q_th_sayings) (C := RX8) (T := TX8) (N := 11) hx hb hts hinX8 hown hK hP 0 rfl rfl 2 (by decide) (hts (.fieldLink RX8 27 "ChanceBounds" "sayings" "[LChanceBounds$Saying;") (by decide +kernel)) (fun _ h9 => h9) rfl dX8_move_45 ?_
            refine lv_iload_n hx hb dX8_move_48 rfl (lv_at hl 1 rfl) ?_
            obtain ⟨g8, h⟩ := gd_ok h
            refine va_aldq hx hb hK hP 1 2 rfl rfl g8 dX8_move_49 ?_
            refine lv_iload_n hx hb dX8_move_50 rfl (lv_at hl 3 rfl) ?_
            obtain ⟨⟨z9_0, z9_1⟩, hc9, h⟩ := bd_ok h
            refine st_callS (As := [.ref (q_th_sayings_e x1.toNatClampNeg), .int x3]) (rest := []) (pos := [(2 + x1.toNatClampNeg)]) ⟨hx, hb, hml, hown, hts⟩ (s_X8_moveTo (l := l) (D := D) (tc := tc) hEok (q_th_sayings_e x1.toNatClampNeg) (th_sayings_e_x x1.toNatClampNeg) (th_sayings_e_y x1.toNatClampNeg) (th_sayings_e_from x1.toNatClampNeg) (th_sayings_e_to x1.toNatClampNeg) (th_sayings_e_isOn x1.toNatClampNeg) x3 z9_0 z9_1 hc9) (va_cwS 2 hts gX8_move_X8_moveTo rfl rfl rfl (by decide +kernel) ⟨Nat.le_of_ble_eq_true rfl, Nat.le_of_ble_eq_true rfl⟩) hEok hE hK hN hP hD hS hA (by have q9 := st_lt4 g8; revert q9; generalize x1.toNatClampNeg = k9; rintro (rfl | rfl | rfl | rfl) <;> rfl) (by have q9 := st_lt4 g8; revert q9; generalize x1.toNatClampNeg = k9; rintro (rfl | rfl | rfl | rfl) <;> rfl) rfl rfl hl.1 rfl (Nat.le_of_ble_eq_true rfl) dX8_move_51 ⟨Nat.zero_le _, Nat.zero_le _⟩ (fun H locs hP hD hS => ?_)
            have hP : va_P D vwCl (w_X8_move tc q_th q_th_text q_th_reader q_th_sayings q_th_ladder q_th_told q_th_answer q_th_least q_th_greatest q_th_leastByAll q_th_greatestByAll q_th_sayings_e th_many th_sayings_e_x th_sayings_e_y th_sayings_e_from (va_up th_sayings_e_to x1.toNatClampNeg z9_1) th_sayings_e_isOn) H := by
              have q9 := st_lt4 g8; revert q9 hP; generalize x1.toNatClampNeg = k9; rintro hP (rfl | rfl | rfl | rfl) <;> exact hP
            have hD : va_D A (w_X8_move tc q_th q_th_text q_th_reader q_th_sayings q_th_ladder q_th_told q_th_answer q_th_least q_th_greatest q_th_leastByAll q_th_greatestByAll q_th_sayings_e th_many th_sayings_e_x th_sayings_e_y th_sayings_e_from (va_up th_sayings_e_to x1.toNatClampNeg z9_1) th_sayings_e_isOn) := by
              have q9 := st_lt4 g8; revert q9 hD; generalize x1.toNatClampNeg = k9; rintro hD (rfl | rfl | rfl | rfl) <;> exact hD
            cases h
            exact st_iret hx hb hr hlocks hP hD hS dX8_move_54
          · replace h := ifp c7 h
            refine lv_aload_n hx hb dX8_move_31 rfl (lv_at hl 0 rfl) ?_
            refine va_get (D := D) (ci := 8) (v := .ref q_th_sayings) (C := RX8) (T := TX8) (N := 11) hx hb hts hinX8 hown hK hP 0 rfl rfl 2 (by decide) (hts (.fieldLink RX8 27 "ChanceBounds" "sayings" "[LChanceBounds$Saying;") (by decide +kernel)) (fun _ h9 => h9) rfl dX8_move_32 ?_
            refine lv_iload_n hx hb dX8_move_35 rfl (lv_at hl 1 rfl) ?_
            obtain ⟨g10, h⟩ := gd_ok h
            refine va_aldq hx hb hK hP 1 2 rfl rfl g10 dX8_move_36 ?_
            refine lv_iload_n hx hb dX8_move_37 rfl (lv_at hl 3 rfl) ?_
            obtain ⟨⟨z11_0, z11_1⟩, hc11, h⟩ := bd_ok h
            refine st_callS (As := [.ref (q_th_sayings_e x1.toNatClampNeg), .int x3]) (rest := []) (pos := [(2 + x1.toNatClampNeg)]) ⟨hx, hb, hml, hown, hts⟩ (s_X8_moveFrom (l := l) (D := D) (tc := tc) hEok (q_th_sayings_e x1.toNatClampNeg) (th_sayings_e_x x1.toNatClampNeg) (th_sayings_e_y x1.toNatClampNeg) (th_sayings_e_from x1.toNatClampNeg) (th_sayings_e_to x1.toNatClampNeg) (th_sayings_e_isOn x1.toNatClampNeg) x3 z11_0 z11_1 hc11) (va_cwS 2 hts gX8_move_X8_moveFrom rfl rfl rfl (by decide +kernel) ⟨Nat.le_of_ble_eq_true rfl, Nat.le_of_ble_eq_true rfl⟩) hEok hE hK hN hP hD hS hA (by have q9 := st_lt4 g10; revert q9; generalize x1.toNatClampNeg = k9; rintro (rfl | rfl | rfl | rfl) <;> rfl) (by have q9 := st_lt4 g10; revert q9; generalize x1.toNatClampNeg = k9; rintro (rfl | rfl | rfl | rfl) <;> rfl) rfl rfl hl.1 rfl (Nat.le_of_ble_eq_true rfl) dX8_move_38 ⟨Nat.zero_le _, Nat.zero_le _⟩ (fun H locs hP hD hS => ?_)
            have hP : va_P D vwCl (w_X8_move tc q_th q_th_text q_th_reader q_th_sayings q_th_ladder q_th_told q_th_answer q_th_least q_th_greatest q_th_leastByAll q_th_greatestByAll q_th_sayings_e th_many th_sayings_e_x th_sayings_e_y (va_up th_sayings_e_from x1.toNatClampNeg z11_1) th_sayings_e_to th_sayings_e_isOn) H := by
              have q9 := st_lt4 g10; revert q9 hP; generalize x1.toNatClampNeg = k9; rintro hP (rfl | rfl | rfl | rfl) <;> exact hP
            have hD : va_D A (w_X8_move tc q_th q_th_text q_th_reader q_th_sayings q_th_ladder q_th_told q_th_answer q_th_least q_th_greatest q_th_leastByAll q_th_greatestByAll q_th_sayings_e th_many th_sayings_e_x th_sayings_e_y (va_up th_sayings_e_from x1.toNatClampNeg z11_1) th_sayings_e_to th_sayings_e_isOn) := by
              have q9 := st_lt4 g10; revert q9 hD; generalize x1.toNatClampNeg = k9; rintro hD (rfl | rfl | rfl | rfl) <;> exact hD
            refine lv_goto (tgt := 54) hx hb dX8_move_41 (by decide) ?_
            cases h
            exact st_iret hx hb hr hlocks hP hD hS dX8_move_54
        · replace h := ifn c6 h
          refine lv_iconst (v := (-1 : Int32)) hx hb dX8_move_25 (by decide) ?_
          cases h
          exact st_iret hx hb hr hlocks hP hD hS dX8_move_26
def f_X8_onSet_L4 (th_many : Int32) (th_sayings_e_isOn : Nat → Int32) (s4 : Int32 × Int32) : Option ((Int32) ⊕ (Int32 × Int32)) :=
  match s4 with
  | (x1, x2) =>
    if th_many ≤ x2 then
      some (.inl x1)
    else
      if x2 < 0 ∨ 4 ≤ x2.toNatClampNeg then none else
      if (th_sayings_e_isOn x2.toNatClampNeg) = (1 : Int32) then
        some (.inr (x1 ||| ((1 : Int32) <<< (x2 &&& 31)), x2 + 1))
      else
        some (.inr (x1, x2 + 1))
def f_X8_onSet (K : Nat) (th_many : Int32) (th_sayings_e_isOn : Nat → Int32) : Option (Int32) :=
  (lp (f_X8_onSet_L4 th_many th_sayings_e_isOn) K ((0 : Int32), (0 : Int32))).bind fun z4_0 =>
  some z4_0
abbrev w_X8_onSet (tc : Nat → ClassId) (q_th : Nat) (q_th_text : Nat) (q_th_reader : Nat) (q_th_sayings : Nat) (q_th_ladder : Nat) (q_th_told : Nat) (q_th_answer : Nat) (q_th_least : Nat) (q_th_greatest : Nat) (q_th_leastByAll : Nat) (q_th_greatestByAll : Nat) (q_th_sayings_e : Nat → Nat)  (th_many : Int32) (th_sayings_e_x : Nat → Int32) (th_sayings_e_y : Nat → Int32) (th_sayings_e_from : Nat → Int32) (th_sayings_e_to : Nat → Int32) (th_sayings_e_isOn : Nat → Int32) : va_W := [(q_th, .inr (8, [.ref q_th_text, .ref q_th_reader, .ref q_th_sayings, .int th_many, .ref q_th_ladder, .ref q_th_told, .ref q_th_answer, .ref q_th_least, .ref q_th_greatest, .ref q_th_leastByAll, .ref q_th_greatestByAll])), (q_th_sayings, .inl (tc 2, 4, .inr (.inr (.inr (.inr (fun j => some (q_th_sayings_e j))))))), ((q_th_sayings_e 0), .inr (4, [.int (th_sayings_e_x 0), .int (th_sayings_e_y 0), .int (th_sayings_e_from 0), .int (th_sayings_e_to 0), .int (th_sayings_e_isOn 0)])), ((q_th_sayings_e 1), .inr (4, [.int (th_sayings_e_x 1), .int (th_sayings_e_y 1), .int (th_sayings_e_from 1), .int (th_sayings_e_to 1), .int (th_sayings_e_isOn 1)])), ((q_th_sayings_e 2), .inr (4, [.int (th_sayings_e_x 2), .int (th_sayings_e_y 2), .int (th_sayings_e_from 2), .int (th_sayings_e_to 2), .int (th_sayings_e_isOn 2)])), ((q_th_sayings_e 3), .inr (4, [.int (th_sayings_e_x 3), .int (th_sayings_e_y 3), .int (th_sayings_e_from 3), .int (th_sayings_e_to 3), .int (th_sayings_e_isOn 3)]))]
set_option maxHeartbeats 4000000 in
set_option maxRecDepth 100000 in
theorem s_X8_onSet {l : Launch} {E : (Nat → Prop) → State → Prop} (hEok : st_Eok E) {D : va_G} {tc : Nat → ClassId} (q_th : Nat) (q_th_text : Nat) (q_th_reader : Nat) (q_th_sayings : Nat) (q_th_ladder : Nat) (q_th_told : Nat) (q_th_answer : Nat) (q_th_least : Nat) (q_th_greatest : Nat) (q_th_leastByAll : Nat) (q_th_greatestByAll : Nat) (q_th_sayings_e : Nat → Nat) (th_many : Int32) (th_sayings_e_x : Nat → Int32) (th_sayings_e_y : Nat → Int32) (th_sayings_e_from : Nat → Int32) (th_sayings_e_to : Nat → Int32) (th_sayings_e_isOn : Nat → Int32) (K : Nat) (r0 : Int32) (h : f_X8_onSet K th_many th_sayings_e_isOn = some r0) : st l yX8_onSet wsX8_onSet ({ frames := 0, cells := 0, slots := 0, locals := 0 }) E D tc [.ref q_th] (w_X8_onSet tc q_th q_th_text q_th_reader q_th_sayings q_th_ladder q_th_told q_th_answer q_th_least q_th_greatest q_th_leastByAll q_th_greatestByAll q_th_sayings_e th_many th_sayings_e_x th_sayings_e_y th_sayings_e_from th_sayings_e_to th_sayings_e_isOn) (some (.int r0)) (w_X8_onSet tc q_th q_th_text q_th_reader q_th_sayings q_th_ladder q_th_told q_th_answer q_th_least q_th_greatest q_th_leastByAll q_th_greatestByAll q_th_sayings_e th_many th_sayings_e_x th_sayings_e_y th_sayings_e_from th_sayings_e_to th_sayings_e_isOn) := by
  refine st_enter (cc := cX8_onSet) (maxL := 3) (ret := (some .int)) (by decide) rfl (Nat.le_of_ble_eq_true rfl) ?_
  intro p e s m below meth c A ls hx hb hr hml hts hown hlocks hK hN hE hA hP hD hS hl
  have hl : lv_has ls 3 [(0, .ref q_th)] := hl
  have hinX4 : ∀ w ∈ wsX40, w ∈ wsX8_onSet := by decide +kernel
  have hinX8 : ∀ w ∈ wsX80, w ∈ wsX8_onSet := by decide +kernel
  generalize hav : ([.ref q_th] : List Value).toArray = av at hts ⊢
  have L4 : ∀ (_ : Unit), ∀ (k : Nat) (s4 : Int32 × Int32) (r : Int32), lp (f_X8_onSet_L4 th_many th_sayings_e_isOn) k s4 = some r → (fun x1 : Int32 => ∀ (H : Heap) (locs : List Loc) (ls : Array Slot), va_P D vwCl (w_X8_onSet tc q_th q_th_text q_th_reader q_th_sayings q_th_ladder q_th_told q_th_answer q_th_least q_th_greatest q_th_leastByAll q_th_greatestByAll q_th_sayings_e th_many th_sayings_e_x th_sayings_e_y th_sayings_e_from th_sayings_e_to th_sayings_e_isOn) H → va_D A (w_X8_onSet tc q_th q_th_text q_th_reader q_th_sayings q_th_ladder q_th_told q_th_answer q_th_least q_th_greatest q_th_leastByAll q_th_greatestByAll q_th_sayings_e th_many th_sayings_e_x th_sayings_e_y th_sayings_e_from th_sayings_e_to th_sayings_e_isOn) → va_S A s.heap H locs → lv_has ls 3 [(1, .int x1)] → W p l e ({ frames := 0, cells := 0, slots := 0, locals := 0 } : Room) s m av below meth c H locs 0 0 (MQ below (st_Q D (w_X8_onSet tc q_th q_th_text q_th_reader q_th_sayings q_th_ladder q_th_told q_th_answer q_th_least q_th_greatest q_th_leastByAll q_th_greatestByAll q_th_sayings_e th_many th_sayings_e_x th_sayings_e_y th_sayings_e_from th_sayings_e_to th_sayings_e_isOn) (some (.int r0)) A) av s 0 0 A) (F0 m 37 ls [])) r → (fun s4 : Int32 × Int32 => match s4 with | (x1, x2) => ∀ (H : Heap) (locs : List Loc) (ls : Array Slot), va_P D vwCl (w_X8_onSet tc q_th q_th_text q_th_reader q_th_sayings q_th_ladder q_th_told q_th_answer q_th_least q_th_greatest q_th_leastByAll q_th_greatestByAll q_th_sayings_e th_many th_sayings_e_x th_sayings_e_y th_sayings_e_from th_sayings_e_to th_sayings_e_isOn) H → va_D A (w_X8_onSet tc q_th q_th_text q_th_reader q_th_sayings q_th_ladder q_th_told q_th_answer q_th_least q_th_greatest q_th_leastByAll q_th_greatestByAll q_th_sayings_e th_many th_sayings_e_x th_sayings_e_y th_sayings_e_from th_sayings_e_to th_sayings_e_isOn) → va_S A s.heap H locs → lv_has ls 3 [(0, .ref q_th), (1, .int x1), (2, .int x2)] → W p l e ({ frames := 0, cells := 0, slots := 0, locals := 0 } : Room) s m av below meth c H locs 0 0 (MQ below (st_Q D (w_X8_onSet tc q_th q_th_text q_th_reader q_th_sayings q_th_ladder q_th_told q_th_answer q_th_least q_th_greatest q_th_leastByAll q_th_greatestByAll q_th_sayings_e th_many th_sayings_e_x th_sayings_e_y th_sayings_e_from th_sayings_e_to th_sayings_e_isOn) (some (.int r0)) A) av s 0 0 A) (F0 m 4 ls [])) s4 := by
    intro _
    refine lp_W (f_X8_onSet_L4 th_many th_sayings_e_isOn) (fun s4 : Int32 × Int32 => match s4 with | (x1, x2) => ∀ (H : Heap) (locs : List Loc) (ls : Array Slot), va_P D vwCl (w_X8_onSet tc q_th q_th_text q_th_reader q_th_sayings q_th_ladder q_th_told q_th_answer q_th_least q_th_greatest q_th_leastByAll q_th_greatestByAll q_th_sayings_e th_many th_sayings_e_x th_sayings_e_y th_sayings_e_from th_sayings_e_to th_sayings_e_isOn) H → va_D A (w_X8_onSet tc q_th q_th_text q_th_reader q_th_sayings q_th_ladder q_th_told q_th_answer q_th_least q_th_greatest q_th_leastByAll q_th_greatestByAll q_th_sayings_e th_many th_sayings_e_x th_sayings_e_y th_sayings_e_from th_sayings_e_to th_sayings_e_isOn) → va_S A s.heap H locs → lv_has ls 3 [(0, .ref q_th), (1, .int x1), (2, .int x2)] → W p l e ({ frames := 0, cells := 0, slots := 0, locals := 0 } : Room) s m av below meth c H locs 0 0 (MQ below (st_Q D (w_X8_onSet tc q_th q_th_text q_th_reader q_th_sayings q_th_ladder q_th_told q_th_answer q_th_least q_th_greatest q_th_leastByAll q_th_greatestByAll q_th_sayings_e th_many th_sayings_e_x th_sayings_e_y th_sayings_e_from th_sayings_e_to th_sayings_e_isOn) (some (.int r0)) A) av s 0 0 A) (F0 m 4 ls [])) (fun x1 : Int32 => ∀ (H : Heap) (locs : List Loc) (ls : Array Slot), va_P D vwCl (w_X8_onSet tc q_th q_th_text q_th_reader q_th_sayings q_th_ladder q_th_told q_th_answer q_th_least q_th_greatest q_th_leastByAll q_th_greatestByAll q_th_sayings_e th_many th_sayings_e_x th_sayings_e_y th_sayings_e_from th_sayings_e_to th_sayings_e_isOn) H → va_D A (w_X8_onSet tc q_th q_th_text q_th_reader q_th_sayings q_th_ladder q_th_told q_th_answer q_th_least q_th_greatest q_th_leastByAll q_th_greatestByAll q_th_sayings_e th_many th_sayings_e_x th_sayings_e_y th_sayings_e_from th_sayings_e_to th_sayings_e_isOn) → va_S A s.heap H locs → lv_has ls 3 [(1, .int x1)] → W p l e ({ frames := 0, cells := 0, slots := 0, locals := 0 } : Room) s m av below meth c H locs 0 0 (MQ below (st_Q D (w_X8_onSet tc q_th q_th_text q_th_reader q_th_sayings q_th_ladder q_th_told q_th_answer q_th_least q_th_greatest q_th_leastByAll q_th_greatestByAll q_th_sayings_e th_many th_sayings_e_x th_sayings_e_y th_sayings_e_from th_sayings_e_to th_sayings_e_isOn) (some (.int r0)) A) av s 0 0 A) (F0 m 37 ls [])) ?_
    rintro ⟨x1, x2⟩ o h ih hz H locs ls hP hD hS hl
    unfold f_X8_onSet_L4 at h
    refine lv_iload_n hx hb dX8_onSet_4 rfl (lv_at hl 2 rfl) ?_
    refine lv_aload_n hx hb dX8_onSet_5 rfl (lv_at hl 0 rfl) ?_
    refine va_get (D := D) (ci := 8) (v := .int th_many) (C := RX8) (T := TX8) (N := 11) hx hb hts hinX8 hown hK hP 0 rfl rfl 3 (by decide) (hts (.fieldLink RX8 32 "ChanceBounds" "many" "I") (by decide +kernel)) (fun _ h9 => h9) rfl dX8_onSet_6 ?_
    refine lv_icmp_ge (tgt := 37) hx hb dX8_onSet_9 (by decide) (fun c1 => ?_) (fun c1 => ?_)
    · replace h := ifp c1 h
      cases h
      exact hz _ rfl _ _ _ hP hD hS (lv_sub hl [1] rfl)
    · replace h := ifn c1 h
      refine lv_aload_n hx hb dX8_onSet_12 rfl (lv_at hl 0 rfl) ?_
      refine va_get (D := D) (ci := 8) (v := .ref q_th_sayings) (C := RX8) (T := TX8) (N := 11) hx hb hts hinX8 hown hK hP 0 rfl rfl 2 (by decide) (hts (.fieldLink RX8 27 "ChanceBounds" "sayings" "[LChanceBounds$Saying;") (by decide +kernel)) (fun _ h9 => h9) rfl dX8_onSet_13 ?_
      refine lv_iload_n hx hb dX8_onSet_16 rfl (lv_at hl 2 rfl) ?_
      obtain ⟨g2, h⟩ := gd_ok h
      refine va_aldq hx hb hK hP 1 2 rfl rfl g2 dX8_onSet_17 ?_
      refine va_getN (fs := [.int (th_sayings_e_x x2.toNatClampNeg), .int (th_sayings_e_y x2.toNatClampNeg), .int (th_sayings_e_from x2.toNatClampNeg), .int (th_sayings_e_to x2.toNatClampNeg), .int (th_sayings_e_isOn x2.toNatClampNeg)]) (D := D) (ci := 4) (v := .int (th_sayings_e_isOn x2.toNatClampNeg)) (C := RX4) (T := TX4) (N := 5) hx hb hts hinX4 hown hK hP (2 + x2.toNatClampNeg) (by have q9 := st_lt4 g2; revert q9; generalize x2.toNatClampNeg = k9; rintro (rfl | rfl | rfl | rfl) <;> rfl) rfl 4 (by decide) (va_Nw.use rfl (hN (.fieldLinkNest RX8 115 "ChanceBounds$Saying" "isOn" "I" "ChanceBounds") (by decide +kernel))) (fun _ h9 => h9) rfl dX8_onSet_18 ?_
      refine lv_iconst (v := (1 : Int32)) hx hb dX8_onSet_21 (by decide) ?_
      refine lv_icmp_ne (tgt := 31) hx hb dX8_onSet_22 (by decide) (fun c3 => ?_) (fun c3 => ?_)
      · replace h := ifn c3 h
        refine lv_iinc (v := x2 + 1) (lv' := [(2, .int (x2 + 1)), (0, .ref q_th), (1, .int x1)]) hx hb dX8_onSet_31 hl (k := 2) rfl rfl (by decide) rfl (fun ls hl => ?_)
        refine lv_goto (tgt := 4) hx hb dX8_onSet_34 (by decide) ?_
        cases h
        exact ih _ rfl _ _ _ hP hD hS (lv_sub hl [1, 2, 0] rfl)
      · replace h := ifp c3 h
        refine lv_iload_n hx hb dX8_onSet_25 rfl (lv_at hl 1 rfl) ?_
        refine lv_iconst (v := (1 : Int32)) hx hb dX8_onSet_26 (by decide) ?_
        refine lv_iload_n hx hb dX8_onSet_27 rfl (lv_at hl 2 rfl) ?_
        refine lv_ishl hx hb dX8_onSet_28 ?_
        refine lv_ior hx hb dX8_onSet_29 ?_
        refine lv_istore_n (lv' := [(1, .int (x1 ||| ((1 : Int32) <<< (x2 &&& 31)))), (0, .ref q_th), (2, .int x2)]) hx hb dX8_onSet_30 rfl hl (by decide) rfl (fun ls hl => ?_)
        refine lv_iinc (v := x2 + 1) (lv' := [(2, .int (x2 + 1)), (1, .int (x1 ||| ((1 : Int32) <<< (x2 &&& 31)))), (0, .ref q_th)]) hx hb dX8_onSet_31 hl (k := 2) rfl rfl (by decide) rfl (fun ls hl => ?_)
        refine lv_goto (tgt := 4) hx hb dX8_onSet_34 (by decide) ?_
        cases h
        exact ih _ rfl _ _ _ hP hD hS (lv_sub hl [2, 1, 0] rfl)
  unfold f_X8_onSet at h
  refine lv_iconst (v := (0 : Int32)) hx hb dX8_onSet_0 (by decide) ?_
  refine lv_istore_n (lv' := [(1, .int (0 : Int32)), (0, .ref q_th)]) hx hb dX8_onSet_1 rfl hl (by decide) rfl (fun ls hl => ?_)
  refine lv_iconst (v := (0 : Int32)) hx hb dX8_onSet_2 (by decide) ?_
  refine lv_istore_n (lv' := [(2, .int (0 : Int32)), (1, .int (0 : Int32)), (0, .ref q_th)]) hx hb dX8_onSet_3 rfl hl (by decide) rfl (fun ls hl => ?_)
  obtain ⟨z4_0, hl4, h⟩ := bd_ok h
  refine L4 () K _ _ hl4 ?_ _ _ _ hP hD hS (lv_sub hl [2, 1, 0] rfl)
  intro H locs ls hP hD hS hl
  refine lv_iload_n hx hb dX8_onSet_37 rfl (lv_at hl 0 rfl) ?_
  cases h
  exact st_iret hx hb hr hlocks hP hD hS dX8_onSet_38
def f_X8_tell (n_th_told_thousandths : Nat) (th_told_thousandths : Nat → Int32) (x1 : Int32) (x2 : Int32) : Option (Int32 × (Nat → Int32)) :=
  (f_X8_isWorld x1).bind fun z1_0 =>
  if z1_0 = (0 : Int32) then
    some ((-1 : Int32), th_told_thousandths)
  else
    if x2 < (0 : Int32) then
      some ((-1 : Int32), th_told_thousandths)
    else
      if x2 ≤ (1000 : Int32) then
        if x1 < 0 ∨ n_th_told_thousandths ≤ x1.toNatClampNeg then none else
        if x1 < 0 ∨ n_th_told_thousandths ≤ x1.toNatClampNeg then none else
        some (th_told_thousandths x1.toNatClampNeg, upd th_told_thousandths x1.toNatClampNeg x2)
      else
        some ((-1 : Int32), th_told_thousandths)
abbrev w_X8_tell (tc : Nat → ClassId) (q_th : Nat) (q_th_text : Nat) (q_th_reader : Nat) (q_th_sayings : Nat) (q_th_ladder : Nat) (q_th_told : Nat) (q_th_answer : Nat) (q_th_least : Nat) (q_th_greatest : Nat) (q_th_leastByAll : Nat) (q_th_greatestByAll : Nat) (q_th_told_thousandths : Nat) (n_th_told_thousandths : Nat) (th_many : Int32) (th_told_thousandths : Nat → Int32) : va_W := [(q_th, .inr (8, [.ref q_th_text, .ref q_th_reader, .ref q_th_sayings, .int th_many, .ref q_th_ladder, .ref q_th_told, .ref q_th_answer, .ref q_th_least, .ref q_th_greatest, .ref q_th_leastByAll, .ref q_th_greatestByAll])), (q_th_told, .inr (7, [.ref q_th_told_thousandths])), (q_th_told_thousandths, .inl (tc 0, n_th_told_thousandths, .inl th_told_thousandths))]
set_option maxHeartbeats 4000000 in
set_option maxRecDepth 100000 in
theorem s_X8_tell {l : Launch} {E : (Nat → Prop) → State → Prop} (hEok : st_Eok E) {D : va_G} {tc : Nat → ClassId} (q_th : Nat) (q_th_text : Nat) (q_th_reader : Nat) (q_th_sayings : Nat) (q_th_ladder : Nat) (q_th_told : Nat) (q_th_answer : Nat) (q_th_least : Nat) (q_th_greatest : Nat) (q_th_leastByAll : Nat) (q_th_greatestByAll : Nat) (q_th_told_thousandths : Nat) (n_th_told_thousandths : Nat) (th_many : Int32) (th_told_thousandths : Nat → Int32) (x1 : Int32) (x2 : Int32) (r0 : Int32) (th_told_thousandths' : Nat → Int32) (h : f_X8_tell n_th_told_thousandths th_told_thousandths x1 x2 = some (r0, th_told_thousandths')) : st l yX8_tell wsX8_tell ({ frames := 1, cells := 0, slots := 0, locals := 20 }) E D tc [.ref q_th, .int x1, .int x2] (w_X8_tell tc q_th q_th_text q_th_reader q_th_sayings q_th_ladder q_th_told q_th_answer q_th_least q_th_greatest q_th_leastByAll q_th_greatestByAll q_th_told_thousandths n_th_told_thousandths th_many th_told_thousandths) (some (.int r0)) (w_X8_tell tc q_th q_th_text q_th_reader q_th_sayings q_th_ladder q_th_told q_th_answer q_th_least q_th_greatest q_th_leastByAll q_th_greatestByAll q_th_told_thousandths n_th_told_thousandths th_many th_told_thousandths') := by
  refine st_enter (cc := cX8_tell) (maxL := 4) (ret := (some .int)) (by decide) rfl (Nat.le_of_ble_eq_true rfl) ?_
  intro p e s m below meth c A ls hx hb hr hml hts hown hlocks hK hN hE hA hP hD hS hl
  have hl : lv_has ls 4 [(0, .ref q_th), (1, .int x1), (2, .int x2)] := hl
  have hinX7 : ∀ w ∈ wsX70, w ∈ wsX8_tell := by decide +kernel
  have hinX8 : ∀ w ∈ wsX80, w ∈ wsX8_tell := by decide +kernel
  generalize hav : ([.ref q_th, .int x1, .int x2] : List Value).toArray = av at hts ⊢
  unfold f_X8_tell at h
  refine lv_iload_n hx hb dX8_tell_0 rfl (lv_at hl 1 rfl) ?_
  obtain ⟨z1_0, hc1, h⟩ := bd_ok h
  refine st_callS (As := [.int x1]) (rest := []) (pos := []) ⟨hx, hb, hml, hown, hts⟩ (s_X8_isWorld (l := l) (D := D) (tc := tc) hEok x1 z1_0 hc1) (va_cwS 1 hts gX8_tell_X8_isWorld rfl rfl rfl (by decide +kernel) ⟨Nat.le_of_ble_eq_true rfl, Nat.le_of_ble_eq_true rfl⟩) hEok hE hK hN hP hD hS hA rfl rfl rfl rfl hl.1 rfl (Nat.le_of_ble_eq_true rfl) dX8_tell_1 ⟨Nat.zero_le _, Nat.zero_le _⟩ (fun H locs hP hD hS => ?_)
  have hP : va_P D vwCl (w_X8_tell tc q_th q_th_text q_th_reader q_th_sayings q_th_ladder q_th_told q_th_answer q_th_least q_th_greatest q_th_leastByAll q_th_greatestByAll q_th_told_thousandths n_th_told_thousandths th_many th_told_thousandths) H := hP
  have hD : va_D A (w_X8_tell tc q_th q_th_text q_th_reader q_th_sayings q_th_ladder q_th_told q_th_answer q_th_least q_th_greatest q_th_leastByAll q_th_greatestByAll q_th_told_thousandths n_th_told_thousandths th_many th_told_thousandths) := hD
  refine lv_if_eq (tgt := 18) hx hb dX8_tell_4 (by decide) (fun c2 => ?_) (fun c2 => ?_)
  · replace h := ifp c2 h
    refine lv_iconst (v := (-1 : Int32)) hx hb dX8_tell_18 (by decide) ?_
    cases h
    exact st_iret hx hb hr hlocks hP hD hS dX8_tell_19
  · replace h := ifn c2 h
    refine lv_iload_n hx hb dX8_tell_7 rfl (lv_at hl 2 rfl) ?_
    refine lv_if_lt (tgt := 18) hx hb dX8_tell_8 (by decide) (fun c3 => ?_) (fun c3 => ?_)
    · replace h := ifp c3 h
      refine lv_iconst (v := (-1 : Int32)) hx hb dX8_tell_18 (by decide) ?_
      cases h
      exact st_iret hx hb hr hlocks hP hD hS dX8_tell_19
    · replace h := ifn c3 h
      refine lv_iload_n hx hb dX8_tell_11 rfl (lv_at hl 2 rfl) ?_
      refine lv_sipush (v := (1000 : Int32)) hx hb dX8_tell_12 (by decide) ?_
      refine lv_icmp_le (tgt := 20) hx hb dX8_tell_15 (by decide) (fun c4 => ?_) (fun c4 => ?_)
      · replace h := ifp c4 h
        refine lv_aload_n hx hb dX8_tell_20 rfl (lv_at hl 0 rfl) ?_
        refine va_get (D := D) (ci := 8) (v := .ref q_th_told) (C := RX8) (T := TX8) (N := 11) hx hb hts hinX8 hown hK hP 0 rfl rfl 5 (by decide) (hts (.fieldLink RX8 46 "ChanceBounds" "told" "LChanceBounds$ToldRow;") (by decide +kernel)) (fun _ h9 => h9) rfl dX8_tell_21 ?_
        refine va_getN (D := D) (ci := 7) (v := .ref q_th_told_thousandths) (C := RX7) (T := TX7) (N := 1) hx hb hts hinX7 hown hK hP 1 rfl rfl 0 (by decide) (va_Nw.use rfl (hN (.fieldLinkNest RX8 199 "ChanceBounds$ToldRow" "thousandths" "[I" "ChanceBounds") (by decide +kernel))) (fun _ h9 => h9) rfl dX8_tell_24 ?_
        refine lv_iload_n hx hb dX8_tell_27 rfl (lv_at hl 1 rfl) ?_
        obtain ⟨g5, h⟩ := gd_ok h
        refine va_iald hx hb hK hP 2 0 rfl rfl g5 dX8_tell_28 ?_
        refine lv_istore_n (lv' := [(3, .int (th_told_thousandths x1.toNatClampNeg)), (0, .ref q_th), (1, .int x1), (2, .int x2)]) hx hb dX8_tell_29 rfl hl (by decide) rfl (fun ls hl => ?_)
        refine lv_aload_n hx hb dX8_tell_30 rfl (lv_at hl 1 rfl) ?_
        refine va_get (D := D) (ci := 8) (v := .ref q_th_told) (C := RX8) (T := TX8) (N := 11) hx hb hts hinX8 hown hK hP 0 rfl rfl 5 (by decide) (hts (.fieldLink RX8 46 "ChanceBounds" "told" "LChanceBounds$ToldRow;") (by decide +kernel)) (fun _ h9 => h9) rfl dX8_tell_31 ?_
        refine va_getN (D := D) (ci := 7) (v := .ref q_th_told_thousandths) (C := RX7) (T := TX7) (N := 1) hx hb hts hinX7 hown hK hP 1 rfl rfl 0 (by decide) (va_Nw.use rfl (hN (.fieldLinkNest RX8 199 "ChanceBounds$ToldRow" "thousandths" "[I" "ChanceBounds") (by decide +kernel))) (fun _ h9 => h9) rfl dX8_tell_34 ?_
        refine lv_iload_n hx hb dX8_tell_37 rfl (lv_at hl 2 rfl) ?_
        refine lv_iload_n hx hb dX8_tell_38 rfl (lv_at hl 3 rfl) ?_
        obtain ⟨g6, h⟩ := gd_ok h
        refine va_iast hx hb hK hP hD hS 2 0 rfl rfl g6 dX8_tell_39 (fun H locs hP hD hS => ?_)
        have hP : va_P D vwCl (w_X8_tell tc q_th q_th_text q_th_reader q_th_sayings q_th_ladder q_th_told q_th_answer q_th_least q_th_greatest q_th_leastByAll q_th_greatestByAll q_th_told_thousandths n_th_told_thousandths th_many (upd th_told_thousandths x1.toNatClampNeg x2)) H := hP
        have hD : va_D A (w_X8_tell tc q_th q_th_text q_th_reader q_th_sayings q_th_ladder q_th_told q_th_answer q_th_least q_th_greatest q_th_leastByAll q_th_greatestByAll q_th_told_thousandths n_th_told_thousandths th_many (upd th_told_thousandths x1.toNatClampNeg x2)) := hD
        refine lv_iload_n hx hb dX8_tell_40 rfl (lv_at hl 0 rfl) ?_
        cases h
        exact st_iret hx hb hr hlocks hP hD hS dX8_tell_41
      · replace h := ifn c4 h
        refine lv_iconst (v := (-1 : Int32)) hx hb dX8_tell_18 (by decide) ?_
        cases h
        exact st_iret hx hb hr hlocks hP hD hS dX8_tell_19
def f_X8_check_L16 (K : Nat) (n_th_told_thousandths : Nat) (th_many : Int32) (th_sayings_e_x : Nat → Int32) (th_sayings_e_y : Nat → Int32) (th_sayings_e_from : Nat → Int32) (th_sayings_e_to : Nat → Int32) (th_sayings_e_isOn : Nat → Int32) (th_told_thousandths : Nat → Int32) (s16 : Int32 × Int32) : Option ((Int32) ⊕ (Int32 × Int32)) :=
  match s16 with
  | (x1, x2) =>
    if th_many ≤ x2 then
      some (.inl x1)
    else
      if x2 < 0 ∨ 4 ≤ x2.toNatClampNeg then none else
      if (th_sayings_e_isOn x2.toNatClampNeg) = (1 : Int32) then
        if x2 < 0 ∨ 4 ≤ x2.toNatClampNeg then none else
        (f_X7_keeps K n_th_told_thousandths th_told_thousandths (th_sayings_e_x x2.toNatClampNeg) (th_sayings_e_y x2.toNatClampNeg) (th_sayings_e_from x2.toNatClampNeg) (th_sayings_e_to x2.toNatClampNeg)).bind fun z5_0 =>
        if z5_0 = (0 : Int32) then
          some (.inr (x1 + 1, x2 + 1))
        else
          some (.inr (x1, x2 + 1))
      else
        some (.inr (x1, x2 + 1))
def f_X8_check (K : Nat) (n_th_told_thousandths : Nat) (th_many : Int32) (th_sayings_e_x : Nat → Int32) (th_sayings_e_y : Nat → Int32) (th_sayings_e_from : Nat → Int32) (th_sayings_e_to : Nat → Int32) (th_sayings_e_isOn : Nat → Int32) (th_told_thousandths : Nat → Int32) : Option (Int32) :=
  (f_X7_isWhole K n_th_told_thousandths th_told_thousandths).bind fun z7_0 =>
  if z7_0 = (0 : Int32) then
    some (-1 : Int32)
  else
    (lp (f_X8_check_L16 K n_th_told_thousandths th_many th_sayings_e_x th_sayings_e_y th_sayings_e_from th_sayings_e_to th_sayings_e_isOn th_told_thousandths) K ((0 : Int32), (0 : Int32))).bind fun z9_0 =>
    some z9_0
abbrev w_X8_check (tc : Nat → ClassId) (q_th : Nat) (q_th_text : Nat) (q_th_reader : Nat) (q_th_sayings : Nat) (q_th_ladder : Nat) (q_th_told : Nat) (q_th_answer : Nat) (q_th_least : Nat) (q_th_greatest : Nat) (q_th_leastByAll : Nat) (q_th_greatestByAll : Nat) (q_th_sayings_e : Nat → Nat) (q_th_told_thousandths : Nat) (n_th_told_thousandths : Nat) (th_many : Int32) (th_sayings_e_x : Nat → Int32) (th_sayings_e_y : Nat → Int32) (th_sayings_e_from : Nat → Int32) (th_sayings_e_to : Nat → Int32) (th_sayings_e_isOn : Nat → Int32) (th_told_thousandths : Nat → Int32) : va_W := [(q_th, .inr (8, [.ref q_th_text, .ref q_th_reader, .ref q_th_sayings, .int th_many, .ref q_th_ladder, .ref q_th_told, .ref q_th_answer, .ref q_th_least, .ref q_th_greatest, .ref q_th_leastByAll, .ref q_th_greatestByAll])), (q_th_sayings, .inl (tc 2, 4, .inr (.inr (.inr (.inr (fun j => some (q_th_sayings_e j))))))), ((q_th_sayings_e 0), .inr (4, [.int (th_sayings_e_x 0), .int (th_sayings_e_y 0), .int (th_sayings_e_from 0), .int (th_sayings_e_to 0), .int (th_sayings_e_isOn 0)])), ((q_th_sayings_e 1), .inr (4, [.int (th_sayings_e_x 1), .int (th_sayings_e_y 1), .int (th_sayings_e_from 1), .int (th_sayings_e_to 1), .int (th_sayings_e_isOn 1)])), ((q_th_sayings_e 2), .inr (4, [.int (th_sayings_e_x 2), .int (th_sayings_e_y 2), .int (th_sayings_e_from 2), .int (th_sayings_e_to 2), .int (th_sayings_e_isOn 2)])), ((q_th_sayings_e 3), .inr (4, [.int (th_sayings_e_x 3), .int (th_sayings_e_y 3), .int (th_sayings_e_from 3), .int (th_sayings_e_to 3), .int (th_sayings_e_isOn 3)])), (q_th_told, .inr (7, [.ref q_th_told_thousandths])), (q_th_told_thousandths, .inl (tc 0, n_th_told_thousandths, .inl th_told_thousandths))]
set_option maxHeartbeats 4000000 in
set_option maxRecDepth 100000 in
theorem s_X8_check {l : Launch} {E : (Nat → Prop) → State → Prop} (hEok : st_Eok E) {D : va_G} {tc : Nat → ClassId} (q_th : Nat) (q_th_text : Nat) (q_th_reader : Nat) (q_th_sayings : Nat) (q_th_ladder : Nat) (q_th_told : Nat) (q_th_answer : Nat) (q_th_least : Nat) (q_th_greatest : Nat) (q_th_leastByAll : Nat) (q_th_greatestByAll : Nat) (q_th_sayings_e : Nat → Nat) (q_th_told_thousandths : Nat) (n_th_told_thousandths : Nat) (th_many : Int32) (th_sayings_e_x : Nat → Int32) (th_sayings_e_y : Nat → Int32) (th_sayings_e_from : Nat → Int32) (th_sayings_e_to : Nat → Int32) (th_sayings_e_isOn : Nat → Int32) (th_told_thousandths : Nat → Int32) (K : Nat) (r0 : Int32) (h : f_X8_check K n_th_told_thousandths th_many th_sayings_e_x th_sayings_e_y th_sayings_e_from th_sayings_e_to th_sayings_e_isOn th_told_thousandths = some r0) : st l yX8_check wsX8_check ({ frames := 3, cells := 0, slots := 0, locals := 69 }) E D tc [.ref q_th] (w_X8_check tc q_th q_th_text q_th_reader q_th_sayings q_th_ladder q_th_told q_th_answer q_th_least q_th_greatest q_th_leastByAll q_th_greatestByAll q_th_sayings_e q_th_told_thousandths n_th_told_thousandths th_many th_sayings_e_x th_sayings_e_y th_sayings_e_from th_sayings_e_to th_sayings_e_isOn th_told_thousandths) (some (.int r0)) (w_X8_check tc q_th q_th_text q_th_reader q_th_sayings q_th_ladder q_th_told q_th_answer q_th_least q_th_greatest q_th_leastByAll q_th_greatestByAll q_th_sayings_e q_th_told_thousandths n_th_told_thousandths th_many th_sayings_e_x th_sayings_e_y th_sayings_e_from th_sayings_e_to th_sayings_e_isOn th_told_thousandths) := by
  refine st_enter (cc := cX8_check) (maxL := 3) (ret := (some .int)) (by decide) rfl (Nat.le_of_ble_eq_true rfl) ?_
  intro p e s m below meth c A ls hx hb hr hml hts hown hlocks hK hN hE hA hP hD hS hl
  have hl : lv_has ls 3 [(0, .ref q_th)] := hl
  have hinX4 : ∀ w ∈ wsX40, w ∈ wsX8_check := by decide +kernel
  have hinX8 : ∀ w ∈ wsX80, w ∈ wsX8_check := by decide +kernel
  generalize hav : ([.ref q_th] : List Value).toArray = av at hts ⊢
  have L16 : ∀ (_ : Unit), ∀ (k : Nat) (s16 : Int32 × Int32) (r : Int32), lp (f_X8_check_L16 K n_th_told_thousandths th_many th_sayings_e_x th_sayings_e_y th_sayings_e_from th_sayings_e_to th_sayings_e_isOn th_told_thousandths) k s16 = some r → (fun x1 : Int32 => ∀ (H : Heap) (locs : List Loc) (ls : Array Slot), va_P D vwCl (w_X8_check tc q_th q_th_text q_th_reader q_th_sayings q_th_ladder q_th_told q_th_answer q_th_least q_th_greatest q_th_leastByAll q_th_greatestByAll q_th_sayings_e q_th_told_thousandths n_th_told_thousandths th_many th_sayings_e_x th_sayings_e_y th_sayings_e_from th_sayings_e_to th_sayings_e_isOn th_told_thousandths) H → va_D A (w_X8_check tc q_th q_th_text q_th_reader q_th_sayings q_th_ladder q_th_told q_th_answer q_th_least q_th_greatest q_th_leastByAll q_th_greatestByAll q_th_sayings_e q_th_told_thousandths n_th_told_thousandths th_many th_sayings_e_x th_sayings_e_y th_sayings_e_from th_sayings_e_to th_sayings_e_isOn th_told_thousandths) → va_S A s.heap H locs → lv_has ls 3 [(1, .int x1)] → W p l e ({ frames := 3, cells := 0, slots := 0, locals := 69 } : Room) s m av below meth c H locs 0 0 (MQ below (st_Q D (w_X8_check tc q_th q_th_text q_th_reader q_th_sayings q_th_ladder q_th_told q_th_answer q_th_least q_th_greatest q_th_leastByAll q_th_greatestByAll q_th_sayings_e q_th_told_thousandths n_th_told_thousandths th_many th_sayings_e_x th_sayings_e_y th_sayings_e_from th_sayings_e_to th_sayings_e_isOn th_told_thousandths) (some (.int r0)) A) av s 0 0 A) (F0 m 62 ls [])) r → (fun s16 : Int32 × Int32 => match s16 with | (x1, x2) => ∀ (H : Heap) (locs : List Loc) (ls : Array Slot), va_P D vwCl (w_X8_check tc q_th q_th_text q_th_reader q_th_sayings q_th_ladder q_th_told q_th_answer q_th_least q_th_greatest q_th_leastByAll q_th_greatestByAll q_th_sayings_e q_th_told_thousandths n_th_told_thousandths th_many th_sayings_e_x th_sayings_e_y th_sayings_e_from th_sayings_e_to th_sayings_e_isOn th_told_thousandths) H → va_D A (w_X8_check tc q_th q_th_text q_th_reader q_th_sayings q_th_ladder q_th_told q_th_answer q_th_least q_th_greatest q_th_leastByAll q_th_greatestByAll q_th_sayings_e q_th_told_thousandths n_th_told_thousandths th_many th_sayings_e_x th_sayings_e_y th_sayings_e_from th_sayings_e_to th_sayings_e_isOn th_told_thousandths) → va_S A s.heap H locs → lv_has ls 3 [(0, .ref q_th), (1, .int x1), (2, .int x2)] → W p l e ({ frames := 3, cells := 0, slots := 0, locals := 69 } : Room) s m av below meth c H locs 0 0 (MQ below (st_Q D (w_X8_check tc q_th q_th_text q_th_reader q_th_sayings q_th_ladder q_th_told q_th_answer q_th_least q_th_greatest q_th_leastByAll q_th_greatestByAll q_th_sayings_e q_th_told_thousandths n_th_told_thousandths th_many th_sayings_e_x th_sayings_e_y th_sayings_e_from th_sayings_e_to th_sayings_e_isOn th_told_thousandths) (some (.int r0)) A) av s 0 0 A) (F0 m 16 ls [])) s16 := by
    intro _
    refine lp_W (f_X8_check_L16 K n_th_told_thousandths th_many th_sayings_e_x th_sayings_e_y th_sayings_e_from th_sayings_e_to th_sayings_e_isOn th_told_thousandths) (fun s16 : Int32 × Int32 => match s16 with | (x1, x2) => ∀ (H : Heap) (locs : List Loc) (ls : Array Slot), va_P D vwCl (w_X8_check tc q_th q_th_text q_th_reader q_th_sayings q_th_ladder q_th_told q_th_answer q_th_least q_th_greatest q_th_leastByAll q_th_greatestByAll q_th_sayings_e q_th_told_thousandths n_th_told_thousandths th_many th_sayings_e_x th_sayings_e_y th_sayings_e_from th_sayings_e_to th_sayings_e_isOn th_told_thousandths) H → va_D A (w_X8_check tc q_th q_th_text q_th_reader q_th_sayings q_th_ladder q_th_told q_th_answer q_th_least q_th_greatest q_th_leastByAll q_th_greatestByAll q_th_sayings_e q_th_told_thousandths n_th_told_thousandths th_many th_sayings_e_x th_sayings_e_y th_sayings_e_from th_sayings_e_to th_sayings_e_isOn th_told_thousandths) → va_S A s.heap H locs → lv_has ls 3 [(0, .ref q_th), (1, .int x1), (2, .int x2)] → W p l e ({ frames := 3, cells := 0, slots := 0, locals := 69 } : Room) s m av below meth c H locs 0 0 (MQ below (st_Q D (w_X8_check tc q_th q_th_text q_th_reader q_th_sayings q_th_ladder q_th_told q_th_answer q_th_least q_th_greatest q_th_leastByAll q_th_greatestByAll q_th_sayings_e q_th_told_thousandths n_th_told_thousandths th_many th_sayings_e_x th_sayings_e_y th_sayings_e_from th_sayings_e_to th_sayings_e_isOn th_told_thousandths) (some (.int r0)) A) av s 0 0 A) (F0 m 16 ls [])) (fun x1 : Int32 => ∀ (H : Heap) (locs : List Loc) (ls : Array Slot), va_P D vwCl (w_X8_check tc q_th q_th_text q_th_reader q_th_sayings q_th_ladder q_th_told q_th_answer q_th_least q_th_greatest q_th_leastByAll q_th_greatestByAll q_th_sayings_e q_th_told_thousandths n_th_told_thousandths th_many th_sayings_e_x th_sayings_e_y th_sayings_e_from th_sayings_e_to th_sayings_e_isOn th_told_thousandths) H → va_D A (w_X8_check tc q_th q_th_text q_th_reader q_th_sayings q_th_ladder q_th_told q_th_answer q_th_least q_th_greatest q_th_leastByAll q_th_greatestByAll q_th_sayings_e q_th_told_thousandths n_th_told_thousandths th_many th_sayings_e_x th_sayings_e_y th_sayings_e_from th_sayings_e_to th_sayings_e_isOn th_told_thousandths) → va_S A s.heap H locs → lv_has ls 3 [(1, .int x1)] → W p l e ({ frames := 3, cells := 0, slots := 0, locals := 69 } : Room) s m av below meth c H locs 0 0 (MQ below (st_Q D (w_X8_check tc q_th q_th_text q_th_reader q_th_sayings q_th_ladder q_th_told q_th_answer q_th_least q_th_greatest q_th_leastByAll q_th_greatestByAll q_th_sayings_e q_th_told_thousandths n_th_told_thousandths th_many th_sayings_e_x th_sayings_e_y th_sayings_e_from th_sayings_e_to th_sayings_e_isOn th_told_thousandths) (some (.int r0)) A) av s 0 0 A) (F0 m 62 ls [])) ?_
    rintro ⟨x1, x2⟩ o h ih hz H locs ls hP hD hS hl
    unfold f_X8_check_L16 at h
    refine lv_iload_n hx hb dX8_check_16 rfl (lv_at hl 2 rfl) ?_
    refine lv_aload_n hx hb dX8_check_17 rfl (lv_at hl 0 rfl) ?_
    refine va_get (D := D) (ci := 8) (v := .int th_many) (C := RX8) (T := TX8) (N := 11) hx hb hts hinX8 hown hK hP 0 rfl rfl 3 (by decide) (hts (.fieldLink RX8 32 "ChanceBounds" "many" "I") (by decide +kernel)) (fun _ h9 => h9) rfl dX8_check_18 ?_
    refine lv_icmp_ge (tgt := 62) hx hb dX8_check_21 (by decide) (fun c1 => ?_) (fun c1 => ?_)
    · replace h := ifp c1 h
      cases h
      exact hz _ rfl _ _ _ hP hD hS (lv_sub hl [1] rfl)
    · replace h := ifn c1 h
      refine lv_aload_n hx hb dX8_check_24 rfl (lv_at hl 0 rfl) ?_
      refine va_get (D := D) (ci := 8) (v := .ref q_th_sayings) (C := RX8) (T := TX8) (N := 11) hx hb hts hinX8 hown hK hP 0 rfl rfl 2 (by decide) (hts (.fieldLink RX8 27 "ChanceBounds" "sayings" "[LChanceBounds$Saying;") (by decide +kernel)) (fun _ h9 => h9) rfl dX8_check_25 ?_
      refine lv_iload_n hx hb dX8_check_28 rfl (lv_at hl 2 rfl) ?_
      obtain ⟨g2, h⟩ := gd_ok h
      refine va_aldq hx hb hK hP 1 2 rfl rfl g2 dX8_check_29 ?_
      refine va_getN (fs := [.int (th_sayings_e_x x2.toNatClampNeg), .int (th_sayings_e_y x2.toNatClampNeg), .int (th_sayings_e_from x2.toNatClampNeg), .int (th_sayings_e_to x2.toNatClampNeg), .int (th_sayings_e_isOn x2.toNatClampNeg)]) (D := D) (ci := 4) (v := .int (th_sayings_e_isOn x2.toNatClampNeg)) (C := RX4) (T := TX4) (N := 5) hx hb hts hinX4 hown hK hP (2 + x2.toNatClampNeg) (by have q9 := st_lt4 g2; revert q9; generalize x2.toNatClampNeg = k9; rintro (rfl | rfl | rfl | rfl) <;> rfl) rfl 4 (by decide) (va_Nw.use rfl (hN (.fieldLinkNest RX8 115 "ChanceBounds$Saying" "isOn" "I" "ChanceBounds") (by decide +kernel))) (fun _ h9 => h9) rfl dX8_check_30 ?_
      refine lv_iconst (v := (1 : Int32)) hx hb dX8_check_33 (by decide) ?_
      refine lv_icmp_ne (tgt := 56) hx hb dX8_check_34 (by decide) (fun c3 => ?_) (fun c3 => ?_)
      · replace h := ifn c3 h
        refine lv_iinc (v := x2 + 1) (lv' := [(2, .int (x2 + 1)), (0, .ref q_th), (1, .int x1)]) hx hb dX8_check_56 hl (k := 2) rfl rfl (by decide) rfl (fun ls hl => ?_)
        refine lv_goto (tgt := 16) hx hb dX8_check_59 (by decide) ?_
        cases h
        exact ih _ rfl _ _ _ hP hD hS (lv_sub hl [1, 2, 0] rfl)
      · replace h := ifp c3 h
        refine lv_aload_n hx hb dX8_check_37 rfl (lv_at hl 0 rfl) ?_
        refine va_get (D := D) (ci := 8) (v := .ref q_th_told) (C := RX8) (T := TX8) (N := 11) hx hb hts hinX8 hown hK hP 0 rfl rfl 5 (by decide) (hts (.fieldLink RX8 46 "ChanceBounds" "told" "LChanceBounds$ToldRow;") (by decide +kernel)) (fun _ h9 => h9) rfl dX8_check_38 ?_
        refine lv_aload_n hx hb dX8_check_41 rfl (lv_at hl 0 rfl) ?_
        refine va_get (D := D) (ci := 8) (v := .ref q_th_sayings) (C := RX8) (T := TX8) (N := 11) hx hb hts hinX8 hown hK hP 0 rfl rfl 2 (by decide) (hts (.fieldLink RX8 27 "ChanceBounds" "sayings" "[LChanceBounds$Saying;") (by decide +kernel)) (fun _ h9 => h9) rfl dX8_check_42 ?_
        refine lv_iload_n hx hb dX8_check_45 rfl (lv_at hl 2 rfl) ?_
        obtain ⟨g4, h⟩ := gd_ok h
        refine va_aldq hx hb hK hP 1 2 rfl rfl g4 dX8_check_46 ?_
        obtain ⟨z5_0, hc5, h⟩ := bd_ok h
        refine st_callV (As := [.ref (q_th_sayings_e x2.toNatClampNeg)]) (rest := []) (pos := [6, 7, (2 + x2.toNatClampNeg)]) ⟨hx, hb, hml, hown, hts⟩ (s_X7_keeps (l := l) (D := D) (tc := tc) hEok q_th_told q_th_told_thousandths (q_th_sayings_e x2.toNatClampNeg) n_th_told_thousandths th_told_thousandths (th_sayings_e_x x2.toNatClampNeg) (th_sayings_e_y x2.toNatClampNeg) (th_sayings_e_from x2.toNatClampNeg) (th_sayings_e_to x2.toNatClampNeg) (th_sayings_e_isOn x2.toNatClampNeg) K z5_0 hc5) (cwV 1 hts gX8_check_X7_keeps rfl rfl rfl (by decide +kernel) ⟨Nat.le_of_ble_eq_true rfl, Nat.le_of_ble_eq_true rfl⟩) (st_recv (ci := 7) (q0 := 6) hK hP rfl rfl) hEok hE hK hN hP hD hS hA (by have q9 := st_lt4 g4; revert q9; generalize x2.toNatClampNeg = k9; rintro (rfl | rfl | rfl | rfl) <;> rfl) (by have q9 := st_lt4 g4; revert q9; generalize x2.toNatClampNeg = k9; rintro (rfl | rfl | rfl | rfl) <;> rfl) rfl rfl hl.1 rfl (Nat.le_of_ble_eq_true rfl) dX8_check_47 ⟨Nat.zero_le _, Nat.zero_le _⟩ (fun H locs hP hD hS => ?_)
        have hP : va_P D vwCl (w_X8_check tc q_th q_th_text q_th_reader q_th_sayings q_th_ladder q_th_told q_th_answer q_th_least q_th_greatest q_th_leastByAll q_th_greatestByAll q_th_sayings_e q_th_told_thousandths n_th_told_thousandths th_many th_sayings_e_x th_sayings_e_y th_sayings_e_from th_sayings_e_to th_sayings_e_isOn th_told_thousandths) H := by
          have q9 := st_lt4 g4; revert q9 hP; generalize x2.toNatClampNeg = k9; rintro hP (rfl | rfl | rfl | rfl) <;> exact hP
        have hD : va_D A (w_X8_check tc q_th q_th_text q_th_reader q_th_sayings q_th_ladder q_th_told q_th_answer q_th_least q_th_greatest q_th_leastByAll q_th_greatestByAll q_th_sayings_e q_th_told_thousandths n_th_told_thousandths th_many th_sayings_e_x th_sayings_e_y th_sayings_e_from th_sayings_e_to th_sayings_e_isOn th_told_thousandths) := by
          have q9 := st_lt4 g4; revert q9 hD; generalize x2.toNatClampNeg = k9; rintro hD (rfl | rfl | rfl | rfl) <;> exact hD
        refine lv_if_ne (tgt := 56) hx hb dX8_check_50 (by decide) (fun c6 => ?_) (fun c6 => ?_)
        · replace h := ifn c6 h
          refine lv_iinc (v := x2 + 1) (lv' := [(2, .int (x2 + 1)), (0, .ref q_th), (1, .int x1)]) hx hb dX8_check_56 hl (k := 2) rfl rfl (by decide) rfl (fun ls hl => ?_)
          refine lv_goto (tgt := 16) hx hb dX8_check_59 (by decide) ?_
          cases h
          exact ih _ rfl _ _ _ hP hD hS (lv_sub hl [1, 2, 0] rfl)
        · replace h := ifp c6 h
          refine lv_iinc (v := x1 + 1) (lv' := [(1, .int (x1 + 1)), (0, .ref q_th), (2, .int x2)]) hx hb dX8_check_53 hl (k := 1) rfl rfl (by decide) rfl (fun ls hl => ?_)
          refine lv_iinc (v := x2 + 1) (lv' := [(2, .int (x2 + 1)), (1, .int (x1 + 1)), (0, .ref q_th)]) hx hb dX8_check_56 hl (k := 2) rfl rfl (by decide) rfl (fun ls hl => ?_)
          refine lv_goto (tgt := 16) hx hb dX8_check_59 (by decide) ?_
          cases h
          exact ih _ rfl _ _ _ hP hD hS (lv_sub hl [2, 1, 0] rfl)
  unfold f_X8_check at h
  refine lv_aload_n hx hb dX8_check_0 rfl (lv_at hl 0 rfl) ?_
  refine va_get (D := D) (ci := 8) (v := .ref q_th_told) (C := RX8) (T := TX8) (N := 11) hx hb hts hinX8 hown hK hP 0 rfl rfl 5 (by decide) (hts (.fieldLink RX8 46 "ChanceBounds" "told" "LChanceBounds$ToldRow;") (by decide +kernel)) (fun _ h9 => h9) rfl dX8_check_1 ?_
  obtain ⟨z7_0, hc7, h⟩ := bd_ok h
  refine st_callV (As := []) (rest := []) (pos := [6, 7]) ⟨hx, hb, hml, hown, hts⟩ (s_X7_isWhole (l := l) (D := D) (tc := tc) hEok q_th_told q_th_told_thousandths n_th_told_thousandths th_told_thousandths K z7_0 hc7) (cwV 0 hts gX8_check_X7_isWhole rfl rfl rfl (by decide +kernel) ⟨Nat.le_of_ble_eq_true rfl, Nat.le_of_ble_eq_true rfl⟩) (st_recv (ci := 7) (q0 := 6) hK hP rfl rfl) hEok hE hK hN hP hD hS hA rfl rfl rfl rfl hl.1 rfl (Nat.le_of_ble_eq_true rfl) dX8_check_4 ⟨Nat.zero_le _, Nat.zero_le _⟩ (fun H locs hP hD hS => ?_)
  have hP : va_P D vwCl (w_X8_check tc q_th q_th_text q_th_reader q_th_sayings q_th_ladder q_th_told q_th_answer q_th_least q_th_greatest q_th_leastByAll q_th_greatestByAll q_th_sayings_e q_th_told_thousandths n_th_told_thousandths th_many th_sayings_e_x th_sayings_e_y th_sayings_e_from th_sayings_e_to th_sayings_e_isOn th_told_thousandths) H := hP
  have hD : va_D A (w_X8_check tc q_th q_th_text q_th_reader q_th_sayings q_th_ladder q_th_told q_th_answer q_th_least q_th_greatest q_th_leastByAll q_th_greatestByAll q_th_sayings_e q_th_told_thousandths n_th_told_thousandths th_many th_sayings_e_x th_sayings_e_y th_sayings_e_from th_sayings_e_to th_sayings_e_isOn th_told_thousandths) := hD
  refine lv_if_ne (tgt := 12) hx hb dX8_check_7 (by decide) (fun c8 => ?_) (fun c8 => ?_)
  · replace h := ifn c8 h
    refine lv_iconst (v := (0 : Int32)) hx hb dX8_check_12 (by decide) ?_
    refine lv_istore_n (lv' := [(1, .int (0 : Int32)), (0, .ref q_th)]) hx hb dX8_check_13 rfl hl (by decide) rfl (fun ls hl => ?_)
    refine lv_iconst (v := (0 : Int32)) hx hb dX8_check_14 (by decide) ?_
    refine lv_istore_n (lv' := [(2, .int (0 : Int32)), (1, .int (0 : Int32)), (0, .ref q_th)]) hx hb dX8_check_15 rfl hl (by decide) rfl (fun ls hl => ?_)
    obtain ⟨z9_0, hl9, h⟩ := bd_ok h
    refine L16 () K _ _ hl9 ?_ _ _ _ hP hD hS (lv_sub hl [2, 1, 0] rfl)
    intro H locs ls hP hD hS hl
    refine lv_iload_n hx hb dX8_check_62 rfl (lv_at hl 0 rfl) ?_
    cases h
    exact st_iret hx hb hr hlocks hP hD hS dX8_check_63
  · replace h := ifp c8 h
    refine lv_iconst (v := (-1 : Int32)) hx hb dX8_check_10 (by decide) ?_
    cases h
    exact st_iret hx hb hr hlocks hP hD hS dX8_check_11
def f_X8_pull_J71 (K : Nat) (th_answer_upper : Int64) (th_answer_lower : Int64) (x3 : Int32) : Option (Int64 × Int64 × Int64) :=
  (f_X1_inLeastTerms K th_answer_upper th_answer_lower x3).bind fun z1_0 =>
  some (z1_0, th_answer_upper, th_answer_lower)
def f_X8_pull (K : Nat) (n_th_told_thousandths : Nat) (th_told_thousandths : Nat → Int32) (th_answer_upper : Int64) (th_answer_lower : Int64) (x1 : Int32) (x2 : Int32) (x3 : Int32) : Option (Int64 × Int64 × Int64) :=
  (f_X8_isThing x1).bind fun z2_0 =>
  if z2_0 = (0 : Int32) then
    some ((-1000000000000000000 : Int64), th_answer_upper, th_answer_lower)
  else
    (f_X8_isWorld x2).bind fun z4_0 =>
    if z4_0 = (0 : Int32) then
      some ((-1000000000000000000 : Int64), th_answer_upper, th_answer_lower)
    else
      (f_X8_isZeroOrOne x3).bind fun z6_0 =>
      if z6_0 = (0 : Int32) then
        some ((-1000000000000000000 : Int64), th_answer_upper, th_answer_lower)
      else
        (f_X1_forget).bind fun z8 => match z8 with
        | (z8_0, z8_1) =>
          (f_X7_isWhole K n_th_told_thousandths th_told_thousandths).bind fun z9_0 =>
          if z9_0 = (0 : Int32) then
            f_X8_pull_J71 K z8_0 z8_1 x3
          else
            (f_X7_chance K n_th_told_thousandths th_told_thousandths (x1 &&& ((1 : Int32) <<< (x2 &&& 31)))).bind fun z11_0 =>
            (f_X7_chance K n_th_told_thousandths th_told_thousandths x1).bind fun z12_0 =>
            (f_X1_set z11_0.toInt64 z12_0.toInt64).bind fun z13 => match z13 with
            | (z13_0, z13_1) =>
              f_X8_pull_J71 K z13_0 z13_1 x3
abbrev w_X8_pull (tc : Nat → ClassId) (q_th : Nat) (q_th_text : Nat) (q_th_reader : Nat) (q_th_sayings : Nat) (q_th_ladder : Nat) (q_th_told : Nat) (q_th_answer : Nat) (q_th_least : Nat) (q_th_greatest : Nat) (q_th_leastByAll : Nat) (q_th_greatestByAll : Nat) (q_th_told_thousandths : Nat) (n_th_told_thousandths : Nat) (th_many : Int32) (th_told_thousandths : Nat → Int32) (th_answer_upper : Int64) (th_answer_lower : Int64) : va_W := [(q_th, .inr (8, [.ref q_th_text, .ref q_th_reader, .ref q_th_sayings, .int th_many, .ref q_th_ladder, .ref q_th_told, .ref q_th_answer, .ref q_th_least, .ref q_th_greatest, .ref q_th_leastByAll, .ref q_th_greatestByAll])), (q_th_told, .inr (7, [.ref q_th_told_thousandths])), (q_th_told_thousandths, .inl (tc 0, n_th_told_thousandths, .inl th_told_thousandths)), (q_th_answer, .inr (1, [.long th_answer_upper, .long th_answer_lower]))]
set_option maxHeartbeats 4000000 in
set_option maxRecDepth 100000 in
theorem s_X8_pull {l : Launch} {E : (Nat → Prop) → State → Prop} (hEok : st_Eok E) {D : va_G} {tc : Nat → ClassId} (q_th : Nat) (q_th_text : Nat) (q_th_reader : Nat) (q_th_sayings : Nat) (q_th_ladder : Nat) (q_th_told : Nat) (q_th_answer : Nat) (q_th_least : Nat) (q_th_greatest : Nat) (q_th_leastByAll : Nat) (q_th_greatestByAll : Nat) (q_th_told_thousandths : Nat) (n_th_told_thousandths : Nat) (th_many : Int32) (th_told_thousandths : Nat → Int32) (th_answer_upper : Int64) (th_answer_lower : Int64) (x1 : Int32) (x2 : Int32) (x3 : Int32) (K : Nat) (r0 : Int64) (th_answer_upper' : Int64) (th_answer_lower' : Int64) (h : f_X8_pull K n_th_told_thousandths th_told_thousandths th_answer_upper th_answer_lower x1 x2 x3 = some (r0, th_answer_upper', th_answer_lower')) : st l yX8_pull wsX8_pull ({ frames := 3, cells := 0, slots := 0, locals := 64 }) E D tc [.ref q_th, .int x1, .int x2, .int x3] (w_X8_pull tc q_th q_th_text q_th_reader q_th_sayings q_th_ladder q_th_told q_th_answer q_th_least q_th_greatest q_th_leastByAll q_th_greatestByAll q_th_told_thousandths n_th_told_thousandths th_many th_told_thousandths th_answer_upper th_answer_lower) (some (.long r0)) (w_X8_pull tc q_th q_th_text q_th_reader q_th_sayings q_th_ladder q_th_told q_th_answer q_th_least q_th_greatest q_th_leastByAll q_th_greatestByAll q_th_told_thousandths n_th_told_thousandths th_many th_told_thousandths th_answer_upper' th_answer_lower') := by
  refine st_enter (cc := cX8_pull) (maxL := 4) (ret := (some .long)) (by decide) rfl (Nat.le_of_ble_eq_true rfl) ?_
  intro p e s m below meth c A ls hx hb hr hml hts hown hlocks hK hN hE hA hP hD hS hl
  have hl : lv_has ls 4 [(0, .ref q_th), (1, .int x1), (2, .int x2), (3, .int x3)] := hl
  have hinX8 : ∀ w ∈ wsX80, w ∈ wsX8_pull := by decide +kernel
  generalize hav : ([.ref q_th, .int x1, .int x2, .int x3] : List Value).toArray = av at hts ⊢
  have J71 : ∀ (x3 : Int32) (th_answer_upper : Int64) (th_answer_lower : Int64) (H : Heap) (locs : List Loc) (ls : Array Slot), f_X8_pull_J71 K th_answer_upper th_answer_lower x3 = some (r0, th_answer_upper', th_answer_lower') → va_P D vwCl (w_X8_pull tc q_th q_th_text q_th_reader q_th_sayings q_th_ladder q_th_told q_th_answer q_th_least q_th_greatest q_th_leastByAll q_th_greatestByAll q_th_told_thousandths n_th_told_thousandths th_many th_told_thousandths th_answer_upper th_answer_lower) H → va_D A (w_X8_pull tc q_th q_th_text q_th_reader q_th_sayings q_th_ladder q_th_told q_th_answer q_th_least q_th_greatest q_th_leastByAll q_th_greatestByAll q_th_told_thousandths n_th_told_thousandths th_many th_told_thousandths th_answer_upper th_answer_lower) → va_S A s.heap H locs → lv_has ls 4 [(0, .ref q_th), (3, .int x3)] → W p l e ({ frames := 3, cells := 0, slots := 0, locals := 64 } : Room) s m av below meth c H locs 0 0 (MQ below (st_Q D (w_X8_pull tc q_th q_th_text q_th_reader q_th_sayings q_th_ladder q_th_told q_th_answer q_th_least q_th_greatest q_th_leastByAll q_th_greatestByAll q_th_told_thousandths n_th_told_thousandths th_many th_told_thousandths th_answer_upper' th_answer_lower') (some (.long r0)) A) av s 0 0 A) (F0 m 71 ls []) := by
    intro x3 th_answer_upper th_answer_lower H locs ls h hP hD hS hl
    unfold f_X8_pull_J71 at h
    refine lv_aload_n hx hb dX8_pull_71 rfl (lv_at hl 0 rfl) ?_
    refine va_get (D := D) (ci := 8) (v := .ref q_th_answer) (C := RX8) (T := TX8) (N := 11) hx hb hts hinX8 hown hK hP 0 rfl rfl 6 (by decide) (hts (.fieldLink RX8 53 "ChanceBounds" "answer" "LChanceBounds$Fraction;") (by decide +kernel)) (fun _ h9 => h9) rfl dX8_pull_72 ?_
    refine lv_iload_n hx hb dX8_pull_75 rfl (lv_at hl 1 rfl) ?_
    obtain ⟨z1_0, hc1, h⟩ := bd_ok h
    refine st_callV (As := [.int x3]) (rest := []) (pos := [3]) ⟨hx, hb, hml, hown, hts⟩ (s_X1_inLeastTerms (l := l) (D := D) (tc := tc) hEok q_th_answer th_answer_upper th_answer_lower x3 K z1_0 hc1) (cwV 1 hts gX8_pull_X1_inLeastTerms rfl rfl rfl (by decide +kernel) ⟨Nat.le_of_ble_eq_true rfl, Nat.le_of_ble_eq_true rfl⟩) (st_recv (ci := 1) (q0 := 3) hK hP rfl rfl) hEok hE hK hN hP hD hS hA rfl rfl rfl rfl hl.1 rfl (Nat.le_of_ble_eq_true rfl) dX8_pull_76 ⟨Nat.zero_le _, Nat.zero_le _⟩ (fun H locs hP hD hS => ?_)
    have hP : va_P D vwCl (w_X8_pull tc q_th q_th_text q_th_reader q_th_sayings q_th_ladder q_th_told q_th_answer q_th_least q_th_greatest q_th_leastByAll q_th_greatestByAll q_th_told_thousandths n_th_told_thousandths th_many th_told_thousandths th_answer_upper th_answer_lower) H := hP
    have hD : va_D A (w_X8_pull tc q_th q_th_text q_th_reader q_th_sayings q_th_ladder q_th_told q_th_answer q_th_least q_th_greatest q_th_leastByAll q_th_greatestByAll q_th_told_thousandths n_th_told_thousandths th_many th_told_thousandths th_answer_upper th_answer_lower) := hD
    cases h
    exact st_lret hx hb hr hlocks hP hD hS dX8_pull_79
  unfold f_X8_pull at h
  refine lv_iload_n hx hb dX8_pull_0 rfl (lv_at hl 1 rfl) ?_
  obtain ⟨z2_0, hc2, h⟩ := bd_ok h
  refine st_callS (As := [.int x1]) (rest := []) (pos := []) ⟨hx, hb, hml, hown, hts⟩ (s_X8_isThing (l := l) (D := D) (tc := tc) hEok x1 z2_0 hc2) (va_cwS 1 hts gX8_pull_X8_isThing rfl rfl rfl (by decide +kernel) ⟨Nat.le_of_ble_eq_true rfl, Nat.le_of_ble_eq_true rfl⟩) hEok hE hK hN hP hD hS hA rfl rfl rfl rfl hl.1 rfl (Nat.le_of_ble_eq_true rfl) dX8_pull_1 ⟨Nat.zero_le _, Nat.zero_le _⟩ (fun H locs hP hD hS => ?_)
  have hP : va_P D vwCl (w_X8_pull tc q_th q_th_text q_th_reader q_th_sayings q_th_ladder q_th_told q_th_answer q_th_least q_th_greatest q_th_leastByAll q_th_greatestByAll q_th_told_thousandths n_th_told_thousandths th_many th_told_thousandths th_answer_upper th_answer_lower) H := hP
  have hD : va_D A (w_X8_pull tc q_th q_th_text q_th_reader q_th_sayings q_th_ladder q_th_told q_th_answer q_th_least q_th_greatest q_th_leastByAll q_th_greatestByAll q_th_told_thousandths n_th_told_thousandths th_many th_told_thousandths th_answer_upper th_answer_lower) := hD
  refine lv_if_eq (tgt := 21) hx hb dX8_pull_4 (by decide) (fun c3 => ?_) (fun c3 => ?_)
  · replace h := ifp c3 h
    refine lv_ldc2 (v := (-1000000000000000000 : Int64)) hx hb hown (hts (.constantLong RX8 140 (-1000000000000000000)) (by decide +kernel)) dX8_pull_21 ?_
    cases h
    exact st_lret hx hb hr hlocks hP hD hS dX8_pull_24
  · replace h := ifn c3 h
    refine lv_iload_n hx hb dX8_pull_7 rfl (lv_at hl 2 rfl) ?_
    obtain ⟨z4_0, hc4, h⟩ := bd_ok h
    refine st_callS (As := [.int x2]) (rest := []) (pos := []) ⟨hx, hb, hml, hown, hts⟩ (s_X8_isWorld (l := l) (D := D) (tc := tc) hEok x2 z4_0 hc4) (va_cwS 1 hts gX8_pull_X8_isWorld rfl rfl rfl (by decide +kernel) ⟨Nat.le_of_ble_eq_true rfl, Nat.le_of_ble_eq_true rfl⟩) hEok hE hK hN hP hD hS hA rfl rfl rfl rfl hl.1 rfl (Nat.le_of_ble_eq_true rfl) dX8_pull_8 ⟨Nat.zero_le _, Nat.zero_le _⟩ (fun H locs hP hD hS => ?_)
    have hP : va_P D vwCl (w_X8_pull tc q_th q_th_text q_th_reader q_th_sayings q_th_ladder q_th_told q_th_answer q_th_least q_th_greatest q_th_leastByAll q_th_greatestByAll q_th_told_thousandths n_th_told_thousandths th_many th_told_thousandths th_answer_upper th_answer_lower) H := hP
    have hD : va_D A (w_X8_pull tc q_th q_th_text q_th_reader q_th_sayings q_th_ladder q_th_told q_th_answer q_th_least q_th_greatest q_th_leastByAll q_th_greatestByAll q_th_told_thousandths n_th_told_thousandths th_many th_told_thousandths th_answer_upper th_answer_lower) := hD
    refine lv_if_eq (tgt := 21) hx hb dX8_pull_11 (by decide) (fun c5 => ?_) (fun c5 => ?_)
    · replace h := ifp c5 h
      refine lv_ldc2 (v := (-1000000000000000000 : Int64)) hx hb hown (hts (.constantLong RX8 140 (-1000000000000000000)) (by decide +kernel)) dX8_pull_21 ?_
      cases h
      exact st_lret hx hb hr hlocks hP hD hS dX8_pull_24
    · replace h := ifn c5 h
      refine lv_iload_n hx hb dX8_pull_14 rfl (lv_at hl 3 rfl) ?_
      obtain ⟨z6_0, hc6, h⟩ := bd_ok h
      refine st_callS (As := [.int x3]) (rest := []) (pos := []) ⟨hx, hb, hml, hown, hts⟩ (s_X8_isZeroOrOne (l := l) (D := D) (tc := tc) hEok x3 z6_0 hc6) (va_cwS 1 hts gX8_pull_X8_isZeroOrOne rfl rfl rfl (by decide +kernel) ⟨Nat.le_of_ble_eq_true rfl, Nat.le_of_ble_eq_true rfl⟩) hEok hE hK hN hP hD hS hA rfl rfl rfl rfl hl.1 rfl (Nat.le_of_ble_eq_true rfl) dX8_pull_15 ⟨Nat.zero_le _, Nat.zero_le _⟩ (fun H locs hP hD hS => ?_)
      have hP : va_P D vwCl (w_X8_pull tc q_th q_th_text q_th_reader q_th_sayings q_th_ladder q_th_told q_th_answer q_th_least q_th_greatest q_th_leastByAll q_th_greatestByAll q_th_told_thousandths n_th_told_thousandths th_many th_told_thousandths th_answer_upper th_answer_lower) H := hP
      have hD : va_D A (w_X8_pull tc q_th q_th_text q_th_reader q_th_sayings q_th_ladder q_th_told q_th_answer q_th_least q_th_greatest q_th_leastByAll q_th_greatestByAll q_th_told_thousandths n_th_told_thousandths th_many th_told_thousandths th_answer_upper th_answer_lower) := hD
      refine lv_if_ne (tgt := 25) hx hb dX8_pull_18 (by decide) (fun c7 => ?_) (fun c7 => ?_)
      · replace h := ifn c7 h
        refine lv_aload_n hx hb dX8_pull_25 rfl (lv_at hl 0 rfl) ?_
        refine va_get (D := D) (ci := 8) (v := .ref q_th_answer) (C := RX8) (T := TX8) (N := 11) hx hb hts hinX8 hown hK hP 0 rfl rfl 6 (by decide) (hts (.fieldLink RX8 53 "ChanceBounds" "answer" "LChanceBounds$Fraction;") (by decide +kernel)) (fun _ h9 => h9) rfl dX8_pull_26 ?_
        obtain ⟨⟨z8_0, z8_1⟩, hc8, h⟩ := bd_ok h
        refine st_callV (As := []) (rest := []) (pos := [3]) ⟨hx, hb, hml, hown, hts⟩ (s_X1_forget (l := l) (D := D) (tc := tc) hEok q_th_answer th_answer_upper th_answer_lower z8_0 z8_1 hc8) (cwV 0 hts gX8_pull_X1_forget rfl rfl rfl (by decide +kernel) ⟨Nat.le_of_ble_eq_true rfl, Nat.le_of_ble_eq_true rfl⟩) (st_recv (ci := 1) (q0 := 3) hK hP rfl rfl) hEok hE hK hN hP hD hS hA rfl rfl rfl rfl hl.1 rfl (Nat.le_of_ble_eq_true rfl) dX8_pull_29 ⟨Nat.zero_le _, Nat.zero_le _⟩ (fun H locs hP hD hS => ?_)
        have hP : va_P D vwCl (w_X8_pull tc q_th q_th_text q_th_reader q_th_sayings q_th_ladder q_th_told q_th_answer q_th_least q_th_greatest q_th_leastByAll q_th_greatestByAll q_th_told_thousandths n_th_told_thousandths th_many th_told_thousandths z8_0 z8_1) H := hP
        have hD : va_D A (w_X8_pull tc q_th q_th_text q_th_reader q_th_sayings q_th_ladder q_th_told q_th_answer q_th_least q_th_greatest q_th_leastByAll q_th_greatestByAll q_th_told_thousandths n_th_told_thousandths th_many th_told_thousandths z8_0 z8_1) := hD
        refine lv_aload_n hx hb dX8_pull_32 rfl (lv_at hl 0 rfl) ?_
        refine va_get (D := D) (ci := 8) (v := .ref q_th_told) (C := RX8) (T := TX8) (N := 11) hx hb hts hinX8 hown hK hP 0 rfl rfl 5 (by decide) (hts (.fieldLink RX8 46 "ChanceBounds" "told" "LChanceBounds$ToldRow;") (by decide +kernel)) (fun _ h9 => h9) rfl dX8_pull_33 ?_
        obtain ⟨z9_0, hc9, h⟩ := bd_ok h
        refine st_callV (As := []) (rest := []) (pos := [1, 2]) ⟨hx, hb, hml, hown, hts⟩ (s_X7_isWhole (l := l) (D := D) (tc := tc) hEok q_th_told q_th_told_thousandths n_th_told_thousandths th_told_thousandths K z9_0 hc9) (cwV 0 hts gX8_pull_X7_isWhole rfl rfl rfl (by decide +kernel) ⟨Nat.le_of_ble_eq_true rfl, Nat.le_of_ble_eq_true rfl⟩) (st_recv (ci := 7) (q0 := 1) hK hP rfl rfl) hEok hE hK hN hP hD hS hA rfl rfl rfl rfl hl.1 rfl (Nat.le_of_ble_eq_true rfl) dX8_pull_36 ⟨Nat.zero_le _, Nat.zero_le _⟩ (fun H locs hP hD hS => ?_)
        have hP : va_P D vwCl (w_X8_pull tc q_th q_th_text q_th_reader q_th_sayings q_th_ladder q_th_told q_th_answer q_th_least q_th_greatest q_th_leastByAll q_th_greatestByAll q_th_told_thousandths n_th_told_thousandths th_many th_told_thousandths z8_0 z8_1) H := hP
        have hD : va_D A (w_X8_pull tc q_th q_th_text q_th_reader q_th_sayings q_th_ladder q_th_told q_th_answer q_th_least q_th_greatest q_th_leastByAll q_th_greatestByAll q_th_told_thousandths n_th_told_thousandths th_many th_told_thousandths z8_0 z8_1) := hD
        refine lv_if_eq (tgt := 71) hx hb dX8_pull_39 (by decide) (fun c10 => ?_) (fun c10 => ?_)
        · replace h := ifp c10 h
          exact J71 x3 z8_0 z8_1 _ _ _ h hP hD hS (lv_sub hl [0, 3] rfl)
        · replace h := ifn c10 h
          refine lv_aload_n hx hb dX8_pull_42 rfl (lv_at hl 0 rfl) ?_
          refine va_get (D := D) (ci := 8) (v := .ref q_th_answer) (C := RX8) (T := TX8) (N := 11) hx hb hts hinX8 hown hK hP 0 rfl rfl 6 (by decide) (hts (.fieldLink RX8 53 "ChanceBounds" "answer" "LChanceBounds$Fraction;") (by decide +kernel)) (fun _ h9 => h9) rfl dX8_pull_43 ?_
          refine lv_aload_n hx hb dX8_pull_46 rfl (lv_at hl 0 rfl) ?_
          refine va_get (D := D) (ci := 8) (v := .ref q_th_told) (C := RX8) (T := TX8) (N := 11) hx hb hts hinX8 hown hK hP 0 rfl rfl 5 (by decide) (hts (.fieldLink RX8 46 "ChanceBounds" "told" "LChanceBounds$ToldRow;") (by decide +kernel)) (fun _ h9 => h9) rfl dX8_pull_47 ?_
          refine lv_iload_n hx hb dX8_pull_50 rfl (lv_at hl 1 rfl) ?_
          refine lv_iconst (v := (1 : Int32)) hx hb dX8_pull_51 (by decide) ?_
          refine lv_iload_n hx hb dX8_pull_52 rfl (lv_at hl 2 rfl) ?_
          refine lv_ishl hx hb dX8_pull_53 ?_
          refine lv_iand hx hb dX8_pull_54 ?_
          obtain ⟨z11_0, hc11, h⟩ := bd_ok h
          refine st_callV (As := [.int (x1 &&& ((1 : Int32) <<< (x2 &&& 31)))]) (rest := [.ref q_th_answer]) (pos := [1, 2]) ⟨hx, hb, hml, hown, hts⟩ (s_X7_chance (l := l) (D := D) (tc := tc) hEok q_th_told q_th_told_thousandths n_th_told_thousandths th_told_thousandths (x1 &&& ((1 : Int32) <<< (x2 &&& 31))) K z11_0 hc11) (cwV 1 hts gX8_pull_X7_chance rfl rfl rfl (by decide +kernel) ⟨Nat.le_of_ble_eq_true rfl, Nat.le_of_ble_eq_true rfl⟩) (st_recv (ci := 7) (q0 := 1) hK hP rfl rfl) hEok hE hK hN hP hD hS hA rfl rfl rfl rfl hl.1 rfl (Nat.le_of_ble_eq_true rfl) dX8_pull_55 ⟨Nat.zero_le _, Nat.zero_le _⟩ (fun H locs hP hD hS => ?_)
          have hP : va_P D vwCl (w_X8_pull tc q_th q_th_text q_th_reader q_th_sayings q_th_ladder q_th_told q_th_answer q_th_least q_th_greatest q_th_leastByAll q_th_greatestByAll q_th_told_thousandths n_th_told_thousandths th_many th_told_thousandths z8_0 z8_1) H := hP
          have hD : va_D A (w_X8_pull tc q_th q_th_text q_th_reader q_th_sayings q_th_ladder q_th_told q_th_answer q_th_least q_th_greatest q_th_leastByAll q_th_greatestByAll q_th_told_thousandths n_th_told_thousandths th_many th_told_thousandths z8_0 z8_1) := hD
          refine lv_i2l (v := z11_0.toInt64) hx hb dX8_pull_58 rfl ?_
          refine lv_aload_n hx hb dX8_pull_59 rfl (lv_at hl 0 rfl) ?_
          refine va_get (D := D) (ci := 8) (v := .ref q_th_told) (C := RX8) (T := TX8) (N := 11) hx hb hts hinX8 hown hK hP 0 rfl rfl 5 (by decide) (hts (.fieldLink RX8 46 "ChanceBounds" "told" "LChanceBounds$ToldRow;") (by decide +kernel)) (fun _ h9 => h9) rfl dX8_pull_60 ?_
          refine lv_iload_n hx hb dX8_pull_63 rfl (lv_at hl 1 rfl) ?_
          obtain ⟨z12_0, hc12, h⟩ := bd_ok h
          refine st_callV (As := [.int x1]) (rest := [.long z11_0.toInt64, .ref q_th_answer]) (pos := [1, 2]) ⟨hx, hb, hml, hown, hts⟩ (s_X7_chance (l := l) (D := D) (tc := tc) hEok q_th_told q_th_told_thousandths n_th_told_thousandths th_told_thousandths x1 K z12_0 hc12) (cwV 1 hts gX8_pull_X7_chance rfl rfl rfl (by decide +kernel) ⟨Nat.le_of_ble_eq_true rfl, Nat.le_of_ble_eq_true rfl⟩) (st_recv (ci := 7) (q0 := 1) hK hP rfl rfl) hEok hE hK hN hP hD hS hA rfl rfl rfl rfl hl.1 rfl (Nat.le_of_ble_eq_true rfl) dX8_pull_64 ⟨Nat.zero_le _, Nat.zero_le _⟩ (fun H locs hP hD hS => ?_)
          have hP : va_P D vwCl (w_X8_pull tc q_th q_th_text q_th_reader q_th_sayings q_th_ladder q_th_told q_th_answer q_th_least q_th_greatest q_th_leastByAll q_th_greatestByAll q_th_told_thousandths n_th_told_thousandths th_many th_told_thousandths z8_0 z8_1) H := hP
          have hD : va_D A (w_X8_pull tc q_th q_th_text q_th_reader q_th_sayings q_th_ladder q_th_told q_th_answer q_th_least q_th_greatest q_th_leastByAll q_th_greatestByAll q_th_told_thousandths n_th_told_thousandths th_many th_told_thousandths z8_0 z8_1) := hD
          refine lv_i2l (v := z12_0.toInt64) hx hb dX8_pull_67 rfl ?_
          obtain ⟨⟨z13_0, z13_1⟩, hc13, h⟩ := bd_ok h
          refine st_callV (As := [.long z11_0.toInt64, .long z12_0.toInt64]) (rest := []) (pos := [3]) ⟨hx, hb, hml, hown, hts⟩ (s_X1_set (l := l) (D := D) (tc := tc) hEok q_th_answer z8_0 z8_1 z11_0.toInt64 z12_0.toInt64 z13_0 z13_1 hc13) (cwV 2 hts gX8_pull_X1_set rfl rfl rfl (by decide +kernel) ⟨Nat.le_of_ble_eq_true rfl, Nat.le_of_ble_eq_true rfl⟩) (st_recv (ci := 1) (q0 := 3) hK hP rfl rfl) hEok hE hK hN hP hD hS hA rfl rfl rfl rfl hl.1 rfl (Nat.le_of_ble_eq_true rfl) dX8_pull_68 ⟨Nat.zero_le _, Nat.zero_le _⟩ (fun H locs hP hD hS => ?_)
          have hP : va_P D vwCl (w_X8_pull tc q_th q_th_text q_th_reader q_th_sayings q_th_ladder q_th_told q_th_answer q_th_least q_th_greatest q_th_leastByAll q_th_greatestByAll q_th_told_thousandths n_th_told_thousandths th_many th_told_thousandths z13_0 z13_1) H := hP
          have hD : va_D A (w_X8_pull tc q_th q_th_text q_th_reader q_th_sayings q_th_ladder q_th_told q_th_answer q_th_least q_th_greatest q_th_leastByAll q_th_greatestByAll q_th_told_thousandths n_th_told_thousandths th_many th_told_thousandths z13_0 z13_1) := hD
          exact J71 x3 z13_0 z13_1 _ _ _ h hP hD hS (lv_sub hl [0, 3] rfl)
      · replace h := ifp c7 h
        refine lv_ldc2 (v := (-1000000000000000000 : Int64)) hx hb hown (hts (.constantLong RX8 140 (-1000000000000000000)) (by decide +kernel)) dX8_pull_21 ?_
        cases h
        exact st_lret hx hb hr hlocks hP hD hS dX8_pull_24
def f_X8_count (K : Nat) (n_th_told_thousandths : Nat) (th_many : Int32) (th_text_length : Int32) (th_sayings_e_isOn : Nat → Int32) (th_told_thousandths : Nat → Int32) (x1 : Int32) : Option (Int32) :=
  if x1 = (0 : Int32) then
    some th_many
  else
    if x1 = (1 : Int32) then
      (f_X8_onSet K th_many th_sayings_e_isOn).bind fun z3_0 =>
      (f_J6_bitCount_0f7a4 z3_0).bind fun z4_0 =>
      some z4_0
    else
      if x1 = (2 : Int32) then
        some th_text_length
      else
        if x1 = (3 : Int32) then
          (f_X7_chance K n_th_told_thousandths th_told_thousandths (255 : Int32)).bind fun z7_0 =>
          some z7_0
        else
          some (-1 : Int32)
abbrev w_X8_count (tc : Nat → ClassId) (q_th : Nat) (q_th_text : Nat) (q_th_reader : Nat) (q_th_sayings : Nat) (q_th_ladder : Nat) (q_th_told : Nat) (q_th_answer : Nat) (q_th_least : Nat) (q_th_greatest : Nat) (q_th_leastByAll : Nat) (q_th_greatestByAll : Nat) (q_th_text_bytes : Nat) (q_th_sayings_e : Nat → Nat) (q_th_told_thousandths : Nat) (n_th_told_thousandths : Nat) (th_many : Int32) (th_text_length : Int32) (th_sayings_e_x : Nat → Int32) (th_sayings_e_y : Nat → Int32) (th_sayings_e_from : Nat → Int32) (th_sayings_e_to : Nat → Int32) (th_sayings_e_isOn : Nat → Int32) (th_told_thousandths : Nat → Int32) : va_W := [(q_th, .inr (8, [.ref q_th_text, .ref q_th_reader, .ref q_th_sayings, .int th_many, .ref q_th_ladder, .ref q_th_told, .ref q_th_answer, .ref q_th_least, .ref q_th_greatest, .ref q_th_leastByAll, .ref q_th_greatestByAll])), (q_th_text, .inr (5, [.ref q_th_text_bytes, .int th_text_length])), (q_th_sayings, .inl (tc 2, 4, .inr (.inr (.inr (.inr (fun j => some (q_th_sayings_e j))))))), ((q_th_sayings_e 0), .inr (4, [.int (th_sayings_e_x 0), .int (th_sayings_e_y 0), .int (th_sayings_e_from 0), .int (th_sayings_e_to 0), .int (th_sayings_e_isOn 0)])), ((q_th_sayings_e 1), .inr (4, [.int (th_sayings_e_x 1), .int (th_sayings_e_y 1), .int (th_sayings_e_from 1), .int (th_sayings_e_to 1), .int (th_sayings_e_isOn 1)])), ((q_th_sayings_e 2), .inr (4, [.int (th_sayings_e_x 2), .int (th_sayings_e_y 2), .int (th_sayings_e_from 2), .int (th_sayings_e_to 2), .int (th_sayings_e_isOn 2)])), ((q_th_sayings_e 3), .inr (4, [.int (th_sayings_e_x 3), .int (th_sayings_e_y 3), .int (th_sayings_e_from 3), .int (th_sayings_e_to 3), .int (th_sayings_e_isOn 3)])), (q_th_told, .inr (7, [.ref q_th_told_thousandths])), (q_th_told_thousandths, .inl (tc 0, n_th_told_thousandths, .inl th_told_thousandths))]
set_option maxHeartbeats 4000000 in
set_option maxRecDepth 100000 in
theorem s_X8_count {l : Launch} {E : (Nat → Prop) → State → Prop} (hEok : st_Eok E) {D : va_G} {tc : Nat → ClassId} (q_th : Nat) (q_th_text : Nat) (q_th_reader : Nat) (q_th_sayings : Nat) (q_th_ladder : Nat) (q_th_told : Nat) (q_th_answer : Nat) (q_th_least : Nat) (q_th_greatest : Nat) (q_th_leastByAll : Nat) (q_th_greatestByAll : Nat) (q_th_text_bytes : Nat) (q_th_sayings_e : Nat → Nat) (q_th_told_thousandths : Nat) (n_th_told_thousandths : Nat) (th_many : Int32) (th_text_length : Int32) (th_sayings_e_x : Nat → Int32) (th_sayings_e_y : Nat → Int32) (th_sayings_e_from : Nat → Int32) (th_sayings_e_to : Nat → Int32) (th_sayings_e_isOn : Nat → Int32) (th_told_thousandths : Nat → Int32) (x1 : Int32) (K : Nat) (r0 : Int32) (h : f_X8_count K n_th_told_thousandths th_many th_text_length th_sayings_e_isOn th_told_thousandths x1 = some r0) : st l yX8_count wsX8_count ({ frames := 2, cells := 0, slots := 0, locals := 44 }) E D tc [.ref q_th, .int x1] (w_X8_count tc q_th q_th_text q_th_reader q_th_sayings q_th_ladder q_th_told q_th_answer q_th_least q_th_greatest q_th_leastByAll q_th_greatestByAll q_th_text_bytes q_th_sayings_e q_th_told_thousandths n_th_told_thousandths th_many th_text_length th_sayings_e_x th_sayings_e_y th_sayings_e_from th_sayings_e_to th_sayings_e_isOn th_told_thousandths) (some (.int r0)) (w_X8_count tc q_th q_th_text q_th_reader q_th_sayings q_th_ladder q_th_told q_th_answer q_th_least q_th_greatest q_th_leastByAll q_th_greatestByAll q_th_text_bytes q_th_sayings_e q_th_told_thousandths n_th_told_thousandths th_many th_text_length th_sayings_e_x th_sayings_e_y th_sayings_e_from th_sayings_e_to th_sayings_e_isOn th_told_thousandths) := by
  refine st_enter (cc := cX8_count) (maxL := 2) (ret := (some .int)) (by decide) rfl (Nat.le_of_ble_eq_true rfl) ?_
  intro p e s m below meth c A ls hx hb hr hml hts hown hlocks hK hN hE hA hP hD hS hl
  have hl : lv_has ls 2 [(0, .ref q_th), (1, .int x1)] := hl
  have hinX5 : ∀ w ∈ wsX50, w ∈ wsX8_count := by decide +kernel
  have hinX8 : ∀ w ∈ wsX80, w ∈ wsX8_count := by decide +kernel
  generalize hav : ([.ref q_th, .int x1] : List Value).toArray = av at hts ⊢
  unfold f_X8_count at h
  refine lv_iload_n hx hb dX8_count_0 rfl (lv_at hl 1 rfl) ?_
  by_cases c1 : x1 = (0 : Int32)
  · replace h := ifp c1 h
    refine lv_tableIn (off := 31) (tgt := 32) hx hb dX8_count_1 (by rw [c1]; decide) (by rw [c1]; decide) (by rw [c1]; rfl) (by decide) ?_
    refine lv_aload_n hx hb dX8_count_32 rfl (lv_at hl 0 rfl) ?_
    refine va_get (D := D) (ci := 8) (v := .int th_many) (C := RX8) (T := TX8) (N := 11) hx hb hts hinX8 hown hK hP 0 rfl rfl 3 (by decide) (hts (.fieldLink RX8 32 "ChanceBounds" "many" "I") (by decide +kernel)) (fun _ h9 => h9) rfl dX8_count_33 ?_
    cases h
    exact st_iret hx hb hr hlocks hP hD hS dX8_count_36
  replace h := ifn c1 h
  by_cases c2 : x1 = (1 : Int32)
  · replace h := ifp c2 h
    refine lv_tableIn (off := 36) (tgt := 37) hx hb dX8_count_1 (by rw [c2]; decide) (by rw [c2]; decide) (by rw [c2]; rfl) (by decide) ?_
    refine lv_aload_n hx hb dX8_count_37 rfl (lv_at hl 0 rfl) ?_
    obtain ⟨z3_0, hc3, h⟩ := bd_ok h
    refine st_callV (As := []) (rest := []) (pos := [0, 2, 3, 4, 5, 6]) ⟨hx, hb, hml, hown, hts⟩ (s_X8_onSet (l := l) (D := D) (tc := tc) hEok q_th q_th_text q_th_reader q_th_sayings q_th_ladder q_th_told q_th_answer q_th_least q_th_greatest q_th_leastByAll q_th_greatestByAll q_th_sayings_e th_many th_sayings_e_x th_sayings_e_y th_sayings_e_from th_sayings_e_to th_sayings_e_isOn K z3_0 hc3) (cwV 0 hts gX8_count_X8_onSet rfl rfl rfl (by decide +kernel) ⟨Nat.le_of_ble_eq_true rfl, Nat.le_of_ble_eq_true rfl⟩) (st_recv (ci := 8) (q0 := 0) hK hP rfl rfl) hEok hE hK hN hP hD hS hA rfl rfl rfl rfl hl.1 rfl (Nat.le_of_ble_eq_true rfl) dX8_count_38 ⟨Nat.zero_le _, Nat.zero_le _⟩ (fun H locs hP hD hS => ?_)
    have hP : va_P D vwCl (w_X8_count tc q_th q_th_text q_th_reader q_th_sayings q_th_ladder q_th_told q_th_answer q_th_least q_th_greatest q_th_leastByAll q_th_greatestByAll q_th_text_bytes q_th_sayings_e q_th_told_thousandths n_th_told_thousandths th_many th_text_length th_sayings_e_x th_sayings_e_y th_sayings_e_from th_sayings_e_to th_sayings_e_isOn th_told_thousandths) H := hP
    have hD : va_D A (w_X8_count tc q_th q_th_text q_th_reader q_th_sayings q_th_ladder q_th_told q_th_answer q_th_least q_th_greatest q_th_leastByAll q_th_greatestByAll q_th_text_bytes q_th_sayings_e q_th_told_thousandths n_th_told_thousandths th_many th_text_length th_sayings_e_x th_sayings_e_y th_sayings_e_from th_sayings_e_to th_sayings_e_isOn th_told_thousandths) := hD
    obtain ⟨z4_0, hc4, h⟩ := bd_ok h
    refine st_callS (As := [.int z3_0]) (rest := []) (pos := []) ⟨hx, hb, hml, hown, hts⟩ (s_J6_bitCount_0f7a4 (l := l) (D := D) (tc := tc) hEok z3_0 z4_0 hc4) (va_cwS 1 hts gX8_count_J6_bitCount_0f7a4 rfl rfl rfl (by decide +kernel) ⟨Nat.le_of_ble_eq_true rfl, Nat.le_of_ble_eq_true rfl⟩) hEok hE hK hN hP hD hS hA rfl rfl rfl rfl hl.1 rfl (Nat.le_of_ble_eq_true rfl) dX8_count_41 ⟨Nat.zero_le _, Nat.zero_le _⟩ (fun H locs hP hD hS => ?_)
    have hP : va_P D vwCl (w_X8_count tc q_th q_th_text q_th_reader q_th_sayings q_th_ladder q_th_told q_th_answer q_th_least q_th_greatest q_th_leastByAll q_th_greatestByAll q_th_text_bytes q_th_sayings_e q_th_told_thousandths n_th_told_thousandths th_many th_text_length th_sayings_e_x th_sayings_e_y th_sayings_e_from th_sayings_e_to th_sayings_e_isOn th_told_thousandths) H := hP
    have hD : va_D A (w_X8_count tc q_th q_th_text q_th_reader q_th_sayings q_th_ladder q_th_told q_th_answer q_th_least q_th_greatest q_th_leastByAll q_th_greatestByAll q_th_text_bytes q_th_sayings_e q_th_told_thousandths n_th_told_thousandths th_many th_text_length th_sayings_e_x th_sayings_e_y th_sayings_e_from th_sayings_e_to th_sayings_e_isOn th_told_thousandths) := hD
    cases h
    exact st_iret hx hb hr hlocks hP hD hS dX8_count_44
  replace h := ifn c2 h
  by_cases c5 : x1 = (2 : Int32)
  · replace h := ifp c5 h
    refine lv_tableIn (off := 44) (tgt := 45) hx hb dX8_count_1 (by rw [c5]; decide) (by rw [c5]; decide) (by rw [c5]; rfl) (by decide) ?_
    refine lv_aload_n hx hb dX8_count_45 rfl (lv_at hl 0 rfl) ?_
    refine va_get (D := D) (ci := 8) (v := .ref q_th_text) (C := RX8) (T := TX8) (N := 11) hx hb hts hinX8 hown hK hP 0 rfl rfl 0 (by decide) (hts (.fieldLink RX8 10 "ChanceBounds" "text" "LChanceBounds$Text;") (by decide +kernel)) (fun _ h9 => h9) rfl dX8_count_46 ?_
    refine va_getN (D := D) (ci := 5) (v := .int th_text_length) (C := RX5) (T := TX5) (N := 2) hx hb hts hinX5 hown hK hP 1 rfl rfl 1 (by decide) (va_Nw.use rfl (hN (.fieldLinkNest RX8 69 "ChanceBounds$Text" "length" "I" "ChanceBounds") (by decide +kernel))) (fun _ h9 => h9) rfl dX8_count_49 ?_
    cases h
    exact st_iret hx hb hr hlocks hP hD hS dX8_count_52
  replace h := ifn c5 h
  by_cases c6 : x1 = (3 : Int32)
  · replace h := ifp c6 h
    refine lv_tableIn (off := 52) (tgt := 53) hx hb dX8_count_1 (by rw [c6]; decide) (by rw [c6]; decide) (by rw [c6]; rfl) (by decide) ?_
    refine lv_aload_n hx hb dX8_count_53 rfl (lv_at hl 0 rfl) ?_
    refine va_get (D := D) (ci := 8) (v := .ref q_th_told) (C := RX8) (T := TX8) (N := 11) hx hb hts hinX8 hown hK hP 0 rfl rfl 5 (by decide) (hts (.fieldLink RX8 46 "ChanceBounds" "told" "LChanceBounds$ToldRow;") (by decide +kernel)) (fun _ h9 => h9) rfl dX8_count_54 ?_
    refine lv_sipush (v := (255 : Int32)) hx hb dX8_count_57 (by decide) ?_
    obtain ⟨z7_0, hc7, h⟩ := bd_ok h
    refine st_callV (As := [.int (255 : Int32)]) (rest := []) (pos := [7, 8]) ⟨hx, hb, hml, hown, hts⟩ (s_X7_chance (l := l) (D := D) (tc := tc) hEok q_th_told q_th_told_thousandths n_th_told_thousandths th_told_thousandths (255 : Int32) K z7_0 hc7) (cwV 1 hts gX8_count_X7_chance rfl rfl rfl (by decide +kernel) ⟨Nat.le_of_ble_eq_true rfl, Nat.le_of_ble_eq_true rfl⟩) (st_recv (ci := 7) (q0 := 7) hK hP rfl rfl) hEok hE hK hN hP hD hS hA rfl rfl rfl rfl hl.1 rfl (Nat.le_of_ble_eq_true rfl) dX8_count_60 ⟨Nat.zero_le _, Nat.zero_le _⟩ (fun H locs hP hD hS => ?_)
    have hP : va_P D vwCl (w_X8_count tc q_th q_th_text q_th_reader q_th_sayings q_th_ladder q_th_told q_th_answer q_th_least q_th_greatest q_th_leastByAll q_th_greatestByAll q_th_text_bytes q_th_sayings_e q_th_told_thousandths n_th_told_thousandths th_many th_text_length th_sayings_e_x th_sayings_e_y th_sayings_e_from th_sayings_e_to th_sayings_e_isOn th_told_thousandths) H := hP
    have hD : va_D A (w_X8_count tc q_th q_th_text q_th_reader q_th_sayings q_th_ladder q_th_told q_th_answer q_th_least q_th_greatest q_th_leastByAll q_th_greatestByAll q_th_text_bytes q_th_sayings_e q_th_told_thousandths n_th_told_thousandths th_many th_text_length th_sayings_e_x th_sayings_e_y th_sayings_e_from th_sayings_e_to th_sayings_e_isOn th_told_thousandths) := hD
    cases h
    exact st_iret hx hb hr hlocks hP hD hS dX8_count_63
  replace h := ifn c6 h
  refine lv_tableOut (tgt := 64) hx hb dX8_count_1 (sw_out4 c1 c2 c5 c6) (by decide) ?_
  refine lv_iconst (v := (-1 : Int32)) hx hb dX8_count_64 (by decide) ?_
  cases h
  exact st_iret hx hb hr hlocks hP hD hS dX8_count_65
def f_X8_isFewerOf (x0 : Int32) (x1 : Int32) (x2 : Int32) : Option (Int32) :=
  if (x1 &&& (x0 ^^^ (-1 : Int32))) = (0 : Int32) then
    if x2 < (0 : Int32) then
      some (1 : Int32)
    else
      (f_J6_bitCount_0f7a4 x1).bind fun z3_0 =>
      (f_J6_bitCount_0f7a4 x2).bind fun z4_0 =>
      if z4_0 ≤ z3_0 then
        some (0 : Int32)
      else
        some (1 : Int32)
  else
    some (0 : Int32)
abbrev w_X8_isFewerOf : va_W := []
set_option maxHeartbeats 4000000 in
set_option maxRecDepth 100000 in
theorem s_X8_isFewerOf {l : Launch} {E : (Nat → Prop) → State → Prop} (hEok : st_Eok E) {D : va_G} {tc : Nat → ClassId} (x0 : Int32) (x1 : Int32) (x2 : Int32) (r0 : Int32) (h : f_X8_isFewerOf x0 x1 x2 = some r0) : st l yX8_isFewerOf wsX8_isFewerOf ({ frames := 1, cells := 0, slots := 0, locals := 20 }) E D tc [.int x0, .int x1, .int x2] w_X8_isFewerOf (some (.int r0)) w_X8_isFewerOf := by
  refine st_enter (cc := cX8_isFewerOf) (maxL := 3) (ret := (some .boolean)) (by decide) rfl (Nat.le_of_ble_eq_true rfl) ?_
  intro p e s m below meth c A ls hx hb hr hml hts hown hlocks hK hN hE hA hP hD hS hl
  have hl : lv_has ls 3 [(0, .int x0), (1, .int x1), (2, .int x2)] := hl
  generalize hav : ([.int x0, .int x1, .int x2] : List Value).toArray = av at hts ⊢
  unfold f_X8_isFewerOf at h
  refine lv_iload_n hx hb dX8_isFewerOf_0 rfl (lv_at hl 1 rfl) ?_
  refine lv_iload_n hx hb dX8_isFewerOf_1 rfl (lv_at hl 0 rfl) ?_
  refine lv_iconst (v := (-1 : Int32)) hx hb dX8_isFewerOf_2 (by decide) ?_
  refine lv_ixor hx hb dX8_isFewerOf_3 ?_
  refine lv_iand hx hb dX8_isFewerOf_4 ?_
  refine lv_if_ne (tgt := 27) hx hb dX8_isFewerOf_5 (by decide) (fun c1 => ?_) (fun c1 => ?_)
  · replace h := ifn c1 h
    refine lv_iconst (v := (0 : Int32)) hx hb dX8_isFewerOf_27 (by decide) ?_
    cases h
    exact st_zret hx hb hr hlocks hP hD hS rfl dX8_isFewerOf_28
  · replace h := ifp c1 h
    refine lv_iload_n hx hb dX8_isFewerOf_8 rfl (lv_at hl 2 rfl) ?_
    refine lv_if_lt (tgt := 23) hx hb dX8_isFewerOf_9 (by decide) (fun c2 => ?_) (fun c2 => ?_)
    · replace h := ifp c2 h
      refine lv_iconst (v := (1 : Int32)) hx hb dX8_isFewerOf_23 (by decide) ?_
      refine lv_goto (tgt := 28) hx hb dX8_isFewerOf_24 (by decide) ?_
      cases h
      exact st_zret hx hb hr hlocks hP hD hS rfl dX8_isFewerOf_28
    · replace h := ifn c2 h
      refine lv_iload_n hx hb dX8_isFewerOf_12 rfl (lv_at hl 1 rfl) ?_
      obtain ⟨z3_0, hc3, h⟩ := bd_ok h
      refine st_callS (As := [.int x1]) (rest := []) (pos := []) ⟨hx, hb, hml, hown, hts⟩ (s_J6_bitCount_0f7a4 (l := l) (D := D) (tc := tc) hEok x1 z3_0 hc3) (va_cwS 1 hts gX8_isFewerOf_J6_bitCount_0f7a4 rfl rfl rfl (by decide +kernel) ⟨Nat.le_of_ble_eq_true rfl, Nat.le_of_ble_eq_true rfl⟩) hEok hE hK hN hP hD hS hA rfl rfl rfl rfl hl.1 rfl (Nat.le_of_ble_eq_true rfl) dX8_isFewerOf_13 ⟨Nat.zero_le _, Nat.zero_le _⟩ (fun H locs hP hD hS => ?_)
      refine lv_iload_n hx hb dX8_isFewerOf_16 rfl (lv_at hl 2 rfl) ?_
      obtain ⟨z4_0, hc4, h⟩ := bd_ok h
      refine st_callS (As := [.int x2]) (rest := [.int z3_0]) (pos := []) ⟨hx, hb, hml, hown, hts⟩ (s_J6_bitCount_0f7a4 (l := l) (D := D) (tc := tc) hEok x2 z4_0 hc4) (va_cwS 1 hts gX8_isFewerOf_J6_bitCount_0f7a4 rfl rfl rfl (by decide +kernel) ⟨Nat.le_of_ble_eq_true rfl, Nat.le_of_ble_eq_true rfl⟩) hEok hE hK hN hP hD hS hA rfl rfl rfl rfl hl.1 rfl (Nat.le_of_ble_eq_true rfl) dX8_isFewerOf_17 ⟨Nat.zero_le _, Nat.zero_le _⟩ (fun H locs hP hD hS => ?_)
      refine lv_icmp_ge (tgt := 27) hx hb dX8_isFewerOf_20 (by decide) (fun c5 => ?_) (fun c5 => ?_)
      · replace h := ifp c5 h
        refine lv_iconst (v := (0 : Int32)) hx hb dX8_isFewerOf_27 (by decide) ?_
        cases h
        exact st_zret hx hb hr hlocks hP hD hS rfl dX8_isFewerOf_28
      · replace h := ifn c5 h
        refine lv_iconst (v := (1 : Int32)) hx hb dX8_isFewerOf_23 (by decide) ?_
        refine lv_goto (tgt := 28) hx hb dX8_isFewerOf_24 (by decide) ?_
        cases h
        exact st_zret hx hb hr hlocks hP hD hS rfl dX8_isFewerOf_28

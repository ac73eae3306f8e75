/-! constructors -/
theorem dfX0 : ∀ j, j < 10 → defaultValue (tyX0 j) = vp_V [.null, .null, .null, .null, .null, .null, .int 0, .int 0, .int 0, .int 0] j := by
  intro j hj
  rcases (show j = 0 ∨ j = 1 ∨ j = 2 ∨ j = 3 ∨ j = 4 ∨ j = 5 ∨ j = 6 ∨ j = 7 ∨ j = 8 ∨ j = 9 by omega) with rfl | rfl | rfl | rfl | rfl | rfl | rfl | rfl | rfl | rfl <;> rfl
theorem dfX1 : ∀ j, j < 2 → defaultValue (tyX1 j) = vp_V [.long 0, .long 0] j := by
  intro j hj
  rcases (show j = 0 ∨ j = 1 by omega) with rfl | rfl <;> rfl
theorem dfX2 : ∀ j, j < 3 → defaultValue (tyX2 j) = vp_V [.null, .null, .int 0] j := by
  intro j hj
  rcases (show j = 0 ∨ j = 1 ∨ j = 2 by omega) with rfl | rfl | rfl <;> rfl
theorem dfX3 : ∀ j, j < 5 → defaultValue (tyX3 j) = vp_V [.null, .null, .int 0, .int 0, .int 0] j := by
  intro j hj
  rcases (show j = 0 ∨ j = 1 ∨ j = 2 ∨ j = 3 ∨ j = 4 by omega) with rfl | rfl | rfl | rfl | rfl <;> rfl
theorem dfX4 : ∀ j, j < 5 → defaultValue (tyX4 j) = vp_V [.int 0, .int 0, .int 0, .int 0, .int 0] j := by
  intro j hj
  rcases (show j = 0 ∨ j = 1 ∨ j = 2 ∨ j = 3 ∨ j = 4 by omega) with rfl | rfl | rfl | rfl | rfl <;> rfl
theorem dfX5 : ∀ j, j < 2 → defaultValue (tyX5 j) = vp_V [.null, .int 0] j := by
  intro j hj
  rcases (show j = 0 ∨ j = 1 by omega) with rfl | rfl <;> rfl
theorem dfX6 : ∀ j, j < 5 → defaultValue (tyX6 j) = vp_V [.null, .int 0, .int 0, .int 0, .int 0] j := by
  intro j hj
  rcases (show j = 0 ∨ j = 1 ∨ j = 2 ∨ j = 3 ∨ j = 4 by omega) with rfl | rfl | rfl | rfl | rfl <;> rfl
theorem dfX7 : ∀ j, j < 1 → defaultValue (tyX7 j) = vp_V [.null] j := by
  intro j hj
  rcases (show j = 0 by omega) with rfl <;> rfl
theorem dfX8 : ∀ j, j < 11 → defaultValue (tyX8 j) = vp_V [.null, .null, .null, .int 0, .null, .null, .null, .null, .null, .null, .null] j := by
  intro j hj
  rcases (show j = 0 ∨ j = 1 ∨ j = 2 ∨ j = 3 ∨ j = 4 ∨ j = 5 ∨ j = 6 ∨ j = 7 ∨ j = 8 ∨ j = 9 ∨ j = 10 by omega) with rfl | rfl | rfl | rfl | rfl | rfl | rfl | rfl | rfl | rfl | rfl <;> rfl
set_option maxHeartbeats 4000000 in
set_option maxRecDepth 100000 in
theorem s_X4_init {l : Launch} {E : (Nat → Prop) → State → Prop} (hEok : st_Eok E) {D : va_G} {tc : Nat → ClassId} (q_th : Nat)  : stn l yX4_init wsX4_init ({ frames := 1, cells := 0, slots := 0, locals := 12 }) E D tc [.ref q_th] [(q_th, .inr (4, [.int 0, .int 0, .int 0, .int 0, .int 0]))] (fun _ => [(q_th, .inr (4, [.int 0, .int 0, .int 0, .int 0, .int 0]))]) (0) (0) := by
  refine stn_enter (cc := cX4_init) (maxL := 1) (by decide) rfl rfl (Nat.le_of_ble_eq_true rfl) ?_
  intro p e s m below meth c A ls hx hb hr hml hts hown hlocks hmn hK hN hE hA hP hD hS hl
  have hl : lv_has ls 1 [(0, .ref q_th)] := hl
  generalize hav : ([.ref q_th] : List Value).toArray = av at hts ⊢
  refine lv_aload_n hx hb dX4_init_0 rfl (lv_at hl 0 rfl) ?_
  refine W.objInit hx hb hown (hts (.methodLink RX4 3 objectInit) (by decide +kernel)) (hts (.instanceMethod objectInit) (by decide +kernel)) (hts _ (List.mem_cons_of_mem _ (List.mem_of_getElem? (i := 2) rfl))) rfl (by rw [hml]; exact hl.1) rfl dX4_init_1 (Nat.le_of_ble_eq_true rfl) (Nat.le_of_ble_eq_true rfl) ?_
  refine W.eq (g2 := F0 m 4 ls []) rfl ?_
  refine W.widen (k := 0) (n := 0) (by omega) (by omega) ?_
  exact stn_ret hx hb hr hlocks (fun j => ([] : List Nat).getD j 0) (hP.sub [0] rfl) (hD.sub [0] (by decide) rfl) hS dX4_init_4
set_option maxHeartbeats 4000000 in
set_option maxRecDepth 100000 in
theorem s_X1_init {l : Launch} {E : (Nat → Prop) → State → Prop} (hEok : st_Eok E) {D : va_G} {tc : Nat → ClassId} (q_th : Nat)  : stn l yX1_init wsX1_init ({ frames := 1, cells := 0, slots := 0, locals := 12 }) E D tc [.ref q_th] [(q_th, .inr (1, [.long 0, .long 0]))] (fun _ => [(q_th, .inr (1, [.long 0, .long 0]))]) (0) (0) := by
  refine stn_enter (cc := cX1_init) (maxL := 1) (by decide) rfl rfl (Nat.le_of_ble_eq_true rfl) ?_
  intro p e s m below meth c A ls hx hb hr hml hts hown hlocks hmn hK hN hE hA hP hD hS hl
  have hl : lv_has ls 1 [(0, .ref q_th)] := hl
  generalize hav : ([.ref q_th] : List Value).toArray = av at hts ⊢
  refine lv_aload_n hx hb dX1_init_0 rfl (lv_at hl 0 rfl) ?_
  refine W.objInit hx hb hown (hts (.methodLink RX1 3 objectInit) (by decide +kernel)) (hts (.instanceMethod objectInit) (by decide +kernel)) (hts _ (List.mem_cons_of_mem _ (List.mem_of_getElem? (i := 2) rfl))) rfl (by rw [hml]; exact hl.1) rfl dX1_init_1 (Nat.le_of_ble_eq_true rfl) (Nat.le_of_ble_eq_true rfl) ?_
  refine W.eq (g2 := F0 m 4 ls []) rfl ?_
  refine W.widen (k := 0) (n := 0) (by omega) (by omega) ?_
  exact stn_ret hx hb hr hlocks (fun j => ([] : List Nat).getD j 0) (hP.sub [0] rfl) (hD.sub [0] (by decide) rfl) hS dX1_init_4
set_option maxHeartbeats 4000000 in
set_option maxRecDepth 100000 in
theorem s_X5_init {l : Launch} {E : (Nat → Prop) → State → Prop} (hEok : st_Eok E) {D : va_G} {tc : Nat → ClassId} (q_th : Nat)  : stn l yX5_init wsX5_init ({ frames := 1, cells := 1, slots := 200, locals := 12 }) E D tc [.ref q_th] [(q_th, .inr (5, [.null, .int 0]))] (fun x => [(q_th, .inr (5, [.ref (x 0), .int 0])), ((x 0), .inl (tc 0, 200, .inl (fun _ => 0)))]) (1) (200) := by
  refine stn_enter (cc := cX5_init) (maxL := 1) (by decide) rfl rfl (Nat.le_of_ble_eq_true rfl) ?_
  intro p e s m below meth c A ls hx hb hr hml hts hown hlocks hmn hK hN hE hA hP hD hS hl
  have hl : lv_has ls 1 [(0, .ref q_th)] := hl
  have hinX5 : ∀ w ∈ wsX50, w ∈ wsX5_init := by decide +kernel
  generalize hav : ([.ref q_th] : List Value).toArray = av at hts ⊢
  refine lv_aload_n hx hb dX5_init_0 rfl (lv_at hl 0 rfl) ?_
  refine W.objInit hx hb hown (hts (.methodLink RX5 1 objectInit) (by decide +kernel)) (hts (.instanceMethod objectInit) (by decide +kernel)) (hts _ (List.mem_cons_of_mem _ (List.mem_of_getElem? (i := 2) rfl))) rfl (by rw [hml]; exact hl.1) rfl dX5_init_1 (Nat.le_of_ble_eq_true rfl) (Nat.le_of_ble_eq_true rfl) ?_
  refine W.eq (g2 := F0 m 4 ls []) rfl ?_
  refine lv_aload_n hx hb dX5_init_4 rfl (lv_at hl 0 rfl) ?_
  refine lv_sipush (v := (200 : Int32)) hx hb dX5_init_5 (by decide) ?_
  refine st_newI hx hb (hts (.arrayClass .int) (by decide +kernel)) hK hP hD hS hA 200 (by decide) rfl (by decide) (Nat.le_of_ble_eq_true rfl) (Nat.le_of_ble_eq_true rfl) dX5_init_8 (fun q8 H hP hD hS => ?_)
  have hP : va_P D vwCl [(q_th, .inr (5, [.null, .int 0])), (q8, .inl (tc 0, 200, .inl (fun _ => 0)))] H := hP
  have hD : va_D A [(q_th, .inr (5, [.null, .int 0])), (q8, .inl (tc 0, 200, .inl (fun _ => 0)))] := hD
  refine va_putF (D := D) (ci := 5) (v := .ref q8) (ty := .array .int) (C := RX5) (T := TX5) (N := 2) hx hb hts hinX5 tyX5 tyX5_ok nmX5 hown hK hP hD hS 0 rfl rfl 0 (by decide) (hts (.fieldLink RX5 9 "ChanceBounds$Text" "bytes" "[I") (by decide +kernel)) (fun _ h9 => h9) rfl hmn rfl (by decide +kernel) rfl rfl (Nat.le_of_ble_eq_true rfl) dX5_init_10 (fun H locs hP hD hS => ?_)
  have hP : va_P D vwCl [(q_th, .inr (5, [.ref q8, .int 0])), (q8, .inl (tc 0, 200, .inl (fun _ => 0)))] H := hP
  have hD : va_D A [(q_th, .inr (5, [.ref q8, .int 0])), (q8, .inl (tc 0, 200, .inl (fun _ => 0)))] := hD
  refine W.widen (k := 1) (n := 200) (by omega) (by omega) ?_
  exact stn_ret hx hb hr hlocks (fun j => ([q8] : List Nat).getD j 0) (hP.sub [0, 1] rfl) (hD.sub [0, 1] (by decide) rfl) hS dX5_init_13
set_option maxHeartbeats 4000000 in
set_option maxRecDepth 100000 in
theorem s_X6_init {l : Launch} {E : (Nat → Prop) → State → Prop} (hEok : st_Eok E) {D : va_G} {tc : Nat → ClassId} (q_th : Nat) (a1 : Nat) : stn l yX6_init wsX6_init ({ frames := 1, cells := 0, slots := 0, locals := 12 }) E D tc [.ref q_th, .ref a1] [(q_th, .inr (6, [.null, .int 0, .int 0, .int 0, .int 0]))] (fun _ => [(q_th, .inr (6, [.ref a1, .int 0, .int 0, .int 0, .int 0]))]) (0) (0) := by
  refine stn_enter (cc := cX6_init) (maxL := 2) (by decide) rfl rfl (Nat.le_of_ble_eq_true rfl) ?_
  intro p e s m below meth c A ls hx hb hr hml hts hown hlocks hmn hK hN hE hA hP hD hS hl
  have hl : lv_has ls 2 [(0, .ref q_th), (1, .ref a1)] := hl
  have hinX6 : ∀ w ∈ wsX60, w ∈ wsX6_init := by decide +kernel
  generalize hav : ([.ref q_th, .ref a1] : List Value).toArray = av at hts ⊢
  refine lv_aload_n hx hb dX6_init_0 rfl (lv_at hl 0 rfl) ?_
  refine W.objInit hx hb hown (hts (.methodLink RX6 1 objectInit) (by decide +kernel)) (hts (.instanceMethod objectInit) (by decide +kernel)) (hts _ (List.mem_cons_of_mem _ (List.mem_of_getElem? (i := 2) rfl))) rfl (by rw [hml]; exact hl.1) rfl dX6_init_1 (Nat.le_of_ble_eq_true rfl) (Nat.le_of_ble_eq_true rfl) ?_
  refine W.eq (g2 := F0 m 4 ls []) rfl ?_
  refine lv_aload_n hx hb dX6_init_4 rfl (lv_at hl 0 rfl) ?_
  refine lv_aload_n hx hb dX6_init_5 rfl (lv_at hl 1 rfl) ?_
  refine va_putF (D := D) (ci := 6) (v := .ref a1) (ty := .object "ChanceBounds$Text") (C := RX6) (T := TX6) (N := 5) hx hb hts hinX6 tyX6 tyX6_ok nmX6 hown hK hP hD hS 0 rfl rfl 0 (by decide) (hts (.fieldLink RX6 7 "ChanceBounds$Tokens" "text" "LChanceBounds$Text;") (by decide +kernel)) (fun _ h9 => h9) rfl hmn rfl (by decide +kernel) rfl rfl (Nat.le_of_ble_eq_true rfl) dX6_init_6 (fun H locs hP hD hS => ?_)
  have hP : va_P D vwCl [(q_th, .inr (6, [.ref a1, .int 0, .int 0, .int 0, .int 0]))] H := hP
  have hD : va_D A [(q_th, .inr (6, [.ref a1, .int 0, .int 0, .int 0, .int 0]))] := hD
  refine W.widen (k := 0) (n := 0) (by omega) (by omega) ?_
  exact stn_ret hx hb hr hlocks (fun j => ([] : List Nat).getD j 0) (hP.sub [0] rfl) (hD.sub [0] (by decide) rfl) hS dX6_init_9
def cn_t8 : Nat → Int32 := (upd (upd (upd (upd (upd (upd (upd (upd (fun _ => 0) (0 : Int32).toNatClampNeg (125 : Int32)) (1 : Int32).toNatClampNeg (125 : Int32)) (2 : Int32).toNatClampNeg (125 : Int32)) (3 : Int32).toNatClampNeg (125 : Int32)) (4 : Int32).toNatClampNeg (125 : Int32)) (5 : Int32).toNatClampNeg (125 : Int32)) (6 : Int32).toNatClampNeg (125 : Int32)) (7 : Int32).toNatClampNeg (125 : Int32))
set_option maxHeartbeats 4000000 in
set_option maxRecDepth 100000 in
theorem s_X7_init {l : Launch} {E : (Nat → Prop) → State → Prop} (hEok : st_Eok E) {D : va_G} {tc : Nat → ClassId} (q_th : Nat)  : stn l yX7_init wsX7_init ({ frames := 1, cells := 1, slots := 8, locals := 12 }) E D tc [.ref q_th] [(q_th, .inr (7, [.null]))] (fun x => [(q_th, .inr (7, [.ref (x 0)])), ((x 0), .inl (tc 0, 8, .inl cn_t8))]) (1) (8) := by
  refine stn_enter (cc := cX7_init) (maxL := 2) (by decide) rfl rfl (Nat.le_of_ble_eq_true rfl) ?_
  intro p e s m below meth c A ls hx hb hr hml hts hown hlocks hmn hK hN hE hA hP hD hS hl
  have hl : lv_has ls 2 [(0, .ref q_th)] := hl
  have hinX7 : ∀ w ∈ wsX70, w ∈ wsX7_init := by decide +kernel
  generalize hav : ([.ref q_th] : List Value).toArray = av at hts ⊢
  refine lv_aload_n hx hb dX7_init_0 rfl (lv_at hl 0 rfl) ?_
  refine W.objInit hx hb hown (hts (.methodLink RX7 3 objectInit) (by decide +kernel)) (hts (.instanceMethod objectInit) (by decide +kernel)) (hts _ (List.mem_cons_of_mem _ (List.mem_of_getElem? (i := 2) rfl))) rfl (by rw [hml]; exact hl.1) rfl dX7_init_1 (Nat.le_of_ble_eq_true rfl) (Nat.le_of_ble_eq_true rfl) ?_
  refine W.eq (g2 := F0 m 4 ls []) rfl ?_
  refine lv_aload_n hx hb dX7_init_4 rfl (lv_at hl 0 rfl) ?_
  refine lv_bipush (v := (8 : Int32)) hx hb dX7_init_5 (by decide) ?_
  refine st_newI hx hb (hts (.arrayClass .int) (by decide +kernel)) hK hP hD hS hA 8 (by decide) rfl (by decide) (Nat.le_of_ble_eq_true rfl) (Nat.le_of_ble_eq_true rfl) dX7_init_7 (fun q7 H hP hD hS => ?_)
  have hP : va_P D vwCl [(q_th, .inr (7, [.null])), (q7, .inl (tc 0, 8, .inl (fun _ => 0)))] H := hP
  have hD : va_D A [(q_th, .inr (7, [.null])), (q7, .inl (tc 0, 8, .inl (fun _ => 0)))] := hD
  refine va_putF (D := D) (ci := 7) (v := .ref q7) (ty := .array .int) (C := RX7) (T := TX7) (N := 1) hx hb hts hinX7 tyX7 tyX7_ok nmX7 hown hK hP hD hS 0 rfl rfl 0 (by decide) (hts (.fieldLink RX7 9 "ChanceBounds$ToldRow" "thousandths" "[I") (by decide +kernel)) (fun _ h9 => h9) rfl hmn rfl (by decide +kernel) rfl rfl (Nat.le_of_ble_eq_true rfl) dX7_init_9 (fun H locs hP hD hS => ?_)
  have hP : va_P D vwCl [(q_th, .inr (7, [.ref q7])), (q7, .inl (tc 0, 8, .inl (fun _ => 0)))] H := hP
  have hD : va_D A [(q_th, .inr (7, [.ref q7])), (q7, .inl (tc 0, 8, .inl (fun _ => 0)))] := hD
  refine lv_iconst (v := (0 : Int32)) hx hb dX7_init_12 (by decide) ?_
  refine lv_istore_n (lv' := [(1, .int (0 : Int32)), (0, .ref q_th)]) hx hb dX7_init_13 rfl hl (by decide) rfl (fun ls hl => ?_)
  refine lv_iload_n hx hb dX7_init_14 rfl (lv_at hl 0 rfl) ?_
  refine lv_bipush (v := (8 : Int32)) hx hb dX7_init_15 (by decide) ?_
  refine lv_icmp_ge (tgt := 34) hx hb dX7_init_17 (by decide) (fun c2 => absurd c2 (by decide)) (fun c2 => ?_)
  refine lv_aload_n hx hb dX7_init_20 rfl (lv_at hl 1 rfl) ?_
  refine va_get (D := D) (ci := 7) (v := .ref q7) (C := RX7) (T := TX7) (N := 1) hx hb hts hinX7 hown hK hP 0 rfl rfl 0 (by decide) (hts (.fieldLink RX7 9 "ChanceBounds$ToldRow" "thousandths" "[I") (by decide +kernel)) (fun _ h9 => h9) rfl dX7_init_21 ?_
  refine lv_iload_n hx hb dX7_init_24 rfl (lv_at hl 0 rfl) ?_
  refine lv_bipush (v := (125 : Int32)) hx hb dX7_init_25 (by decide) ?_
  refine va_iast hx hb hK hP hD hS 1 0 rfl rfl (show ¬ ((0 : Int32) < 0 ∨ 8 ≤ (0 : Int32).toNatClampNeg) by decide) dX7_init_27 (fun H locs hP hD hS => ?_)
  have hP : va_P D vwCl [(q_th, .inr (7, [.ref q7])), (q7, .inl (tc 0, 8, .inl (upd (fun _ => 0) (0 : Int32).toNatClampNeg (125 : Int32))))] H := hP
  have hD : va_D A [(q_th, .inr (7, [.ref q7])), (q7, .inl (tc 0, 8, .inl (upd (fun _ => 0) (0 : Int32).toNatClampNeg (125 : Int32))))] := hD
  refine lv_iinc (v := (1 : Int32)) (lv' := [(1, .int (1 : Int32)), (0, .ref q_th)]) hx hb dX7_init_28 hl (k := 0) rfl rfl (by decide) rfl (fun ls hl => ?_)
  refine lv_goto (tgt := 14) hx hb dX7_init_31 (by decide) ?_
  refine lv_iload_n hx hb dX7_init_14 rfl (lv_at hl 0 rfl) ?_
  refine lv_bipush (v := (8 : Int32)) hx hb dX7_init_15 (by decide) ?_
  refine lv_icmp_ge (tgt := 34) hx hb dX7_init_17 (by decide) (fun c3 => absurd c3 (by decide)) (fun c3 => ?_)
  refine lv_aload_n hx hb dX7_init_20 rfl (lv_at hl 1 rfl) ?_
  refine va_get (D := D) (ci := 7) (v := .ref q7) (C := RX7) (T := TX7) (N := 1) hx hb hts hinX7 hown hK hP 0 rfl rfl 0 (by decide) (hts (.fieldLink RX7 9 "ChanceBounds$ToldRow" "thousandths" "[I") (by decide +kernel)) (fun _ h9 => h9) rfl dX7_init_21 ?_
  refine lv_iload_n hx hb dX7_init_24 rfl (lv_at hl 0 rfl) ?_
  refine lv_bipush (v := (125 : Int32)) hx hb dX7_init_25 (by decide) ?_
  refine va_iast hx hb hK hP hD hS 1 0 rfl rfl (show ¬ ((1 : Int32) < 0 ∨ 8 ≤ (1 : Int32).toNatClampNeg) by decide) dX7_init_27 (fun H locs hP hD hS => ?_)
  have hP : va_P D vwCl [(q_th, .inr (7, [.ref q7])), (q7, .inl (tc 0, 8, .inl (upd (upd (fun _ => 0) (0 : Int32).toNatClampNeg (125 : Int32)) (1 : Int32).toNatClampNeg (125 : Int32))))] H := hP
  have hD : va_D A [(q_th, .inr (7, [.ref q7])), (q7, .inl (tc 0, 8, .inl (upd (upd (fun _ => 0) (0 : Int32).toNatClampNeg (125 : Int32)) (1 : Int32).toNatClampNeg (125 : Int32))))] := hD
  refine lv_iinc (v := (2 : Int32)) (lv' := [(1, .int (2 : Int32)), (0, .ref q_th)]) hx hb dX7_init_28 hl (k := 0) rfl rfl (by decide) rfl (fun ls hl => ?_)
  refine lv_goto (tgt := 14) hx hb dX7_init_31 (by decide) ?_
  refine lv_iload_n hx hb dX7_init_14 rfl (lv_at hl 0 rfl) ?_
  refine lv_bipush (v := (8 : Int32)) hx hb dX7_init_15 (by decide) ?_
  refine lv_icmp_ge (tgt := 34) hx hb dX7_init_17 (by decide) (fun c4 => absurd c4 (by decide)) (fun c4 => ?_)
  refine lv_aload_n hx hb dX7_init_20 rfl (lv_at hl 1 rfl) ?_
  refine va_get (D := D) (ci := 7) (v := .ref q7) (C := RX7) (T := TX7) (N := 1) hx hb hts hinX7 hown hK hP 0 rfl rfl 0 (by decide) (hts (.fieldLink RX7 9 "ChanceBounds$ToldRow" "thousandths" "[I") (by decide +kernel)) (fun _ h9 => h9) rfl dX7_init_21 ?_
  refine lv_iload_n hx hb dX7_init_24 rfl (lv_at hl 0 rfl) ?_
  refine lv_bipush (v := (125 : Int32)) hx hb dX7_init_25 (by decide) ?_
  refine va_iast hx hb hK hP hD hS 1 0 rfl rfl (show ¬ ((2 : Int32) < 0 ∨ 8 ≤ (2 : Int32).toNatClampNeg) by decide) dX7_init_27 (fun H locs hP hD hS => ?_)
  have hP : va_P D vwCl [(q_th, .inr (7, [.ref q7])), (q7, .inl (tc 0, 8, .inl (upd (upd (upd (fun _ => 0) (0 : Int32).toNatClampNeg (125 : Int32)) (1 : Int32).toNatClampNeg (125 : Int32)) (2 : Int32).toNatClampNeg (125 : Int32))))] H := hP
  have hD : va_D A [(q_th, .inr (7, [.ref q7])), (q7, .inl (tc 0, 8, .inl (upd (upd (upd (fun _ => 0) (0 : Int32).toNatClampNeg (125 : Int32)) (1 : Int32).toNatClampNeg (125 : Int32)) (2 : Int32).toNatClampNeg (125 : Int32))))] := hD
  refine lv_iinc (v := (3 : Int32)) (lv' := [(1, .int (3 : Int32)), (0, .ref q_th)]) hx hb dX7_init_28 hl (k := 0) rfl rfl (by decide) rfl (fun ls hl => ?_)
  refine lv_goto (tgt := 14) hx hb dX7_init_31 (by decide) ?_
  refine lv_iload_n hx hb dX7_init_14 rfl (lv_at hl 0 rfl) ?_
  refine lv_bipush (v := (8 : Int32)) hx hb dX7_init_15 (by decide) ?_
  refine lv_icmp_ge (tgt := 34) hx hb dX7_init_17 (by decide) (fun c5 => absurd c5 (by decide)) (fun c5 => ?_)
  refine lv_aload_n hx hb dX7_init_20 rfl (lv_at hl 1 rfl) ?_
  refine va_get (D := D) (ci := 7) (v := .ref q7) (C := RX7) (T := TX7) (N := 1) hx hb hts hinX7 hown hK hP 0 rfl rfl 0 (by decide) (hts (.fieldLink RX7 9 "ChanceBounds$ToldRow" "thousandths" "[I") (by decide +kernel)) (fun _ h9 => h9) rfl dX7_init_21 ?_
  refine lv_iload_n hx hb dX7_init_24 rfl (lv_at hl 0 rfl) ?_
  refine lv_bipush (v := (125 : Int32)) hx hb dX7_init_25 (by decide) ?_
  refine va_iast hx hb hK hP hD hS 1 0 rfl rfl (show ¬ ((3 : Int32) < 0 ∨ 8 ≤ (3 : Int32).toNatClampNeg) by decide) dX7_init_27 (fun H locs hP hD hS => ?_)
  have hP : va_P D vwCl [(q_th, .inr (7, [.ref q7])), (q7, .inl (tc 0, 8, .inl (upd (upd (upd (upd (fun _ => 0) (0 : Int32).toNatClampNeg (125 : Int32)) (1 : Int32).toNatClampNeg (125 : Int32)) (2 : Int32).toNatClampNeg (125 : Int32)) (3 : Int32).toNatClampNeg (125 : Int32))))] H := hP
  have hD : va_D A [(q_th, .inr (7, [.ref q7])), (q7, .inl (tc 0, 8, .inl (upd (upd (upd (upd (fun _ => 0) (0 : Int32).toNatClampNeg (125 : Int32)) (1 : Int32).toNatClampNeg (125 : Int32)) (2 : Int32).toNatClampNeg (125 : Int32)) (3 : Int32).toNatClampNeg (125 : Int32))))] := hD
  refine lv_iinc (v := (4 : Int32)) (lv' := [(1, .int (4 : Int32)), (0, .ref q_th)]) hx hb dX7_init_28 hl (k := 0) rfl rfl (by decide) rfl (fun ls hl => ?_)
  refine lv_goto (tgt := 14) hx hb dX7_init_31 (by decide) ?_
  refine lv_iload_n hx hb dX7_init_14 rfl (lv_at hl 0 rfl) ?_
  refine lv_bipush (v := (8 : Int32)) hx hb dX7_init_15 (by decide) ?_
  refine lv_icmp_ge (tgt := 34) hx hb dX7_init_17 (by decide) (fun c6 => absurd c6 (by decide)) (fun c6 => ?_)
  refine lv_aload_n hx hb dX7_init_20 rfl (lv_at hl 1 rfl) ?_
  refine va_get (D := D) (ci := 7) (v := .ref q7) (C := RX7) (T := TX7) (N := 1) hx hb hts hinX7 hown hK hP 0 rfl rfl 0 (by decide) (hts (.fieldLink RX7 9 "ChanceBounds$ToldRow" "thousandths" "[I") (by decide +kernel)) (fun _ h9 => h9) rfl dX7_init_21 ?_
  refine lv_iload_n hx hb dX7_init_24 rfl (lv_at hl 0 rfl) ?_
  refine lv_bipush (v := (125 : Int32)) hx hb dX7_init_25 (by decide) ?_
  refine va_iast hx hb hK hP hD hS 1 0 rfl rfl (show ¬ ((4 : Int32) < 0 ∨ 8 ≤ (4 : Int32).toNatClampNeg) by decide) dX7_init_27 (fun H locs hP hD hS => ?_)
  have hP : va_P D vwCl [(q_th, .inr (7, [.ref q7])), (q7, .inl (tc 0, 8, .inl (upd (upd (upd (upd (upd (fun _ => 0) (0 : Int32).toNatClampNeg (125 : Int32)) (1 : Int32).toNatClampNeg (125 : Int32)) (2 : Int32).toNatClampNeg (125 : Int32)) (3 : Int32).toNatClampNeg (125 : Int32)) (4 : Int32).toNatClampNeg (125 : Int32))))] H := hP
  have hD : va_D A [(q_th, .inr (7, [.ref q7])), (q7, .inl (tc 0, 8, .inl (upd (upd (upd (upd (upd (fun _ => 0) (0 : Int32).toNatClampNeg (125 : Int32)) (1 : Int32).toNatClampNeg (125 : Int32)) (2 : Int32).toNatClampNeg (125 : Int32)) (3 : Int32).toNatClampNeg (125 : Int32)) (4 : Int32).toNatClampNeg (125 : Int32))))] := hD
  refine lv_iinc (v := (5 : Int32)) (lv' := [(1, .int (5 : Int32)), (0, .ref q_th)]) hx hb dX7_init_28 hl (k := 0) rfl rfl (by decide) rfl (fun ls hl => ?_)
  refine lv_goto (tgt := 14) hx hb dX7_init_31 (by decide) ?_
  refine lv_iload_n hx hb dX7_init_14 rfl (lv_at hl 0 rfl) ?_
  refine lv_bipush (v := (8 : Int32)) hx hb dX7_init_15 (by decide) ?_
  refine lv_icmp_ge (tgt := 34) hx hb dX7_init_17 (by decide) (fun c7 => absurd c7 (by decide)) (fun c7 => ?_)
  refine lv_aload_n hx hb dX7_init_20 rfl (lv_at hl 1 rfl) ?_
  refine va_get (D := D) (ci := 7) (v := .ref q7) (C := RX7) (T := TX7) (N := 1) hx hb hts hinX7 hown hK hP 0 rfl rfl 0 (by decide) (hts (.fieldLink RX7 9 "ChanceBounds$ToldRow" "thousandths" "[I") (by decide +kernel)) (fun _ h9 => h9) rfl dX7_init_21 ?_
  refine lv_iload_n hx hb dX7_init_24 rfl (lv_at hl 0 rfl) ?_
  refine lv_bipush (v := (125 : Int32)) hx hb dX7_init_25 (by decide) ?_
  refine va_iast hx hb hK hP hD hS 1 0 rfl rfl (show ¬ ((5 : Int32) < 0 ∨ 8 ≤ (5 : Int32).toNatClampNeg) by decide) dX7_init_27 (fun H locs hP hD hS => ?_)
  have hP : va_P D vwCl [(q_th, .inr (7, [.ref q7])), (q7, .inl (tc 0, 8, .inl (upd (upd (upd (upd (upd (upd (fun _ => 0) (0 : Int32).toNatClampNeg (125 : Int32)) (1 : Int32).toNatClampNeg (125 : Int32)) (2 : Int32).toNatClampNeg (125 : Int32)) (3 : Int32).toNatClampNeg (125 : Int32)) (4 : Int32).toNatClampNeg (125 : Int32)) (5 : Int32).toNatClampNeg (125 : Int32))))] H := hP
  have hD : va_D A [(q_th, .inr (7, [.ref q7])), (q7, .inl (tc 0, 8, .inl (upd (upd (upd (upd (upd (upd (fun _ => 0) (0 : Int32).toNatClampNeg (125 : Int32)) (1 : Int32).toNatClampNeg (125 : Int32)) (2 : Int32).toNatClampNeg (125 : Int32)) (3 : Int32).toNatClampNeg (125 : Int32)) (4 : Int32).toNatClampNeg (125 : Int32)) (5 : Int32).toNatClampNeg (125 : Int32))))] := hD
  refine lv_iinc (v := (6 : Int32)) (lv' := [(1, .int (6 : Int32)), (0, .ref q_th)]) hx hb dX7_init_28 hl (k := 0) rfl rfl (by decide) rfl (fun ls hl => ?_)
  refine lv_goto (tgt := 14) hx hb dX7_init_31 (by decide) ?_
  refine lv_iload_n hx hb dX7_init_14 rfl (lv_at hl 0 rfl) ?_
  refine lv_bipush (v := (8 : Int32)) hx hb dX7_init_15 (by decide) ?_
  refine lv_icmp_ge (tgt := 34) hx hb dX7_init_17 (by decide) (fun c8 => absurd c8 (by decide)) (fun c8 => ?_)
  refine lv_aload_n hx hb dX7_init_20 rfl (lv_at hl 1 rfl) ?_
  refine va_get (D := D) (ci := 7) (v := .ref q7) (C := RX7) (T := TX7) (N := 1) hx hb hts hinX7 hown hK hP 0 rfl rfl 0 (by decide) (hts (.fieldLink RX7 9 "ChanceBounds$ToldRow" "thousandths" "[I") (by decide +kernel)) (fun _ h9 => h9) rfl dX7_init_21 ?_
  refine lv_iload_n hx hb dX7_init_24 rfl (lv_at hl 0 rfl) ?_
  refine lv_bipush (v := (125 : Int32)) hx hb dX7_init_25 (by decide) ?_
  refine va_iast hx hb hK hP hD hS 1 0 rfl rfl (show ¬ ((6 : Int32) < 0 ∨ 8 ≤ (6 : Int32).toNatClampNeg) by decide) dX7_init_27 (fun H locs hP hD hS => ?_)
  have hP : va_P D vwCl [(q_th, .inr (7, [.ref q7])), (q7, .inl (tc 0, 8, .inl (upd (upd (upd (upd (upd (upd (upd (fun _ => 0) (0 : Int32).toNatClampNeg (125 : Int32)) (1 : Int32).toNatClampNeg (125 : Int32)) (2 : Int32).toNatClampNeg (125 : Int32)) (3 : Int32).toNatClampNeg (125 : Int32)) (4 : Int32).toNatClampNeg (125 : Int32)) (5 : Int32).toNatClampNeg (125 : Int32)) (6 : Int32).toNatClampNeg (125 : Int32))))] H := hP
  have hD : va_D A [(q_th, .inr (7, [.ref q7])), (q7, .inl (tc 0, 8, .inl (upd (upd (upd (upd (upd (upd (upd (fun _ => 0) (0 : Int32).toNatClampNeg (125 : Int32)) (1 : Int32).toNatClampNeg (125 : Int32)) (2 : Int32).toNatClampNeg (125 : Int32)) (3 : Int32).toNatClampNeg (125 : Int32)) (4 : Int32).toNatClampNeg (125 : Int32)) (5 : Int32).toNatClampNeg (125 : Int32)) (6 : Int32).toNatClampNeg (125 : Int32))))] := hD
  refine lv_iinc (v := (7 : Int32)) (lv' := [(1, .int (7 : Int32)), (0, .ref q_th)]) hx hb dX7_init_28 hl (k := 0) rfl rfl (by decide) rfl (fun ls hl => ?_)
  refine lv_goto (tgt := 14) hx hb dX7_init_31 (by decide) ?_
  refine lv_iload_n hx hb dX7_init_14 rfl (lv_at hl 0 rfl) ?_
  refine lv_bipush (v := (8 : Int32)) hx hb dX7_init_15 (by decide) ?_
  refine lv_icmp_ge (tgt := 34) hx hb dX7_init_17 (by decide) (fun c9 => absurd c9 (by decide)) (fun c9 => ?_)
  refine lv_aload_n hx hb dX7_init_20 rfl (lv_at hl 1 rfl) ?_
  refine va_get (D := D) (ci := 7) (v := .ref q7) (C := RX7) (T := TX7) (N := 1) hx hb hts hinX7 hown hK hP 0 rfl rfl 0 (by decide) (hts (.fieldLink RX7 9 "ChanceBounds$ToldRow" "thousandths" "[I") (by decide +kernel)) (fun _ h9 => h9) rfl dX7_init_21 ?_
  refine lv_iload_n hx hb dX7_init_24 rfl (lv_at hl 0 rfl) ?_
  refine lv_bipush (v := (125 : Int32)) hx hb dX7_init_25 (by decide) ?_
  refine va_iast hx hb hK hP hD hS 1 0 rfl rfl (show ¬ ((7 : Int32) < 0 ∨ 8 ≤ (7 : Int32).toNatClampNeg) by decide) dX7_init_27 (fun H locs hP hD hS => ?_)
  have hP : va_P D vwCl [(q_th, .inr (7, [.ref q7])), (q7, .inl (tc 0, 8, .inl (upd (upd (upd (upd (upd (upd (upd (upd (fun _ => 0) (0 : Int32).toNatClampNeg (125 : Int32)) (1 : Int32).toNatClampNeg (125 : Int32)) (2 : Int32).toNatClampNeg (125 : Int32)) (3 : Int32).toNatClampNeg (125 : Int32)) (4 : Int32).toNatClampNeg (125 : Int32)) (5 : Int32).toNatClampNeg (125 : Int32)) (6 : Int32).toNatClampNeg (125 : Int32)) (7 : Int32).toNatClampNeg (125 : Int32))))] H := hP
  have hD : va_D A [(q_th, .inr (7, [.ref q7])), (q7, .inl (tc 0, 8, .inl (upd (upd (upd (upd (upd (upd (upd (upd (fun _ => 0) (0 : Int32).toNatClampNeg (125 : Int32)) (1 : Int32).toNatClampNeg (125 : Int32)) (2 : Int32).toNatClampNeg (125 : Int32)) (3 : Int32).toNatClampNeg (125 : Int32)) (4 : Int32).toNatClampNeg (125 : Int32)) (5 : Int32).toNatClampNeg (125 : Int32)) (6 : Int32).toNatClampNeg (125 : Int32)) (7 : Int32).toNatClampNeg (125 : Int32))))] := hD
  refine lv_iinc (v := (8 : Int32)) (lv' := [(1, .int (8 : Int32)), (0, .ref q_th)]) hx hb dX7_init_28 hl (k := 0) rfl rfl (by decide) rfl (fun ls hl => ?_)
  refine lv_goto (tgt := 14) hx hb dX7_init_31 (by decide) ?_
  refine lv_iload_n hx hb dX7_init_14 rfl (lv_at hl 0 rfl) ?_
  refine lv_bipush (v := (8 : Int32)) hx hb dX7_init_15 (by decide) ?_
  refine lv_icmp_ge (tgt := 34) hx hb dX7_init_17 (by decide) (fun c10 => ?_) (fun c10 => absurd (by decide) c10)
  refine W.widen (k := 1) (n := 8) (by omega) (by omega) ?_
  exact stn_ret hx hb hr hlocks (fun j => ([q7] : List Nat).getD j 0) (hP.sub [0, 1] rfl) (hD.sub [0, 1] (by decide) rfl) hS dX7_init_34
set_option maxHeartbeats 4000000 in
set_option maxRecDepth 100000 in
theorem s_X0_init {l : Launch} {E : (Nat → Prop) → State → Prop} (hEok : st_Eok E) {D : va_G} {tc : Nat → ClassId} (q_th : Nat) (x1 : Int32) (r : Nat) (hr0 : r ≤ 440) : stn l yX0_init wsX0_init ({ frames := 2, cells := 6, slots := 13 + 11 * r, locals := 48 }) E D tc [.ref q_th, .int x1, .int (nI r)] [(q_th, .inr (0, [.null, .null, .null, .null, .null, .null, .int 0, .int 0, .int 0, .int 0]))] (fun x => [(q_th, .inr (0, [.ref (x 0), .ref (x 1), .ref (x 2), .ref (x 3), .ref (x 4), .ref (x 5), .int ((1 : Int32) <<< (((8 : Int32) + ((2 : Int32) * x1)) &&& 31)), .int (((1 : Int32) <<< (((8 : Int32) + ((2 : Int32) * x1)) &&& 31)) <<< ((1 : Int32) &&& 31)), .int (nI r), .int 0])), ((x 0), .inl (tc 1, (8 * r), .inr (.inl (fun _ => 0)))), ((x 1), .inl (tc 0, (r), .inl (fun _ => 0))), ((x 2), .inl (tc 1, (r), .inr (.inl (fun _ => 0)))), ((x 3), .inl (tc 1, (r), .inr (.inl (fun _ => 0)))), ((x 4), .inl (tc 1, 8, .inr (.inl (fun _ => 0)))), ((x 5), .inr (4, [.int 0, .int 0, .int 0, .int 0, .int 0]))]) (6) (13 + 11 * r) := by
  refine stn_enter (cc := cX0_init) (maxL := 3) (by decide) rfl rfl (Nat.le_of_ble_eq_true rfl) ?_
  intro p e s m below meth c A ls hx hb hr hml hts hown hlocks hmn hK hN hE hA hP hD hS hl
  have hl : lv_has ls 3 [(0, .ref q_th), (1, .int x1), (2, .int (nI r))] := hl
  have hinX0 : ∀ w ∈ wsX00, w ∈ wsX0_init := by decide +kernel
  have hinX4 : ∀ w ∈ wsX40, w ∈ wsX0_init := by decide +kernel
  generalize hav : ([.ref q_th, .int x1, .int (nI r)] : List Value).toArray = av at hts ⊢
  refine lv_aload_n hx hb dX0_init_0 rfl (lv_at hl 0 rfl) ?_
  refine W.objInit hx hb hown (hts (.methodLink RX0 3 objectInit) (by decide +kernel)) (hts (.instanceMethod objectInit) (by decide +kernel)) (hts _ (List.mem_cons_of_mem _ (List.mem_of_getElem? (i := 2) rfl))) rfl (by rw [hml]; exact hl.1) rfl dX0_init_1 (Nat.le_of_ble_eq_true rfl) (Nat.le_of_ble_eq_true rfl) ?_
  refine W.eq (g2 := F0 m 4 ls []) rfl ?_
  refine lv_aload_n hx hb dX0_init_4 rfl (lv_at hl 0 rfl) ?_
  refine lv_bipush (v := (8 : Int32)) hx hb dX0_init_5 (by decide) ?_
  refine st_newL hx hb (hts (.arrayClass .long) (by decide +kernel)) hK hP hD hS hA 8 (by decide) rfl (by decide) (Nat.le_of_ble_eq_true rfl) (by show _ ≤ 13 + 11 * r; omega) dX0_init_7 (fun q7 H hP hD hS => ?_)
  have hP : va_P D vwCl [(q_th, .inr (0, [.null, .null, .null, .null, .null, .null, .int 0, .int 0, .int 0, .int 0])), (q7, .inl (tc 1, 8, .inr (.inl (fun _ => 0))))] H := hP
  have hD : va_D A [(q_th, .inr (0, [.null, .null, .null, .null, .null, .null, .int 0, .int 0, .int 0, .int 0])), (q7, .inl (tc 1, 8, .inr (.inl (fun _ => 0))))] := hD
  refine va_putF (D := D) (ci := 0) (v := .ref q7) (ty := .array .long) (C := RX0) (T := TX0) (N := 10) hx hb hts hinX0 tyX0 tyX0_ok nmX0 hown hK hP hD hS 0 rfl rfl 4 (by decide) (hts (.fieldLink RX0 9 "ChanceBounds$Corners" "mixed" "[J") (by decide +kernel)) (fun _ h9 => h9) rfl hmn rfl (by decide +kernel) rfl rfl (Nat.le_of_ble_eq_true rfl) dX0_init_9 (fun H locs hP hD hS => ?_)
  have hP : va_P D vwCl [(q_th, .inr (0, [.null, .null, .null, .null, .ref q7, .null, .int 0, .int 0, .int 0, .int 0])), (q7, .inl (tc 1, 8, .inr (.inl (fun _ => 0))))] H := hP
  have hD : va_D A [(q_th, .inr (0, [.null, .null, .null, .null, .ref q7, .null, .int 0, .int 0, .int 0, .int 0])), (q7, .inl (tc 1, 8, .inr (.inl (fun _ => 0))))] := hD
  refine lv_aload_n hx hb dX0_init_12 rfl (lv_at hl 0 rfl) ?_
  refine va_new (ci := 4) (fs := [.int 0, .int 0, .int 0, .int 0, .int 0]) (C := RX4) (T := TX4) (N := 5) hx hb hts hinX4 tyX4 tyX4_ok hown (hts (.classLink RX0 15 RX4) (by decide +kernel)) (hts (.instantiable RX4 5) (by decide +kernel)) (hts (.initialized RX4) (by decide +kernel)) hK hP hD hS hA rfl dfX4 (Nat.le_of_ble_eq_true rfl) (by show _ ≤ 13 + 11 * r; omega) dX0_init_13 (fun q13 H hP hD hS => ?_)
  have hP : va_P D vwCl [(q_th, .inr (0, [.null, .null, .null, .null, .ref q7, .null, .int 0, .int 0, .int 0, .int 0])), (q7, .inl (tc 1, 8, .inr (.inl (fun _ => 0)))), (q13, .inr (4, [.int 0, .int 0, .int 0, .int 0, .int 0]))] H := hP
  have hD : va_D A [(q_th, .inr (0, [.null, .null, .null, .null, .ref q7, .null, .int 0, .int 0, .int 0, .int 0])), (q7, .inl (tc 1, 8, .inr (.inl (fun _ => 0)))), (q13, .inr (4, [.int 0, .int 0, .int 0, .int 0, .int 0]))] := hD
  refine lv_dup hx hb dX0_init_16 rfl ?_
  refine stn_callIN (As := []) (rest := [.ref q13, .ref q_th]) (wr := [(q_th, .inr (0, [.null, .null, .null, .null, .ref q7, .null, .int 0, .int 0, .int 0, .int 0])), (q7, .inl (tc 1, 8, .inr (.inl (fun _ => 0))))]) ⟨hx, hb, hml, hown, hts⟩ (s_X4_init (l := l) (D := D) (tc := tc) hEok q13) ⟨va_cnB (host := "ChanceBounds") 0 hts gX0_init_X4_init_n17 rfl rfl rfl (hN (.methodLinkNest RX0 17 yX4_init "ChanceBounds") (by decide +kernel)) (hts (.initialized RX4) (by decide +kernel)) (by decide +kernel) ⟨(Nat.le_of_ble_eq_true rfl), (Nat.le_of_ble_eq_true rfl)⟩, rfl, hts (.instanceMethod yX4_init) (by decide +kernel)⟩ hEok hE hK hN hP hD hS hA [2] [0, 1] rfl rfl rfl (by decide) (by decide) rfl hl.1 rfl (Nat.le_of_ble_eq_true rfl) dX0_init_17 ⟨(Nat.le_of_ble_eq_true rfl), (by show _ ≤ 13 + 11 * r; omega)⟩ (fun x3 H locs hP hD hS => ?_)
  have hP : va_P D vwCl [(q_th, .inr (0, [.null, .null, .null, .null, .ref q7, .null, .int 0, .int 0, .int 0, .int 0])), (q7, .inl (tc 1, 8, .inr (.inl (fun _ => 0)))), (q13, .inr (4, [.int 0, .int 0, .int 0, .int 0, .int 0]))] H := hP
  have hD : va_D A [(q_th, .inr (0, [.null, .null, .null, .null, .ref q7, .null, .int 0, .int 0, .int 0, .int 0])), (q7, .inl (tc 1, 8, .inr (.inl (fun _ => 0)))), (q13, .inr (4, [.int 0, .int 0, .int 0, .int 0, .int 0]))] := hD
  refine va_putF (D := D) (ci := 0) (v := .ref q13) (ty := .object "ChanceBounds$Saying") (C := RX0) (T := TX0) (N := 10) hx hb hts hinX0 tyX0 tyX0_ok nmX0 hown hK hP hD hS 0 rfl rfl 5 (by decide) (hts (.fieldLink RX0 18 "ChanceBounds$Corners" "cutBy" "LChanceBounds$Saying;") (by decide +kernel)) (fun _ h9 => h9) rfl hmn rfl (by decide +kernel) rfl rfl (Nat.le_of_ble_eq_true rfl) dX0_init_20 (fun H locs hP hD hS => ?_)
  have hP : va_P D vwCl [(q_th, .inr (0, [.null, .null, .null, .null, .ref q7, .ref q13, .int 0, .int 0, .int 0, .int 0])), (q7, .inl (tc 1, 8, .inr (.inl (fun _ => 0)))), (q13, .inr (4, [.int 0, .int 0, .int 0, .int 0, .int 0]))] H := hP
  have hD : va_D A [(q_th, .inr (0, [.null, .null, .null, .null, .ref q7, .ref q13, .int 0, .int 0, .int 0, .int 0])), (q7, .inl (tc 1, 8, .inr (.inl (fun _ => 0)))), (q13, .inr (4, [.int 0, .int 0, .int 0, .int 0, .int 0]))] := hD
  refine lv_aload_n hx hb dX0_init_23 rfl (lv_at hl 0 rfl) ?_
  refine lv_iload_n hx hb dX0_init_24 rfl (lv_at hl 2 rfl) ?_
  refine lv_iconst (v := (0 : Int32)) hx hb dX0_init_25 (by decide) ?_
  refine va_mmax hx hb (hml.trans hl.1.symm) hown (hts (.methodLink RX0 22 Lib.Math.max.name) (by decide +kernel)) (hts (.static Lib.Math.max.name) (by decide +kernel)) (hts (.initialized "java/lang/Math") (by decide +kernel)) (hts (.code Lib.Math.max.name Lib.Math.max.code 2 (some .int)) (by decide +kernel)) (Nat.le_of_ble_eq_true rfl) (Nat.le_of_ble_eq_true rfl) (Nat.le_of_ble_eq_true rfl) (by show _ ≤ 13 + 11 * r; omega) dX0_init_26 ?_
  refine st_nmi (show (if nI r < (0 : Int32) then (0 : Int32) else nI r) = nI r from if_neg (show ¬ nI r < (0 : Int32) from nI_nlt (Nat.zero_le r) (by omega))) ?_
  refine va_putF (D := D) (ci := 0) (v := .int (nI r)) (ty := .int) (C := RX0) (T := TX0) (N := 10) hx hb hts hinX0 tyX0 tyX0_ok nmX0 hown hK hP hD hS 0 rfl rfl 8 (by decide) (hts (.fieldLink RX0 28 "ChanceBounds$Corners" "room" "I") (by decide +kernel)) (fun _ h9 => h9) rfl hmn rfl (by decide +kernel) rfl rfl (Nat.le_of_ble_eq_true rfl) dX0_init_29 (fun H locs hP hD hS => ?_)
  have hP : va_P D vwCl [(q_th, .inr (0, [.null, .null, .null, .null, .ref q7, .ref q13, .int 0, .int 0, .int (nI r), .int 0])), (q7, .inl (tc 1, 8, .inr (.inl (fun _ => 0)))), (q13, .inr (4, [.int 0, .int 0, .int 0, .int 0, .int 0]))] H := hP
  have hD : va_D A [(q_th, .inr (0, [.null, .null, .null, .null, .ref q7, .ref q13, .int 0, .int 0, .int (nI r), .int 0])), (q7, .inl (tc 1, 8, .inr (.inl (fun _ => 0)))), (q13, .inr (4, [.int 0, .int 0, .int 0, .int 0, .int 0]))] := hD
  refine lv_aload_n hx hb dX0_init_32 rfl (lv_at hl 0 rfl) ?_
  refine lv_bipush (v := (8 : Int32)) hx hb dX0_init_33 (by decide) ?_
  refine lv_aload_n hx hb dX0_init_35 rfl (lv_at hl 0 rfl) ?_
  refine va_get (D := D) (ci := 0) (v := .int (nI r)) (C := RX0) (T := TX0) (N := 10) hx hb hts hinX0 hown hK hP 0 rfl rfl 8 (by decide) (hts (.fieldLink RX0 28 "ChanceBounds$Corners" "room" "I") (by decide +kernel)) (fun _ h9 => h9) rfl dX0_init_36 ?_
  refine lv_imul hx hb dX0_init_39 ?_
  refine st_nmi (show (8 : Int32) * nI r = nI (8 * r) by rw [show (8 : Int32) = nI 8 from rfl, nI_mul]) ?_
  refine st_newL hx hb (hts (.arrayClass .long) (by decide +kernel)) hK hP hD hS hA (8 * r) (show ¬ nI (8 * r) < (0 : Int32) from nI_nlt (Nat.zero_le _) (by omega)) (nI_clamp (by omega)) (by omega) (Nat.le_of_ble_eq_true rfl) (by show _ ≤ 13 + 11 * r; omega) dX0_init_40 (fun q40 H hP hD hS => ?_)
  have hP : va_P D vwCl [(q_th, .inr (0, [.null, .null, .null, .null, .ref q7, .ref q13, .int 0, .int 0, .int (nI r), .int 0])), (q7, .inl (tc 1, 8, .inr (.inl (fun _ => 0)))), (q13, .inr (4, [.int 0, .int 0, .int 0, .int 0, .int 0])), (q40, .inl (tc 1, (8 * r), .inr (.inl (fun _ => 0))))] H := hP
  have hD : va_D A [(q_th, .inr (0, [.null, .null, .null, .null, .ref q7, .ref q13, .int 0, .int 0, .int (nI r), .int 0])), (q7, .inl (tc 1, 8, .inr (.inl (fun _ => 0)))), (q13, .inr (4, [.int 0, .int 0, .int 0, .int 0, .int 0])), (q40, .inl (tc 1, (8 * r), .inr (.inl (fun _ => 0))))] := hD
  refine va_putF (D := D) (ci := 0) (v := .ref q40) (ty := .array .long) (C := RX0) (T := TX0) (N := 10) hx hb hts hinX0 tyX0 tyX0_ok nmX0 hown hK hP hD hS 0 rfl rfl 0 (by decide) (hts (.fieldLink RX0 32 "ChanceBounds$Corners" "parts" "[J") (by decide +kernel)) (fun _ h9 => h9) rfl hmn rfl (by decide +kernel) rfl rfl (Nat.le_of_ble_eq_true rfl) dX0_init_42 (fun H locs hP hD hS => ?_)
  have hP : va_P D vwCl [(q_th, .inr (0, [.ref q40, .null, .null, .null, .ref q7, .ref q13, .int 0, .int 0, .int (nI r), .int 0])), (q7, .inl (tc 1, 8, .inr (.inl (fun _ => 0)))), (q13, .inr (4, [.int 0, .int 0, .int 0, .int 0, .int 0])), (q40, .inl (tc 1, (8 * r), .inr (.inl (fun _ => 0))))] H := hP
  have hD : va_D A [(q_th, .inr (0, [.ref q40, .null, .null, .null, .ref q7, .ref q13, .int 0, .int 0, .int (nI r), .int 0])), (q7, .inl (tc 1, 8, .inr (.inl (fun _ => 0)))), (q13, .inr (4, [.int 0, .int 0, .int 0, .int 0, .int 0])), (q40, .inl (tc 1, (8 * r), .inr (.inl (fun _ => 0))))] := hD
  refine lv_aload_n hx hb dX0_init_45 rfl (lv_at hl 0 rfl) ?_
  refine lv_aload_n hx hb dX0_init_46 rfl (lv_at hl 0 rfl) ?_
  refine va_get (D := D) (ci := 0) (v := .int (nI r)) (C := RX0) (T := TX0) (N := 10) hx hb hts hinX0 hown hK hP 0 rfl rfl 8 (by decide) (hts (.fieldLink RX0 28 "ChanceBounds$Corners" "room" "I") (by decide +kernel)) (fun _ h9 => h9) rfl dX0_init_47 ?_
  refine st_newI hx hb (hts (.arrayClass .int) (by decide +kernel)) hK hP hD hS hA (r) (show ¬ nI r < (0 : Int32) from nI_nlt (Nat.zero_le _) (by omega)) (nI_clamp (by omega)) (by omega) (Nat.le_of_ble_eq_true rfl) (by show _ ≤ 13 + 11 * r; omega) dX0_init_50 (fun q50 H hP hD hS => ?_)
  have hP : va_P D vwCl [(q_th, .inr (0, [.ref q40, .null, .null, .null, .ref q7, .ref q13, .int 0, .int 0, .int (nI r), .int 0])), (q7, .inl (tc 1, 8, .inr (.inl (fun _ => 0)))), (q13, .inr (4, [.int 0, .int 0, .int 0, .int 0, .int 0])), (q40, .inl (tc 1, (8 * r), .inr (.inl (fun _ => 0)))), (q50, .inl (tc 0, (r), .inl (fun _ => 0)))] H := hP
  have hD : va_D A [(q_th, .inr (0, [.ref q40, .null, .null, .null, .ref q7, .ref q13, .int 0, .int 0, .int (nI r), .int 0])), (q7, .inl (tc 1, 8, .inr (.inl (fun _ => 0)))), (q13, .inr (4, [.int 0, .int 0, .int 0, .int 0, .int 0])), (q40, .inl (tc 1, (8 * r), .inr (.inl (fun _ => 0)))), (q50, .inl (tc 0, (r), .inl (fun _ => 0)))] := hD
  refine va_putF (D := D) (ci := 0) (v := .ref q50) (ty := .array .int) (C := RX0) (T := TX0) (N := 10) hx hb hts hinX0 tyX0 tyX0_ok nmX0 hown hK hP hD hS 0 rfl rfl 1 (by decide) (hts (.fieldLink RX0 35 "ChanceBounds$Corners" "limits" "[I") (by decide +kernel)) (fun _ h9 => h9) rfl hmn rfl (by decide +kernel) rfl rfl (Nat.le_of_ble_eq_true rfl) dX0_init_52 (fun H locs hP hD hS => ?_)
  have hP : va_P D vwCl [(q_th, .inr (0, [.ref q40, .ref q50, .null, .null, .ref q7, .ref q13, .int 0, .int 0, .int (nI r), .int 0])), (q7, .inl (tc 1, 8, .inr (.inl (fun _ => 0)))), (q13, .inr (4, [.int 0, .int 0, .int 0, .int 0, .int 0])), (q40, .inl (tc 1, (8 * r), .inr (.inl (fun _ => 0)))), (q50, .inl (tc 0, (r), .inl (fun _ => 0)))] H := hP
  have hD : va_D A [(q_th, .inr (0, [.ref q40, .ref q50, .null, .null, .ref q7, .ref q13, .int 0, .int 0, .int (nI r), .int 0])), (q7, .inl (tc 1, 8, .inr (.inl (fun _ => 0)))), (q13, .inr (4, [.int 0, .int 0, .int 0, .int 0, .int 0])), (q40, .inl (tc 1, (8 * r), .inr (.inl (fun _ => 0)))), (q50, .inl (tc 0, (r), .inl (fun _ => 0)))] := hD
  refine lv_aload_n hx hb dX0_init_55 rfl (lv_at hl 0 rfl) ?_
  refine lv_aload_n hx hb dX0_init_56 rfl (lv_at hl 0 rfl) ?_
  refine va_get (D := D) (ci := 0) (v := .int (nI r)) (C := RX0) (T := TX0) (N := 10) hx hb hts hinX0 hown hK hP 0 rfl rfl 8 (by decide) (hts (.fieldLink RX0 28 "ChanceBounds$Corners" "room" "I") (by decide +kernel)) (fun _ h9 => h9) rfl dX0_init_57 ?_
  refine st_newL hx hb (hts (.arrayClass .long) (by decide +kernel)) hK hP hD hS hA (r) (show ¬ nI r < (0 : Int32) from nI_nlt (Nat.zero_le _) (by omega)) (nI_clamp (by omega)) (by omega) (Nat.le_of_ble_eq_true rfl) (by show _ ≤ 13 + 11 * r; omega) dX0_init_60 (fun q60 H hP hD hS => ?_)
  have hP : va_P D vwCl [(q_th, .inr (0, [.ref q40, .ref q50, .null, .null, .ref q7, .ref q13, .int 0, .int 0, .int (nI r), .int 0])), (q7, .inl (tc 1, 8, .inr (.inl (fun _ => 0)))), (q13, .inr (4, [.int 0, .int 0, .int 0, .int 0, .int 0])), (q40, .inl (tc 1, (8 * r), .inr (.inl (fun _ => 0)))), (q50, .inl (tc 0, (r), .inl (fun _ => 0))), (q60, .inl (tc 1, (r), .inr (.inl (fun _ => 0))))] H := hP
  have hD : va_D A [(q_th, .inr (0, [.ref q40, .ref q50, .null, .null, .ref q7, .ref q13, .int 0, .int 0, .int (nI r), .int 0])), (q7, .inl (tc 1, 8, .inr (.inl (fun _ => 0)))), (q13, .inr (4, [.int 0, .int 0, .int 0, .int 0, .int 0])), (q40, .inl (tc 1, (8 * r), .inr (.inl (fun _ => 0)))), (q50, .inl (tc 0, (r), .inl (fun _ => 0))), (q60, .inl (tc 1, (r), .inr (.inl (fun _ => 0))))] := hD
  refine va_putF (D := D) (ci := 0) (v := .ref q60) (ty := .array .long) (C := RX0) (T := TX0) (N := 10) hx hb hts hinX0 tyX0 tyX0_ok nmX0 hown hK hP hD hS 0 rfl rfl 2 (by decide) (hts (.fieldLink RX0 39 "ChanceBounds$Corners" "overFrom" "[J") (by decide +kernel)) (fun _ h9 => h9) rfl hmn rfl (by decide +kernel) rfl rfl (Nat.le_of_ble_eq_true rfl) dX0_init_62 (fun H locs hP hD hS => ?_)
  have hP : va_P D vwCl [(q_th, .inr (0, [.ref q40, .ref q50, .ref q60, .null, .ref q7, .ref q13, .int 0, .int 0, .int (nI r), .int 0])), (q7, .inl (tc 1, 8, .inr (.inl (fun _ => 0)))), (q13, .inr (4, [.int 0, .int 0, .int 0, .int 0, .int 0])), (q40, .inl (tc 1, (8 * r), .inr (.inl (fun _ => 0)))), (q50, .inl (tc 0, (r), .inl (fun _ => 0))), (q60, .inl (tc 1, (r), .inr (.inl (fun _ => 0))))] H := hP
  have hD : va_D A [(q_th, .inr (0, [.ref q40, .ref q50, .ref q60, .null, .ref q7, .ref q13, .int 0, .int 0, .int (nI r), .int 0])), (q7, .inl (tc 1, 8, .inr (.inl (fun _ => 0)))), (q13, .inr (4, [.int 0, .int 0, .int 0, .int 0, .int 0])), (q40, .inl (tc 1, (8 * r), .inr (.inl (fun _ => 0)))), (q50, .inl (tc 0, (r), .inl (fun _ => 0))), (q60, .inl (tc 1, (r), .inr (.inl (fun _ => 0))))] := hD
  refine lv_aload_n hx hb dX0_init_65 rfl (lv_at hl 0 rfl) ?_
  refine lv_aload_n hx hb dX0_init_66 rfl (lv_at hl 0 rfl) ?_
  refine va_get (D := D) (ci := 0) (v := .int (nI r)) (C := RX0) (T := TX0) (N := 10) hx hb hts hinX0 hown hK hP 0 rfl rfl 8 (by decide) (hts (.fieldLink RX0 28 "ChanceBounds$Corners" "room" "I") (by decide +kernel)) (fun _ h9 => h9) rfl dX0_init_67 ?_
  refine st_newL hx hb (hts (.arrayClass .long) (by decide +kernel)) hK hP hD hS hA (r) (show ¬ nI r < (0 : Int32) from nI_nlt (Nat.zero_le _) (by omega)) (nI_clamp (by omega)) (by omega) (Nat.le_of_ble_eq_true rfl) (by show _ ≤ 13 + 11 * r; omega) dX0_init_70 (fun q70 H hP hD hS => ?_)
  have hP : va_P D vwCl [(q_th, .inr (0, [.ref q40, .ref q50, .ref q60, .null, .ref q7, .ref q13, .int 0, .int 0, .int (nI r), .int 0])), (q7, .inl (tc 1, 8, .inr (.inl (fun _ => 0)))), (q13, .inr (4, [.int 0, .int 0, .int 0, .int 0, .int 0])), (q40, .inl (tc 1, (8 * r), .inr (.inl (fun _ => 0)))), (q50, .inl (tc 0, (r), .inl (fun _ => 0))), (q60, .inl (tc 1, (r), .inr (.inl (fun _ => 0)))), (q70, .inl (tc 1, (r), .inr (.inl (fun _ => 0))))] H := hP
  have hD : va_D A [(q_th, .inr (0, [.ref q40, .ref q50, .ref q60, .null, .ref q7, .ref q13, .int 0, .int 0, .int (nI r), .int 0])), (q7, .inl (tc 1, 8, .inr (.inl (fun _ => 0)))), (q13, .inr (4, [.int 0, .int 0, .int 0, .int 0, .int 0])), (q40, .inl (tc 1, (8 * r), .inr (.inl (fun _ => 0)))), (q50, .inl (tc 0, (r), .inl (fun _ => 0))), (q60, .inl (tc 1, (r), .inr (.inl (fun _ => 0)))), (q70, .inl (tc 1, (r), .inr (.inl (fun _ => 0))))] := hD
  refine va_putF (D := D) (ci := 0) (v := .ref q70) (ty := .array .long) (C := RX0) (T := TX0) (N := 10) hx hb hts hinX0 tyX0 tyX0_ok nmX0 hown hK hP hD hS 0 rfl rfl 3 (by decide) (hts (.fieldLink RX0 42 "ChanceBounds$Corners" "underTo" "[J") (by decide +kernel)) (fun _ h9 => h9) rfl hmn rfl (by decide +kernel) rfl rfl (Nat.le_of_ble_eq_true rfl) dX0_init_72 (fun H locs hP hD hS => ?_)
  have hP : va_P D vwCl [(q_th, .inr (0, [.ref q40, .ref q50, .ref q60, .ref q70, .ref q7, .ref q13, .int 0, .int 0, .int (nI r), .int 0])), (q7, .inl (tc 1, 8, .inr (.inl (fun _ => 0)))), (q13, .inr (4, [.int 0, .int 0, .int 0, .int 0, .int 0])), (q40, .inl (tc 1, (8 * r), .inr (.inl (fun _ => 0)))), (q50, .inl (tc 0, (r), .inl (fun _ => 0))), (q60, .inl (tc 1, (r), .inr (.inl (fun _ => 0)))), (q70, .inl (tc 1, (r), .inr (.inl (fun _ => 0))))] H := hP
  have hD : va_D A [(q_th, .inr (0, [.ref q40, .ref q50, .ref q60, .ref q70, .ref q7, .ref q13, .int 0, .int 0, .int (nI r), .int 0])), (q7, .inl (tc 1, 8, .inr (.inl (fun _ => 0)))), (q13, .inr (4, [.int 0, .int 0, .int 0, .int 0, .int 0])), (q40, .inl (tc 1, (8 * r), .inr (.inl (fun _ => 0)))), (q50, .inl (tc 0, (r), .inl (fun _ => 0))), (q60, .inl (tc 1, (r), .inr (.inl (fun _ => 0)))), (q70, .inl (tc 1, (r), .inr (.inl (fun _ => 0))))] := hD
  refine lv_aload_n hx hb dX0_init_75 rfl (lv_at hl 0 rfl) ?_
  refine lv_iconst (v := (1 : Int32)) hx hb dX0_init_76 (by decide) ?_
  refine lv_bipush (v := (8 : Int32)) hx hb dX0_init_77 (by decide) ?_
  refine lv_iconst (v := (2 : Int32)) hx hb dX0_init_79 (by decide) ?_
  refine lv_iload_n hx hb dX0_init_80 rfl (lv_at hl 1 rfl) ?_
  refine lv_imul hx hb dX0_init_81 ?_
  refine lv_iadd hx hb dX0_init_82 ?_
  refine lv_ishl hx hb dX0_init_83 ?_
  refine va_putF (D := D) (ci := 0) (v := .int ((1 : Int32) <<< (((8 : Int32) + ((2 : Int32) * x1)) &&& 31))) (ty := .int) (C := RX0) (T := TX0) (N := 10) hx hb hts hinX0 tyX0 tyX0_ok nmX0 hown hK hP hD hS 0 rfl rfl 6 (by decide) (hts (.fieldLink RX0 45 "ChanceBounds$Corners" "fromBit" "I") (by decide +kernel)) (fun _ h9 => h9) rfl hmn rfl (by decide +kernel) rfl rfl (Nat.le_of_ble_eq_true rfl) dX0_init_84 (fun H locs hP hD hS => ?_)
  have hP : va_P D vwCl [(q_th, .inr (0, [.ref q40, .ref q50, .ref q60, .ref q70, .ref q7, .ref q13, .int ((1 : Int32) <<< (((8 : Int32) + ((2 : Int32) * x1)) &&& 31)), .int 0, .int (nI r), .int 0])), (q7, .inl (tc 1, 8, .inr (.inl (fun _ => 0)))), (q13, .inr (4, [.int 0, .int 0, .int 0, .int 0, .int 0])), (q40, .inl (tc 1, (8 * r), .inr (.inl (fun _ => 0)))), (q50, .inl (tc 0, (r), .inl (fun _ => 0))), (q60, .inl (tc 1, (r), .inr (.inl (fun _ => 0)))), (q70, .inl (tc 1, (r), .inr (.inl (fun _ => 0))))] H := hP
  have hD : va_D A [(q_th, .inr (0, [.ref q40, .ref q50, .ref q60, .ref q70, .ref q7, .ref q13, .int ((1 : Int32) <<< (((8 : Int32) + ((2 : Int32) * x1)) &&& 31)), .int 0, .int (nI r), .int 0])), (q7, .inl (tc 1, 8, .inr (.inl (fun _ => 0)))), (q13, .inr (4, [.int 0, .int 0, .int 0, .int 0, .int 0])), (q40, .inl (tc 1, (8 * r), .inr (.inl (fun _ => 0)))), (q50, .inl (tc 0, (r), .inl (fun _ => 0))), (q60, .inl (tc 1, (r), .inr (.inl (fun _ => 0)))), (q70, .inl (tc 1, (r), .inr (.inl (fun _ => 0))))] := hD
  refine lv_aload_n hx hb dX0_init_87 rfl (lv_at hl 0 rfl) ?_
  refine lv_aload_n hx hb dX0_init_88 rfl (lv_at hl 0 rfl) ?_
  refine va_get (D := D) (ci := 0) (v := .int ((1 : Int32) <<< (((8 : Int32) + ((2 : Int32) * x1)) &&& 31))) (C := RX0) (T := TX0) (N := 10) hx hb hts hinX0 hown hK hP 0 rfl rfl 6 (by decide) (hts (.fieldLink RX0 45 "ChanceBounds$Corners" "fromBit" "I") (by decide +kernel)) (fun _ h9 => h9) rfl dX0_init_89 ?_
  refine lv_iconst (v := (1 : Int32)) hx hb dX0_init_92 (by decide) ?_
  refine lv_ishl hx hb dX0_init_93 ?_
  refine va_putF (D := D) (ci := 0) (v := .int (((1 : Int32) <<< (((8 : Int32) + ((2 : Int32) * x1)) &&& 31)) <<< ((1 : Int32) &&& 31))) (ty := .int) (C := RX0) (T := TX0) (N := 10) hx hb hts hinX0 tyX0 tyX0_ok nmX0 hown hK hP hD hS 0 rfl rfl 7 (by decide) (hts (.fieldLink RX0 48 "ChanceBounds$Corners" "toBit" "I") (by decide +kernel)) (fun _ h9 => h9) rfl hmn rfl (by decide +kernel) rfl rfl (Nat.le_of_ble_eq_true rfl) dX0_init_94 (fun H locs hP hD hS => ?_)
  have hP : va_P D vwCl [(q_th, .inr (0, [.ref q40, .ref q50, .ref q60, .ref q70, .ref q7, .ref q13, .int ((1 : Int32) <<< (((8 : Int32) + ((2 : Int32) * x1)) &&& 31)), .int (((1 : Int32) <<< (((8 : Int32) + ((2 : Int32) * x1)) &&& 31)) <<< ((1 : Int32) &&& 31)), .int (nI r), .int 0])), (q7, .inl (tc 1, 8, .inr (.inl (fun _ => 0)))), (q13, .inr (4, [.int 0, .int 0, .int 0, .int 0, .int 0])), (q40, .inl (tc 1, (8 * r), .inr (.inl (fun _ => 0)))), (q50, .inl (tc 0, (r), .inl (fun _ => 0))), (q60, .inl (tc 1, (r), .inr (.inl (fun _ => 0)))), (q70, .inl (tc 1, (r), .inr (.inl (fun _ => 0))))] H := hP
  have hD : va_D A [(q_th, .inr (0, [.ref q40, .ref q50, .ref q60, .ref q70, .ref q7, .ref q13, .int ((1 : Int32) <<< (((8 : Int32) + ((2 : Int32) * x1)) &&& 31)), .int (((1 : Int32) <<< (((8 : Int32) + ((2 : Int32) * x1)) &&& 31)) <<< ((1 : Int32) &&& 31)), .int (nI r), .int 0])), (q7, .inl (tc 1, 8, .inr (.inl (fun _ => 0)))), (q13, .inr (4, [.int 0, .int 0, .int 0, .int 0, .int 0])), (q40, .inl (tc 1, (8 * r), .inr (.inl (fun _ => 0)))), (q50, .inl (tc 0, (r), .inl (fun _ => 0))), (q60, .inl (tc 1, (r), .inr (.inl (fun _ => 0)))), (q70, .inl (tc 1, (r), .inr (.inl (fun _ => 0))))] := hD
  refine W.widen (k := 6) (n := 13 + 11 * r) (by omega) (by omega) ?_
  exact stn_ret hx hb hr hlocks (fun j => ([q40, q50, q60, q70, q7, q13] : List Nat).getD j 0) (hP.sub [0, 3, 4, 5, 6, 1, 2] rfl) (hD.sub [0, 3, 4, 5, 6, 1, 2] (by decide) rfl) hS dX0_init_97

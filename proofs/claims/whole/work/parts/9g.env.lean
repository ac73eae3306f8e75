/-! what the law knows at its start -/
set_option maxRecDepth 20000 in
theorem lw_env {s : State} {args : Array Value} (hts : ∀ w ∈ lw_tbl, w.before args s = true) (hgv : (Jvm.Cond.and given_1 narrow_1).before args s = true) : ∃ t0 aK aV t1 : Nat, tk_E t0 aK aV (fun q : Nat => s.heap.size ≤ q) s ∧ ld_E t1 (fun q : Nat => s.heap.size ≤ q) s := by
  have hs := flat_of_before _ hgv
  have hA : ∀ a : Nat, a < s.heap.size → ¬ (fun q : Nat => s.heap.size ≤ q) a := fun a h => Nat.not_le.mpr h
  obtain ⟨t0, t01, t02⟩ := va_Tof (tm := (.static "ChanceBounds$Tokens" "WORLDS_OF_LETTER" "[I")) (ty := .int) (N := 3) (f := fun j => .int (tk_wol j)) (A := (fun q : Nat => s.heap.size ≤ q)) (by decide) (hs (.arrayOf (.static "ChanceBounds$Tokens" "WORLDS_OF_LETTER" "[I") .int) (by decide +kernel)) (va_eqt (hs (.eq (.length (.static "ChanceBounds$Tokens" "WORLDS_OF_LETTER" "[I")) (.int 3)) (by decide +kernel))) (fun j hj => by
    rcases (show j = 0 ∨ j = 1 ∨ j = 2 by omega) with rfl | rfl | rfl
    · exact va_eqt (hs (.eq (.elem (.static "ChanceBounds$Tokens" "WORLDS_OF_LETTER" "[I") (.int 0)) (.int 170)) (by decide +kernel))
    · exact va_eqt (hs (.eq (.elem (.static "ChanceBounds$Tokens" "WORLDS_OF_LETTER" "[I") (.int 1)) (.int 204)) (by decide +kernel))
    · exact va_eqt (hs (.eq (.elem (.static "ChanceBounds$Tokens" "WORLDS_OF_LETTER" "[I") (.int 2)) (.int 240)) (by decide +kernel))) hA
  obtain ⟨t1, t11, t12⟩ := va_Tof (tm := (.static "ChanceBounds$Ladder" "ROOM_OF_STEP" "[I")) (ty := .int) (N := 5) (f := fun j => .int (ld_rm j)) (A := (fun q : Nat => s.heap.size ≤ q)) (by decide) (hs (.arrayOf (.static "ChanceBounds$Ladder" "ROOM_OF_STEP" "[I") .int) (by decide +kernel)) (va_eqt (hs (.eq (.length (.static "ChanceBounds$Ladder" "ROOM_OF_STEP" "[I")) (.int 5)) (by decide +kernel))) (fun j hj => by
    rcases (show j = 0 ∨ j = 1 ∨ j = 2 ∨ j = 3 ∨ j = 4 by omega) with rfl | rfl | rfl | rfl | rfl
    · exact va_eqt (hs (.eq (.elem (.static "ChanceBounds$Ladder" "ROOM_OF_STEP" "[I") (.int 0)) (.int 8)) (by decide +kernel))
    · exact va_eqt (hs (.eq (.elem (.static "ChanceBounds$Ladder" "ROOM_OF_STEP" "[I") (.int 1)) (.int 40)) (by decide +kernel))
    · exact va_eqt (hs (.eq (.elem (.static "ChanceBounds$Ladder" "ROOM_OF_STEP" "[I") (.int 2)) (.int 112)) (by decide +kernel))
    · exact va_eqt (hs (.eq (.elem (.static "ChanceBounds$Ladder" "ROOM_OF_STEP" "[I") (.int 3)) (.int 240)) (by decide +kernel))
    · exact va_eqt (hs (.eq (.elem (.static "ChanceBounds$Ladder" "ROOM_OF_STEP" "[I") (.int 4)) (.int 440)) (by decide +kernel))) hA
  obtain ⟨adK, adV, b1, b2⟩ := vk_Sof (N := 1) (tm := fun _ => (.string "ChanceBounds$Tokens" 48)) (len := [7]) (byt := [[33, 38, 124, 40, 41, 45, 59]]) (A := (fun q : Nat => s.heap.size ≤ q)) (fun i hi => by
    obtain rfl : i = 0 := by omega
    decide) (fun i hi => hs (.exactly (.string "ChanceBounds$Tokens" 48) "java/lang/String") (by decide +kernel)) (fun i hi => hs (.eq (.field (.string "ChanceBounds$Tokens" 48) "java/lang/String" "coder" "B") (.int 0)) (by decide +kernel)) (fun i hi => hs (.arrayOf (.field (.string "ChanceBounds$Tokens" 48) "java/lang/String" "value" "[B") .byte) (by decide +kernel)) (fun i hi => by
    obtain rfl : i = 0 := by omega
    exact hs (.eq (.length (.field (.string "ChanceBounds$Tokens" 48) "java/lang/String" "value" "[B")) (.int 7)) (by decide +kernel)) (fun i hi j hj => by
    obtain rfl : i = 0 := by omega
    have hj : j < 7 := hj
    rcases (show j = 0 ∨ j = 1 ∨ j = 2 ∨ j = 3 ∨ j = 4 ∨ j = 5 ∨ j = 6 by omega) with rfl | rfl | rfl | rfl | rfl | rfl | rfl
    · exact hs (.eq (.elem (.field (.string "ChanceBounds$Tokens" 48) "java/lang/String" "value" "[B") (.int 0)) (.int 33)) (by decide +kernel)
    · exact hs (.eq (.elem (.field (.string "ChanceBounds$Tokens" 48) "java/lang/String" "value" "[B") (.int 1)) (.int 38)) (by decide +kernel)
    · exact hs (.eq (.elem (.field (.string "ChanceBounds$Tokens" 48) "java/lang/String" "value" "[B") (.int 2)) (.int 124)) (by decide +kernel)
    · exact hs (.eq (.elem (.field (.string "ChanceBounds$Tokens" 48) "java/lang/String" "value" "[B") (.int 3)) (.int 40)) (by decide +kernel)
    · exact hs (.eq (.elem (.field (.string "ChanceBounds$Tokens" 48) "java/lang/String" "value" "[B") (.int 4)) (.int 41)) (by decide +kernel)
    · exact hs (.eq (.elem (.field (.string "ChanceBounds$Tokens" 48) "java/lang/String" "value" "[B") (.int 5)) (.int 45)) (by decide +kernel)
    · exact hs (.eq (.elem (.field (.string "ChanceBounds$Tokens" 48) "java/lang/String" "value" "[B") (.int 6)) (.int 59)) (by decide +kernel)) (fun i j hi hj h => absurd (show i = j by omega) h) hA
  refine ⟨t0, adK 0, adV 0, t1, ⟨va_Zref (hts (.laysStatic "ChanceBounds$Tokens" "WORLDS_OF_LETTER" "[I") (List.mem_of_getElem? (i := 352) rfl)) (hts (.initialized "ChanceBounds$Tokens") (List.mem_of_getElem? (i := 49) rfl)) t01 hA, t02, vk_R.of (hts (.stringRef "ChanceBounds$Tokens" 48 "!&|()-;") (List.mem_of_getElem? (i := 363) rfl)) (b2 0 (by decide)), ⟨fun i hi => by
    obtain rfl : i = 0 := by omega
    exact b1.1 0 (by decide), fun i j hi hj _ => by omega⟩, va_Zof (hts (.laysStatic "java/lang/String" "COMPACT_STRINGS" "Z") (List.mem_of_getElem? (i := 377) rfl)) (hts (.initialized "java/lang/String") (List.mem_of_getElem? (i := 57) rfl)) (va_eqt (hs (.eq (.static "java/lang/String" "COMPACT_STRINGS" "Z") (.int 1)) (by decide +kernel))) hA⟩, va_AO.of (hts (.arrayOver (.object "ChanceBounds$Saying")) (List.mem_of_getElem? (i := 119) rfl)), va_AO.of (hts (.arrayOver (.object "ChanceBounds$Corners")) (List.mem_of_getElem? (i := 187) rfl)), va_Zref (hts (.laysStatic "ChanceBounds$Ladder" "ROOM_OF_STEP" "[I") (List.mem_of_getElem? (i := 185) rfl)) (hts (.initialized "ChanceBounds$Ladder") (List.mem_of_getElem? (i := 51) rfl)) t11 hA, t12⟩
set_option maxRecDepth 20000 in
theorem lw_K {s : State} {args : Array Value} (hts : ∀ w ∈ lw_tbl, w.before args s = true) : ∃ (D : va_G) (tc : Nat → ClassId), va_K D vwCl (st_T tc) s := by
  obtain ⟨c0, i0, k0⟩ := u_known (C := RX0) (T := TX0) (N := 10) (n := 10) hts inX0 (hts (.instantiable RX0 10) (List.mem_of_getElem? (i := 188) rfl))
  obtain ⟨c1, i1, k1⟩ := u_known (C := RX1) (T := TX1) (N := 2) (n := 2) hts inX1 (hts (.instantiable RX1 2) (List.mem_of_getElem? (i := 266) rfl))
  obtain ⟨c2, i2, k2⟩ := u_known (C := RX2) (T := TX2) (N := 3) (n := 3) hts inX2 (hts (.instantiable RX2 3) (List.mem_of_getElem? (i := 179) rfl))
  obtain ⟨c3, i3, k3⟩ := u_known (C := RX3) (T := TX3) (N := 5) (n := 5) hts inX3 (hts (.instantiable RX3 5) (List.mem_of_getElem? (i := 88) rfl))
  obtain ⟨c4, i4, k4⟩ := u_known (C := RX4) (T := TX4) (N := 5) (n := 5) hts inX4 (hts (.instantiable RX4 5) (List.mem_of_getElem? (i := 120) rfl))
  obtain ⟨c5, i5, k5⟩ := u_known (C := RX5) (T := TX5) (N := 2) (n := 2) hts inX5 (hts (.instantiable RX5 2) (List.mem_of_getElem? (i := 72) rfl))
  obtain ⟨c6, i6, k6⟩ := u_known (C := RX6) (T := TX6) (N := 5) (n := 5) hts inX6 (hts (.instantiable RX6 5) (List.mem_of_getElem? (i := 94) rfl))
  obtain ⟨c7, i7, k7⟩ := u_known (C := RX7) (T := TX7) (N := 1) (n := 1) hts inX7 (hts (.instantiable RX7 1) (List.mem_of_getElem? (i := 255) rfl))
  obtain ⟨c8, i8, k8⟩ := u_known (C := RX8) (T := TX8) (N := 11) (n := 11) hts inX8 (hts (.instantiable RX8 11) (List.mem_of_getElem? (i := 64) rfl))
  obtain ⟨c9, i9, k9⟩ := u_known (C := RX9) (T := TX9) (N := 28) (n := 28) hts inX9 (hts (.instantiable RX9 28) (List.mem_of_getElem? (i := 737) rfl))
  obtain ⟨tI, kI, compI, hI1, hI2, hI3⟩ := Cond.arrayClass_spec (hts (.arrayClass .int) (List.mem_of_getElem? (i := 86) rfl))
  obtain ⟨tL, kL, compL, hL1, hL2, hL3⟩ := Cond.arrayClass_spec (hts (.arrayClass .long) (List.mem_of_getElem? (i := 230) rfl))
  obtain ⟨compS, tS, kS, hS1, -, hS2, hS3, hS4⟩ := Cond.arrayOver_spec (hts (.arrayOver (.object "ChanceBounds$Saying")) (List.mem_of_getElem? (i := 119) rfl))
  obtain ⟨compC, tC, kC, hC1, -, hC2, hC3, hC4⟩ := Cond.arrayOver_spec (hts (.arrayOver (.object "ChanceBounds$Corners")) (List.mem_of_getElem? (i := 187) rfl))
  refine ⟨(fun k => ([c0, c1, c2, c3, c4, c5, c6, c7, c8, c9] : List ClassId).getD k c0, fun k => ([i0, i1, i2, i3, i4, i5, i6, i7, i8, i9] : List (Nat → Nat)).getD k i0), fun k => ([tI, tL, tS, tC] : List ClassId).getD k tI, ?_, ?_⟩
  · intro k q hq
    match k, hq with
    | 0, hq => cases hq; exact k0
    | 1, hq => cases hq; exact k1
    | 2, hq => cases hq; exact k2
    | 3, hq => cases hq; exact k3
    | 4, hq => cases hq; exact k4
    | 5, hq => cases hq; exact k5
    | 6, hq => cases hq; exact k6
    | 7, hq => cases hq; exact k7
    | 8, hq => cases hq; exact k8
    | 9, hq => cases hq; exact k9
    | k + 10, hq => simp [vwCl] at hq
  · intro k q hq
    match k, hq with
    | 0, hq => cases hq; exact ⟨fun n z => ⟨(fun k h => by cases h), kI, hI2, compI, hI3⟩, hI1⟩
    | 1, hq => cases hq; exact ⟨fun n z => ⟨(fun k h => by cases h), kL, hL2, compL, hL3⟩, hL1⟩
    | 2, hq => cases hq; exact ⟨fun n z => ⟨(fun k h => by cases h), kS, hS2, compS, hS3⟩, kS, compS, hS2, hS3, hS1, hS4⟩
    | 3, hq => cases hq; exact ⟨fun n z => ⟨(fun k h => by cases h), kC, hC2, compC, hC3⟩, kC, compC, hC2, hC3, hC1, hC4⟩
    | k + 4, hq => simp [st_T] at hq
theorem lw_N {s : State} {args : Array Value} (hts : ∀ w ∈ lw_tbl, w.before args s = true) : st_N s := by
  intro w hw
  have h1 := st_nest_all w hw
  have h2 := hts w (st_nest_in w hw)
  cases w <;> first | (exact va_Nw.of rfl h2) | (simp [st_isNest] at h1)

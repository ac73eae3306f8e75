/-! the words of the law -/
set_option maxRecDepth 20000 in
theorem inX0 : ∀ w ∈ wsX00, w ∈ lw_tbl := by
  intro w hw
  obtain ⟨k, hk, rfl⟩ := List.mem_map.mp hw
  have hk := List.mem_range.mp hk
  rcases (show k = 0 ∨ k = 1 ∨ k = 2 ∨ k = 3 ∨ k = 4 ∨ k = 5 ∨ k = 6 ∨ k = 7 ∨ k = 8 ∨ k = 9 by omega) with rfl | rfl | rfl | rfl | rfl | rfl | rfl | rfl | rfl | rfl
  · exact List.mem_of_getElem? (i := 209) rfl
  · exact List.mem_of_getElem? (i := 211) rfl
  · exact List.mem_of_getElem? (i := 213) rfl
  · exact List.mem_of_getElem? (i := 215) rfl
  · exact List.mem_of_getElem? (i := 217) rfl
  · exact List.mem_of_getElem? (i := 219) rfl
  · exact List.mem_of_getElem? (i := 221) rfl
  · exact List.mem_of_getElem? (i := 223) rfl
  · exact List.mem_of_getElem? (i := 225) rfl
  · exact List.mem_of_getElem? (i := 227) rfl
set_option maxRecDepth 20000 in
theorem inX1 : ∀ w ∈ wsX10, w ∈ lw_tbl := by
  intro w hw
  obtain ⟨k, hk, rfl⟩ := List.mem_map.mp hw
  have hk := List.mem_range.mp hk
  rcases (show k = 0 ∨ k = 1 by omega) with rfl | rfl
  · exact List.mem_of_getElem? (i := 273) rfl
  · exact List.mem_of_getElem? (i := 275) rfl
set_option maxRecDepth 20000 in
theorem inX2 : ∀ w ∈ wsX20, w ∈ lw_tbl := by
  intro w hw
  obtain ⟨k, hk, rfl⟩ := List.mem_map.mp hw
  have hk := List.mem_range.mp hk
  rcases (show k = 0 ∨ k = 1 ∨ k = 2 by omega) with rfl | rfl | rfl
  · exact List.mem_of_getElem? (i := 247) rfl
  · exact List.mem_of_getElem? (i := 249) rfl
  · exact List.mem_of_getElem? (i := 251) rfl
set_option maxRecDepth 20000 in
theorem inX3 : ∀ w ∈ wsX30, w ∈ lw_tbl := by
  intro w hw
  obtain ⟨k, hk, rfl⟩ := List.mem_map.mp hw
  have hk := List.mem_range.mp hk
  rcases (show k = 0 ∨ k = 1 ∨ k = 2 ∨ k = 3 ∨ k = 4 by omega) with rfl | rfl | rfl | rfl | rfl
  · exact List.mem_of_getElem? (i := 165) rfl
  · exact List.mem_of_getElem? (i := 167) rfl
  · exact List.mem_of_getElem? (i := 169) rfl
  · exact List.mem_of_getElem? (i := 171) rfl
  · exact List.mem_of_getElem? (i := 173) rfl
set_option maxRecDepth 20000 in
theorem inX4 : ∀ w ∈ wsX40, w ∈ lw_tbl := by
  intro w hw
  obtain ⟨k, hk, rfl⟩ := List.mem_map.mp hw
  have hk := List.mem_range.mp hk
  rcases (show k = 0 ∨ k = 1 ∨ k = 2 ∨ k = 3 ∨ k = 4 by omega) with rfl | rfl | rfl | rfl | rfl
  · exact List.mem_of_getElem? (i := 146) rfl
  · exact List.mem_of_getElem? (i := 148) rfl
  · exact List.mem_of_getElem? (i := 150) rfl
  · exact List.mem_of_getElem? (i := 152) rfl
  · exact List.mem_of_getElem? (i := 154) rfl
set_option maxRecDepth 20000 in
theorem inX5 : ∀ w ∈ wsX50, w ∈ lw_tbl := by
  intro w hw
  obtain ⟨k, hk, rfl⟩ := List.mem_map.mp hw
  have hk := List.mem_range.mp hk
  rcases (show k = 0 ∨ k = 1 by omega) with rfl | rfl
  · exact List.mem_of_getElem? (i := 81) rfl
  · exact List.mem_of_getElem? (i := 83) rfl
set_option maxRecDepth 20000 in
theorem inX6 : ∀ w ∈ wsX60, w ∈ lw_tbl := by
  intro w hw
  obtain ⟨k, hk, rfl⟩ := List.mem_map.mp hw
  have hk := List.mem_range.mp hk
  rcases (show k = 0 ∨ k = 1 ∨ k = 2 ∨ k = 3 ∨ k = 4 by omega) with rfl | rfl | rfl | rfl | rfl
  · exact List.mem_of_getElem? (i := 107) rfl
  · exact List.mem_of_getElem? (i := 109) rfl
  · exact List.mem_of_getElem? (i := 111) rfl
  · exact List.mem_of_getElem? (i := 113) rfl
  · exact List.mem_of_getElem? (i := 115) rfl
set_option maxRecDepth 20000 in
theorem inX7 : ∀ w ∈ wsX70, w ∈ lw_tbl := by
  intro w hw
  obtain ⟨k, hk, rfl⟩ := List.mem_map.mp hw
  have hk := List.mem_range.mp hk
  rcases (show k = 0 by omega) with rfl
  · exact List.mem_of_getElem? (i := 262) rfl
set_option maxRecDepth 20000 in
theorem inX8 : ∀ w ∈ wsX80, w ∈ lw_tbl := by
  intro w hw
  obtain ⟨k, hk, rfl⟩ := List.mem_map.mp hw
  have hk := List.mem_range.mp hk
  rcases (show k = 0 ∨ k = 1 ∨ k = 2 ∨ k = 3 ∨ k = 4 ∨ k = 5 ∨ k = 6 ∨ k = 7 ∨ k = 8 ∨ k = 9 ∨ k = 10 by omega) with rfl | rfl | rfl | rfl | rfl | rfl | rfl | rfl | rfl | rfl | rfl
  · exact List.mem_of_getElem? (i := 289) rfl
  · exact List.mem_of_getElem? (i := 291) rfl
  · exact List.mem_of_getElem? (i := 293) rfl
  · exact List.mem_of_getElem? (i := 295) rfl
  · exact List.mem_of_getElem? (i := 297) rfl
  · exact List.mem_of_getElem? (i := 299) rfl
  · exact List.mem_of_getElem? (i := 301) rfl
  · exact List.mem_of_getElem? (i := 303) rfl
  · exact List.mem_of_getElem? (i := 305) rfl
  · exact List.mem_of_getElem? (i := 307) rfl
  · exact List.mem_of_getElem? (i := 309) rfl
set_option maxRecDepth 20000 in
theorem inX9 : ∀ w ∈ wsX90, w ∈ lw_tbl := by
  intro w hw
  obtain ⟨k, hk, rfl⟩ := List.mem_map.mp hw
  have hk := List.mem_range.mp hk
  rcases (show k = 0 ∨ k = 1 ∨ k = 2 ∨ k = 3 ∨ k = 4 ∨ k = 5 ∨ k = 6 ∨ k = 7 ∨ k = 8 ∨ k = 9 ∨ k = 10 ∨ k = 11 ∨ k = 12 ∨ k = 13 ∨ k = 14 ∨ k = 15 ∨ k = 16 ∨ k = 17 ∨ k = 18 ∨ k = 19 ∨ k = 20 ∨ k = 21 ∨ k = 22 ∨ k = 23 ∨ k = 24 ∨ k = 25 ∨ k = 26 ∨ k = 27 by omega) with rfl | rfl | rfl | rfl | rfl | rfl | rfl | rfl | rfl | rfl | rfl | rfl | rfl | rfl | rfl | rfl | rfl | rfl | rfl | rfl | rfl | rfl | rfl | rfl | rfl | rfl | rfl | rfl
  · exact List.mem_of_getElem? (i := 771) rfl
  · exact List.mem_of_getElem? (i := 773) rfl
  · exact List.mem_of_getElem? (i := 775) rfl
  · exact List.mem_of_getElem? (i := 777) rfl
  · exact List.mem_of_getElem? (i := 779) rfl
  · exact List.mem_of_getElem? (i := 781) rfl
  · exact List.mem_of_getElem? (i := 783) rfl
  · exact List.mem_of_getElem? (i := 785) rfl
  · exact List.mem_of_getElem? (i := 787) rfl
  · exact List.mem_of_getElem? (i := 789) rfl
  · exact List.mem_of_getElem? (i := 791) rfl
  · exact List.mem_of_getElem? (i := 793) rfl
  · exact List.mem_of_getElem? (i := 795) rfl
  · exact List.mem_of_getElem? (i := 797) rfl
  · exact List.mem_of_getElem? (i := 799) rfl
  · exact List.mem_of_getElem? (i := 801) rfl
  · exact List.mem_of_getElem? (i := 803) rfl
  · exact List.mem_of_getElem? (i := 805) rfl
  · exact List.mem_of_getElem? (i := 807) rfl
  · exact List.mem_of_getElem? (i := 809) rfl
  · exact List.mem_of_getElem? (i := 811) rfl
  · exact List.mem_of_getElem? (i := 813) rfl
  · exact List.mem_of_getElem? (i := 815) rfl
  · exact List.mem_of_getElem? (i := 817) rfl
  · exact List.mem_of_getElem? (i := 819) rfl
  · exact List.mem_of_getElem? (i := 821) rfl
  · exact List.mem_of_getElem? (i := 823) rfl
  · exact List.mem_of_getElem? (i := 825) rfl
theorem wsL_law_in : ∀ w ∈ wsL_law, w ∈ lw_tbl := List.forall_mem_append.mpr ⟨List.forall_mem_append.mpr ⟨List.forall_mem_append.mpr ⟨List.forall_mem_append.mpr ⟨List.forall_mem_append.mpr ⟨List.forall_mem_append.mpr ⟨List.forall_mem_append.mpr ⟨List.forall_mem_append.mpr ⟨List.forall_mem_append.mpr ⟨List.forall_mem_append.mpr ⟨List.forall_mem_append.mpr ⟨List.forall_mem_append.mpr ⟨lin_r1, List.forall_mem_append.mpr ⟨lin_r2, List.forall_mem_append.mpr ⟨lin_r3, List.forall_mem_append.mpr ⟨lin_r4, List.forall_mem_append.mpr ⟨lin_r5, List.forall_mem_append.mpr ⟨lin_r6, List.forall_mem_append.mpr ⟨lin_r7, List.forall_mem_append.mpr ⟨lin_r8, List.forall_mem_append.mpr ⟨lin_r9, List.forall_mem_append.mpr ⟨lin_r10, List.forall_mem_append.mpr ⟨lin_r11, List.forall_mem_append.mpr ⟨lin_r12, List.forall_mem_append.mpr ⟨lin_r13, List.forall_mem_append.mpr ⟨lin_r14, List.forall_mem_append.mpr ⟨lin_r15, List.forall_mem_append.mpr ⟨lin_r16, List.forall_mem_append.mpr ⟨lin_r17, List.forall_mem_append.mpr ⟨lin_r18, List.forall_mem_append.mpr ⟨lin_r19, List.forall_mem_append.mpr ⟨lin_r20, List.forall_mem_append.mpr ⟨lin_r21, List.forall_mem_append.mpr ⟨lin_r22, List.forall_mem_append.mpr ⟨lin_r23, List.forall_mem_append.mpr ⟨lin_r24, List.forall_mem_append.mpr ⟨lin_r25, List.forall_mem_append.mpr ⟨lin_r26, List.forall_mem_append.mpr ⟨lin_r27, List.forall_mem_append.mpr ⟨lin_r28, List.forall_mem_append.mpr ⟨lin_r29, List.forall_mem_append.mpr ⟨lin_r30, List.forall_mem_append.mpr ⟨lin_r31, List.forall_mem_append.mpr ⟨lin_r32, lin_r33⟩⟩⟩⟩⟩⟩⟩⟩⟩⟩⟩⟩⟩⟩⟩⟩⟩⟩⟩⟩⟩⟩⟩⟩⟩⟩⟩⟩⟩⟩⟩⟩, inX8⟩, inX9⟩, inX5⟩, inX3⟩, inX4⟩, inX2⟩, inX7⟩, inX1⟩, inX6⟩, inX0⟩, fun _ h => absurd h List.not_mem_nil⟩

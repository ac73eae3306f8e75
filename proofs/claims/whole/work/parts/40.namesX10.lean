theorem dX9_count_28 : decode cX9_count 28 = .ok (.goto 31, 3) := by decide +kernel
theorem dX9_count_31 : decode cX9_count 31 = .ok (.iload_n 1, 1) := by decide +kernel
theorem dX9_count_32 : decode cX9_count 32 = .ok (.iconst 2, 1) := by decide +kernel
theorem dX9_count_33 : decode cX9_count 33 = .ok (.if_icmp .ne 10, 3) := by decide +kernel
theorem dX9_count_36 : decode cX9_count 36 = .ok (.aload_n 0, 1) := by decide +kernel
theorem dX9_count_37 : decode cX9_count 37 = .ok (.getfield 56, 3) := by decide +kernel
theorem dX9_count_40 : decode cX9_count 40 = .ok (.goto 19, 3) := by decide +kernel
theorem dX9_count_43 : decode cX9_count 43 = .ok (.iload_n 1, 1) := by decide +kernel
theorem dX9_count_44 : decode cX9_count 44 = .ok (.iconst 3, 1) := by decide +kernel
theorem dX9_count_45 : decode cX9_count 45 = .ok (.if_icmp .ne 13, 3) := by decide +kernel
theorem dX9_count_48 : decode cX9_count 48 = .ok (.aload_n 0, 1) := by decide +kernel
theorem dX9_count_49 : decode cX9_count 49 = .ok (.sipush 255, 3) := by decide +kernel
theorem dX9_count_52 : decode cX9_count 52 = .ok (.invokevirtual 204, 3) := by decide +kernel
theorem dX9_count_55 : decode cX9_count 55 = .ok (.goto 4, 3) := by decide +kernel
theorem dX9_count_58 : decode cX9_count 58 = .ok (.iconst (-1), 1) := by decide +kernel
theorem dX9_count_59 : decode cX9_count 59 = .ok (.ireturn, 1) := by decide +kernel

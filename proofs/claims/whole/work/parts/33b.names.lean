theorem dX7_print_109 : decode cX7_print 109 = .ok (.iinc 4 1, 3) := by decide +kernel
theorem dX7_print_112 : decode cX7_print 112 = .ok (.goto (-52), 3) := by decide +kernel
theorem dX7_print_115 : decode cX7_print 115 = .ok (.aload_n 0, 1) := by decide +kernel
theorem dX7_print_116 : decode cX7_print 116 = .ok (.iload_n 3, 1) := by decide +kernel
theorem dX7_print_117 : decode cX7_print 117 = .ok (.invokevirtual 278, 3) := by decide +kernel
theorem dX7_print_120 : decode cX7_print 120 = .ok (.istore_n 3, 1) := by decide +kernel
theorem dX7_print_121 : decode cX7_print 121 = .ok (.goto (-102), 3) := by decide +kernel
theorem dX7_print_124 : decode cX7_print 124 = .ok (.lload_n 1, 1) := by decide +kernel
theorem dX7_print_125 : decode cX7_print 125 = .ok (.lreturn, 1) := by decide +kernel

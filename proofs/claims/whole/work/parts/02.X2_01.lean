theorem dX2_readOne_126 : decode cX2_readOne 126 = .ok (.aload_n 0, 1) := by decide +kernel
theorem dX2_readOne_127 : decode cX2_readOne 127 = .ok (.bipush 41, 2) := by decide +kernel
theorem dX2_readOne_129 : decode cX2_readOne 129 = .ok (.invokevirtual 100, 3) := by decide +kernel
theorem dX2_readOne_132 : decode cX2_readOne 132 = .ok (.ifCond .eq 7, 3) := by decide +kernel
theorem dX2_readOne_135 : decode cX2_readOne 135 = .ok (.iconst 1, 1) := by decide +kernel
theorem dX2_readOne_136 : decode cX2_readOne 136 = .ok (.goto 4, 3) := by decide +kernel
theorem dX2_readOne_139 : decode cX2_readOne 139 = .ok (.iconst 0, 1) := by decide +kernel
theorem dX2_readOne_140 : decode cX2_readOne 140 = .ok (.ireturn, 1) := by decide +kernel
theorem dX2_readOne_141 : decode cX2_readOne 141 = .ok (.aload_n 0, 1) := by decide +kernel
theorem dX2_readOne_142 : decode cX2_readOne 142 = .ok (.iload_n 1, 1) := by decide +kernel
theorem dX2_readOne_143 : decode cX2_readOne 143 = .ok (.iconst 1, 1) := by decide +kernel
theorem dX2_readOne_144 : decode cX2_readOne 144 = .ok (.iadd, 1) := by decide +kernel
theorem dX2_readOne_145 : decode cX2_readOne 145 = .ok (.invokevirtual 125, 3) := by decide +kernel
theorem dX2_readOne_148 : decode cX2_readOne 148 = .ok (.istore_n 3, 1) := by decide +kernel
theorem dX2_readOne_149 : decode cX2_readOne 149 = .ok (.aload_n 0, 1) := by decide +kernel
theorem dX2_readOne_150 : decode cX2_readOne 150 = .ok (.getfield 48, 3) := by decide +kernel
theorem dX2_readOne_153 : decode cX2_readOne 153 = .ok (.bipush 20, 2) := by decide +kernel
theorem dX2_readOne_155 : decode cX2_readOne 155 = .ok (.invokevirtual 113, 3) := by decide +kernel
theorem dX2_readOne_158 : decode cX2_readOne 158 = .ok (.iload_n 3, 1) := by decide +kernel
theorem dX2_readOne_159 : decode cX2_readOne 159 = .ok (.ireturn, 1) := by decide +kernel

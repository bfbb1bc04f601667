theorem dX11_copy_110 : decode cX11_copy 110 = .ok (.getfield 348, 3) := by decide +kernel
theorem dX11_copy_113 : decode cX11_copy 113 = .ok (.aload 10, 2) := by decide +kernel
theorem dX11_copy_115 : decode cX11_copy 115 = .ok (.getfield 348, 3) := by decide +kernel
theorem dX11_copy_118 : decode cX11_copy 118 = .ok (.if_icmp .ne 20, 3) := by decide +kernel
theorem dX11_copy_121 : decode cX11_copy 121 = .ok (.aload_n 0, 1) := by decide +kernel
theorem dX11_copy_122 : decode cX11_copy 122 = .ok (.aload 9, 2) := by decide +kernel
theorem dX11_copy_124 : decode cX11_copy 124 = .ok (.iload 4, 2) := by decide +kernel
theorem dX11_copy_126 : decode cX11_copy 126 = .ok (.aload 10, 2) := by decide +kernel
theorem dX11_copy_128 : decode cX11_copy 128 = .ok (.iload 5, 2) := by decide +kernel
theorem dX11_copy_130 : decode cX11_copy 130 = .ok (.iload 6, 2) := by decide +kernel
theorem dX11_copy_132 : decode cX11_copy 132 = .ok (.invokevirtual 351, 3) := by decide +kernel
theorem dX11_copy_135 : decode cX11_copy 135 = .ok (.goto 56, 3) := by decide +kernel
theorem dX11_copy_138 : decode cX11_copy 138 = .ok (.aload 7, 2) := by decide +kernel
theorem dX11_copy_140 : decode cX11_copy 140 = .ok (.instanceof 291, 3) := by decide +kernel
theorem dX11_copy_143 : decode cX11_copy 143 = .ok (.ifCond .eq 42, 3) := by decide +kernel
theorem dX11_copy_146 : decode cX11_copy 146 = .ok (.aload 7, 2) := by decide +kernel
theorem dX11_copy_148 : decode cX11_copy 148 = .ok (.checkcast 291, 3) := by decide +kernel
theorem dX11_copy_151 : decode cX11_copy 151 = .ok (.astore 11, 2) := by decide +kernel
theorem dX11_copy_153 : decode cX11_copy 153 = .ok (.aload 8, 2) := by decide +kernel
theorem dX11_copy_155 : decode cX11_copy 155 = .ok (.instanceof 291, 3) := by decide +kernel
theorem dX11_copy_158 : decode cX11_copy 158 = .ok (.ifCond .eq 27, 3) := by decide +kernel
theorem dX11_copy_161 : decode cX11_copy 161 = .ok (.aload 8, 2) := by decide +kernel
theorem dX11_copy_163 : decode cX11_copy 163 = .ok (.checkcast 291, 3) := by decide +kernel
theorem dX11_copy_166 : decode cX11_copy 166 = .ok (.astore 12, 2) := by decide +kernel
theorem dX11_copy_168 : decode cX11_copy 168 = .ok (.aload_n 0, 1) := by decide +kernel
theorem dX11_copy_169 : decode cX11_copy 169 = .ok (.aload 11, 2) := by decide +kernel
theorem dX11_copy_171 : decode cX11_copy 171 = .ok (.iload 4, 2) := by decide +kernel
theorem dX11_copy_173 : decode cX11_copy 173 = .ok (.aload 12, 2) := by decide +kernel
theorem dX11_copy_175 : decode cX11_copy 175 = .ok (.iload 5, 2) := by decide +kernel
theorem dX11_copy_177 : decode cX11_copy 177 = .ok (.iload 6, 2) := by decide +kernel
theorem dX11_copy_179 : decode cX11_copy 179 = .ok (.invokevirtual 355, 3) := by decide +kernel
theorem dX11_copy_182 : decode cX11_copy 182 = .ok (.goto 9, 3) := by decide +kernel
theorem dX11_copy_185 : decode cX11_copy 185 = .ok (.aload_n 0, 1) := by decide +kernel
theorem dX11_copy_186 : decode cX11_copy 186 = .ok (.iconst 5, 1) := by decide +kernel
theorem dX11_copy_187 : decode cX11_copy 187 = .ok (.invokevirtual 245, 3) := by decide +kernel
theorem dX11_copy_190 : decode cX11_copy 190 = .ok (.pop, 1) := by decide +kernel
theorem dX11_copy_191 : decode cX11_copy 191 = .ok (.lconst 0, 1) := by decide +kernel
theorem dX11_copy_192 : decode cX11_copy 192 = .ok (.lreturn, 1) := by decide +kernel
theorem dX11_copyCells_0 : decode cX11_copyCells 0 = .ok (.aload_n 0, 1) := by decide +kernel
theorem dX11_copyCells_1 : decode cX11_copyCells 1 = .ok (.iload_n 2, 1) := by decide +kernel
theorem dX11_copyCells_2 : decode cX11_copyCells 2 = .ok (.iload 5, 2) := by decide +kernel
theorem dX11_copyCells_4 : decode cX11_copyCells 4 = .ok (.aload_n 1, 1) := by decide +kernel
theorem dX11_copyCells_5 : decode cX11_copyCells 5 = .ok (.getfield 280, 3) := by decide +kernel
theorem dX11_copyCells_8 : decode cX11_copyCells 8 = .ok (.arraylength, 1) := by decide +kernel
theorem dX11_copyCells_9 : decode cX11_copyCells 9 = .ok (.invokevirtual 359, 3) := by decide +kernel
theorem dX11_copyCells_12 : decode cX11_copyCells 12 = .ok (.ifCond .eq 35, 3) := by decide +kernel
theorem dX11_copyCells_15 : decode cX11_copyCells 15 = .ok (.aload_n 0, 1) := by decide +kernel
theorem dX11_copyCells_16 : decode cX11_copyCells 16 = .ok (.iload 4, 2) := by decide +kernel
theorem dX11_copyCells_18 : decode cX11_copyCells 18 = .ok (.iload 5, 2) := by decide +kernel
theorem dX11_copyCells_20 : decode cX11_copyCells 20 = .ok (.aload_n 3, 1) := by decide +kernel
theorem dX11_copyCells_21 : decode cX11_copyCells 21 = .ok (.getfield 280, 3) := by decide +kernel
theorem dX11_copyCells_24 : decode cX11_copyCells 24 = .ok (.arraylength, 1) := by decide +kernel
theorem dX11_copyCells_25 : decode cX11_copyCells 25 = .ok (.invokevirtual 359, 3) := by decide +kernel
theorem dX11_copyCells_28 : decode cX11_copyCells 28 = .ok (.ifCond .eq 19, 3) := by decide +kernel
theorem dX11_copyCells_31 : decode cX11_copyCells 31 = .ok (.aload_n 1, 1) := by decide +kernel
theorem dX11_copyCells_32 : decode cX11_copyCells 32 = .ok (.getfield 280, 3) := by decide +kernel
theorem dX11_copyCells_35 : decode cX11_copyCells 35 = .ok (.iload_n 2, 1) := by decide +kernel
theorem dX11_copyCells_36 : decode cX11_copyCells 36 = .ok (.aload_n 3, 1) := by decide +kernel
theorem dX11_copyCells_37 : decode cX11_copyCells 37 = .ok (.getfield 280, 3) := by decide +kernel
theorem dX11_copyCells_40 : decode cX11_copyCells 40 = .ok (.iload 4, 2) := by decide +kernel
theorem dX11_copyCells_42 : decode cX11_copyCells 42 = .ok (.iload 5, 2) := by decide +kernel
theorem dX11_copyCells_44 : decode cX11_copyCells 44 = .ok (.invokestatic 363, 3) := by decide +kernel
theorem dX11_copyCells_47 : decode cX11_copyCells 47 = .ok (.return_, 1) := by decide +kernel
theorem dX11_copyThings_0 : decode cX11_copyThings 0 = .ok (.aload_n 0, 1) := by decide +kernel
theorem dX11_copyThings_1 : decode cX11_copyThings 1 = .ok (.iload_n 2, 1) := by decide +kernel
theorem dX11_copyThings_2 : decode cX11_copyThings 2 = .ok (.iload 5, 2) := by decide +kernel
theorem dX11_copyThings_4 : decode cX11_copyThings 4 = .ok (.aload_n 1, 1) := by decide +kernel
theorem dX11_copyThings_5 : decode cX11_copyThings 5 = .ok (.getfield 295, 3) := by decide +kernel
theorem dX11_copyThings_8 : decode cX11_copyThings 8 = .ok (.arraylength, 1) := by decide +kernel
theorem dX11_copyThings_9 : decode cX11_copyThings 9 = .ok (.invokevirtual 359, 3) := by decide +kernel
theorem dX11_copyThings_12 : decode cX11_copyThings 12 = .ok (.ifCond .eq 19, 3) := by decide +kernel
theorem dX11_copyThings_15 : decode cX11_copyThings 15 = .ok (.aload_n 0, 1) := by decide +kernel
theorem dX11_copyThings_16 : decode cX11_copyThings 16 = .ok (.iload 4, 2) := by decide +kernel
theorem dX11_copyThings_18 : decode cX11_copyThings 18 = .ok (.iload 5, 2) := by decide +kernel
theorem dX11_copyThings_20 : decode cX11_copyThings 20 = .ok (.aload_n 3, 1) := by decide +kernel
theorem dX11_copyThings_21 : decode cX11_copyThings 21 = .ok (.getfield 295, 3) := by decide +kernel
theorem dX11_copyThings_24 : decode cX11_copyThings 24 = .ok (.arraylength, 1) := by decide +kernel
theorem dX11_copyThings_25 : decode cX11_copyThings 25 = .ok (.invokevirtual 359, 3) := by decide +kernel
theorem dX11_copyThings_28 : decode cX11_copyThings 28 = .ok (.ifCond .ne 4, 3) := by decide +kernel
theorem dX11_copyThings_31 : decode cX11_copyThings 31 = .ok (.return_, 1) := by decide +kernel
theorem dX11_copyThings_32 : decode cX11_copyThings 32 = .ok (.aload_n 1, 1) := by decide +kernel
theorem dX11_copyThings_33 : decode cX11_copyThings 33 = .ok (.aload_n 3, 1) := by decide +kernel
theorem dX11_copyThings_34 : decode cX11_copyThings 34 = .ok (.if_acmp .ne 13, 3) := by decide +kernel
theorem dX11_copyThings_37 : decode cX11_copyThings 37 = .ok (.iload_n 2, 1) := by decide +kernel
theorem dX11_copyThings_38 : decode cX11_copyThings 38 = .ok (.iload 4, 2) := by decide +kernel
theorem dX11_copyThings_40 : decode cX11_copyThings 40 = .ok (.if_icmp .ge 7, 3) := by decide +kernel
theorem dX11_copyThings_43 : decode cX11_copyThings 43 = .ok (.iconst 1, 1) := by decide +kernel
theorem dX11_copyThings_44 : decode cX11_copyThings 44 = .ok (.goto 4, 3) := by decide +kernel
theorem dX11_copyThings_47 : decode cX11_copyThings 47 = .ok (.iconst 0, 1) := by decide +kernel
theorem dX11_copyThings_48 : decode cX11_copyThings 48 = .ok (.istore 6, 2) := by decide +kernel
theorem dX11_copyThings_50 : decode cX11_copyThings 50 = .ok (.iconst 0, 1) := by decide +kernel
theorem dX11_copyThings_51 : decode cX11_copyThings 51 = .ok (.istore 7, 2) := by decide +kernel
theorem dX11_copyThings_53 : decode cX11_copyThings 53 = .ok (.iload 7, 2) := by decide +kernel
theorem dX11_copyThings_55 : decode cX11_copyThings 55 = .ok (.iload 5, 2) := by decide +kernel
theorem dX11_copyThings_57 : decode cX11_copyThings 57 = .ok (.if_icmp .ge 67, 3) := by decide +kernel
theorem dX11_copyThings_60 : decode cX11_copyThings 60 = .ok (.iload 6, 2) := by decide +kernel
theorem dX11_copyThings_62 : decode cX11_copyThings 62 = .ok (.ifCond .eq 13, 3) := by decide +kernel
theorem dX11_copyThings_65 : decode cX11_copyThings 65 = .ok (.iload 5, 2) := by decide +kernel
theorem dX11_copyThings_67 : decode cX11_copyThings 67 = .ok (.iconst 1, 1) := by decide +kernel
theorem dX11_copyThings_68 : decode cX11_copyThings 68 = .ok (.isub, 1) := by decide +kernel
theorem dX11_copyThings_69 : decode cX11_copyThings 69 = .ok (.iload 7, 2) := by decide +kernel
theorem dX11_copyThings_71 : decode cX11_copyThings 71 = .ok (.isub, 1) := by decide +kernel
theorem dX11_copyThings_72 : decode cX11_copyThings 72 = .ok (.goto 5, 3) := by decide +kernel
theorem dX11_copyThings_75 : decode cX11_copyThings 75 = .ok (.iload 7, 2) := by decide +kernel
theorem dX11_copyThings_77 : decode cX11_copyThings 77 = .ok (.istore 8, 2) := by decide +kernel
theorem dX11_copyThings_79 : decode cX11_copyThings 79 = .ok (.aload_n 1, 1) := by decide +kernel
theorem dX11_copyThings_80 : decode cX11_copyThings 80 = .ok (.getfield 295, 3) := by decide +kernel
theorem dX11_copyThings_83 : decode cX11_copyThings 83 = .ok (.iload_n 2, 1) := by decide +kernel
theorem dX11_copyThings_84 : decode cX11_copyThings 84 = .ok (.iload 8, 2) := by decide +kernel
theorem dX11_copyThings_86 : decode cX11_copyThings 86 = .ok (.iadd, 1) := by decide +kernel
theorem dX11_copyThings_87 : decode cX11_copyThings 87 = .ok (.aaload, 1) := by decide +kernel
theorem dX11_copyThings_88 : decode cX11_copyThings 88 = .ok (.astore 9, 2) := by decide +kernel
theorem dX11_copyThings_90 : decode cX11_copyThings 90 = .ok (.aload_n 3, 1) := by decide +kernel
theorem dX11_copyThings_91 : decode cX11_copyThings 91 = .ok (.aload 9, 2) := by decide +kernel
theorem dX11_copyThings_93 : decode cX11_copyThings 93 = .ok (.invokevirtual 301, 3) := by decide +kernel
theorem dX11_copyThings_96 : decode cX11_copyThings 96 = .ok (.ifCond .ne 10, 3) := by decide +kernel
theorem dX11_copyThings_99 : decode cX11_copyThings 99 = .ok (.aload_n 0, 1) := by decide +kernel
theorem dX11_copyThings_100 : decode cX11_copyThings 100 = .ok (.iconst 5, 1) := by decide +kernel
theorem dX11_copyThings_101 : decode cX11_copyThings 101 = .ok (.invokevirtual 245, 3) := by decide +kernel
theorem dX11_copyThings_104 : decode cX11_copyThings 104 = .ok (.pop, 1) := by decide +kernel
theorem dX11_copyThings_105 : decode cX11_copyThings 105 = .ok (.return_, 1) := by decide +kernel
theorem dX11_copyThings_106 : decode cX11_copyThings 106 = .ok (.aload_n 3, 1) := by decide +kernel
theorem dX11_copyThings_107 : decode cX11_copyThings 107 = .ok (.getfield 295, 3) := by decide +kernel
theorem dX11_copyThings_110 : decode cX11_copyThings 110 = .ok (.iload 4, 2) := by decide +kernel
theorem dX11_copyThings_112 : decode cX11_copyThings 112 = .ok (.iload 8, 2) := by decide +kernel
theorem dX11_copyThings_114 : decode cX11_copyThings 114 = .ok (.iadd, 1) := by decide +kernel
theorem dX11_copyThings_115 : decode cX11_copyThings 115 = .ok (.aload 9, 2) := by decide +kernel
theorem dX11_copyThings_117 : decode cX11_copyThings 117 = .ok (.aastore, 1) := by decide +kernel
theorem dX11_copyThings_118 : decode cX11_copyThings 118 = .ok (.iinc 7 1, 3) := by decide +kernel
theorem dX11_copyThings_121 : decode cX11_copyThings 121 = .ok (.goto (-68), 3) := by decide +kernel
theorem dX11_copyThings_124 : decode cX11_copyThings 124 = .ok (.return_, 1) := by decide +kernel

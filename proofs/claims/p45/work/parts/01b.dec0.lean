theorem dX0_init_0 : decode prog_2_method_1_code 0 = .ok (.aload_n 0, 1) := by decide +kernel
theorem dX0_init_1 : decode prog_2_method_1_code 1 = .ok (.invokespecial 3, 3) := by decide +kernel
theorem dX0_init_4 : decode prog_2_method_1_code 4 = .ok (.aload_n 0, 1) := by decide +kernel
theorem dX0_init_5 : decode prog_2_method_1_code 5 = .ok (.new 9, 3) := by decide +kernel
theorem dX0_init_8 : decode prog_2_method_1_code 8 = .ok (.dup, 1) := by decide +kernel
theorem dX0_init_9 : decode prog_2_method_1_code 9 = .ok (.iconst 5, 1) := by decide +kernel
theorem dX0_init_10 : decode prog_2_method_1_code 10 = .ok (.bipush 12, 2) := by decide +kernel
theorem dX0_init_12 : decode prog_2_method_1_code 12 = .ok (.invokespecial 11, 3) := by decide +kernel
theorem dX0_init_15 : decode prog_2_method_1_code 15 = .ok (.putfield 14, 3) := by decide +kernel
theorem dX0_init_18 : decode prog_2_method_1_code 18 = .ok (.aload_n 0, 1) := by decide +kernel
theorem dX0_init_19 : decode prog_2_method_1_code 19 = .ok (.new 9, 3) := by decide +kernel
theorem dX0_init_22 : decode prog_2_method_1_code 22 = .ok (.dup, 1) := by decide +kernel
theorem dX0_init_23 : decode prog_2_method_1_code 23 = .ok (.iconst 5, 1) := by decide +kernel
theorem dX0_init_24 : decode prog_2_method_1_code 24 = .ok (.iconst 1, 1) := by decide +kernel
theorem dX0_init_25 : decode prog_2_method_1_code 25 = .ok (.invokespecial 11, 3) := by decide +kernel
theorem dX0_init_28 : decode prog_2_method_1_code 28 = .ok (.putfield 20, 3) := by decide +kernel
theorem dX0_init_31 : decode prog_2_method_1_code 31 = .ok (.aload_n 0, 1) := by decide +kernel
theorem dX0_init_32 : decode prog_2_method_1_code 32 = .ok (.aload_n 1, 1) := by decide +kernel
theorem dX0_init_33 : decode prog_2_method_1_code 33 = .ok (.putfield 23, 3) := by decide +kernel
theorem dX0_init_36 : decode prog_2_method_1_code 36 = .ok (.aload_n 0, 1) := by decide +kernel
theorem dX0_init_37 : decode prog_2_method_1_code 37 = .ok (.aload_n 2, 1) := by decide +kernel
theorem dX0_init_38 : decode prog_2_method_1_code 38 = .ok (.putfield 27, 3) := by decide +kernel
theorem dX0_init_41 : decode prog_2_method_1_code 41 = .ok (.aload_n 0, 1) := by decide +kernel
theorem dX0_init_42 : decode prog_2_method_1_code 42 = .ok (.aload_n 3, 1) := by decide +kernel
theorem dX0_init_43 : decode prog_2_method_1_code 43 = .ok (.putfield 31, 3) := by decide +kernel
theorem dX0_init_46 : decode prog_2_method_1_code 46 = .ok (.return_, 1) := by decide +kernel
theorem dX1_init_0 : decode prog_3_method_1_code 0 = .ok (.aload_n 0, 1) := by decide +kernel
theorem dX1_init_1 : decode prog_3_method_1_code 1 = .ok (.invokespecial 3, 3) := by decide +kernel
theorem dX1_init_4 : decode prog_3_method_1_code 4 = .ok (.aload_n 0, 1) := by decide +kernel
theorem dX1_init_5 : decode prog_3_method_1_code 5 = .ok (.new 9, 3) := by decide +kernel
theorem dX1_init_8 : decode prog_3_method_1_code 8 = .ok (.dup, 1) := by decide +kernel
theorem dX1_init_9 : decode prog_3_method_1_code 9 = .ok (.bipush 12, 2) := by decide +kernel
theorem dX1_init_11 : decode prog_3_method_1_code 11 = .ok (.bipush 8, 2) := by decide +kernel
theorem dX1_init_13 : decode prog_3_method_1_code 13 = .ok (.invokespecial 11, 3) := by decide +kernel
theorem dX1_init_16 : decode prog_3_method_1_code 16 = .ok (.putfield 14, 3) := by decide +kernel
theorem dX1_init_19 : decode prog_3_method_1_code 19 = .ok (.aload_n 0, 1) := by decide +kernel
theorem dX1_init_20 : decode prog_3_method_1_code 20 = .ok (.new 9, 3) := by decide +kernel
theorem dX1_init_23 : decode prog_3_method_1_code 23 = .ok (.dup, 1) := by decide +kernel
theorem dX1_init_24 : decode prog_3_method_1_code 24 = .ok (.bipush 8, 2) := by decide +kernel
theorem dX1_init_26 : decode prog_3_method_1_code 26 = .ok (.iconst 5, 1) := by decide +kernel
theorem dX1_init_27 : decode prog_3_method_1_code 27 = .ok (.invokespecial 11, 3) := by decide +kernel
theorem dX1_init_30 : decode prog_3_method_1_code 30 = .ok (.putfield 20, 3) := by decide +kernel
theorem dX1_init_33 : decode prog_3_method_1_code 33 = .ok (.aload_n 0, 1) := by decide +kernel
theorem dX1_init_34 : decode prog_3_method_1_code 34 = .ok (.new 9, 3) := by decide +kernel
theorem dX1_init_37 : decode prog_3_method_1_code 37 = .ok (.dup, 1) := by decide +kernel
theorem dX1_init_38 : decode prog_3_method_1_code 38 = .ok (.iconst 1, 1) := by decide +kernel
theorem dX1_init_39 : decode prog_3_method_1_code 39 = .ok (.bipush 7, 2) := by decide +kernel
theorem dX1_init_41 : decode prog_3_method_1_code 41 = .ok (.invokespecial 11, 3) := by decide +kernel
theorem dX1_init_44 : decode prog_3_method_1_code 44 = .ok (.putfield 23, 3) := by decide +kernel
theorem dX1_init_47 : decode prog_3_method_1_code 47 = .ok (.aload_n 0, 1) := by decide +kernel
theorem dX1_init_48 : decode prog_3_method_1_code 48 = .ok (.new 9, 3) := by decide +kernel
theorem dX1_init_51 : decode prog_3_method_1_code 51 = .ok (.dup, 1) := by decide +kernel
theorem dX1_init_52 : decode prog_3_method_1_code 52 = .ok (.sipush 150, 3) := by decide +kernel
theorem dX1_init_55 : decode prog_3_method_1_code 55 = .ok (.iconst 4, 1) := by decide +kernel
theorem dX1_init_56 : decode prog_3_method_1_code 56 = .ok (.invokespecial 11, 3) := by decide +kernel
theorem dX1_init_59 : decode prog_3_method_1_code 59 = .ok (.putfield 26, 3) := by decide +kernel
theorem dX1_init_62 : decode prog_3_method_1_code 62 = .ok (.aload_n 0, 1) := by decide +kernel
theorem dX1_init_63 : decode prog_3_method_1_code 63 = .ok (.new 9, 3) := by decide +kernel
theorem dX1_init_66 : decode prog_3_method_1_code 66 = .ok (.dup, 1) := by decide +kernel
theorem dX1_init_67 : decode prog_3_method_1_code 67 = .ok (.bipush 16, 2) := by decide +kernel
theorem dX1_init_69 : decode prog_3_method_1_code 69 = .ok (.iconst 4, 1) := by decide +kernel
theorem dX1_init_70 : decode prog_3_method_1_code 70 = .ok (.invokespecial 11, 3) := by decide +kernel
theorem dX1_init_73 : decode prog_3_method_1_code 73 = .ok (.putfield 29, 3) := by decide +kernel
theorem dX1_init_76 : decode prog_3_method_1_code 76 = .ok (.aload_n 0, 1) := by decide +kernel
theorem dX1_init_77 : decode prog_3_method_1_code 77 = .ok (.new 9, 3) := by decide +kernel
theorem dX1_init_80 : decode prog_3_method_1_code 80 = .ok (.dup, 1) := by decide +kernel
theorem dX1_init_81 : decode prog_3_method_1_code 81 = .ok (.sipush 400, 3) := by decide +kernel
theorem dX1_init_84 : decode prog_3_method_1_code 84 = .ok (.iconst 2, 1) := by decide +kernel
theorem dX1_init_85 : decode prog_3_method_1_code 85 = .ok (.invokespecial 11, 3) := by decide +kernel
theorem dX1_init_88 : decode prog_3_method_1_code 88 = .ok (.putfield 32, 3) := by decide +kernel
theorem dX1_init_91 : decode prog_3_method_1_code 91 = .ok (.aload_n 0, 1) := by decide +kernel
theorem dX1_init_92 : decode prog_3_method_1_code 92 = .ok (.new 9, 3) := by decide +kernel
theorem dX1_init_95 : decode prog_3_method_1_code 95 = .ok (.dup, 1) := by decide +kernel
theorem dX1_init_96 : decode prog_3_method_1_code 96 = .ok (.bipush 16, 2) := by decide +kernel
theorem dX1_init_98 : decode prog_3_method_1_code 98 = .ok (.iconst 4, 1) := by decide +kernel
theorem dX1_init_99 : decode prog_3_method_1_code 99 = .ok (.invokespecial 11, 3) := by decide +kernel
theorem dX1_init_102 : decode prog_3_method_1_code 102 = .ok (.putfield 35, 3) := by decide +kernel
theorem dX1_init_105 : decode prog_3_method_1_code 105 = .ok (.aload_n 0, 1) := by decide +kernel
theorem dX1_init_106 : decode prog_3_method_1_code 106 = .ok (.new 9, 3) := by decide +kernel
theorem dX1_init_109 : decode prog_3_method_1_code 109 = .ok (.dup, 1) := by decide +kernel
theorem dX1_init_110 : decode prog_3_method_1_code 110 = .ok (.bipush 16, 2) := by decide +kernel
theorem dX1_init_112 : decode prog_3_method_1_code 112 = .ok (.iconst 4, 1) := by decide +kernel
theorem dX1_init_113 : decode prog_3_method_1_code 113 = .ok (.invokespecial 11, 3) := by decide +kernel
theorem dX1_init_116 : decode prog_3_method_1_code 116 = .ok (.putfield 38, 3) := by decide +kernel
theorem dX1_init_119 : decode prog_3_method_1_code 119 = .ok (.aload_n 0, 1) := by decide +kernel
theorem dX1_init_120 : decode prog_3_method_1_code 120 = .ok (.new 9, 3) := by decide +kernel
theorem dX1_init_123 : decode prog_3_method_1_code 123 = .ok (.dup, 1) := by decide +kernel
theorem dX1_init_124 : decode prog_3_method_1_code 124 = .ok (.bipush 16, 2) := by decide +kernel
theorem dX1_init_126 : decode prog_3_method_1_code 126 = .ok (.iconst 4, 1) := by decide +kernel
theorem dX1_init_127 : decode prog_3_method_1_code 127 = .ok (.invokespecial 11, 3) := by decide +kernel
theorem dX1_init_130 : decode prog_3_method_1_code 130 = .ok (.putfield 41, 3) := by decide +kernel
theorem dX1_init_133 : decode prog_3_method_1_code 133 = .ok (.aload_n 0, 1) := by decide +kernel
theorem dX1_init_134 : decode prog_3_method_1_code 134 = .ok (.new 9, 3) := by decide +kernel
theorem dX1_init_137 : decode prog_3_method_1_code 137 = .ok (.dup, 1) := by decide +kernel
theorem dX1_init_138 : decode prog_3_method_1_code 138 = .ok (.bipush 8, 2) := by decide +kernel
theorem dX1_init_140 : decode prog_3_method_1_code 140 = .ok (.iconst 2, 1) := by decide +kernel
theorem dX1_init_141 : decode prog_3_method_1_code 141 = .ok (.invokespecial 11, 3) := by decide +kernel
theorem dX1_init_144 : decode prog_3_method_1_code 144 = .ok (.putfield 44, 3) := by decide +kernel
theorem dX1_init_147 : decode prog_3_method_1_code 147 = .ok (.aload_n 0, 1) := by decide +kernel
theorem dX1_init_148 : decode prog_3_method_1_code 148 = .ok (.new 9, 3) := by decide +kernel
theorem dX1_init_151 : decode prog_3_method_1_code 151 = .ok (.dup, 1) := by decide +kernel
theorem dX1_init_152 : decode prog_3_method_1_code 152 = .ok (.bipush 10, 2) := by decide +kernel
theorem dX1_init_154 : decode prog_3_method_1_code 154 = .ok (.iconst 1, 1) := by decide +kernel
theorem dX1_init_155 : decode prog_3_method_1_code 155 = .ok (.invokespecial 11, 3) := by decide +kernel
theorem dX1_init_158 : decode prog_3_method_1_code 158 = .ok (.putfield 47, 3) := by decide +kernel
theorem dX1_init_161 : decode prog_3_method_1_code 161 = .ok (.aload_n 0, 1) := by decide +kernel
theorem dX1_init_162 : decode prog_3_method_1_code 162 = .ok (.getfield 23, 3) := by decide +kernel
theorem dX1_init_165 : decode prog_3_method_1_code 165 = .ok (.iconst 0, 1) := by decide +kernel
theorem dX1_init_166 : decode prog_3_method_1_code 166 = .ok (.iconst 0, 1) := by decide +kernel
theorem dX1_init_167 : decode prog_3_method_1_code 167 = .ok (.iconst 0, 1) := by decide +kernel
theorem dX1_init_168 : decode prog_3_method_1_code 168 = .ok (.iconst 0, 1) := by decide +kernel
theorem dX1_init_169 : decode prog_3_method_1_code 169 = .ok (.invokevirtual 50, 3) := by decide +kernel
theorem dX1_init_172 : decode prog_3_method_1_code 172 = .ok (.pop, 1) := by decide +kernel
theorem dX1_init_173 : decode prog_3_method_1_code 173 = .ok (.aload_n 0, 1) := by decide +kernel
theorem dX1_init_174 : decode prog_3_method_1_code 174 = .ok (.getfield 23, 3) := by decide +kernel
theorem dX1_init_177 : decode prog_3_method_1_code 177 = .ok (.iconst 0, 1) := by decide +kernel
theorem dX1_init_178 : decode prog_3_method_1_code 178 = .ok (.iconst 4, 1) := by decide +kernel
theorem dX1_init_179 : decode prog_3_method_1_code 179 = .ok (.iconst (-1), 1) := by decide +kernel
theorem dX1_init_180 : decode prog_3_method_1_code 180 = .ok (.invokevirtual 54, 3) := by decide +kernel
theorem dX1_init_183 : decode prog_3_method_1_code 183 = .ok (.iconst 0, 1) := by decide +kernel
theorem dX1_init_184 : decode prog_3_method_1_code 184 = .ok (.istore_n 1, 1) := by decide +kernel
theorem dX1_init_185 : decode prog_3_method_1_code 185 = .ok (.iload_n 1, 1) := by decide +kernel
theorem dX1_init_186 : decode prog_3_method_1_code 186 = .ok (.bipush 10, 2) := by decide +kernel
theorem dX1_init_188 : decode prog_3_method_1_code 188 = .ok (.if_icmp .ge 21, 3) := by decide +kernel
theorem dX1_init_191 : decode prog_3_method_1_code 191 = .ok (.aload_n 0, 1) := by decide +kernel
theorem dX1_init_192 : decode prog_3_method_1_code 192 = .ok (.getfield 47, 3) := by decide +kernel
theorem dX1_init_195 : decode prog_3_method_1_code 195 = .ok (.iload_n 1, 1) := by decide +kernel
theorem dX1_init_196 : decode prog_3_method_1_code 196 = .ok (.iconst 0, 1) := by decide +kernel
theorem dX1_init_197 : decode prog_3_method_1_code 197 = .ok (.iconst 0, 1) := by decide +kernel
theorem dX1_init_198 : decode prog_3_method_1_code 198 = .ok (.iconst 0, 1) := by decide +kernel
theorem dX1_init_199 : decode prog_3_method_1_code 199 = .ok (.invokevirtual 50, 3) := by decide +kernel
theorem dX1_init_202 : decode prog_3_method_1_code 202 = .ok (.pop, 1) := by decide +kernel
theorem dX1_init_203 : decode prog_3_method_1_code 203 = .ok (.iinc 1 1, 3) := by decide +kernel
theorem dX1_init_206 : decode prog_3_method_1_code 206 = .ok (.goto (-21), 3) := by decide +kernel
theorem dX1_init_209 : decode prog_3_method_1_code 209 = .ok (.return_, 1) := by decide +kernel
theorem dX1_hour_0 : decode prog_3_method_3_code 0 = .ok (.aload_n 0, 1) := by decide +kernel
theorem dX1_hour_1 : decode prog_3_method_3_code 1 = .ok (.getfield 23, 3) := by decide +kernel
theorem dX1_hour_4 : decode prog_3_method_3_code 4 = .ok (.iconst 0, 1) := by decide +kernel
theorem dX1_hour_5 : decode prog_3_method_3_code 5 = .ok (.iload_n 1, 1) := by decide +kernel
theorem dX1_hour_6 : decode prog_3_method_3_code 6 = .ok (.invokevirtual 62, 3) := by decide +kernel
theorem dX1_hour_9 : decode prog_3_method_3_code 9 = .ok (.ireturn, 1) := by decide +kernel
theorem dX1_setHour_0 : decode prog_3_method_4_code 0 = .ok (.aload_n 0, 1) := by decide +kernel
theorem dX1_setHour_1 : decode prog_3_method_4_code 1 = .ok (.getfield 23, 3) := by decide +kernel
theorem dX1_setHour_4 : decode prog_3_method_4_code 4 = .ok (.iconst 0, 1) := by decide +kernel
theorem dX1_setHour_5 : decode prog_3_method_4_code 5 = .ok (.iload_n 1, 1) := by decide +kernel
theorem dX1_setHour_6 : decode prog_3_method_4_code 6 = .ok (.iload_n 2, 1) := by decide +kernel
theorem dX1_setHour_7 : decode prog_3_method_4_code 7 = .ok (.invokevirtual 54, 3) := by decide +kernel
theorem dX1_setHour_10 : decode prog_3_method_4_code 10 = .ok (.return_, 1) := by decide +kernel
theorem dX1_note_0 : decode prog_3_method_5_code 0 = .ok (.aload_n 0, 1) := by decide +kernel
theorem dX1_note_1 : decode prog_3_method_5_code 1 = .ok (.getfield 26, 3) := by decide +kernel
theorem dX1_note_4 : decode prog_3_method_5_code 4 = .ok (.aload_n 0, 1) := by decide +kernel
theorem dX1_note_5 : decode prog_3_method_5_code 5 = .ok (.getfield 23, 3) := by decide +kernel
theorem dX1_note_8 : decode prog_3_method_5_code 8 = .ok (.iconst 0, 1) := by decide +kernel
theorem dX1_note_9 : decode prog_3_method_5_code 9 = .ok (.iconst 1, 1) := by decide +kernel
theorem dX1_note_10 : decode prog_3_method_5_code 10 = .ok (.invokevirtual 62, 3) := by decide +kernel
theorem dX1_note_13 : decode prog_3_method_5_code 13 = .ok (.iload_n 1, 1) := by decide +kernel
theorem dX1_note_14 : decode prog_3_method_5_code 14 = .ok (.iload_n 2, 1) := by decide +kernel
theorem dX1_note_15 : decode prog_3_method_5_code 15 = .ok (.iload_n 3, 1) := by decide +kernel
theorem dX1_note_16 : decode prog_3_method_5_code 16 = .ok (.invokevirtual 50, 3) := by decide +kernel
theorem dX1_note_19 : decode prog_3_method_5_code 19 = .ok (.pop, 1) := by decide +kernel
theorem dX1_note_20 : decode prog_3_method_5_code 20 = .ok (.return_, 1) := by decide +kernel
theorem dX1_those_0 : decode prog_3_method_6_code 0 = .ok (.iconst 0, 1) := by decide +kernel
theorem dX1_those_1 : decode prog_3_method_6_code 1 = .ok (.istore_n 2, 1) := by decide +kernel
theorem dX1_those_2 : decode prog_3_method_6_code 2 = .ok (.iconst 0, 1) := by decide +kernel
theorem dX1_those_3 : decode prog_3_method_6_code 3 = .ok (.istore_n 3, 1) := by decide +kernel
theorem dX1_those_4 : decode prog_3_method_6_code 4 = .ok (.iload_n 3, 1) := by decide +kernel
theorem dX1_those_5 : decode prog_3_method_6_code 5 = .ok (.aload_n 0, 1) := by decide +kernel
theorem dX1_those_6 : decode prog_3_method_6_code 6 = .ok (.getfield 14, 3) := by decide +kernel
theorem dX1_those_9 : decode prog_3_method_6_code 9 = .ok (.getfield 66, 3) := by decide +kernel
theorem dX1_those_12 : decode prog_3_method_6_code 12 = .ok (.if_icmp .ge 28, 3) := by decide +kernel
theorem dX1_those_15 : decode prog_3_method_6_code 15 = .ok (.aload_n 0, 1) := by decide +kernel
theorem dX1_those_16 : decode prog_3_method_6_code 16 = .ok (.getfield 14, 3) := by decide +kernel
theorem dX1_those_19 : decode prog_3_method_6_code 19 = .ok (.iload_n 3, 1) := by decide +kernel
theorem dX1_those_20 : decode prog_3_method_6_code 20 = .ok (.iload_n 1, 1) := by decide +kernel
theorem dX1_those_21 : decode prog_3_method_6_code 21 = .ok (.invokevirtual 62, 3) := by decide +kernel
theorem dX1_those_24 : decode prog_3_method_6_code 24 = .ok (.iconst 1, 1) := by decide +kernel
theorem dX1_those_25 : decode prog_3_method_6_code 25 = .ok (.if_icmp .ne 9, 3) := by decide +kernel
theorem dX1_those_28 : decode prog_3_method_6_code 28 = .ok (.iload_n 2, 1) := by decide +kernel
theorem dX1_those_29 : decode prog_3_method_6_code 29 = .ok (.iconst 1, 1) := by decide +kernel
theorem dX1_those_30 : decode prog_3_method_6_code 30 = .ok (.iload_n 3, 1) := by decide +kernel
theorem dX1_those_31 : decode prog_3_method_6_code 31 = .ok (.ishl, 1) := by decide +kernel
theorem dX1_those_32 : decode prog_3_method_6_code 32 = .ok (.ior, 1) := by decide +kernel
theorem dX1_those_33 : decode prog_3_method_6_code 33 = .ok (.istore_n 2, 1) := by decide +kernel
theorem dX1_those_34 : decode prog_3_method_6_code 34 = .ok (.iinc 3 1, 3) := by decide +kernel
theorem dX1_those_37 : decode prog_3_method_6_code 37 = .ok (.goto (-33), 3) := by decide +kernel
theorem dX1_those_40 : decode prog_3_method_6_code 40 = .ok (.iload_n 2, 1) := by decide +kernel
theorem dX1_those_41 : decode prog_3_method_6_code 41 = .ok (.ireturn, 1) := by decide +kernel
theorem dX1_takeText_0 : decode prog_3_method_7_code 0 = .ok (.iload_n 1, 1) := by decide +kernel
theorem dX1_takeText_1 : decode prog_3_method_7_code 1 = .ok (.tableswitch 91 0 3 #[31, 50, 65, 76], 31) := by decide +kernel
theorem dX1_takeText_32 : decode prog_3_method_7_code 32 = .ok (.aload_n 0, 1) := by decide +kernel
theorem dX1_takeText_33 : decode prog_3_method_7_code 33 = .ok (.getfield 29, 3) := by decide +kernel
theorem dX1_takeText_36 : decode prog_3_method_7_code 36 = .ok (.aload_n 2, 1) := by decide +kernel
theorem dX1_takeText_37 : decode prog_3_method_7_code 37 = .ok (.invokevirtual 58, 3) := by decide +kernel
theorem dX1_takeText_40 : decode prog_3_method_7_code 40 = .ok (.aload_n 0, 1) := by decide +kernel
theorem dX1_takeText_41 : decode prog_3_method_7_code 41 = .ok (.getfield 32, 3) := by decide +kernel
theorem dX1_takeText_44 : decode prog_3_method_7_code 44 = .ok (.aload_n 3, 1) := by decide +kernel
theorem dX1_takeText_45 : decode prog_3_method_7_code 45 = .ok (.invokevirtual 58, 3) := by decide +kernel
theorem dX1_takeText_48 : decode prog_3_method_7_code 48 = .ok (.goto 44, 3) := by decide +kernel
theorem dX1_takeText_51 : decode prog_3_method_7_code 51 = .ok (.aload_n 0, 1) := by decide +kernel
theorem dX1_takeText_52 : decode prog_3_method_7_code 52 = .ok (.getfield 35, 3) := by decide +kernel
theorem dX1_takeText_55 : decode prog_3_method_7_code 55 = .ok (.aload_n 2, 1) := by decide +kernel
theorem dX1_takeText_56 : decode prog_3_method_7_code 56 = .ok (.invokevirtual 58, 3) := by decide +kernel
theorem dX1_takeText_59 : decode prog_3_method_7_code 59 = .ok (.aload_n 0, 1) := by decide +kernel
theorem dX1_takeText_60 : decode prog_3_method_7_code 60 = .ok (.invokevirtual 70, 3) := by decide +kernel
theorem dX1_takeText_63 : decode prog_3_method_7_code 63 = .ok (.goto 29, 3) := by decide +kernel
theorem dX1_takeText_66 : decode prog_3_method_7_code 66 = .ok (.aload_n 0, 1) := by decide +kernel
theorem dX1_takeText_67 : decode prog_3_method_7_code 67 = .ok (.getfield 38, 3) := by decide +kernel
theorem dX1_takeText_70 : decode prog_3_method_7_code 70 = .ok (.aload_n 2, 1) := by decide +kernel
theorem dX1_takeText_71 : decode prog_3_method_7_code 71 = .ok (.invokevirtual 58, 3) := by decide +kernel
theorem dX1_takeText_74 : decode prog_3_method_7_code 74 = .ok (.goto 18, 3) := by decide +kernel
theorem dX1_takeText_77 : decode prog_3_method_7_code 77 = .ok (.aload_n 0, 1) := by decide +kernel
theorem dX1_takeText_78 : decode prog_3_method_7_code 78 = .ok (.getfield 41, 3) := by decide +kernel
theorem dX1_takeText_81 : decode prog_3_method_7_code 81 = .ok (.aload_n 2, 1) := by decide +kernel
theorem dX1_takeText_82 : decode prog_3_method_7_code 82 = .ok (.invokevirtual 58, 3) := by decide +kernel
theorem dX1_takeText_85 : decode prog_3_method_7_code 85 = .ok (.aload_n 0, 1) := by decide +kernel
theorem dX1_takeText_86 : decode prog_3_method_7_code 86 = .ok (.invokevirtual 73, 3) := by decide +kernel
theorem dX1_takeText_89 : decode prog_3_method_7_code 89 = .ok (.goto 3, 3) := by decide +kernel
theorem dX1_takeText_92 : decode prog_3_method_7_code 92 = .ok (.return_, 1) := by decide +kernel
theorem dX1_countHands_0 : decode prog_3_method_8_code 0 = .ok (.iconst 0, 1) := by decide +kernel
theorem dX1_countHands_1 : decode prog_3_method_8_code 1 = .ok (.istore_n 1, 1) := by decide +kernel
theorem dX1_countHands_2 : decode prog_3_method_8_code 2 = .ok (.iload_n 1, 1) := by decide +kernel
theorem dX1_countHands_3 : decode prog_3_method_8_code 3 = .ok (.aload_n 0, 1) := by decide +kernel
theorem dX1_countHands_4 : decode prog_3_method_8_code 4 = .ok (.getfield 14, 3) := by decide +kernel
theorem dX1_countHands_7 : decode prog_3_method_8_code 7 = .ok (.getfield 66, 3) := by decide +kernel
theorem dX1_countHands_10 : decode prog_3_method_8_code 10 = .ok (.if_icmp .ge 20, 3) := by decide +kernel
theorem dX1_countHands_13 : decode prog_3_method_8_code 13 = .ok (.aload_n 0, 1) := by decide +kernel
theorem dX1_countHands_14 : decode prog_3_method_8_code 14 = .ok (.getfield 14, 3) := by decide +kernel
theorem dX1_countHands_17 : decode prog_3_method_8_code 17 = .ok (.iload_n 1, 1) := by decide +kernel
theorem dX1_countHands_18 : decode prog_3_method_8_code 18 = .ok (.bipush 7, 2) := by decide +kernel
theorem dX1_countHands_20 : decode prog_3_method_8_code 20 = .ok (.iconst 1, 1) := by decide +kernel
theorem dX1_countHands_21 : decode prog_3_method_8_code 21 = .ok (.invokevirtual 54, 3) := by decide +kernel
theorem dX1_countHands_24 : decode prog_3_method_8_code 24 = .ok (.iinc 1 1, 3) := by decide +kernel
theorem dX1_countHands_27 : decode prog_3_method_8_code 27 = .ok (.goto (-25), 3) := by decide +kernel
theorem dX1_countHands_30 : decode prog_3_method_8_code 30 = .ok (.iconst 0, 1) := by decide +kernel
theorem dX1_countHands_31 : decode prog_3_method_8_code 31 = .ok (.istore_n 1, 1) := by decide +kernel
theorem dX1_countHands_32 : decode prog_3_method_8_code 32 = .ok (.iload_n 1, 1) := by decide +kernel
theorem dX1_countHands_33 : decode prog_3_method_8_code 33 = .ok (.aload_n 0, 1) := by decide +kernel
theorem dX1_countHands_34 : decode prog_3_method_8_code 34 = .ok (.getfield 35, 3) := by decide +kernel
theorem dX1_countHands_37 : decode prog_3_method_8_code 37 = .ok (.getfield 66, 3) := by decide +kernel
theorem dX1_countHands_40 : decode prog_3_method_8_code 40 = .ok (.if_icmp .ge 43, 3) := by decide +kernel
theorem dX1_countHands_43 : decode prog_3_method_8_code 43 = .ok (.aload_n 0, 1) := by decide +kernel
theorem dX1_countHands_44 : decode prog_3_method_8_code 44 = .ok (.getfield 35, 3) := by decide +kernel
theorem dX1_countHands_47 : decode prog_3_method_8_code 47 = .ok (.iload_n 1, 1) := by decide +kernel
theorem dX1_countHands_48 : decode prog_3_method_8_code 48 = .ok (.iconst 0, 1) := by decide +kernel
theorem dX1_countHands_49 : decode prog_3_method_8_code 49 = .ok (.invokevirtual 62, 3) := by decide +kernel
theorem dX1_countHands_52 : decode prog_3_method_8_code 52 = .ok (.sipush 275, 3) := by decide +kernel
theorem dX1_countHands_55 : decode prog_3_method_8_code 55 = .ok (.if_icmp .ne 22, 3) := by decide +kernel
theorem dX1_countHands_58 : decode prog_3_method_8_code 58 = .ok (.aload_n 0, 1) := by decide +kernel
theorem dX1_countHands_59 : decode prog_3_method_8_code 59 = .ok (.getfield 14, 3) := by decide +kernel
theorem dX1_countHands_62 : decode prog_3_method_8_code 62 = .ok (.aload_n 0, 1) := by decide +kernel
theorem dX1_countHands_63 : decode prog_3_method_8_code 63 = .ok (.getfield 35, 3) := by decide +kernel
theorem dX1_countHands_66 : decode prog_3_method_8_code 66 = .ok (.iload_n 1, 1) := by decide +kernel
theorem dX1_countHands_67 : decode prog_3_method_8_code 67 = .ok (.iconst 1, 1) := by decide +kernel
theorem dX1_countHands_68 : decode prog_3_method_8_code 68 = .ok (.invokevirtual 62, 3) := by decide +kernel
theorem dX1_countHands_71 : decode prog_3_method_8_code 71 = .ok (.bipush 7, 2) := by decide +kernel
theorem dX1_countHands_73 : decode prog_3_method_8_code 73 = .ok (.iconst 2, 1) := by decide +kernel
theorem dX1_countHands_74 : decode prog_3_method_8_code 74 = .ok (.invokevirtual 54, 3) := by decide +kernel
theorem dX1_countHands_77 : decode prog_3_method_8_code 77 = .ok (.iinc 1 1, 3) := by decide +kernel
theorem dX1_countHands_80 : decode prog_3_method_8_code 80 = .ok (.goto (-48), 3) := by decide +kernel
theorem dX1_countHands_83 : decode prog_3_method_8_code 83 = .ok (.return_, 1) := by decide +kernel
theorem dX1_seat_0 : decode prog_3_method_9_code 0 = .ok (.iconst 0, 1) := by decide +kernel
theorem dX1_seat_1 : decode prog_3_method_9_code 1 = .ok (.istore_n 1, 1) := by decide +kernel
theorem dX1_seat_2 : decode prog_3_method_9_code 2 = .ok (.iload_n 1, 1) := by decide +kernel
theorem dX1_seat_3 : decode prog_3_method_9_code 3 = .ok (.aload_n 0, 1) := by decide +kernel
theorem dX1_seat_4 : decode prog_3_method_9_code 4 = .ok (.getfield 14, 3) := by decide +kernel
theorem dX1_seat_7 : decode prog_3_method_9_code 7 = .ok (.getfield 66, 3) := by decide +kernel
theorem dX1_seat_10 : decode prog_3_method_9_code 10 = .ok (.if_icmp .ge 95, 3) := by decide +kernel
theorem dX1_seat_13 : decode prog_3_method_9_code 13 = .ok (.iconst 0, 1) := by decide +kernel
theorem dX1_seat_14 : decode prog_3_method_9_code 14 = .ok (.istore_n 2, 1) := by decide +kernel
theorem dX1_seat_15 : decode prog_3_method_9_code 15 = .ok (.iconst 0, 1) := by decide +kernel
theorem dX1_seat_16 : decode prog_3_method_9_code 16 = .ok (.istore_n 3, 1) := by decide +kernel
theorem dX1_seat_17 : decode prog_3_method_9_code 17 = .ok (.iload_n 3, 1) := by decide +kernel
theorem dX1_seat_18 : decode prog_3_method_9_code 18 = .ok (.aload_n 0, 1) := by decide +kernel
theorem dX1_seat_19 : decode prog_3_method_9_code 19 = .ok (.getfield 41, 3) := by decide +kernel
theorem dX1_seat_22 : decode prog_3_method_9_code 22 = .ok (.getfield 66, 3) := by decide +kernel
theorem dX1_seat_25 : decode prog_3_method_9_code 25 = .ok (.if_icmp .ge 63, 3) := by decide +kernel
theorem dX1_seat_28 : decode prog_3_method_9_code 28 = .ok (.aload_n 0, 1) := by decide +kernel
theorem dX1_seat_29 : decode prog_3_method_9_code 29 = .ok (.getfield 41, 3) := by decide +kernel
theorem dX1_seat_32 : decode prog_3_method_9_code 32 = .ok (.iload_n 3, 1) := by decide +kernel
theorem dX1_seat_33 : decode prog_3_method_9_code 33 = .ok (.iconst 1, 1) := by decide +kernel
theorem dX1_seat_34 : decode prog_3_method_9_code 34 = .ok (.invokevirtual 62, 3) := by decide +kernel
theorem dX1_seat_37 : decode prog_3_method_9_code 37 = .ok (.iload_n 1, 1) := by decide +kernel
theorem dX1_seat_38 : decode prog_3_method_9_code 38 = .ok (.if_icmp .ne 17, 3) := by decide +kernel
theorem dX1_seat_41 : decode prog_3_method_9_code 41 = .ok (.iload_n 2, 1) := by decide +kernel
theorem dX1_seat_42 : decode prog_3_method_9_code 42 = .ok (.iconst 1, 1) := by decide +kernel
theorem dX1_seat_43 : decode prog_3_method_9_code 43 = .ok (.aload_n 0, 1) := by decide +kernel
theorem dX1_seat_44 : decode prog_3_method_9_code 44 = .ok (.getfield 41, 3) := by decide +kernel
theorem dX1_seat_47 : decode prog_3_method_9_code 47 = .ok (.iload_n 3, 1) := by decide +kernel
theorem dX1_seat_48 : decode prog_3_method_9_code 48 = .ok (.iconst 2, 1) := by decide +kernel
theorem dX1_seat_49 : decode prog_3_method_9_code 49 = .ok (.invokevirtual 62, 3) := by decide +kernel
theorem dX1_seat_52 : decode prog_3_method_9_code 52 = .ok (.ishl, 1) := by decide +kernel
theorem dX1_seat_53 : decode prog_3_method_9_code 53 = .ok (.ior, 1) := by decide +kernel
theorem dX1_seat_54 : decode prog_3_method_9_code 54 = .ok (.istore_n 2, 1) := by decide +kernel
theorem dX1_seat_55 : decode prog_3_method_9_code 55 = .ok (.aload_n 0, 1) := by decide +kernel
theorem dX1_seat_56 : decode prog_3_method_9_code 56 = .ok (.getfield 41, 3) := by decide +kernel
theorem dX1_seat_59 : decode prog_3_method_9_code 59 = .ok (.iload_n 3, 1) := by decide +kernel
theorem dX1_seat_60 : decode prog_3_method_9_code 60 = .ok (.iconst 2, 1) := by decide +kernel
theorem dX1_seat_61 : decode prog_3_method_9_code 61 = .ok (.invokevirtual 62, 3) := by decide +kernel
theorem dX1_seat_64 : decode prog_3_method_9_code 64 = .ok (.iload_n 1, 1) := by decide +kernel
theorem dX1_seat_65 : decode prog_3_method_9_code 65 = .ok (.if_icmp .ne 17, 3) := by decide +kernel
theorem dX1_seat_68 : decode prog_3_method_9_code 68 = .ok (.iload_n 2, 1) := by decide +kernel
theorem dX1_seat_69 : decode prog_3_method_9_code 69 = .ok (.iconst 1, 1) := by decide +kernel
theorem dX1_seat_70 : decode prog_3_method_9_code 70 = .ok (.aload_n 0, 1) := by decide +kernel
theorem dX1_seat_71 : decode prog_3_method_9_code 71 = .ok (.getfield 41, 3) := by decide +kernel
theorem dX1_seat_74 : decode prog_3_method_9_code 74 = .ok (.iload_n 3, 1) := by decide +kernel
theorem dX1_seat_75 : decode prog_3_method_9_code 75 = .ok (.iconst 1, 1) := by decide +kernel
theorem dX1_seat_76 : decode prog_3_method_9_code 76 = .ok (.invokevirtual 62, 3) := by decide +kernel
theorem dX1_seat_79 : decode prog_3_method_9_code 79 = .ok (.ishl, 1) := by decide +kernel
theorem dX1_seat_80 : decode prog_3_method_9_code 80 = .ok (.ior, 1) := by decide +kernel
theorem dX1_seat_81 : decode prog_3_method_9_code 81 = .ok (.istore_n 2, 1) := by decide +kernel
theorem dX1_seat_82 : decode prog_3_method_9_code 82 = .ok (.iinc 3 1, 3) := by decide +kernel
theorem dX1_seat_85 : decode prog_3_method_9_code 85 = .ok (.goto (-68), 3) := by decide +kernel
theorem dX1_seat_88 : decode prog_3_method_9_code 88 = .ok (.aload_n 0, 1) := by decide +kernel
theorem dX1_seat_89 : decode prog_3_method_9_code 89 = .ok (.getfield 14, 3) := by decide +kernel
theorem dX1_seat_92 : decode prog_3_method_9_code 92 = .ok (.iload_n 1, 1) := by decide +kernel
theorem dX1_seat_93 : decode prog_3_method_9_code 93 = .ok (.bipush 6, 2) := by decide +kernel
theorem dX1_seat_95 : decode prog_3_method_9_code 95 = .ok (.iload_n 2, 1) := by decide +kernel
theorem dX1_seat_96 : decode prog_3_method_9_code 96 = .ok (.invokevirtual 54, 3) := by decide +kernel
theorem dX1_seat_99 : decode prog_3_method_9_code 99 = .ok (.iinc 1 1, 3) := by decide +kernel
theorem dX1_seat_102 : decode prog_3_method_9_code 102 = .ok (.goto (-100), 3) := by decide +kernel
theorem dX1_seat_105 : decode prog_3_method_9_code 105 = .ok (.return_, 1) := by decide +kernel
theorem dX1_handsDue_0 : decode prog_3_method_10_code 0 = .ok (.iconst 5, 1) := by decide +kernel
theorem dX1_handsDue_1 : decode prog_3_method_10_code 1 = .ok (.istore_n 1, 1) := by decide +kernel
theorem dX1_handsDue_2 : decode prog_3_method_10_code 2 = .ok (.iconst (-1), 1) := by decide +kernel
theorem dX1_handsDue_3 : decode prog_3_method_10_code 3 = .ok (.istore_n 2, 1) := by decide +kernel
theorem dX1_handsDue_4 : decode prog_3_method_10_code 4 = .ok (.iconst 0, 1) := by decide +kernel
theorem dX1_handsDue_5 : decode prog_3_method_10_code 5 = .ok (.istore_n 3, 1) := by decide +kernel
theorem dX1_handsDue_6 : decode prog_3_method_10_code 6 = .ok (.iload_n 3, 1) := by decide +kernel
theorem dX1_handsDue_7 : decode prog_3_method_10_code 7 = .ok (.aload_n 0, 1) := by decide +kernel
theorem dX1_handsDue_8 : decode prog_3_method_10_code 8 = .ok (.getfield 35, 3) := by decide +kernel
theorem dX1_handsDue_11 : decode prog_3_method_10_code 11 = .ok (.getfield 66, 3) := by decide +kernel
theorem dX1_handsDue_14 : decode prog_3_method_10_code 14 = .ok (.if_icmp .ge 68, 3) := by decide +kernel
theorem dX1_handsDue_17 : decode prog_3_method_10_code 17 = .ok (.aload_n 0, 1) := by decide +kernel
theorem dX1_handsDue_18 : decode prog_3_method_10_code 18 = .ok (.getfield 35, 3) := by decide +kernel
theorem dX1_handsDue_21 : decode prog_3_method_10_code 21 = .ok (.iload_n 3, 1) := by decide +kernel
theorem dX1_handsDue_22 : decode prog_3_method_10_code 22 = .ok (.iconst 2, 1) := by decide +kernel
theorem dX1_handsDue_23 : decode prog_3_method_10_code 23 = .ok (.invokevirtual 62, 3) := by decide +kernel
theorem dX1_handsDue_26 : decode prog_3_method_10_code 26 = .ok (.istore 4, 2) := by decide +kernel
theorem dX1_handsDue_28 : decode prog_3_method_10_code 28 = .ok (.aload_n 0, 1) := by decide +kernel
theorem dX1_handsDue_29 : decode prog_3_method_10_code 29 = .ok (.getfield 35, 3) := by decide +kernel
theorem dX1_handsDue_32 : decode prog_3_method_10_code 32 = .ok (.iload_n 3, 1) := by decide +kernel
theorem dX1_handsDue_33 : decode prog_3_method_10_code 33 = .ok (.iconst 0, 1) := by decide +kernel
theorem dX1_handsDue_34 : decode prog_3_method_10_code 34 = .ok (.invokevirtual 62, 3) := by decide +kernel
theorem dX1_handsDue_37 : decode prog_3_method_10_code 37 = .ok (.sipush 264, 3) := by decide +kernel
theorem dX1_handsDue_40 : decode prog_3_method_10_code 40 = .ok (.if_icmp .ne 36, 3) := by decide +kernel
theorem dX1_handsDue_43 : decode prog_3_method_10_code 43 = .ok (.iload 4, 2) := by decide +kernel
theorem dX1_handsDue_45 : decode prog_3_method_10_code 45 = .ok (.iload_n 2, 1) := by decide +kernel
theorem dX1_handsDue_46 : decode prog_3_method_10_code 46 = .ok (.if_icmp .lt 30, 3) := by decide +kernel
theorem dX1_handsDue_49 : decode prog_3_method_10_code 49 = .ok (.iload 4, 2) := by decide +kernel
theorem dX1_handsDue_51 : decode prog_3_method_10_code 51 = .ok (.aload_n 0, 1) := by decide +kernel
theorem dX1_handsDue_52 : decode prog_3_method_10_code 52 = .ok (.getfield 23, 3) := by decide +kernel
theorem dX1_handsDue_55 : decode prog_3_method_10_code 55 = .ok (.iconst 0, 1) := by decide +kernel
theorem dX1_handsDue_56 : decode prog_3_method_10_code 56 = .ok (.iconst 1, 1) := by decide +kernel
theorem dX1_handsDue_57 : decode prog_3_method_10_code 57 = .ok (.invokevirtual 62, 3) := by decide +kernel
theorem dX1_handsDue_60 : decode prog_3_method_10_code 60 = .ok (.if_icmp .gt 16, 3) := by decide +kernel
theorem dX1_handsDue_63 : decode prog_3_method_10_code 63 = .ok (.iload 4, 2) := by decide +kernel
theorem dX1_handsDue_65 : decode prog_3_method_10_code 65 = .ok (.istore_n 2, 1) := by decide +kernel
theorem dX1_handsDue_66 : decode prog_3_method_10_code 66 = .ok (.aload_n 0, 1) := by decide +kernel
theorem dX1_handsDue_67 : decode prog_3_method_10_code 67 = .ok (.getfield 35, 3) := by decide +kernel
theorem dX1_handsDue_70 : decode prog_3_method_10_code 70 = .ok (.iload_n 3, 1) := by decide +kernel
theorem dX1_handsDue_71 : decode prog_3_method_10_code 71 = .ok (.iconst 1, 1) := by decide +kernel
theorem dX1_handsDue_72 : decode prog_3_method_10_code 72 = .ok (.invokevirtual 62, 3) := by decide +kernel
theorem dX1_handsDue_75 : decode prog_3_method_10_code 75 = .ok (.istore_n 1, 1) := by decide +kernel
theorem dX1_handsDue_76 : decode prog_3_method_10_code 76 = .ok (.iinc 3 1, 3) := by decide +kernel
theorem dX1_handsDue_79 : decode prog_3_method_10_code 79 = .ok (.goto (-73), 3) := by decide +kernel
theorem dX1_handsDue_82 : decode prog_3_method_10_code 82 = .ok (.iload_n 1, 1) := by decide +kernel
theorem dX1_handsDue_83 : decode prog_3_method_10_code 83 = .ok (.ireturn, 1) := by decide +kernel
theorem dX1_mostAgains_0 : decode prog_3_method_11_code 0 = .ok (.aload_n 0, 1) := by decide +kernel
theorem dX1_mostAgains_1 : decode prog_3_method_11_code 1 = .ok (.sipush 274, 3) := by decide +kernel
theorem dX1_mostAgains_4 : decode prog_3_method_11_code 4 = .ok (.bipush 9, 2) := by decide +kernel
theorem dX1_mostAgains_6 : decode prog_3_method_11_code 6 = .ok (.invokevirtual 76, 3) := by decide +kernel
theorem dX1_mostAgains_9 : decode prog_3_method_11_code 9 = .ok (.ireturn, 1) := by decide +kernel
theorem dX1_endMinute_0 : decode prog_3_method_12_code 0 = .ok (.aload_n 0, 1) := by decide +kernel
theorem dX1_endMinute_1 : decode prog_3_method_12_code 1 = .ok (.sipush 276, 3) := by decide +kernel
theorem dX1_endMinute_4 : decode prog_3_method_12_code 4 = .ok (.sipush 300, 3) := by decide +kernel
theorem dX1_endMinute_7 : decode prog_3_method_12_code 7 = .ok (.invokevirtual 76, 3) := by decide +kernel
theorem dX1_endMinute_10 : decode prog_3_method_12_code 10 = .ok (.ireturn, 1) := by decide +kernel
theorem dX1_lastOf_0 : decode prog_3_method_13_code 0 = .ok (.iload_n 2, 1) := by decide +kernel
theorem dX1_lastOf_1 : decode prog_3_method_13_code 1 = .ok (.istore_n 3, 1) := by decide +kernel
theorem dX1_lastOf_2 : decode prog_3_method_13_code 2 = .ok (.iconst 0, 1) := by decide +kernel
theorem dX1_lastOf_3 : decode prog_3_method_13_code 3 = .ok (.istore 4, 2) := by decide +kernel
theorem dX1_lastOf_5 : decode prog_3_method_13_code 5 = .ok (.iload 4, 2) := by decide +kernel
theorem dX1_lastOf_7 : decode prog_3_method_13_code 7 = .ok (.aload_n 0, 1) := by decide +kernel
theorem dX1_lastOf_8 : decode prog_3_method_13_code 8 = .ok (.getfield 35, 3) := by decide +kernel
theorem dX1_lastOf_11 : decode prog_3_method_13_code 11 = .ok (.getfield 66, 3) := by decide +kernel
theorem dX1_lastOf_14 : decode prog_3_method_13_code 14 = .ok (.if_icmp .ge 34, 3) := by decide +kernel
theorem dX1_lastOf_17 : decode prog_3_method_13_code 17 = .ok (.aload_n 0, 1) := by decide +kernel
theorem dX1_lastOf_18 : decode prog_3_method_13_code 18 = .ok (.getfield 35, 3) := by decide +kernel
theorem dX1_lastOf_21 : decode prog_3_method_13_code 21 = .ok (.iload 4, 2) := by decide +kernel
theorem dX1_lastOf_23 : decode prog_3_method_13_code 23 = .ok (.iconst 0, 1) := by decide +kernel
theorem dX1_lastOf_24 : decode prog_3_method_13_code 24 = .ok (.invokevirtual 62, 3) := by decide +kernel
theorem dX1_lastOf_27 : decode prog_3_method_13_code 27 = .ok (.iload_n 1, 1) := by decide +kernel
theorem dX1_lastOf_28 : decode prog_3_method_13_code 28 = .ok (.if_icmp .ne 14, 3) := by decide +kernel
theorem dX1_lastOf_31 : decode prog_3_method_13_code 31 = .ok (.aload_n 0, 1) := by decide +kernel
theorem dX1_lastOf_32 : decode prog_3_method_13_code 32 = .ok (.getfield 35, 3) := by decide +kernel
theorem dX1_lastOf_35 : decode prog_3_method_13_code 35 = .ok (.iload 4, 2) := by decide +kernel
theorem dX1_lastOf_37 : decode prog_3_method_13_code 37 = .ok (.iconst 1, 1) := by decide +kernel
theorem dX1_lastOf_38 : decode prog_3_method_13_code 38 = .ok (.invokevirtual 62, 3) := by decide +kernel
theorem dX1_lastOf_41 : decode prog_3_method_13_code 41 = .ok (.istore_n 3, 1) := by decide +kernel
theorem dX1_lastOf_42 : decode prog_3_method_13_code 42 = .ok (.iinc 4 1, 3) := by decide +kernel
theorem dX1_lastOf_45 : decode prog_3_method_13_code 45 = .ok (.goto (-40), 3) := by decide +kernel
theorem dX1_lastOf_48 : decode prog_3_method_13_code 48 = .ok (.iload_n 3, 1) := by decide +kernel
theorem dX1_lastOf_49 : decode prog_3_method_13_code 49 = .ok (.ireturn, 1) := by decide +kernel
theorem dX1_mayGoOn_0 : decode prog_3_method_14_code 0 = .ok (.aload_n 0, 1) := by decide +kernel
theorem dX1_mayGoOn_1 : decode prog_3_method_14_code 1 = .ok (.getfield 23, 3) := by decide +kernel
theorem dX1_mayGoOn_4 : decode prog_3_method_14_code 4 = .ok (.iconst 0, 1) := by decide +kernel
theorem dX1_mayGoOn_5 : decode prog_3_method_14_code 5 = .ok (.iconst 5, 1) := by decide +kernel
theorem dX1_mayGoOn_6 : decode prog_3_method_14_code 6 = .ok (.invokevirtual 62, 3) := by decide +kernel
theorem dX1_mayGoOn_9 : decode prog_3_method_14_code 9 = .ok (.aload_n 0, 1) := by decide +kernel
theorem dX1_mayGoOn_10 : decode prog_3_method_14_code 10 = .ok (.invokevirtual 79, 3) := by decide +kernel
theorem dX1_mayGoOn_13 : decode prog_3_method_14_code 13 = .ok (.if_icmp .ge 23, 3) := by decide +kernel
theorem dX1_mayGoOn_16 : decode prog_3_method_14_code 16 = .ok (.aload_n 0, 1) := by decide +kernel
theorem dX1_mayGoOn_17 : decode prog_3_method_14_code 17 = .ok (.getfield 23, 3) := by decide +kernel
theorem dX1_mayGoOn_20 : decode prog_3_method_14_code 20 = .ok (.iconst 0, 1) := by decide +kernel
theorem dX1_mayGoOn_21 : decode prog_3_method_14_code 21 = .ok (.iconst 0, 1) := by decide +kernel
theorem dX1_mayGoOn_22 : decode prog_3_method_14_code 22 = .ok (.invokevirtual 62, 3) := by decide +kernel
theorem dX1_mayGoOn_25 : decode prog_3_method_14_code 25 = .ok (.aload_n 0, 1) := by decide +kernel
theorem dX1_mayGoOn_26 : decode prog_3_method_14_code 26 = .ok (.invokevirtual 83, 3) := by decide +kernel
theorem dX1_mayGoOn_29 : decode prog_3_method_14_code 29 = .ok (.if_icmp .ge 7, 3) := by decide +kernel
theorem dX1_mayGoOn_32 : decode prog_3_method_14_code 32 = .ok (.iconst 1, 1) := by decide +kernel
theorem dX1_mayGoOn_33 : decode prog_3_method_14_code 33 = .ok (.goto 4, 3) := by decide +kernel
theorem dX1_mayGoOn_36 : decode prog_3_method_14_code 36 = .ok (.iconst 0, 1) := by decide +kernel
theorem dX1_mayGoOn_37 : decode prog_3_method_14_code 37 = .ok (.ireturn, 1) := by decide +kernel
theorem dX2_init_0 : decode prog_4_method_1_code 0 = .ok (.aload_n 0, 1) := by decide +kernel
theorem dX2_init_1 : decode prog_4_method_1_code 1 = .ok (.invokespecial 3, 3) := by decide +kernel
theorem dX2_init_4 : decode prog_4_method_1_code 4 = .ok (.aload_n 0, 1) := by decide +kernel
theorem dX2_init_5 : decode prog_4_method_1_code 5 = .ok (.bipush 10, 2) := by decide +kernel
theorem dX2_init_7 : decode prog_4_method_1_code 7 = .ok (.newarray .int, 2) := by decide +kernel
theorem dX2_init_9 : decode prog_4_method_1_code 9 = .ok (.putfield 9, 3) := by decide +kernel
theorem dX2_init_12 : decode prog_4_method_1_code 12 = .ok (.aload_n 0, 1) := by decide +kernel
theorem dX2_init_13 : decode prog_4_method_1_code 13 = .ok (.bipush 22, 2) := by decide +kernel
theorem dX2_init_15 : decode prog_4_method_1_code 15 = .ok (.newarray .int, 2) := by decide +kernel
theorem dX2_init_17 : decode prog_4_method_1_code 17 = .ok (.putfield 15, 3) := by decide +kernel
theorem dX2_init_20 : decode prog_4_method_1_code 20 = .ok (.aload_n 0, 1) := by decide +kernel
theorem dX2_init_21 : decode prog_4_method_1_code 21 = .ok (.aload_n 1, 1) := by decide +kernel
theorem dX2_init_22 : decode prog_4_method_1_code 22 = .ok (.putfield 18, 3) := by decide +kernel
theorem dX2_init_25 : decode prog_4_method_1_code 25 = .ok (.return_, 1) := by decide +kernel
theorem dX2_clap_0 : decode prog_4_method_2_code 0 = .ok (.aload_n 0, 1) := by decide +kernel
theorem dX2_clap_1 : decode prog_4_method_2_code 1 = .ok (.iload_n 1, 1) := by decide +kernel
theorem dX2_clap_2 : decode prog_4_method_2_code 2 = .ok (.iload_n 2, 1) := by decide +kernel
theorem dX2_clap_3 : decode prog_4_method_2_code 3 = .ok (.iload_n 3, 1) := by decide +kernel
theorem dX2_clap_4 : decode prog_4_method_2_code 4 = .ok (.invokevirtual 22, 3) := by decide +kernel
theorem dX2_clap_7 : decode prog_4_method_2_code 7 = .ok (.aload_n 0, 1) := by decide +kernel
theorem dX2_clap_8 : decode prog_4_method_2_code 8 = .ok (.sipush 257, 3) := by decide +kernel
theorem dX2_clap_11 : decode prog_4_method_2_code 11 = .ok (.invokevirtual 26, 3) := by decide +kernel
theorem dX2_clap_14 : decode prog_4_method_2_code 14 = .ok (.ireturn, 1) := by decide +kernel
theorem dX2_ofDeed_0 : decode prog_4_method_4_code 0 = .ok (.aload_n 0, 1) := by decide +kernel
theorem dX2_ofDeed_1 : decode prog_4_method_4_code 1 = .ok (.iconst (-1), 1) := by decide +kernel
theorem dX2_ofDeed_2 : decode prog_4_method_4_code 2 = .ok (.iload_n 2, 1) := by decide +kernel
theorem dX2_ofDeed_3 : decode prog_4_method_4_code 3 = .ok (.iconst 0, 1) := by decide +kernel
theorem dX2_ofDeed_4 : decode prog_4_method_4_code 4 = .ok (.invokevirtual 22, 3) := by decide +kernel
theorem dX2_ofDeed_7 : decode prog_4_method_4_code 7 = .ok (.aload_n 0, 1) := by decide +kernel
theorem dX2_ofDeed_8 : decode prog_4_method_4_code 8 = .ok (.iload_n 1, 1) := by decide +kernel
theorem dX2_ofDeed_9 : decode prog_4_method_4_code 9 = .ok (.invokevirtual 26, 3) := by decide +kernel
theorem dX2_ofDeed_12 : decode prog_4_method_4_code 12 = .ok (.ireturn, 1) := by decide +kernel
theorem dX2_askOf_0 : decode prog_4_method_5_code 0 = .ok (.aload_n 0, 1) := by decide +kernel
theorem dX2_askOf_1 : decode prog_4_method_5_code 1 = .ok (.getfield 18, 3) := by decide +kernel
theorem dX2_askOf_4 : decode prog_4_method_5_code 4 = .ok (.getfield 34, 3) := by decide +kernel
theorem dX2_askOf_7 : decode prog_4_method_5_code 7 = .ok (.iload_n 1, 1) := by decide +kernel
theorem dX2_askOf_8 : decode prog_4_method_5_code 8 = .ok (.invokevirtual 40, 3) := by decide +kernel
theorem dX2_askOf_11 : decode prog_4_method_5_code 11 = .ok (.istore 4, 2) := by decide +kernel
theorem dX2_askOf_13 : decode prog_4_method_5_code 13 = .ok (.aload_n 0, 1) := by decide +kernel
theorem dX2_askOf_14 : decode prog_4_method_5_code 14 = .ok (.iconst 0, 1) := by decide +kernel
theorem dX2_askOf_15 : decode prog_4_method_5_code 15 = .ok (.iload 4, 2) := by decide +kernel
theorem dX2_askOf_17 : decode prog_4_method_5_code 17 = .ok (.ifCond .eq 7, 3) := by decide +kernel
theorem dX2_askOf_20 : decode prog_4_method_5_code 20 = .ok (.iload_n 1, 1) := by decide +kernel
theorem dX2_askOf_21 : decode prog_4_method_5_code 21 = .ok (.goto 4, 3) := by decide +kernel
theorem dX2_askOf_24 : decode prog_4_method_5_code 24 = .ok (.iconst 0, 1) := by decide +kernel
theorem dX2_askOf_25 : decode prog_4_method_5_code 25 = .ok (.invokevirtual 30, 3) := by decide +kernel
theorem dX2_askOf_28 : decode prog_4_method_5_code 28 = .ok (.aload_n 0, 1) := by decide +kernel
theorem dX2_askOf_29 : decode prog_4_method_5_code 29 = .ok (.iconst 1, 1) := by decide +kernel
theorem dX2_askOf_30 : decode prog_4_method_5_code 30 = .ok (.iload 4, 2) := by decide +kernel
theorem dX2_askOf_32 : decode prog_4_method_5_code 32 = .ok (.ifCond .eq 18, 3) := by decide +kernel
theorem dX2_askOf_35 : decode prog_4_method_5_code 35 = .ok (.aload_n 0, 1) := by decide +kernel
theorem dX2_askOf_36 : decode prog_4_method_5_code 36 = .ok (.getfield 18, 3) := by decide +kernel
theorem dX2_askOf_39 : decode prog_4_method_5_code 39 = .ok (.getfield 34, 3) := by decide +kernel
theorem dX2_askOf_42 : decode prog_4_method_5_code 42 = .ok (.iload_n 1, 1) := by decide +kernel
theorem dX2_askOf_43 : decode prog_4_method_5_code 43 = .ok (.iconst 0, 1) := by decide +kernel
theorem dX2_askOf_44 : decode prog_4_method_5_code 44 = .ok (.invokevirtual 46, 3) := by decide +kernel
theorem dX2_askOf_47 : decode prog_4_method_5_code 47 = .ok (.goto 4, 3) := by decide +kernel
theorem dX2_askOf_50 : decode prog_4_method_5_code 50 = .ok (.iconst 0, 1) := by decide +kernel
theorem dX2_askOf_51 : decode prog_4_method_5_code 51 = .ok (.invokevirtual 30, 3) := by decide +kernel
theorem dX2_askOf_54 : decode prog_4_method_5_code 54 = .ok (.aload_n 0, 1) := by decide +kernel
theorem dX2_askOf_55 : decode prog_4_method_5_code 55 = .ok (.iconst 2, 1) := by decide +kernel
theorem dX2_askOf_56 : decode prog_4_method_5_code 56 = .ok (.iload 4, 2) := by decide +kernel
theorem dX2_askOf_58 : decode prog_4_method_5_code 58 = .ok (.ifCond .eq 18, 3) := by decide +kernel
theorem dX2_askOf_61 : decode prog_4_method_5_code 61 = .ok (.aload_n 0, 1) := by decide +kernel
theorem dX2_askOf_62 : decode prog_4_method_5_code 62 = .ok (.getfield 18, 3) := by decide +kernel
theorem dX2_askOf_65 : decode prog_4_method_5_code 65 = .ok (.getfield 34, 3) := by decide +kernel
theorem dX2_askOf_68 : decode prog_4_method_5_code 68 = .ok (.iload_n 1, 1) := by decide +kernel
theorem dX2_askOf_69 : decode prog_4_method_5_code 69 = .ok (.iconst 1, 1) := by decide +kernel
theorem dX2_askOf_70 : decode prog_4_method_5_code 70 = .ok (.invokevirtual 46, 3) := by decide +kernel
theorem dX2_askOf_73 : decode prog_4_method_5_code 73 = .ok (.goto 4, 3) := by decide +kernel
theorem dX2_askOf_76 : decode prog_4_method_5_code 76 = .ok (.iconst 0, 1) := by decide +kernel
theorem dX2_askOf_77 : decode prog_4_method_5_code 77 = .ok (.invokevirtual 30, 3) := by decide +kernel
theorem dX2_askOf_80 : decode prog_4_method_5_code 80 = .ok (.aload_n 0, 1) := by decide +kernel
theorem dX2_askOf_81 : decode prog_4_method_5_code 81 = .ok (.iconst 3, 1) := by decide +kernel
theorem dX2_askOf_82 : decode prog_4_method_5_code 82 = .ok (.iload 4, 2) := by decide +kernel
theorem dX2_askOf_84 : decode prog_4_method_5_code 84 = .ok (.ifCond .eq 18, 3) := by decide +kernel
theorem dX2_askOf_87 : decode prog_4_method_5_code 87 = .ok (.aload_n 0, 1) := by decide +kernel
theorem dX2_askOf_88 : decode prog_4_method_5_code 88 = .ok (.getfield 18, 3) := by decide +kernel
theorem dX2_askOf_91 : decode prog_4_method_5_code 91 = .ok (.getfield 34, 3) := by decide +kernel
theorem dX2_askOf_94 : decode prog_4_method_5_code 94 = .ok (.iload_n 1, 1) := by decide +kernel
theorem dX2_askOf_95 : decode prog_4_method_5_code 95 = .ok (.iconst 2, 1) := by decide +kernel
theorem dX2_askOf_96 : decode prog_4_method_5_code 96 = .ok (.invokevirtual 46, 3) := by decide +kernel
theorem dX2_askOf_99 : decode prog_4_method_5_code 99 = .ok (.goto 4, 3) := by decide +kernel
theorem dX2_askOf_102 : decode prog_4_method_5_code 102 = .ok (.iconst 0, 1) := by decide +kernel
theorem dX2_askOf_103 : decode prog_4_method_5_code 103 = .ok (.invokevirtual 30, 3) := by decide +kernel
theorem dX2_askOf_106 : decode prog_4_method_5_code 106 = .ok (.aload_n 0, 1) := by decide +kernel
theorem dX2_askOf_107 : decode prog_4_method_5_code 107 = .ok (.iconst 4, 1) := by decide +kernel
theorem dX2_askOf_108 : decode prog_4_method_5_code 108 = .ok (.iload 4, 2) := by decide +kernel
theorem dX2_askOf_110 : decode prog_4_method_5_code 110 = .ok (.ifCond .eq 18, 3) := by decide +kernel
theorem dX2_askOf_113 : decode prog_4_method_5_code 113 = .ok (.aload_n 0, 1) := by decide +kernel
theorem dX2_askOf_114 : decode prog_4_method_5_code 114 = .ok (.getfield 18, 3) := by decide +kernel
theorem dX2_askOf_117 : decode prog_4_method_5_code 117 = .ok (.getfield 34, 3) := by decide +kernel
theorem dX2_askOf_120 : decode prog_4_method_5_code 120 = .ok (.iload_n 1, 1) := by decide +kernel
theorem dX2_askOf_121 : decode prog_4_method_5_code 121 = .ok (.iconst 5, 1) := by decide +kernel
theorem dX2_askOf_122 : decode prog_4_method_5_code 122 = .ok (.invokevirtual 46, 3) := by decide +kernel
theorem dX2_askOf_125 : decode prog_4_method_5_code 125 = .ok (.goto 4, 3) := by decide +kernel
theorem dX2_askOf_128 : decode prog_4_method_5_code 128 = .ok (.iconst 0, 1) := by decide +kernel
theorem dX2_askOf_129 : decode prog_4_method_5_code 129 = .ok (.invokevirtual 30, 3) := by decide +kernel
theorem dX2_askOf_132 : decode prog_4_method_5_code 132 = .ok (.aload_n 0, 1) := by decide +kernel
theorem dX2_askOf_133 : decode prog_4_method_5_code 133 = .ok (.iconst 5, 1) := by decide +kernel
theorem dX2_askOf_134 : decode prog_4_method_5_code 134 = .ok (.aload_n 0, 1) := by decide +kernel
theorem dX2_askOf_135 : decode prog_4_method_5_code 135 = .ok (.getfield 18, 3) := by decide +kernel
theorem dX2_askOf_138 : decode prog_4_method_5_code 138 = .ok (.getfield 50, 3) := by decide +kernel
theorem dX2_askOf_141 : decode prog_4_method_5_code 141 = .ok (.iload_n 2, 1) := by decide +kernel
theorem dX2_askOf_142 : decode prog_4_method_5_code 142 = .ok (.iconst 0, 1) := by decide +kernel
theorem dX2_askOf_143 : decode prog_4_method_5_code 143 = .ok (.invokevirtual 46, 3) := by decide +kernel
theorem dX2_askOf_146 : decode prog_4_method_5_code 146 = .ok (.invokevirtual 30, 3) := by decide +kernel
theorem dX2_askOf_149 : decode prog_4_method_5_code 149 = .ok (.aload_n 0, 1) := by decide +kernel
theorem dX2_askOf_150 : decode prog_4_method_5_code 150 = .ok (.bipush 6, 2) := by decide +kernel
theorem dX2_askOf_152 : decode prog_4_method_5_code 152 = .ok (.aload_n 0, 1) := by decide +kernel
theorem dX2_askOf_153 : decode prog_4_method_5_code 153 = .ok (.getfield 18, 3) := by decide +kernel
theorem dX2_askOf_156 : decode prog_4_method_5_code 156 = .ok (.getfield 50, 3) := by decide +kernel
theorem dX2_askOf_159 : decode prog_4_method_5_code 159 = .ok (.iload_n 2, 1) := by decide +kernel
theorem dX2_askOf_160 : decode prog_4_method_5_code 160 = .ok (.iconst 3, 1) := by decide +kernel
theorem dX2_askOf_161 : decode prog_4_method_5_code 161 = .ok (.invokevirtual 46, 3) := by decide +kernel
theorem dX2_askOf_164 : decode prog_4_method_5_code 164 = .ok (.invokevirtual 30, 3) := by decide +kernel
theorem dX2_askOf_167 : decode prog_4_method_5_code 167 = .ok (.aload_n 0, 1) := by decide +kernel
theorem dX2_askOf_168 : decode prog_4_method_5_code 168 = .ok (.bipush 7, 2) := by decide +kernel
theorem dX2_askOf_170 : decode prog_4_method_5_code 170 = .ok (.aload_n 0, 1) := by decide +kernel
theorem dX2_askOf_171 : decode prog_4_method_5_code 171 = .ok (.getfield 18, 3) := by decide +kernel
theorem dX2_askOf_174 : decode prog_4_method_5_code 174 = .ok (.getfield 53, 3) := by decide +kernel
theorem dX2_askOf_177 : decode prog_4_method_5_code 177 = .ok (.iconst 0, 1) := by decide +kernel
theorem dX2_askOf_178 : decode prog_4_method_5_code 178 = .ok (.iconst 5, 1) := by decide +kernel
theorem dX2_askOf_179 : decode prog_4_method_5_code 179 = .ok (.invokevirtual 46, 3) := by decide +kernel
theorem dX2_askOf_182 : decode prog_4_method_5_code 182 = .ok (.invokevirtual 30, 3) := by decide +kernel
theorem dX2_askOf_185 : decode prog_4_method_5_code 185 = .ok (.aload_n 0, 1) := by decide +kernel
theorem dX2_askOf_186 : decode prog_4_method_5_code 186 = .ok (.bipush 8, 2) := by decide +kernel
theorem dX2_askOf_188 : decode prog_4_method_5_code 188 = .ok (.iload_n 3, 1) := by decide +kernel
theorem dX2_askOf_189 : decode prog_4_method_5_code 189 = .ok (.invokevirtual 30, 3) := by decide +kernel
theorem dX2_askOf_192 : decode prog_4_method_5_code 192 = .ok (.aload_n 0, 1) := by decide +kernel
theorem dX2_askOf_193 : decode prog_4_method_5_code 193 = .ok (.bipush 9, 2) := by decide +kernel
theorem dX2_askOf_195 : decode prog_4_method_5_code 195 = .ok (.aload_n 0, 1) := by decide +kernel
theorem dX2_askOf_196 : decode prog_4_method_5_code 196 = .ok (.getfield 18, 3) := by decide +kernel
theorem dX2_askOf_199 : decode prog_4_method_5_code 199 = .ok (.getfield 53, 3) := by decide +kernel
theorem dX2_askOf_202 : decode prog_4_method_5_code 202 = .ok (.iconst 0, 1) := by decide +kernel
theorem dX2_askOf_203 : decode prog_4_method_5_code 203 = .ok (.iconst 0, 1) := by decide +kernel
theorem dX2_askOf_204 : decode prog_4_method_5_code 204 = .ok (.invokevirtual 46, 3) := by decide +kernel
theorem dX2_askOf_207 : decode prog_4_method_5_code 207 = .ok (.bipush 60, 2) := by decide +kernel
theorem dX2_askOf_209 : decode prog_4_method_5_code 209 = .ok (.idiv, 1) := by decide +kernel
theorem dX2_askOf_210 : decode prog_4_method_5_code 210 = .ok (.invokevirtual 30, 3) := by decide +kernel
theorem dX2_askOf_213 : decode prog_4_method_5_code 213 = .ok (.return_, 1) := by decide +kernel
theorem dX2_ask_0 : decode prog_4_method_6_code 0 = .ok (.iload_n 1, 1) := by decide +kernel
theorem dX2_ask_1 : decode prog_4_method_6_code 1 = .ok (.ifCond .lt 19, 3) := by decide +kernel
theorem dX2_ask_4 : decode prog_4_method_6_code 4 = .ok (.iload_n 1, 1) := by decide +kernel
theorem dX2_ask_5 : decode prog_4_method_6_code 5 = .ok (.aload_n 0, 1) := by decide +kernel
theorem dX2_ask_6 : decode prog_4_method_6_code 6 = .ok (.getfield 9, 3) := by decide +kernel
theorem dX2_ask_9 : decode prog_4_method_6_code 9 = .ok (.arraylength, 1) := by decide +kernel
theorem dX2_ask_10 : decode prog_4_method_6_code 10 = .ok (.if_icmp .ge 10, 3) := by decide +kernel
theorem dX2_ask_13 : decode prog_4_method_6_code 13 = .ok (.aload_n 0, 1) := by decide +kernel
theorem dX2_ask_14 : decode prog_4_method_6_code 14 = .ok (.getfield 9, 3) := by decide +kernel
theorem dX2_ask_17 : decode prog_4_method_6_code 17 = .ok (.iload_n 1, 1) := by decide +kernel
theorem dX2_ask_18 : decode prog_4_method_6_code 18 = .ok (.iload_n 2, 1) := by decide +kernel
theorem dX2_ask_19 : decode prog_4_method_6_code 19 = .ok (.iastore, 1) := by decide +kernel
theorem dX2_ask_20 : decode prog_4_method_6_code 20 = .ok (.return_, 1) := by decide +kernel
theorem dX2_answer_0 : decode prog_4_method_7_code 0 = .ok (.iload_n 1, 1) := by decide +kernel
theorem dX2_answer_1 : decode prog_4_method_7_code 1 = .ok (.ifCond .lt 21, 3) := by decide +kernel
theorem dX2_answer_4 : decode prog_4_method_7_code 4 = .ok (.iload_n 1, 1) := by decide +kernel
theorem dX2_answer_5 : decode prog_4_method_7_code 5 = .ok (.aload_n 0, 1) := by decide +kernel
theorem dX2_answer_6 : decode prog_4_method_7_code 6 = .ok (.getfield 9, 3) := by decide +kernel
theorem dX2_answer_9 : decode prog_4_method_7_code 9 = .ok (.arraylength, 1) := by decide +kernel
theorem dX2_answer_10 : decode prog_4_method_7_code 10 = .ok (.if_icmp .ge 12, 3) := by decide +kernel
theorem dX2_answer_13 : decode prog_4_method_7_code 13 = .ok (.aload_n 0, 1) := by decide +kernel
theorem dX2_answer_14 : decode prog_4_method_7_code 14 = .ok (.getfield 9, 3) := by decide +kernel
theorem dX2_answer_17 : decode prog_4_method_7_code 17 = .ok (.iload_n 1, 1) := by decide +kernel
theorem dX2_answer_18 : decode prog_4_method_7_code 18 = .ok (.iaload, 1) := by decide +kernel
theorem dX2_answer_19 : decode prog_4_method_7_code 19 = .ok (.goto 4, 3) := by decide +kernel
theorem dX2_answer_22 : decode prog_4_method_7_code 22 = .ok (.iconst 0, 1) := by decide +kernel
theorem dX2_answer_23 : decode prog_4_method_7_code 23 = .ok (.ireturn, 1) := by decide +kernel
theorem dX2_tell_0 : decode prog_4_method_8_code 0 = .ok (.iconst 0, 1) := by decide +kernel
theorem dX2_tell_1 : decode prog_4_method_8_code 1 = .ok (.istore_n 2, 1) := by decide +kernel
theorem dX2_tell_2 : decode prog_4_method_8_code 2 = .ok (.iload_n 2, 1) := by decide +kernel
theorem dX2_tell_3 : decode prog_4_method_8_code 3 = .ok (.aload_n 0, 1) := by decide +kernel
theorem dX2_tell_4 : decode prog_4_method_8_code 4 = .ok (.getfield 18, 3) := by decide +kernel
theorem dX2_tell_7 : decode prog_4_method_8_code 7 = .ok (.getfield 56, 3) := by decide +kernel
theorem dX2_tell_10 : decode prog_4_method_8_code 10 = .ok (.getfield 59, 3) := by decide +kernel
theorem dX2_tell_13 : decode prog_4_method_8_code 13 = .ok (.if_icmp .ge 96, 3) := by decide +kernel
theorem dX2_tell_16 : decode prog_4_method_8_code 16 = .ok (.aload_n 0, 1) := by decide +kernel
theorem dX2_tell_17 : decode prog_4_method_8_code 17 = .ok (.getfield 18, 3) := by decide +kernel
theorem dX2_tell_20 : decode prog_4_method_8_code 20 = .ok (.getfield 56, 3) := by decide +kernel
theorem dX2_tell_23 : decode prog_4_method_8_code 23 = .ok (.iload_n 2, 1) := by decide +kernel
theorem dX2_tell_24 : decode prog_4_method_8_code 24 = .ok (.iconst 1, 1) := by decide +kernel
theorem dX2_tell_25 : decode prog_4_method_8_code 25 = .ok (.invokevirtual 46, 3) := by decide +kernel
theorem dX2_tell_28 : decode prog_4_method_8_code 28 = .ok (.istore_n 3, 1) := by decide +kernel
theorem dX2_tell_29 : decode prog_4_method_8_code 29 = .ok (.aload_n 0, 1) := by decide +kernel
theorem dX2_tell_30 : decode prog_4_method_8_code 30 = .ok (.getfield 18, 3) := by decide +kernel
theorem dX2_tell_33 : decode prog_4_method_8_code 33 = .ok (.getfield 56, 3) := by decide +kernel
theorem dX2_tell_36 : decode prog_4_method_8_code 36 = .ok (.iload_n 2, 1) := by decide +kernel
theorem dX2_tell_37 : decode prog_4_method_8_code 37 = .ok (.iconst 2, 1) := by decide +kernel
theorem dX2_tell_38 : decode prog_4_method_8_code 38 = .ok (.invokevirtual 46, 3) := by decide +kernel
theorem dX2_tell_41 : decode prog_4_method_8_code 41 = .ok (.istore 4, 2) := by decide +kernel
theorem dX2_tell_43 : decode prog_4_method_8_code 43 = .ok (.aload_n 0, 1) := by decide +kernel
theorem dX2_tell_44 : decode prog_4_method_8_code 44 = .ok (.getfield 18, 3) := by decide +kernel
theorem dX2_tell_47 : decode prog_4_method_8_code 47 = .ok (.getfield 56, 3) := by decide +kernel
theorem dX2_tell_50 : decode prog_4_method_8_code 50 = .ok (.iload_n 2, 1) := by decide +kernel
theorem dX2_tell_51 : decode prog_4_method_8_code 51 = .ok (.iconst 3, 1) := by decide +kernel
theorem dX2_tell_52 : decode prog_4_method_8_code 52 = .ok (.invokevirtual 46, 3) := by decide +kernel
theorem dX2_tell_55 : decode prog_4_method_8_code 55 = .ok (.istore 5, 2) := by decide +kernel
theorem dX2_tell_57 : decode prog_4_method_8_code 57 = .ok (.aload_n 0, 1) := by decide +kernel
theorem dX2_tell_58 : decode prog_4_method_8_code 58 = .ok (.getfield 18, 3) := by decide +kernel
theorem dX2_tell_61 : decode prog_4_method_8_code 61 = .ok (.getfield 56, 3) := by decide +kernel
theorem dX2_tell_64 : decode prog_4_method_8_code 64 = .ok (.iload_n 2, 1) := by decide +kernel
theorem dX2_tell_65 : decode prog_4_method_8_code 65 = .ok (.iconst 0, 1) := by decide +kernel
theorem dX2_tell_66 : decode prog_4_method_8_code 66 = .ok (.invokevirtual 46, 3) := by decide +kernel
theorem dX2_tell_69 : decode prog_4_method_8_code 69 = .ok (.iload_n 1, 1) := by decide +kernel
theorem dX2_tell_70 : decode prog_4_method_8_code 70 = .ok (.if_icmp .ne 33, 3) := by decide +kernel
theorem dX2_tell_73 : decode prog_4_method_8_code 73 = .ok (.iload 4, 2) := by decide +kernel
theorem dX2_tell_75 : decode prog_4_method_8_code 75 = .ok (.iload 5, 2) := by decide +kernel
theorem dX2_tell_77 : decode prog_4_method_8_code 77 = .ok (.if_icmp .eq 14, 3) := by decide +kernel
theorem dX2_tell_80 : decode prog_4_method_8_code 80 = .ok (.aload_n 0, 1) := by decide +kernel
theorem dX2_tell_81 : decode prog_4_method_8_code 81 = .ok (.iload 4, 2) := by decide +kernel
theorem dX2_tell_83 : decode prog_4_method_8_code 83 = .ok (.iload 5, 2) := by decide +kernel
theorem dX2_tell_85 : decode prog_4_method_8_code 85 = .ok (.invokevirtual 63, 3) := by decide +kernel
theorem dX2_tell_88 : decode prog_4_method_8_code 88 = .ok (.ifCond .eq 15, 3) := by decide +kernel
theorem dX2_tell_91 : decode prog_4_method_8_code 91 = .ok (.iload_n 1, 1) := by decide +kernel
theorem dX2_tell_92 : decode prog_4_method_8_code 92 = .ok (.aload_n 0, 1) := by decide +kernel
theorem dX2_tell_93 : decode prog_4_method_8_code 93 = .ok (.iload_n 3, 1) := by decide +kernel
theorem dX2_tell_94 : decode prog_4_method_8_code 94 = .ok (.iload 4, 2) := by decide +kernel
theorem dX2_tell_96 : decode prog_4_method_8_code 96 = .ok (.invokevirtual 63, 3) := by decide +kernel
theorem dX2_tell_99 : decode prog_4_method_8_code 99 = .ok (.invokestatic 66, 3) := by decide +kernel
theorem dX2_tell_102 : decode prog_4_method_8_code 102 = .ok (.ireturn, 1) := by decide +kernel
theorem dX2_tell_103 : decode prog_4_method_8_code 103 = .ok (.iinc 2 1, 3) := by decide +kernel
theorem dX2_tell_106 : decode prog_4_method_8_code 106 = .ok (.goto (-104), 3) := by decide +kernel
theorem dX2_tell_109 : decode prog_4_method_8_code 109 = .ok (.iload_n 1, 1) := by decide +kernel
theorem dX2_tell_110 : decode prog_4_method_8_code 110 = .ok (.lookupswitch 43 #[(256, 26), (257, 34)], 26) := by decide +kernel
theorem dX2_tell_136 : decode prog_4_method_8_code 136 = .ok (.aload_n 0, 1) := by decide +kernel
theorem dX2_tell_137 : decode prog_4_method_8_code 137 = .ok (.iconst 5, 1) := by decide +kernel
theorem dX2_tell_138 : decode prog_4_method_8_code 138 = .ok (.invokevirtual 69, 3) := by decide +kernel
theorem dX2_tell_141 : decode prog_4_method_8_code 141 = .ok (.iconst 3, 1) := by decide +kernel
theorem dX2_tell_142 : decode prog_4_method_8_code 142 = .ok (.idiv, 1) := by decide +kernel
theorem dX2_tell_143 : decode prog_4_method_8_code 143 = .ok (.ireturn, 1) := by decide +kernel
theorem dX2_tell_144 : decode prog_4_method_8_code 144 = .ok (.aload_n 0, 1) := by decide +kernel
theorem dX2_tell_145 : decode prog_4_method_8_code 145 = .ok (.iconst 2, 1) := by decide +kernel
theorem dX2_tell_146 : decode prog_4_method_8_code 146 = .ok (.invokevirtual 69, 3) := by decide +kernel
theorem dX2_tell_149 : decode prog_4_method_8_code 149 = .ok (.bipush 100, 2) := by decide +kernel
theorem dX2_tell_151 : decode prog_4_method_8_code 151 = .ok (.imul, 1) := by decide +kernel
theorem dX2_tell_152 : decode prog_4_method_8_code 152 = .ok (.ireturn, 1) := by decide +kernel
theorem dX2_tell_153 : decode prog_4_method_8_code 153 = .ok (.iconst 2, 1) := by decide +kernel
theorem dX2_tell_154 : decode prog_4_method_8_code 154 = .ok (.ireturn, 1) := by decide +kernel
theorem dX2_held_0 : decode prog_4_method_9_code 0 = .ok (.iconst 0, 1) := by decide +kernel
theorem dX2_held_1 : decode prog_4_method_9_code 1 = .ok (.iload_n 0, 1) := by decide +kernel
theorem dX2_held_2 : decode prog_4_method_9_code 2 = .ok (.sipush 257, 3) := by decide +kernel
theorem dX2_held_5 : decode prog_4_method_9_code 5 = .ok (.if_icmp .ne 9, 3) := by decide +kernel
theorem dX2_held_8 : decode prog_4_method_9_code 8 = .ok (.sipush 1000, 3) := by decide +kernel
theorem dX2_held_11 : decode prog_4_method_9_code 11 = .ok (.goto 5, 3) := by decide +kernel
theorem dX2_held_14 : decode prog_4_method_9_code 14 = .ok (.bipush 99, 2) := by decide +kernel
theorem dX2_held_16 : decode prog_4_method_9_code 16 = .ok (.iload_n 1, 1) := by decide +kernel
theorem dX2_held_17 : decode prog_4_method_9_code 17 = .ok (.invokestatic 72, 3) := by decide +kernel
theorem dX2_held_20 : decode prog_4_method_9_code 20 = .ok (.invokestatic 77, 3) := by decide +kernel
theorem dX2_held_23 : decode prog_4_method_9_code 23 = .ok (.ireturn, 1) := by decide +kernel
theorem dX2_run_0 : decode prog_4_method_10_code 0 = .ok (.iconst 0, 1) := by decide +kernel
theorem dX2_run_1 : decode prog_4_method_10_code 1 = .ok (.istore_n 3, 1) := by decide +kernel
theorem dX2_run_2 : decode prog_4_method_10_code 2 = .ok (.iload_n 1, 1) := by decide +kernel
theorem dX2_run_3 : decode prog_4_method_10_code 3 = .ok (.istore 4, 2) := by decide +kernel
theorem dX2_run_5 : decode prog_4_method_10_code 5 = .ok (.iload 4, 2) := by decide +kernel
theorem dX2_run_7 : decode prog_4_method_10_code 7 = .ok (.iload_n 2, 1) := by decide +kernel
theorem dX2_run_8 : decode prog_4_method_10_code 8 = .ok (.if_icmp .ge 191, 3) := by decide +kernel
theorem dX2_run_11 : decode prog_4_method_10_code 11 = .ok (.aload_n 0, 1) := by decide +kernel
theorem dX2_run_12 : decode prog_4_method_10_code 12 = .ok (.getfield 18, 3) := by decide +kernel
theorem dX2_run_15 : decode prog_4_method_10_code 15 = .ok (.getfield 80, 3) := by decide +kernel
theorem dX2_run_18 : decode prog_4_method_10_code 18 = .ok (.iload 4, 2) := by decide +kernel
theorem dX2_run_20 : decode prog_4_method_10_code 20 = .ok (.iconst 0, 1) := by decide +kernel
theorem dX2_run_21 : decode prog_4_method_10_code 21 = .ok (.invokevirtual 46, 3) := by decide +kernel
theorem dX2_run_24 : decode prog_4_method_10_code 24 = .ok (.istore 5, 2) := by decide +kernel
theorem dX2_run_26 : decode prog_4_method_10_code 26 = .ok (.aload_n 0, 1) := by decide +kernel
theorem dX2_run_27 : decode prog_4_method_10_code 27 = .ok (.getfield 18, 3) := by decide +kernel
theorem dX2_run_30 : decode prog_4_method_10_code 30 = .ok (.getfield 80, 3) := by decide +kernel
theorem dX2_run_33 : decode prog_4_method_10_code 33 = .ok (.iload 4, 2) := by decide +kernel
theorem dX2_run_35 : decode prog_4_method_10_code 35 = .ok (.iconst 1, 1) := by decide +kernel
theorem dX2_run_36 : decode prog_4_method_10_code 36 = .ok (.invokevirtual 46, 3) := by decide +kernel
theorem dX2_run_39 : decode prog_4_method_10_code 39 = .ok (.istore 6, 2) := by decide +kernel
theorem dX2_run_41 : decode prog_4_method_10_code 41 = .ok (.iload 5, 2) := by decide +kernel
theorem dX2_run_43 : decode prog_4_method_10_code 43 = .ok (.ifCond .eq 9, 3) := by decide +kernel
theorem dX2_run_46 : decode prog_4_method_10_code 46 = .ok (.iload 5, 2) := by decide +kernel
theorem dX2_run_48 : decode prog_4_method_10_code 48 = .ok (.iconst 1, 1) := by decide +kernel
theorem dX2_run_49 : decode prog_4_method_10_code 49 = .ok (.if_icmp .ne 46, 3) := by decide +kernel
theorem dX2_run_52 : decode prog_4_method_10_code 52 = .ok (.iload_n 3, 1) := by decide +kernel
theorem dX2_run_53 : decode prog_4_method_10_code 53 = .ok (.ifCond .lt 12, 3) := by decide +kernel
theorem dX2_run_56 : decode prog_4_method_10_code 56 = .ok (.iload_n 3, 1) := by decide +kernel
theorem dX2_run_57 : decode prog_4_method_10_code 57 = .ok (.aload_n 0, 1) := by decide +kernel
theorem dX2_run_58 : decode prog_4_method_10_code 58 = .ok (.getfield 15, 3) := by decide +kernel
theorem dX2_run_61 : decode prog_4_method_10_code 61 = .ok (.arraylength, 1) := by decide +kernel
theorem dX2_run_62 : decode prog_4_method_10_code 62 = .ok (.if_icmp .lt 5, 3) := by decide +kernel
theorem dX2_run_65 : decode prog_4_method_10_code 65 = .ok (.iconst 0, 1) := by decide +kernel
theorem dX2_run_66 : decode prog_4_method_10_code 66 = .ok (.ireturn, 1) := by decide +kernel
theorem dX2_run_67 : decode prog_4_method_10_code 67 = .ok (.aload_n 0, 1) := by decide +kernel
theorem dX2_run_68 : decode prog_4_method_10_code 68 = .ok (.getfield 15, 3) := by decide +kernel
theorem dX2_run_71 : decode prog_4_method_10_code 71 = .ok (.iload_n 3, 1) := by decide +kernel
theorem dX2_run_72 : decode prog_4_method_10_code 72 = .ok (.iload 5, 2) := by decide +kernel
theorem dX2_run_74 : decode prog_4_method_10_code 74 = .ok (.ifCond .ne 8, 3) := by decide +kernel
theorem dX2_run_77 : decode prog_4_method_10_code 77 = .ok (.iload 6, 2) := by decide +kernel
theorem dX2_run_79 : decode prog_4_method_10_code 79 = .ok (.goto 9, 3) := by decide +kernel
theorem dX2_run_82 : decode prog_4_method_10_code 82 = .ok (.aload_n 0, 1) := by decide +kernel
theorem dX2_run_83 : decode prog_4_method_10_code 83 = .ok (.iload 6, 2) := by decide +kernel
theorem dX2_run_85 : decode prog_4_method_10_code 85 = .ok (.invokevirtual 69, 3) := by decide +kernel
theorem dX2_run_88 : decode prog_4_method_10_code 88 = .ok (.iastore, 1) := by decide +kernel
theorem dX2_run_89 : decode prog_4_method_10_code 89 = .ok (.iinc 3 1, 3) := by decide +kernel
theorem dX2_run_92 : decode prog_4_method_10_code 92 = .ok (.goto 101, 3) := by decide +kernel
theorem dX2_run_95 : decode prog_4_method_10_code 95 = .ok (.iload 5, 2) := by decide +kernel
theorem dX2_run_97 : decode prog_4_method_10_code 97 = .ok (.bipush 9, 2) := by decide +kernel
theorem dX2_run_99 : decode prog_4_method_10_code 99 = .ok (.if_icmp .ne 46, 3) := by decide +kernel
theorem dX2_run_102 : decode prog_4_method_10_code 102 = .ok (.iload_n 3, 1) := by decide +kernel
theorem dX2_run_103 : decode prog_4_method_10_code 103 = .ok (.iconst 1, 1) := by decide +kernel
theorem dX2_run_104 : decode prog_4_method_10_code 104 = .ok (.if_icmp .lt 12, 3) := by decide +kernel
theorem dX2_run_107 : decode prog_4_method_10_code 107 = .ok (.iload_n 3, 1) := by decide +kernel
theorem dX2_run_108 : decode prog_4_method_10_code 108 = .ok (.aload_n 0, 1) := by decide +kernel
theorem dX2_run_109 : decode prog_4_method_10_code 109 = .ok (.getfield 15, 3) := by decide +kernel
theorem dX2_run_112 : decode prog_4_method_10_code 112 = .ok (.arraylength, 1) := by decide +kernel
theorem dX2_run_113 : decode prog_4_method_10_code 113 = .ok (.if_icmp .le 5, 3) := by decide +kernel
theorem dX2_run_116 : decode prog_4_method_10_code 116 = .ok (.iconst 0, 1) := by decide +kernel
theorem dX2_run_117 : decode prog_4_method_10_code 117 = .ok (.ireturn, 1) := by decide +kernel
theorem dX2_run_118 : decode prog_4_method_10_code 118 = .ok (.aload_n 0, 1) := by decide +kernel
theorem dX2_run_119 : decode prog_4_method_10_code 119 = .ok (.getfield 15, 3) := by decide +kernel
theorem dX2_run_122 : decode prog_4_method_10_code 122 = .ok (.iload_n 3, 1) := by decide +kernel
theorem dX2_run_123 : decode prog_4_method_10_code 123 = .ok (.iconst 1, 1) := by decide +kernel
theorem dX2_run_124 : decode prog_4_method_10_code 124 = .ok (.isub, 1) := by decide +kernel
theorem dX2_run_125 : decode prog_4_method_10_code 125 = .ok (.aload_n 0, 1) := by decide +kernel
theorem dX2_run_126 : decode prog_4_method_10_code 126 = .ok (.getfield 15, 3) := by decide +kernel
theorem dX2_run_129 : decode prog_4_method_10_code 129 = .ok (.iload_n 3, 1) := by decide +kernel
theorem dX2_run_130 : decode prog_4_method_10_code 130 = .ok (.iconst 1, 1) := by decide +kernel
theorem dX2_run_131 : decode prog_4_method_10_code 131 = .ok (.isub, 1) := by decide +kernel
theorem dX2_run_132 : decode prog_4_method_10_code 132 = .ok (.iaload, 1) := by decide +kernel
theorem dX2_run_133 : decode prog_4_method_10_code 133 = .ok (.ifCond .ne 7, 3) := by decide +kernel
theorem dX2_run_136 : decode prog_4_method_10_code 136 = .ok (.iconst 1, 1) := by decide +kernel
theorem dX2_run_137 : decode prog_4_method_10_code 137 = .ok (.goto 4, 3) := by decide +kernel
theorem dX2_run_140 : decode prog_4_method_10_code 140 = .ok (.iconst 0, 1) := by decide +kernel
theorem dX2_run_141 : decode prog_4_method_10_code 141 = .ok (.iastore, 1) := by decide +kernel
theorem dX2_run_142 : decode prog_4_method_10_code 142 = .ok (.goto 51, 3) := by decide +kernel
theorem dX2_run_145 : decode prog_4_method_10_code 145 = .ok (.iload_n 3, 1) := by decide +kernel
theorem dX2_run_146 : decode prog_4_method_10_code 146 = .ok (.iconst 2, 1) := by decide +kernel
theorem dX2_run_147 : decode prog_4_method_10_code 147 = .ok (.if_icmp .lt 12, 3) := by decide +kernel
theorem dX2_run_150 : decode prog_4_method_10_code 150 = .ok (.iload_n 3, 1) := by decide +kernel
theorem dX2_run_151 : decode prog_4_method_10_code 151 = .ok (.aload_n 0, 1) := by decide +kernel
theorem dX2_run_152 : decode prog_4_method_10_code 152 = .ok (.getfield 15, 3) := by decide +kernel
theorem dX2_run_155 : decode prog_4_method_10_code 155 = .ok (.arraylength, 1) := by decide +kernel
theorem dX2_run_156 : decode prog_4_method_10_code 156 = .ok (.if_icmp .le 5, 3) := by decide +kernel
theorem dX2_run_159 : decode prog_4_method_10_code 159 = .ok (.iconst 0, 1) := by decide +kernel
theorem dX2_run_160 : decode prog_4_method_10_code 160 = .ok (.ireturn, 1) := by decide +kernel
theorem dX2_run_161 : decode prog_4_method_10_code 161 = .ok (.aload_n 0, 1) := by decide +kernel
theorem dX2_run_162 : decode prog_4_method_10_code 162 = .ok (.getfield 15, 3) := by decide +kernel
theorem dX2_run_165 : decode prog_4_method_10_code 165 = .ok (.iload_n 3, 1) := by decide +kernel
theorem dX2_run_166 : decode prog_4_method_10_code 166 = .ok (.iconst 2, 1) := by decide +kernel
theorem dX2_run_167 : decode prog_4_method_10_code 167 = .ok (.isub, 1) := by decide +kernel
theorem dX2_run_168 : decode prog_4_method_10_code 168 = .ok (.iload 5, 2) := by decide +kernel
theorem dX2_run_170 : decode prog_4_method_10_code 170 = .ok (.aload_n 0, 1) := by decide +kernel
theorem dX2_run_171 : decode prog_4_method_10_code 171 = .ok (.getfield 15, 3) := by decide +kernel
theorem dX2_run_174 : decode prog_4_method_10_code 174 = .ok (.iload_n 3, 1) := by decide +kernel
theorem dX2_run_175 : decode prog_4_method_10_code 175 = .ok (.iconst 2, 1) := by decide +kernel
theorem dX2_run_176 : decode prog_4_method_10_code 176 = .ok (.isub, 1) := by decide +kernel
theorem dX2_run_177 : decode prog_4_method_10_code 177 = .ok (.iaload, 1) := by decide +kernel
theorem dX2_run_178 : decode prog_4_method_10_code 178 = .ok (.aload_n 0, 1) := by decide +kernel
theorem dX2_run_179 : decode prog_4_method_10_code 179 = .ok (.getfield 15, 3) := by decide +kernel
theorem dX2_run_182 : decode prog_4_method_10_code 182 = .ok (.iload_n 3, 1) := by decide +kernel
theorem dX2_run_183 : decode prog_4_method_10_code 183 = .ok (.iconst 1, 1) := by decide +kernel
theorem dX2_run_184 : decode prog_4_method_10_code 184 = .ok (.isub, 1) := by decide +kernel
theorem dX2_run_185 : decode prog_4_method_10_code 185 = .ok (.iaload, 1) := by decide +kernel
theorem dX2_run_186 : decode prog_4_method_10_code 186 = .ok (.invokestatic 83, 3) := by decide +kernel
theorem dX2_run_189 : decode prog_4_method_10_code 189 = .ok (.iastore, 1) := by decide +kernel
theorem dX2_run_190 : decode prog_4_method_10_code 190 = .ok (.iinc 3 (-1), 3) := by decide +kernel
theorem dX2_run_193 : decode prog_4_method_10_code 193 = .ok (.iinc 4 1, 3) := by decide +kernel
theorem dX2_run_196 : decode prog_4_method_10_code 196 = .ok (.goto (-191), 3) := by decide +kernel
theorem dX2_run_199 : decode prog_4_method_10_code 199 = .ok (.iload_n 3, 1) := by decide +kernel
theorem dX2_run_200 : decode prog_4_method_10_code 200 = .ok (.ifCond .le 23, 3) := by decide +kernel
theorem dX2_run_203 : decode prog_4_method_10_code 203 = .ok (.iload_n 3, 1) := by decide +kernel
theorem dX2_run_204 : decode prog_4_method_10_code 204 = .ok (.aload_n 0, 1) := by decide +kernel
theorem dX2_run_205 : decode prog_4_method_10_code 205 = .ok (.getfield 15, 3) := by decide +kernel
theorem dX2_run_208 : decode prog_4_method_10_code 208 = .ok (.arraylength, 1) := by decide +kernel
theorem dX2_run_209 : decode prog_4_method_10_code 209 = .ok (.if_icmp .gt 14, 3) := by decide +kernel
theorem dX2_run_212 : decode prog_4_method_10_code 212 = .ok (.aload_n 0, 1) := by decide +kernel
theorem dX2_run_213 : decode prog_4_method_10_code 213 = .ok (.getfield 15, 3) := by decide +kernel
theorem dX2_run_216 : decode prog_4_method_10_code 216 = .ok (.iload_n 3, 1) := by decide +kernel
theorem dX2_run_217 : decode prog_4_method_10_code 217 = .ok (.iconst 1, 1) := by decide +kernel
theorem dX2_run_218 : decode prog_4_method_10_code 218 = .ok (.isub, 1) := by decide +kernel
theorem dX2_run_219 : decode prog_4_method_10_code 219 = .ok (.iaload, 1) := by decide +kernel
theorem dX2_run_220 : decode prog_4_method_10_code 220 = .ok (.goto 4, 3) := by decide +kernel
theorem dX2_run_223 : decode prog_4_method_10_code 223 = .ok (.iconst 0, 1) := by decide +kernel
theorem dX2_run_224 : decode prog_4_method_10_code 224 = .ok (.ireturn, 1) := by decide +kernel
theorem dX2_joined_0 : decode prog_4_method_11_code 0 = .ok (.iload_n 0, 1) := by decide +kernel
theorem dX2_joined_1 : decode prog_4_method_11_code 1 = .ok (.tableswitch 120 2 11 #[55, 59, 71, 75, 79, 90, 101, 120, 112, 116], 55) := by decide +kernel
theorem dX2_joined_56 : decode prog_4_method_11_code 56 = .ok (.iload_n 1, 1) := by decide +kernel
theorem dX2_joined_57 : decode prog_4_method_11_code 57 = .ok (.iload_n 2, 1) := by decide +kernel
theorem dX2_joined_58 : decode prog_4_method_11_code 58 = .ok (.imul, 1) := by decide +kernel
theorem dX2_joined_59 : decode prog_4_method_11_code 59 = .ok (.ireturn, 1) := by decide +kernel
theorem dX2_joined_60 : decode prog_4_method_11_code 60 = .ok (.iload_n 2, 1) := by decide +kernel
theorem dX2_joined_61 : decode prog_4_method_11_code 61 = .ok (.ifCond .ne 7, 3) := by decide +kernel
theorem dX2_joined_64 : decode prog_4_method_11_code 64 = .ok (.iconst 0, 1) := by decide +kernel
theorem dX2_joined_65 : decode prog_4_method_11_code 65 = .ok (.goto 6, 3) := by decide +kernel
theorem dX2_joined_68 : decode prog_4_method_11_code 68 = .ok (.iload_n 1, 1) := by decide +kernel
theorem dX2_joined_69 : decode prog_4_method_11_code 69 = .ok (.iload_n 2, 1) := by decide +kernel
theorem dX2_joined_70 : decode prog_4_method_11_code 70 = .ok (.idiv, 1) := by decide +kernel
theorem dX2_joined_71 : decode prog_4_method_11_code 71 = .ok (.ireturn, 1) := by decide +kernel
theorem dX2_joined_72 : decode prog_4_method_11_code 72 = .ok (.iload_n 1, 1) := by decide +kernel
theorem dX2_joined_73 : decode prog_4_method_11_code 73 = .ok (.iload_n 2, 1) := by decide +kernel
theorem dX2_joined_74 : decode prog_4_method_11_code 74 = .ok (.iadd, 1) := by decide +kernel
theorem dX2_joined_75 : decode prog_4_method_11_code 75 = .ok (.ireturn, 1) := by decide +kernel
theorem dX2_joined_76 : decode prog_4_method_11_code 76 = .ok (.iload_n 1, 1) := by decide +kernel
theorem dX2_joined_77 : decode prog_4_method_11_code 77 = .ok (.iload_n 2, 1) := by decide +kernel
theorem dX2_joined_78 : decode prog_4_method_11_code 78 = .ok (.isub, 1) := by decide +kernel
theorem dX2_joined_79 : decode prog_4_method_11_code 79 = .ok (.ireturn, 1) := by decide +kernel
theorem dX2_joined_80 : decode prog_4_method_11_code 80 = .ok (.iload_n 1, 1) := by decide +kernel
theorem dX2_joined_81 : decode prog_4_method_11_code 81 = .ok (.iload_n 2, 1) := by decide +kernel
theorem dX2_joined_82 : decode prog_4_method_11_code 82 = .ok (.if_icmp .ge 7, 3) := by decide +kernel
theorem dX2_joined_85 : decode prog_4_method_11_code 85 = .ok (.iconst 1, 1) := by decide +kernel
theorem dX2_joined_86 : decode prog_4_method_11_code 86 = .ok (.goto 4, 3) := by decide +kernel
theorem dX2_joined_89 : decode prog_4_method_11_code 89 = .ok (.iconst 0, 1) := by decide +kernel
theorem dX2_joined_90 : decode prog_4_method_11_code 90 = .ok (.ireturn, 1) := by decide +kernel
theorem dX2_joined_91 : decode prog_4_method_11_code 91 = .ok (.iload_n 1, 1) := by decide +kernel
theorem dX2_joined_92 : decode prog_4_method_11_code 92 = .ok (.iload_n 2, 1) := by decide +kernel
theorem dX2_joined_93 : decode prog_4_method_11_code 93 = .ok (.if_icmp .ne 7, 3) := by decide +kernel
theorem dX2_joined_96 : decode prog_4_method_11_code 96 = .ok (.iconst 1, 1) := by decide +kernel
theorem dX2_joined_97 : decode prog_4_method_11_code 97 = .ok (.goto 4, 3) := by decide +kernel
theorem dX2_joined_100 : decode prog_4_method_11_code 100 = .ok (.iconst 0, 1) := by decide +kernel
theorem dX2_joined_101 : decode prog_4_method_11_code 101 = .ok (.ireturn, 1) := by decide +kernel
theorem dX2_joined_102 : decode prog_4_method_11_code 102 = .ok (.iload_n 1, 1) := by decide +kernel
theorem dX2_joined_103 : decode prog_4_method_11_code 103 = .ok (.iload_n 2, 1) := by decide +kernel
theorem dX2_joined_104 : decode prog_4_method_11_code 104 = .ok (.if_icmp .le 7, 3) := by decide +kernel
theorem dX2_joined_107 : decode prog_4_method_11_code 107 = .ok (.iconst 1, 1) := by decide +kernel
theorem dX2_joined_108 : decode prog_4_method_11_code 108 = .ok (.goto 4, 3) := by decide +kernel
theorem dX2_joined_111 : decode prog_4_method_11_code 111 = .ok (.iconst 0, 1) := by decide +kernel
theorem dX2_joined_112 : decode prog_4_method_11_code 112 = .ok (.ireturn, 1) := by decide +kernel
theorem dX2_joined_113 : decode prog_4_method_11_code 113 = .ok (.iload_n 1, 1) := by decide +kernel
theorem dX2_joined_114 : decode prog_4_method_11_code 114 = .ok (.iload_n 2, 1) := by decide +kernel
theorem dX2_joined_115 : decode prog_4_method_11_code 115 = .ok (.iand, 1) := by decide +kernel
theorem dX2_joined_116 : decode prog_4_method_11_code 116 = .ok (.ireturn, 1) := by decide +kernel
theorem dX2_joined_117 : decode prog_4_method_11_code 117 = .ok (.iload_n 1, 1) := by decide +kernel
theorem dX2_joined_118 : decode prog_4_method_11_code 118 = .ok (.iload_n 2, 1) := by decide +kernel
theorem dX2_joined_119 : decode prog_4_method_11_code 119 = .ok (.ior, 1) := by decide +kernel
theorem dX2_joined_120 : decode prog_4_method_11_code 120 = .ok (.ireturn, 1) := by decide +kernel
theorem dX2_joined_121 : decode prog_4_method_11_code 121 = .ok (.iconst 0, 1) := by decide +kernel
theorem dX2_joined_122 : decode prog_4_method_11_code 122 = .ok (.ireturn, 1) := by decide +kernel
theorem dX3_init_0 : decode prog_5_method_1_code 0 = .ok (.aload_n 0, 1) := by decide +kernel
theorem dX3_init_1 : decode prog_5_method_1_code 1 = .ok (.invokespecial 3, 3) := by decide +kernel
theorem dX3_init_4 : decode prog_5_method_1_code 4 = .ok (.aload_n 0, 1) := by decide +kernel
theorem dX3_init_5 : decode prog_5_method_1_code 5 = .ok (.new 9, 3) := by decide +kernel
theorem dX3_init_8 : decode prog_5_method_1_code 8 = .ok (.dup, 1) := by decide +kernel
theorem dX3_init_9 : decode prog_5_method_1_code 9 = .ok (.bipush 12, 2) := by decide +kernel
theorem dX3_init_11 : decode prog_5_method_1_code 11 = .ok (.bipush 8, 2) := by decide +kernel
theorem dX3_init_13 : decode prog_5_method_1_code 13 = .ok (.invokespecial 11, 3) := by decide +kernel
theorem dX3_init_16 : decode prog_5_method_1_code 16 = .ok (.putfield 14, 3) := by decide +kernel
theorem dX3_init_19 : decode prog_5_method_1_code 19 = .ok (.aload_n 0, 1) := by decide +kernel
theorem dX3_init_20 : decode prog_5_method_1_code 20 = .ok (.new 9, 3) := by decide +kernel
theorem dX3_init_23 : decode prog_5_method_1_code 23 = .ok (.dup, 1) := by decide +kernel
theorem dX3_init_24 : decode prog_5_method_1_code 24 = .ok (.bipush 8, 2) := by decide +kernel
theorem dX3_init_26 : decode prog_5_method_1_code 26 = .ok (.iconst 5, 1) := by decide +kernel
theorem dX3_init_27 : decode prog_5_method_1_code 27 = .ok (.invokespecial 11, 3) := by decide +kernel
theorem dX3_init_30 : decode prog_5_method_1_code 30 = .ok (.putfield 20, 3) := by decide +kernel
theorem dX3_init_33 : decode prog_5_method_1_code 33 = .ok (.aload_n 0, 1) := by decide +kernel
theorem dX3_init_34 : decode prog_5_method_1_code 34 = .ok (.new 9, 3) := by decide +kernel
theorem dX3_init_37 : decode prog_5_method_1_code 37 = .ok (.dup, 1) := by decide +kernel
theorem dX3_init_38 : decode prog_5_method_1_code 38 = .ok (.iconst 1, 1) := by decide +kernel
theorem dX3_init_39 : decode prog_5_method_1_code 39 = .ok (.bipush 7, 2) := by decide +kernel
theorem dX3_init_41 : decode prog_5_method_1_code 41 = .ok (.invokespecial 11, 3) := by decide +kernel
theorem dX3_init_44 : decode prog_5_method_1_code 44 = .ok (.putfield 23, 3) := by decide +kernel
theorem dX3_init_47 : decode prog_5_method_1_code 47 = .ok (.return_, 1) := by decide +kernel
theorem dX3_keep_0 : decode prog_5_method_2_code 0 = .ok (.aload_n 0, 1) := by decide +kernel
theorem dX3_keep_1 : decode prog_5_method_2_code 1 = .ok (.getfield 14, 3) := by decide +kernel
theorem dX3_keep_4 : decode prog_5_method_2_code 4 = .ok (.aload_n 1, 1) := by decide +kernel
theorem dX3_keep_5 : decode prog_5_method_2_code 5 = .ok (.getfield 26, 3) := by decide +kernel
theorem dX3_keep_8 : decode prog_5_method_2_code 8 = .ok (.invokevirtual 29, 3) := by decide +kernel
theorem dX3_keep_11 : decode prog_5_method_2_code 11 = .ok (.aload_n 0, 1) := by decide +kernel
theorem dX3_keep_12 : decode prog_5_method_2_code 12 = .ok (.getfield 20, 3) := by decide +kernel
theorem dX3_keep_15 : decode prog_5_method_2_code 15 = .ok (.aload_n 1, 1) := by decide +kernel
theorem dX3_keep_16 : decode prog_5_method_2_code 16 = .ok (.getfield 33, 3) := by decide +kernel
theorem dX3_keep_19 : decode prog_5_method_2_code 19 = .ok (.invokevirtual 29, 3) := by decide +kernel
theorem dX3_keep_22 : decode prog_5_method_2_code 22 = .ok (.aload_n 0, 1) := by decide +kernel
theorem dX3_keep_23 : decode prog_5_method_2_code 23 = .ok (.getfield 23, 3) := by decide +kernel
theorem dX3_keep_26 : decode prog_5_method_2_code 26 = .ok (.aload_n 1, 1) := by decide +kernel
theorem dX3_keep_27 : decode prog_5_method_2_code 27 = .ok (.getfield 34, 3) := by decide +kernel
theorem dX3_keep_30 : decode prog_5_method_2_code 30 = .ok (.invokevirtual 29, 3) := by decide +kernel
theorem dX3_keep_33 : decode prog_5_method_2_code 33 = .ok (.aload_n 0, 1) := by decide +kernel
theorem dX3_keep_34 : decode prog_5_method_2_code 34 = .ok (.aload_n 1, 1) := by decide +kernel
theorem dX3_keep_35 : decode prog_5_method_2_code 35 = .ok (.getfield 35, 3) := by decide +kernel
theorem dX3_keep_38 : decode prog_5_method_2_code 38 = .ok (.getfield 38, 3) := by decide +kernel
theorem dX3_keep_41 : decode prog_5_method_2_code 41 = .ok (.putfield 42, 3) := by decide +kernel
theorem dX3_keep_44 : decode prog_5_method_2_code 44 = .ok (.return_, 1) := by decide +kernel
theorem dX3_back_0 : decode prog_5_method_3_code 0 = .ok (.aload_n 1, 1) := by decide +kernel
theorem dX3_back_1 : decode prog_5_method_3_code 1 = .ok (.getfield 26, 3) := by decide +kernel
theorem dX3_back_4 : decode prog_5_method_3_code 4 = .ok (.aload_n 0, 1) := by decide +kernel
theorem dX3_back_5 : decode prog_5_method_3_code 5 = .ok (.getfield 14, 3) := by decide +kernel
theorem dX3_back_8 : decode prog_5_method_3_code 8 = .ok (.invokevirtual 29, 3) := by decide +kernel
theorem dX3_back_11 : decode prog_5_method_3_code 11 = .ok (.aload_n 1, 1) := by decide +kernel
theorem dX3_back_12 : decode prog_5_method_3_code 12 = .ok (.getfield 33, 3) := by decide +kernel
theorem dX3_back_15 : decode prog_5_method_3_code 15 = .ok (.aload_n 0, 1) := by decide +kernel
theorem dX3_back_16 : decode prog_5_method_3_code 16 = .ok (.getfield 20, 3) := by decide +kernel
theorem dX3_back_19 : decode prog_5_method_3_code 19 = .ok (.invokevirtual 29, 3) := by decide +kernel
theorem dX3_back_22 : decode prog_5_method_3_code 22 = .ok (.aload_n 1, 1) := by decide +kernel
theorem dX3_back_23 : decode prog_5_method_3_code 23 = .ok (.getfield 34, 3) := by decide +kernel
theorem dX3_back_26 : decode prog_5_method_3_code 26 = .ok (.aload_n 0, 1) := by decide +kernel
theorem dX3_back_27 : decode prog_5_method_3_code 27 = .ok (.getfield 23, 3) := by decide +kernel
theorem dX3_back_30 : decode prog_5_method_3_code 30 = .ok (.invokevirtual 29, 3) := by decide +kernel
theorem dX3_back_33 : decode prog_5_method_3_code 33 = .ok (.aload_n 1, 1) := by decide +kernel
theorem dX3_back_34 : decode prog_5_method_3_code 34 = .ok (.getfield 35, 3) := by decide +kernel
theorem dX3_back_37 : decode prog_5_method_3_code 37 = .ok (.aload_n 0, 1) := by decide +kernel
theorem dX3_back_38 : decode prog_5_method_3_code 38 = .ok (.getfield 42, 3) := by decide +kernel
theorem dX3_back_41 : decode prog_5_method_3_code 41 = .ok (.putfield 38, 3) := by decide +kernel
theorem dX3_back_44 : decode prog_5_method_3_code 44 = .ok (.return_, 1) := by decide +kernel
theorem dX4_init_0 : decode prog_6_method_1_code 0 = .ok (.aload_n 0, 1) := by decide +kernel
theorem dX4_init_1 : decode prog_6_method_1_code 1 = .ok (.invokespecial 3, 3) := by decide +kernel
theorem dX4_init_4 : decode prog_6_method_1_code 4 = .ok (.aload_n 0, 1) := by decide +kernel
theorem dX4_init_5 : decode prog_6_method_1_code 5 = .ok (.bipush 6, 2) := by decide +kernel
theorem dX4_init_7 : decode prog_6_method_1_code 7 = .ok (.anewarray 9, 3) := by decide +kernel
theorem dX4_init_10 : decode prog_6_method_1_code 10 = .ok (.putfield 11, 3) := by decide +kernel
theorem dX4_init_13 : decode prog_6_method_1_code 13 = .ok (.iconst 0, 1) := by decide +kernel
theorem dX4_init_14 : decode prog_6_method_1_code 14 = .ok (.istore_n 1, 1) := by decide +kernel
theorem dX4_init_15 : decode prog_6_method_1_code 15 = .ok (.iload_n 1, 1) := by decide +kernel
theorem dX4_init_16 : decode prog_6_method_1_code 16 = .ok (.aload_n 0, 1) := by decide +kernel
theorem dX4_init_17 : decode prog_6_method_1_code 17 = .ok (.getfield 11, 3) := by decide +kernel
theorem dX4_init_20 : decode prog_6_method_1_code 20 = .ok (.arraylength, 1) := by decide +kernel
theorem dX4_init_21 : decode prog_6_method_1_code 21 = .ok (.if_icmp .ge 22, 3) := by decide +kernel
theorem dX4_init_24 : decode prog_6_method_1_code 24 = .ok (.aload_n 0, 1) := by decide +kernel
theorem dX4_init_25 : decode prog_6_method_1_code 25 = .ok (.getfield 11, 3) := by decide +kernel
theorem dX4_init_28 : decode prog_6_method_1_code 28 = .ok (.iload_n 1, 1) := by decide +kernel
theorem dX4_init_29 : decode prog_6_method_1_code 29 = .ok (.new 9, 3) := by decide +kernel
theorem dX4_init_32 : decode prog_6_method_1_code 32 = .ok (.dup, 1) := by decide +kernel
theorem dX4_init_33 : decode prog_6_method_1_code 33 = .ok (.invokespecial 17, 3) := by decide +kernel
theorem dX4_init_36 : decode prog_6_method_1_code 36 = .ok (.aastore, 1) := by decide +kernel
theorem dX4_init_37 : decode prog_6_method_1_code 37 = .ok (.iinc 1 1, 3) := by decide +kernel
theorem dX4_init_40 : decode prog_6_method_1_code 40 = .ok (.goto (-25), 3) := by decide +kernel
theorem dX4_init_43 : decode prog_6_method_1_code 43 = .ok (.return_, 1) := by decide +kernel
theorem dX4_keep_0 : decode prog_6_method_2_code 0 = .ok (.aload_n 0, 1) := by decide +kernel
theorem dX4_keep_1 : decode prog_6_method_2_code 1 = .ok (.aload_n 0, 1) := by decide +kernel
theorem dX4_keep_2 : decode prog_6_method_2_code 2 = .ok (.getfield 18, 3) := by decide +kernel
theorem dX4_keep_5 : decode prog_6_method_2_code 5 = .ok (.invokevirtual 22, 3) := by decide +kernel
theorem dX4_keep_8 : decode prog_6_method_2_code 8 = .ok (.astore_n 2, 1) := by decide +kernel
theorem dX4_keep_9 : decode prog_6_method_2_code 9 = .ok (.aload_n 2, 1) := by decide +kernel
theorem dX4_keep_10 : decode prog_6_method_2_code 10 = .ok (.ifnull 8, 3) := by decide +kernel
theorem dX4_keep_13 : decode prog_6_method_2_code 13 = .ok (.aload_n 2, 1) := by decide +kernel
theorem dX4_keep_14 : decode prog_6_method_2_code 14 = .ok (.aload_n 1, 1) := by decide +kernel
theorem dX4_keep_15 : decode prog_6_method_2_code 15 = .ok (.invokevirtual 26, 3) := by decide +kernel
theorem dX4_keep_18 : decode prog_6_method_2_code 18 = .ok (.aload_n 0, 1) := by decide +kernel
theorem dX4_keep_19 : decode prog_6_method_2_code 19 = .ok (.aload_n 0, 1) := by decide +kernel
theorem dX4_keep_20 : decode prog_6_method_2_code 20 = .ok (.getfield 18, 3) := by decide +kernel
theorem dX4_keep_23 : decode prog_6_method_2_code 23 = .ok (.iconst 1, 1) := by decide +kernel
theorem dX4_keep_24 : decode prog_6_method_2_code 24 = .ok (.iadd, 1) := by decide +kernel
theorem dX4_keep_25 : decode prog_6_method_2_code 25 = .ok (.bipush 6, 2) := by decide +kernel
theorem dX4_keep_27 : decode prog_6_method_2_code 27 = .ok (.if_icmp .ge 12, 3) := by decide +kernel
theorem dX4_keep_30 : decode prog_6_method_2_code 30 = .ok (.aload_n 0, 1) := by decide +kernel
theorem dX4_keep_31 : decode prog_6_method_2_code 31 = .ok (.getfield 18, 3) := by decide +kernel
theorem dX4_keep_34 : decode prog_6_method_2_code 34 = .ok (.iconst 1, 1) := by decide +kernel
theorem dX4_keep_35 : decode prog_6_method_2_code 35 = .ok (.iadd, 1) := by decide +kernel
theorem dX4_keep_36 : decode prog_6_method_2_code 36 = .ok (.goto 4, 3) := by decide +kernel
theorem dX4_keep_39 : decode prog_6_method_2_code 39 = .ok (.iconst 0, 1) := by decide +kernel
theorem dX4_keep_40 : decode prog_6_method_2_code 40 = .ok (.putfield 18, 3) := by decide +kernel
theorem dX4_keep_43 : decode prog_6_method_2_code 43 = .ok (.aload_n 0, 1) := by decide +kernel
theorem dX4_keep_44 : decode prog_6_method_2_code 44 = .ok (.bipush 6, 2) := by decide +kernel
theorem dX4_keep_46 : decode prog_6_method_2_code 46 = .ok (.aload_n 0, 1) := by decide +kernel
theorem dX4_keep_47 : decode prog_6_method_2_code 47 = .ok (.getfield 30, 3) := by decide +kernel
theorem dX4_keep_50 : decode prog_6_method_2_code 50 = .ok (.iconst 1, 1) := by decide +kernel
theorem dX4_keep_51 : decode prog_6_method_2_code 51 = .ok (.iadd, 1) := by decide +kernel
theorem dX4_keep_52 : decode prog_6_method_2_code 52 = .ok (.invokestatic 33, 3) := by decide +kernel
theorem dX4_keep_55 : decode prog_6_method_2_code 55 = .ok (.putfield 30, 3) := by decide +kernel
theorem dX4_keep_58 : decode prog_6_method_2_code 58 = .ok (.return_, 1) := by decide +kernel
theorem dX4_back_0 : decode prog_6_method_3_code 0 = .ok (.aload_n 0, 1) := by decide +kernel
theorem dX4_back_1 : decode prog_6_method_3_code 1 = .ok (.getfield 30, 3) := by decide +kernel
theorem dX4_back_4 : decode prog_6_method_3_code 4 = .ok (.iconst 1, 1) := by decide +kernel
theorem dX4_back_5 : decode prog_6_method_3_code 5 = .ok (.if_icmp .ge 5, 3) := by decide +kernel
theorem dX4_back_8 : decode prog_6_method_3_code 8 = .ok (.iconst 0, 1) := by decide +kernel
theorem dX4_back_9 : decode prog_6_method_3_code 9 = .ok (.ireturn, 1) := by decide +kernel
theorem dX4_back_10 : decode prog_6_method_3_code 10 = .ok (.aload_n 0, 1) := by decide +kernel
theorem dX4_back_11 : decode prog_6_method_3_code 11 = .ok (.aload_n 0, 1) := by decide +kernel
theorem dX4_back_12 : decode prog_6_method_3_code 12 = .ok (.getfield 18, 3) := by decide +kernel
theorem dX4_back_15 : decode prog_6_method_3_code 15 = .ok (.ifCond .le 12, 3) := by decide +kernel
theorem dX4_back_18 : decode prog_6_method_3_code 18 = .ok (.aload_n 0, 1) := by decide +kernel
theorem dX4_back_19 : decode prog_6_method_3_code 19 = .ok (.getfield 18, 3) := by decide +kernel
theorem dX4_back_22 : decode prog_6_method_3_code 22 = .ok (.iconst 1, 1) := by decide +kernel
theorem dX4_back_23 : decode prog_6_method_3_code 23 = .ok (.isub, 1) := by decide +kernel
theorem dX4_back_24 : decode prog_6_method_3_code 24 = .ok (.goto 4, 3) := by decide +kernel
theorem dX4_back_27 : decode prog_6_method_3_code 27 = .ok (.iconst 5, 1) := by decide +kernel
theorem dX4_back_28 : decode prog_6_method_3_code 28 = .ok (.putfield 18, 3) := by decide +kernel
theorem dX4_back_31 : decode prog_6_method_3_code 31 = .ok (.aload_n 0, 1) := by decide +kernel
theorem dX4_back_32 : decode prog_6_method_3_code 32 = .ok (.dup, 1) := by decide +kernel
theorem dX4_back_33 : decode prog_6_method_3_code 33 = .ok (.getfield 30, 3) := by decide +kernel
theorem dX4_back_36 : decode prog_6_method_3_code 36 = .ok (.iconst 1, 1) := by decide +kernel
theorem dX4_back_37 : decode prog_6_method_3_code 37 = .ok (.isub, 1) := by decide +kernel
theorem dX4_back_38 : decode prog_6_method_3_code 38 = .ok (.putfield 30, 3) := by decide +kernel
theorem dX4_back_41 : decode prog_6_method_3_code 41 = .ok (.aload_n 0, 1) := by decide +kernel
theorem dX4_back_42 : decode prog_6_method_3_code 42 = .ok (.aload_n 0, 1) := by decide +kernel
theorem dX4_back_43 : decode prog_6_method_3_code 43 = .ok (.getfield 18, 3) := by decide +kernel
theorem dX4_back_46 : decode prog_6_method_3_code 46 = .ok (.invokevirtual 22, 3) := by decide +kernel
theorem dX4_back_49 : decode prog_6_method_3_code 49 = .ok (.astore_n 2, 1) := by decide +kernel
theorem dX4_back_50 : decode prog_6_method_3_code 50 = .ok (.aload_n 2, 1) := by decide +kernel
theorem dX4_back_51 : decode prog_6_method_3_code 51 = .ok (.ifnull 8, 3) := by decide +kernel
theorem dX4_back_54 : decode prog_6_method_3_code 54 = .ok (.aload_n 2, 1) := by decide +kernel
theorem dX4_back_55 : decode prog_6_method_3_code 55 = .ok (.aload_n 1, 1) := by decide +kernel
theorem dX4_back_56 : decode prog_6_method_3_code 56 = .ok (.invokevirtual 39, 3) := by decide +kernel
theorem dX4_back_59 : decode prog_6_method_3_code 59 = .ok (.iconst 1, 1) := by decide +kernel
theorem dX4_back_60 : decode prog_6_method_3_code 60 = .ok (.ireturn, 1) := by decide +kernel
theorem dX4_forget_0 : decode prog_6_method_4_code 0 = .ok (.aload_n 0, 1) := by decide +kernel
theorem dX4_forget_1 : decode prog_6_method_4_code 1 = .ok (.iconst 0, 1) := by decide +kernel
theorem dX4_forget_2 : decode prog_6_method_4_code 2 = .ok (.putfield 30, 3) := by decide +kernel
theorem dX4_forget_5 : decode prog_6_method_4_code 5 = .ok (.return_, 1) := by decide +kernel
theorem dX4_momentAt_0 : decode prog_6_method_5_code 0 = .ok (.iload_n 1, 1) := by decide +kernel
theorem dX4_momentAt_1 : decode prog_6_method_5_code 1 = .ok (.ifCond .lt 21, 3) := by decide +kernel
theorem dX4_momentAt_4 : decode prog_6_method_5_code 4 = .ok (.iload_n 1, 1) := by decide +kernel
theorem dX4_momentAt_5 : decode prog_6_method_5_code 5 = .ok (.aload_n 0, 1) := by decide +kernel
theorem dX4_momentAt_6 : decode prog_6_method_5_code 6 = .ok (.getfield 11, 3) := by decide +kernel
theorem dX4_momentAt_9 : decode prog_6_method_5_code 9 = .ok (.arraylength, 1) := by decide +kernel
theorem dX4_momentAt_10 : decode prog_6_method_5_code 10 = .ok (.if_icmp .ge 12, 3) := by decide +kernel
theorem dX4_momentAt_13 : decode prog_6_method_5_code 13 = .ok (.aload_n 0, 1) := by decide +kernel
theorem dX4_momentAt_14 : decode prog_6_method_5_code 14 = .ok (.getfield 11, 3) := by decide +kernel
theorem dX4_momentAt_17 : decode prog_6_method_5_code 17 = .ok (.iload_n 1, 1) := by decide +kernel
theorem dX4_momentAt_18 : decode prog_6_method_5_code 18 = .ok (.aaload, 1) := by decide +kernel
theorem dX4_momentAt_19 : decode prog_6_method_5_code 19 = .ok (.goto 4, 3) := by decide +kernel
theorem dX4_momentAt_22 : decode prog_6_method_5_code 22 = .ok (.aconst_null, 1) := by decide +kernel
theorem dX4_momentAt_23 : decode prog_6_method_5_code 23 = .ok (.areturn, 1) := by decide +kernel
theorem dX5_init_0 : decode prog_7_method_1_code 0 = .ok (.aload_n 0, 1) := by decide +kernel
theorem dX5_init_1 : decode prog_7_method_1_code 1 = .ok (.invokespecial 3, 3) := by decide +kernel
theorem dX5_init_4 : decode prog_7_method_1_code 4 = .ok (.aload_n 0, 1) := by decide +kernel
theorem dX5_init_5 : decode prog_7_method_1_code 5 = .ok (.aload_n 1, 1) := by decide +kernel
theorem dX5_init_6 : decode prog_7_method_1_code 6 = .ok (.putfield 9, 3) := by decide +kernel
theorem dX5_init_9 : decode prog_7_method_1_code 9 = .ok (.return_, 1) := by decide +kernel
theorem dX6_init_0 : decode prog_8_method_1_code 0 = .ok (.aload_n 0, 1) := by decide +kernel
theorem dX6_init_1 : decode prog_8_method_1_code 1 = .ok (.invokespecial 3, 3) := by decide +kernel
theorem dX6_init_4 : decode prog_8_method_1_code 4 = .ok (.aload_n 0, 1) := by decide +kernel
theorem dX6_init_5 : decode prog_8_method_1_code 5 = .ok (.new 9, 3) := by decide +kernel
theorem dX6_init_8 : decode prog_8_method_1_code 8 = .ok (.dup, 1) := by decide +kernel
theorem dX6_init_9 : decode prog_8_method_1_code 9 = .ok (.bipush 16, 2) := by decide +kernel
theorem dX6_init_11 : decode prog_8_method_1_code 11 = .ok (.iconst 4, 1) := by decide +kernel
theorem dX6_init_12 : decode prog_8_method_1_code 12 = .ok (.invokespecial 11, 3) := by decide +kernel
theorem dX6_init_15 : decode prog_8_method_1_code 15 = .ok (.putfield 14, 3) := by decide +kernel
theorem dX6_init_18 : decode prog_8_method_1_code 18 = .ok (.aload_n 0, 1) := by decide +kernel
theorem dX6_init_19 : decode prog_8_method_1_code 19 = .ok (.new 9, 3) := by decide +kernel
theorem dX6_init_22 : decode prog_8_method_1_code 22 = .ok (.dup, 1) := by decide +kernel
theorem dX6_init_23 : decode prog_8_method_1_code 23 = .ok (.sipush 400, 3) := by decide +kernel
theorem dX6_init_26 : decode prog_8_method_1_code 26 = .ok (.iconst 2, 1) := by decide +kernel
theorem dX6_init_27 : decode prog_8_method_1_code 27 = .ok (.invokespecial 11, 3) := by decide +kernel
theorem dX6_init_30 : decode prog_8_method_1_code 30 = .ok (.putfield 20, 3) := by decide +kernel
theorem dX6_init_33 : decode prog_8_method_1_code 33 = .ok (.aload_n 0, 1) := by decide +kernel
theorem dX6_init_34 : decode prog_8_method_1_code 34 = .ok (.new 9, 3) := by decide +kernel
theorem dX6_init_37 : decode prog_8_method_1_code 37 = .ok (.dup, 1) := by decide +kernel
theorem dX6_init_38 : decode prog_8_method_1_code 38 = .ok (.sipush 400, 3) := by decide +kernel
theorem dX6_init_41 : decode prog_8_method_1_code 41 = .ok (.iconst 1, 1) := by decide +kernel
theorem dX6_init_42 : decode prog_8_method_1_code 42 = .ok (.invokespecial 11, 3) := by decide +kernel
theorem dX6_init_45 : decode prog_8_method_1_code 45 = .ok (.putfield 23, 3) := by decide +kernel
theorem dX6_init_48 : decode prog_8_method_1_code 48 = .ok (.aload_n 0, 1) := by decide +kernel
theorem dX6_init_49 : decode prog_8_method_1_code 49 = .ok (.aload_n 1, 1) := by decide +kernel
theorem dX6_init_50 : decode prog_8_method_1_code 50 = .ok (.putfield 26, 3) := by decide +kernel
theorem dX6_init_53 : decode prog_8_method_1_code 53 = .ok (.aload_n 0, 1) := by decide +kernel
theorem dX6_init_54 : decode prog_8_method_1_code 54 = .ok (.iconst 0, 1) := by decide +kernel
theorem dX6_init_55 : decode prog_8_method_1_code 55 = .ok (.putfield 30, 3) := by decide +kernel
theorem dX6_init_58 : decode prog_8_method_1_code 58 = .ok (.aload_n 0, 1) := by decide +kernel
theorem dX6_init_59 : decode prog_8_method_1_code 59 = .ok (.iconst (-1), 1) := by decide +kernel
theorem dX6_init_60 : decode prog_8_method_1_code 60 = .ok (.putfield 34, 3) := by decide +kernel
theorem dX6_init_63 : decode prog_8_method_1_code 63 = .ok (.return_, 1) := by decide +kernel
theorem dX6_read_0 : decode prog_8_method_2_code 0 = .ok (.aload_n 0, 1) := by decide +kernel
theorem dX6_read_1 : decode prog_8_method_2_code 1 = .ok (.iconst 0, 1) := by decide +kernel
theorem dX6_read_2 : decode prog_8_method_2_code 2 = .ok (.putfield 30, 3) := by decide +kernel
theorem dX6_read_5 : decode prog_8_method_2_code 5 = .ok (.aload_n 0, 1) := by decide +kernel
theorem dX6_read_6 : decode prog_8_method_2_code 6 = .ok (.iconst (-1), 1) := by decide +kernel
theorem dX6_read_7 : decode prog_8_method_2_code 7 = .ok (.putfield 34, 3) := by decide +kernel
theorem dX6_read_10 : decode prog_8_method_2_code 10 = .ok (.aload_n 0, 1) := by decide +kernel
theorem dX6_read_11 : decode prog_8_method_2_code 11 = .ok (.getfield 14, 3) := by decide +kernel
theorem dX6_read_14 : decode prog_8_method_2_code 14 = .ok (.iconst 0, 1) := by decide +kernel
theorem dX6_read_15 : decode prog_8_method_2_code 15 = .ok (.putfield 37, 3) := by decide +kernel
theorem dX6_read_18 : decode prog_8_method_2_code 18 = .ok (.aload_n 0, 1) := by decide +kernel
theorem dX6_read_19 : decode prog_8_method_2_code 19 = .ok (.getfield 20, 3) := by decide +kernel
theorem dX6_read_22 : decode prog_8_method_2_code 22 = .ok (.iconst 0, 1) := by decide +kernel
theorem dX6_read_23 : decode prog_8_method_2_code 23 = .ok (.putfield 37, 3) := by decide +kernel
theorem dX6_read_26 : decode prog_8_method_2_code 26 = .ok (.aload_n 0, 1) := by decide +kernel
theorem dX6_read_27 : decode prog_8_method_2_code 27 = .ok (.iload_n 2, 1) := by decide +kernel
theorem dX6_read_28 : decode prog_8_method_2_code 28 = .ok (.putfield 39, 3) := by decide +kernel
theorem dX6_read_31 : decode prog_8_method_2_code 31 = .ok (.aload_n 0, 1) := by decide +kernel
theorem dX6_read_32 : decode prog_8_method_2_code 32 = .ok (.iload_n 3, 1) := by decide +kernel
theorem dX6_read_33 : decode prog_8_method_2_code 33 = .ok (.putfield 42, 3) := by decide +kernel
theorem dX6_read_36 : decode prog_8_method_2_code 36 = .ok (.iload_n 1, 1) := by decide +kernel
theorem dX6_read_37 : decode prog_8_method_2_code 37 = .ok (.iconst 0, 1) := by decide +kernel
theorem dX6_read_38 : decode prog_8_method_2_code 38 = .ok (.iconst 3, 1) := by decide +kernel
theorem dX6_read_39 : decode prog_8_method_2_code 39 = .ok (.invokestatic 45, 3) := by decide +kernel
theorem dX6_read_42 : decode prog_8_method_2_code 42 = .ok (.ifCond .ne 4, 3) := by decide +kernel
theorem dX6_read_45 : decode prog_8_method_2_code 45 = .ok (.return_, 1) := by decide +kernel
theorem dX6_read_46 : decode prog_8_method_2_code 46 = .ok (.aload_n 0, 1) := by decide +kernel
theorem dX6_read_47 : decode prog_8_method_2_code 47 = .ok (.getfield 26, 3) := by decide +kernel
theorem dX6_read_50 : decode prog_8_method_2_code 50 = .ok (.invokevirtual 49, 3) := by decide +kernel
theorem dX6_read_53 : decode prog_8_method_2_code 53 = .ok (.iconst 0, 1) := by decide +kernel
theorem dX6_read_54 : decode prog_8_method_2_code 54 = .ok (.istore 4, 2) := by decide +kernel
theorem dX6_read_56 : decode prog_8_method_2_code 56 = .ok (.iload 4, 2) := by decide +kernel
theorem dX6_read_58 : decode prog_8_method_2_code 58 = .ok (.sipush 400, 3) := by decide +kernel
theorem dX6_read_61 : decode prog_8_method_2_code 61 = .ok (.if_icmp .gt 31, 3) := by decide +kernel
theorem dX6_read_64 : decode prog_8_method_2_code 64 = .ok (.aload_n 0, 1) := by decide +kernel
theorem dX6_read_65 : decode prog_8_method_2_code 65 = .ok (.getfield 26, 3) := by decide +kernel
theorem dX6_read_68 : decode prog_8_method_2_code 68 = .ok (.getfield 54, 3) := by decide +kernel
theorem dX6_read_71 : decode prog_8_method_2_code 71 = .ok (.ifCond .eq 21, 3) := by decide +kernel
theorem dX6_read_74 : decode prog_8_method_2_code 74 = .ok (.aload_n 0, 1) := by decide +kernel
theorem dX6_read_75 : decode prog_8_method_2_code 75 = .ok (.getfield 30, 3) := by decide +kernel
theorem dX6_read_78 : decode prog_8_method_2_code 78 = .ok (.ifCond .ne 14, 3) := by decide +kernel
theorem dX6_read_81 : decode prog_8_method_2_code 81 = .ok (.aload_n 0, 1) := by decide +kernel
theorem dX6_read_82 : decode prog_8_method_2_code 82 = .ok (.iload_n 1, 1) := by decide +kernel
theorem dX6_read_83 : decode prog_8_method_2_code 83 = .ok (.invokevirtual 57, 3) := by decide +kernel
theorem dX6_read_86 : decode prog_8_method_2_code 86 = .ok (.iinc 4 1, 3) := by decide +kernel
theorem dX6_read_89 : decode prog_8_method_2_code 89 = .ok (.goto (-33), 3) := by decide +kernel
theorem dX6_read_92 : decode prog_8_method_2_code 92 = .ok (.return_, 1) := by decide +kernel
theorem dX6_readLine_0 : decode prog_8_method_3_code 0 = .ok (.aload_n 0, 1) := by decide +kernel
theorem dX6_readLine_1 : decode prog_8_method_3_code 1 = .ok (.getfield 26, 3) := by decide +kernel
theorem dX6_readLine_4 : decode prog_8_method_3_code 4 = .ok (.getfield 54, 3) := by decide +kernel
theorem dX6_readLine_7 : decode prog_8_method_3_code 7 = .ok (.istore_n 2, 1) := by decide +kernel
theorem dX6_readLine_8 : decode prog_8_method_3_code 8 = .ok (.iload_n 1, 1) := by decide +kernel
theorem dX6_readLine_9 : decode prog_8_method_3_code 9 = .ok (.iload_n 2, 1) := by decide +kernel
theorem dX6_readLine_10 : decode prog_8_method_3_code 10 = .ok (.invokestatic 61, 3) := by decide +kernel
theorem dX6_readLine_13 : decode prog_8_method_3_code 13 = .ok (.ifCond .ne 9, 3) := by decide +kernel
theorem dX6_readLine_16 : decode prog_8_method_3_code 16 = .ok (.aload_n 0, 1) := by decide +kernel
theorem dX6_readLine_17 : decode prog_8_method_3_code 17 = .ok (.iconst 1, 1) := by decide +kernel
theorem dX6_readLine_18 : decode prog_8_method_3_code 18 = .ok (.invokevirtual 65, 3) := by decide +kernel
theorem dX6_readLine_21 : decode prog_8_method_3_code 21 = .ok (.return_, 1) := by decide +kernel
theorem dX6_readLine_22 : decode prog_8_method_3_code 22 = .ok (.aload_n 0, 1) := by decide +kernel
theorem dX6_readLine_23 : decode prog_8_method_3_code 23 = .ok (.aload_n 0, 1) := by decide +kernel
theorem dX6_readLine_24 : decode prog_8_method_3_code 24 = .ok (.getfield 14, 3) := by decide +kernel
theorem dX6_readLine_27 : decode prog_8_method_3_code 27 = .ok (.getfield 37, 3) := by decide +kernel
theorem dX6_readLine_30 : decode prog_8_method_3_code 30 = .ok (.putfield 68, 3) := by decide +kernel
theorem dX6_readLine_33 : decode prog_8_method_3_code 33 = .ok (.aload_n 0, 1) := by decide +kernel
theorem dX6_readLine_34 : decode prog_8_method_3_code 34 = .ok (.getfield 14, 3) := by decide +kernel
theorem dX6_readLine_37 : decode prog_8_method_3_code 37 = .ok (.iload_n 2, 1) := by decide +kernel
theorem dX6_readLine_38 : decode prog_8_method_3_code 38 = .ok (.iconst 0, 1) := by decide +kernel
theorem dX6_readLine_39 : decode prog_8_method_3_code 39 = .ok (.iconst 0, 1) := by decide +kernel
theorem dX6_readLine_40 : decode prog_8_method_3_code 40 = .ok (.iconst 0, 1) := by decide +kernel
theorem dX6_readLine_41 : decode prog_8_method_3_code 41 = .ok (.invokevirtual 71, 3) := by decide +kernel
theorem dX6_readLine_44 : decode prog_8_method_3_code 44 = .ok (.ifCond .ne 9, 3) := by decide +kernel
theorem dX6_readLine_47 : decode prog_8_method_3_code 47 = .ok (.aload_n 0, 1) := by decide +kernel
theorem dX6_readLine_48 : decode prog_8_method_3_code 48 = .ok (.iconst 3, 1) := by decide +kernel
theorem dX6_readLine_49 : decode prog_8_method_3_code 49 = .ok (.invokevirtual 65, 3) := by decide +kernel
theorem dX6_readLine_52 : decode prog_8_method_3_code 52 = .ok (.return_, 1) := by decide +kernel
theorem dX6_readLine_53 : decode prog_8_method_3_code 53 = .ok (.aload_n 0, 1) := by decide +kernel
theorem dX6_readLine_54 : decode prog_8_method_3_code 54 = .ok (.getfield 26, 3) := by decide +kernel
theorem dX6_readLine_57 : decode prog_8_method_3_code 57 = .ok (.invokevirtual 75, 3) := by decide +kernel
theorem dX6_readLine_60 : decode prog_8_method_3_code 60 = .ok (.iload_n 1, 1) := by decide +kernel
theorem dX6_readLine_61 : decode prog_8_method_3_code 61 = .ok (.tableswitch 79 0 2 #[27, 34, 42], 27) := by decide +kernel
theorem dX6_readLine_88 : decode prog_8_method_3_code 88 = .ok (.aload_n 0, 1) := by decide +kernel
theorem dX6_readLine_89 : decode prog_8_method_3_code 89 = .ok (.invokevirtual 78, 3) := by decide +kernel
theorem dX6_readLine_92 : decode prog_8_method_3_code 92 = .ok (.goto 85, 3) := by decide +kernel
theorem dX6_readLine_95 : decode prog_8_method_3_code 95 = .ok (.aload_n 0, 1) := by decide +kernel
theorem dX6_readLine_96 : decode prog_8_method_3_code 96 = .ok (.iload_n 2, 1) := by decide +kernel
theorem dX6_readLine_97 : decode prog_8_method_3_code 97 = .ok (.invokevirtual 81, 3) := by decide +kernel
theorem dX6_readLine_100 : decode prog_8_method_3_code 100 = .ok (.goto 77, 3) := by decide +kernel
theorem dX6_readLine_103 : decode prog_8_method_3_code 103 = .ok (.aload_n 0, 1) := by decide +kernel
theorem dX6_readLine_104 : decode prog_8_method_3_code 104 = .ok (.iconst 1, 1) := by decide +kernel
theorem dX6_readLine_105 : decode prog_8_method_3_code 105 = .ok (.iconst 0, 1) := by decide +kernel
theorem dX6_readLine_106 : decode prog_8_method_3_code 106 = .ok (.sipush 9999, 3) := by decide +kernel
theorem dX6_readLine_109 : decode prog_8_method_3_code 109 = .ok (.invokevirtual 84, 3) := by decide +kernel
theorem dX6_readLine_112 : decode prog_8_method_3_code 112 = .ok (.aload_n 0, 1) := by decide +kernel
theorem dX6_readLine_113 : decode prog_8_method_3_code 113 = .ok (.sipush 278, 3) := by decide +kernel
theorem dX6_readLine_116 : decode prog_8_method_3_code 116 = .ok (.invokevirtual 88, 3) := by decide +kernel
theorem dX6_readLine_119 : decode prog_8_method_3_code 119 = .ok (.aload_n 0, 1) := by decide +kernel
theorem dX6_readLine_120 : decode prog_8_method_3_code 120 = .ok (.iconst 2, 1) := by decide +kernel
theorem dX6_readLine_121 : decode prog_8_method_3_code 121 = .ok (.iconst 0, 1) := by decide +kernel
theorem dX6_readLine_122 : decode prog_8_method_3_code 122 = .ok (.aload_n 0, 1) := by decide +kernel
theorem dX6_readLine_123 : decode prog_8_method_3_code 123 = .ok (.getfield 42, 3) := by decide +kernel
theorem dX6_readLine_126 : decode prog_8_method_3_code 126 = .ok (.iconst 1, 1) := by decide +kernel
theorem dX6_readLine_127 : decode prog_8_method_3_code 127 = .ok (.isub, 1) := by decide +kernel
theorem dX6_readLine_128 : decode prog_8_method_3_code 128 = .ok (.invokevirtual 84, 3) := by decide +kernel
theorem dX6_readLine_131 : decode prog_8_method_3_code 131 = .ok (.aload_n 0, 1) := by decide +kernel
theorem dX6_readLine_132 : decode prog_8_method_3_code 132 = .ok (.bipush 59, 2) := by decide +kernel
theorem dX6_readLine_134 : decode prog_8_method_3_code 134 = .ok (.invokevirtual 88, 3) := by decide +kernel
theorem dX6_readLine_137 : decode prog_8_method_3_code 137 = .ok (.goto 40, 3) := by decide +kernel
theorem dX6_readLine_140 : decode prog_8_method_3_code 140 = .ok (.aload_n 0, 1) := by decide +kernel
theorem dX6_readLine_141 : decode prog_8_method_3_code 141 = .ok (.iconst 1, 1) := by decide +kernel
theorem dX6_readLine_142 : decode prog_8_method_3_code 142 = .ok (.iconst 0, 1) := by decide +kernel
theorem dX6_readLine_143 : decode prog_8_method_3_code 143 = .ok (.aload_n 0, 1) := by decide +kernel
theorem dX6_readLine_144 : decode prog_8_method_3_code 144 = .ok (.getfield 39, 3) := by decide +kernel
theorem dX6_readLine_147 : decode prog_8_method_3_code 147 = .ok (.iconst 1, 1) := by decide +kernel
theorem dX6_readLine_148 : decode prog_8_method_3_code 148 = .ok (.isub, 1) := by decide +kernel
theorem dX6_readLine_149 : decode prog_8_method_3_code 149 = .ok (.invokevirtual 84, 3) := by decide +kernel
theorem dX6_readLine_152 : decode prog_8_method_3_code 152 = .ok (.aload_n 0, 1) := by decide +kernel
theorem dX6_readLine_153 : decode prog_8_method_3_code 153 = .ok (.sipush 271, 3) := by decide +kernel
theorem dX6_readLine_156 : decode prog_8_method_3_code 156 = .ok (.invokevirtual 88, 3) := by decide +kernel
theorem dX6_readLine_159 : decode prog_8_method_3_code 159 = .ok (.aload_n 0, 1) := by decide +kernel
theorem dX6_readLine_160 : decode prog_8_method_3_code 160 = .ok (.iconst 2, 1) := by decide +kernel
theorem dX6_readLine_161 : decode prog_8_method_3_code 161 = .ok (.iconst 0, 1) := by decide +kernel
theorem dX6_readLine_162 : decode prog_8_method_3_code 162 = .ok (.aload_n 0, 1) := by decide +kernel
theorem dX6_readLine_163 : decode prog_8_method_3_code 163 = .ok (.getfield 39, 3) := by decide +kernel
theorem dX6_readLine_166 : decode prog_8_method_3_code 166 = .ok (.iconst 1, 1) := by decide +kernel
theorem dX6_readLine_167 : decode prog_8_method_3_code 167 = .ok (.isub, 1) := by decide +kernel
theorem dX6_readLine_168 : decode prog_8_method_3_code 168 = .ok (.invokevirtual 84, 3) := by decide +kernel
theorem dX6_readLine_171 : decode prog_8_method_3_code 171 = .ok (.aload_n 0, 1) := by decide +kernel
theorem dX6_readLine_172 : decode prog_8_method_3_code 172 = .ok (.bipush 59, 2) := by decide +kernel
theorem dX6_readLine_174 : decode prog_8_method_3_code 174 = .ok (.invokevirtual 88, 3) := by decide +kernel
theorem dX6_readLine_177 : decode prog_8_method_3_code 177 = .ok (.return_, 1) := by decide +kernel
theorem dX6_begins_0 : decode prog_8_method_4_code 0 = .ok (.iload_n 0, 1) := by decide +kernel
theorem dX6_begins_1 : decode prog_8_method_4_code 1 = .ok (.tableswitch 77 0 2 #[27, 38, 64], 27) := by decide +kernel
theorem dX6_begins_28 : decode prog_8_method_4_code 28 = .ok (.iload_n 1, 1) := by decide +kernel
theorem dX6_begins_29 : decode prog_8_method_4_code 29 = .ok (.sipush 256, 3) := by decide +kernel
theorem dX6_begins_32 : decode prog_8_method_4_code 32 = .ok (.sipush 258, 3) := by decide +kernel
theorem dX6_begins_35 : decode prog_8_method_4_code 35 = .ok (.invokestatic 45, 3) := by decide +kernel
theorem dX6_begins_38 : decode prog_8_method_4_code 38 = .ok (.ireturn, 1) := by decide +kernel
theorem dX6_begins_39 : decode prog_8_method_4_code 39 = .ok (.iload_n 1, 1) := by decide +kernel
theorem dX6_begins_40 : decode prog_8_method_4_code 40 = .ok (.sipush 264, 3) := by decide +kernel
theorem dX6_begins_43 : decode prog_8_method_4_code 43 = .ok (.if_icmp .eq 16, 3) := by decide +kernel
theorem dX6_begins_46 : decode prog_8_method_4_code 46 = .ok (.iload_n 1, 1) := by decide +kernel
theorem dX6_begins_47 : decode prog_8_method_4_code 47 = .ok (.sipush 274, 3) := by decide +kernel
theorem dX6_begins_50 : decode prog_8_method_4_code 50 = .ok (.sipush 276, 3) := by decide +kernel
theorem dX6_begins_53 : decode prog_8_method_4_code 53 = .ok (.invokestatic 45, 3) := by decide +kernel
theorem dX6_begins_56 : decode prog_8_method_4_code 56 = .ok (.ifCond .eq 7, 3) := by decide +kernel
theorem dX6_begins_59 : decode prog_8_method_4_code 59 = .ok (.iconst 1, 1) := by decide +kernel
theorem dX6_begins_60 : decode prog_8_method_4_code 60 = .ok (.goto 4, 3) := by decide +kernel
theorem dX6_begins_63 : decode prog_8_method_4_code 63 = .ok (.iconst 0, 1) := by decide +kernel
theorem dX6_begins_64 : decode prog_8_method_4_code 64 = .ok (.ireturn, 1) := by decide +kernel
theorem dX6_begins_65 : decode prog_8_method_4_code 65 = .ok (.iload_n 1, 1) := by decide +kernel
theorem dX6_begins_66 : decode prog_8_method_4_code 66 = .ok (.sipush 277, 3) := by decide +kernel
theorem dX6_begins_69 : decode prog_8_method_4_code 69 = .ok (.if_icmp .ne 7, 3) := by decide +kernel
theorem dX6_begins_72 : decode prog_8_method_4_code 72 = .ok (.iconst 1, 1) := by decide +kernel
theorem dX6_begins_73 : decode prog_8_method_4_code 73 = .ok (.goto 4, 3) := by decide +kernel
theorem dX6_begins_76 : decode prog_8_method_4_code 76 = .ok (.iconst 0, 1) := by decide +kernel
theorem dX6_begins_77 : decode prog_8_method_4_code 77 = .ok (.ireturn, 1) := by decide +kernel
theorem dX6_begins_78 : decode prog_8_method_4_code 78 = .ok (.iload_n 1, 1) := by decide +kernel
theorem dX6_begins_79 : decode prog_8_method_4_code 79 = .ok (.sipush 263, 3) := by decide +kernel
theorem dX6_begins_82 : decode prog_8_method_4_code 82 = .ok (.if_icmp .ne 7, 3) := by decide +kernel
theorem dX6_begins_85 : decode prog_8_method_4_code 85 = .ok (.iconst 1, 1) := by decide +kernel
theorem dX6_begins_86 : decode prog_8_method_4_code 86 = .ok (.goto 4, 3) := by decide +kernel
theorem dX6_begins_89 : decode prog_8_method_4_code 89 = .ok (.iconst 0, 1) := by decide +kernel
theorem dX6_begins_90 : decode prog_8_method_4_code 90 = .ok (.ireturn, 1) := by decide +kernel
theorem dX6_readStatute_0 : decode prog_8_method_5_code 0 = .ok (.iload_n 1, 1) := by decide +kernel
theorem dX6_readStatute_1 : decode prog_8_method_5_code 1 = .ok (.lookupswitch 88 #[(264, 35), (274, 62), (275, 73)], 35) := by decide +kernel
theorem dX6_readStatute_36 : decode prog_8_method_5_code 36 = .ok (.aload_n 0, 1) := by decide +kernel
theorem dX6_readStatute_37 : decode prog_8_method_5_code 37 = .ok (.iconst 1, 1) := by decide +kernel
theorem dX6_readStatute_38 : decode prog_8_method_5_code 38 = .ok (.iconst 1, 1) := by decide +kernel
theorem dX6_readStatute_39 : decode prog_8_method_5_code 39 = .ok (.bipush 99, 2) := by decide +kernel
theorem dX6_readStatute_41 : decode prog_8_method_5_code 41 = .ok (.invokevirtual 84, 3) := by decide +kernel
theorem dX6_readStatute_44 : decode prog_8_method_5_code 44 = .ok (.aload_n 0, 1) := by decide +kernel
theorem dX6_readStatute_45 : decode prog_8_method_5_code 45 = .ok (.sipush 273, 3) := by decide +kernel
theorem dX6_readStatute_48 : decode prog_8_method_5_code 48 = .ok (.invokevirtual 88, 3) := by decide +kernel
theorem dX6_readStatute_51 : decode prog_8_method_5_code 51 = .ok (.aload_n 0, 1) := by decide +kernel
theorem dX6_readStatute_52 : decode prog_8_method_5_code 52 = .ok (.iconst 2, 1) := by decide +kernel
theorem dX6_readStatute_53 : decode prog_8_method_5_code 53 = .ok (.iconst 0, 1) := by decide +kernel
theorem dX6_readStatute_54 : decode prog_8_method_5_code 54 = .ok (.sipush 9999, 3) := by decide +kernel
theorem dX6_readStatute_57 : decode prog_8_method_5_code 57 = .ok (.invokevirtual 84, 3) := by decide +kernel
theorem dX6_readStatute_60 : decode prog_8_method_5_code 60 = .ok (.goto 38, 3) := by decide +kernel
theorem dX6_readStatute_63 : decode prog_8_method_5_code 63 = .ok (.aload_n 0, 1) := by decide +kernel
theorem dX6_readStatute_64 : decode prog_8_method_5_code 64 = .ok (.iconst 1, 1) := by decide +kernel
theorem dX6_readStatute_65 : decode prog_8_method_5_code 65 = .ok (.iconst 0, 1) := by decide +kernel
theorem dX6_readStatute_66 : decode prog_8_method_5_code 66 = .ok (.bipush 20, 2) := by decide +kernel
theorem dX6_readStatute_68 : decode prog_8_method_5_code 68 = .ok (.invokevirtual 84, 3) := by decide +kernel
theorem dX6_readStatute_71 : decode prog_8_method_5_code 71 = .ok (.goto 27, 3) := by decide +kernel
theorem dX6_readStatute_74 : decode prog_8_method_5_code 74 = .ok (.aload_n 0, 1) := by decide +kernel
theorem dX6_readStatute_75 : decode prog_8_method_5_code 75 = .ok (.iconst 1, 1) := by decide +kernel
theorem dX6_readStatute_76 : decode prog_8_method_5_code 76 = .ok (.iconst 0, 1) := by decide +kernel
theorem dX6_readStatute_77 : decode prog_8_method_5_code 77 = .ok (.aload_n 0, 1) := by decide +kernel
theorem dX6_readStatute_78 : decode prog_8_method_5_code 78 = .ok (.getfield 39, 3) := by decide +kernel
theorem dX6_readStatute_81 : decode prog_8_method_5_code 81 = .ok (.iconst 1, 1) := by decide +kernel
theorem dX6_readStatute_82 : decode prog_8_method_5_code 82 = .ok (.isub, 1) := by decide +kernel
theorem dX6_readStatute_83 : decode prog_8_method_5_code 83 = .ok (.invokevirtual 84, 3) := by decide +kernel
theorem dX6_readStatute_86 : decode prog_8_method_5_code 86 = .ok (.goto 12, 3) := by decide +kernel
theorem dX6_readStatute_89 : decode prog_8_method_5_code 89 = .ok (.aload_n 0, 1) := by decide +kernel
theorem dX6_readStatute_90 : decode prog_8_method_5_code 90 = .ok (.iconst 1, 1) := by decide +kernel
theorem dX6_readStatute_91 : decode prog_8_method_5_code 91 = .ok (.iconst 1, 1) := by decide +kernel
theorem dX6_readStatute_92 : decode prog_8_method_5_code 92 = .ok (.sipush 9999, 3) := by decide +kernel
theorem dX6_readStatute_95 : decode prog_8_method_5_code 95 = .ok (.invokevirtual 84, 3) := by decide +kernel
theorem dX6_readStatute_98 : decode prog_8_method_5_code 98 = .ok (.aload_n 0, 1) := by decide +kernel
theorem dX6_readStatute_99 : decode prog_8_method_5_code 99 = .ok (.bipush 59, 2) := by decide +kernel
theorem dX6_readStatute_101 : decode prog_8_method_5_code 101 = .ok (.invokevirtual 88, 3) := by decide +kernel
theorem dX6_readStatute_104 : decode prog_8_method_5_code 104 = .ok (.return_, 1) := by decide +kernel
theorem dX6_readWord_0 : decode prog_8_method_6_code 0 = .ok (.aload_n 0, 1) := by decide +kernel
theorem dX6_readWord_1 : decode prog_8_method_6_code 1 = .ok (.getfield 30, 3) := by decide +kernel
theorem dX6_readWord_4 : decode prog_8_method_6_code 4 = .ok (.ifCond .eq 4, 3) := by decide +kernel
theorem dX6_readWord_7 : decode prog_8_method_6_code 7 = .ok (.return_, 1) := by decide +kernel
theorem dX6_readWord_8 : decode prog_8_method_6_code 8 = .ok (.aload_n 0, 1) := by decide +kernel
theorem dX6_readWord_9 : decode prog_8_method_6_code 9 = .ok (.getfield 26, 3) := by decide +kernel
theorem dX6_readWord_12 : decode prog_8_method_6_code 12 = .ok (.getfield 54, 3) := by decide +kernel
theorem dX6_readWord_15 : decode prog_8_method_6_code 15 = .ok (.iload_n 1, 1) := by decide +kernel
theorem dX6_readWord_16 : decode prog_8_method_6_code 16 = .ok (.if_icmp .eq 9, 3) := by decide +kernel
theorem dX6_readWord_19 : decode prog_8_method_6_code 19 = .ok (.aload_n 0, 1) := by decide +kernel
theorem dX6_readWord_20 : decode prog_8_method_6_code 20 = .ok (.iconst 1, 1) := by decide +kernel
theorem dX6_readWord_21 : decode prog_8_method_6_code 21 = .ok (.invokevirtual 65, 3) := by decide +kernel
theorem dX6_readWord_24 : decode prog_8_method_6_code 24 = .ok (.return_, 1) := by decide +kernel
theorem dX6_readWord_25 : decode prog_8_method_6_code 25 = .ok (.aload_n 0, 1) := by decide +kernel
theorem dX6_readWord_26 : decode prog_8_method_6_code 26 = .ok (.getfield 26, 3) := by decide +kernel
theorem dX6_readWord_29 : decode prog_8_method_6_code 29 = .ok (.invokevirtual 75, 3) := by decide +kernel
theorem dX6_readWord_32 : decode prog_8_method_6_code 32 = .ok (.return_, 1) := by decide +kernel
theorem dX6_readNumber_0 : decode prog_8_method_7_code 0 = .ok (.aload_n 0, 1) := by decide +kernel
theorem dX6_readNumber_1 : decode prog_8_method_7_code 1 = .ok (.getfield 30, 3) := by decide +kernel
theorem dX6_readNumber_4 : decode prog_8_method_7_code 4 = .ok (.ifCond .eq 4, 3) := by decide +kernel
theorem dX6_readNumber_7 : decode prog_8_method_7_code 7 = .ok (.return_, 1) := by decide +kernel
theorem dX6_readNumber_8 : decode prog_8_method_7_code 8 = .ok (.aload_n 0, 1) := by decide +kernel
theorem dX6_readNumber_9 : decode prog_8_method_7_code 9 = .ok (.getfield 26, 3) := by decide +kernel
theorem dX6_readNumber_12 : decode prog_8_method_7_code 12 = .ok (.getfield 54, 3) := by decide +kernel
theorem dX6_readNumber_15 : decode prog_8_method_7_code 15 = .ok (.iconst 1, 1) := by decide +kernel
theorem dX6_readNumber_16 : decode prog_8_method_7_code 16 = .ok (.if_icmp .eq 9, 3) := by decide +kernel
theorem dX6_readNumber_19 : decode prog_8_method_7_code 19 = .ok (.aload_n 0, 1) := by decide +kernel
theorem dX6_readNumber_20 : decode prog_8_method_7_code 20 = .ok (.iconst 1, 1) := by decide +kernel
theorem dX6_readNumber_21 : decode prog_8_method_7_code 21 = .ok (.invokevirtual 65, 3) := by decide +kernel
theorem dX6_readNumber_24 : decode prog_8_method_7_code 24 = .ok (.return_, 1) := by decide +kernel
theorem dX6_readNumber_25 : decode prog_8_method_7_code 25 = .ok (.iload_n 1, 1) := by decide +kernel
theorem dX6_readNumber_26 : decode prog_8_method_7_code 26 = .ok (.iconst 2, 1) := by decide +kernel
theorem dX6_readNumber_27 : decode prog_8_method_7_code 27 = .ok (.if_icmp .ne 47, 3) := by decide +kernel
theorem dX6_readNumber_30 : decode prog_8_method_7_code 30 = .ok (.aload_n 0, 1) := by decide +kernel
theorem dX6_readNumber_31 : decode prog_8_method_7_code 31 = .ok (.getfield 14, 3) := by decide +kernel
theorem dX6_readNumber_34 : decode prog_8_method_7_code 34 = .ok (.aload_n 0, 1) := by decide +kernel
theorem dX6_readNumber_35 : decode prog_8_method_7_code 35 = .ok (.getfield 68, 3) := by decide +kernel
theorem dX6_readNumber_38 : decode prog_8_method_7_code 38 = .ok (.iconst 0, 1) := by decide +kernel
theorem dX6_readNumber_39 : decode prog_8_method_7_code 39 = .ok (.invokevirtual 91, 3) := by decide +kernel
theorem dX6_readNumber_42 : decode prog_8_method_7_code 42 = .ok (.sipush 263, 3) := by decide +kernel
theorem dX6_readNumber_45 : decode prog_8_method_7_code 45 = .ok (.if_icmp .ne 29, 3) := by decide +kernel
theorem dX6_readNumber_48 : decode prog_8_method_7_code 48 = .ok (.aload_n 0, 1) := by decide +kernel
theorem dX6_readNumber_49 : decode prog_8_method_7_code 49 = .ok (.getfield 14, 3) := by decide +kernel
theorem dX6_readNumber_52 : decode prog_8_method_7_code 52 = .ok (.aload_n 0, 1) := by decide +kernel
theorem dX6_readNumber_53 : decode prog_8_method_7_code 53 = .ok (.getfield 68, 3) := by decide +kernel
theorem dX6_readNumber_56 : decode prog_8_method_7_code 56 = .ok (.iconst 1, 1) := by decide +kernel
theorem dX6_readNumber_57 : decode prog_8_method_7_code 57 = .ok (.invokevirtual 91, 3) := by decide +kernel
theorem dX6_readNumber_60 : decode prog_8_method_7_code 60 = .ok (.aload_n 0, 1) := by decide +kernel
theorem dX6_readNumber_61 : decode prog_8_method_7_code 61 = .ok (.getfield 26, 3) := by decide +kernel
theorem dX6_readNumber_64 : decode prog_8_method_7_code 64 = .ok (.getfield 95, 3) := by decide +kernel
theorem dX6_readNumber_67 : decode prog_8_method_7_code 67 = .ok (.if_icmp .ne 7, 3) := by decide +kernel
theorem dX6_readNumber_70 : decode prog_8_method_7_code 70 = .ok (.iconst 1, 1) := by decide +kernel
theorem dX6_readNumber_71 : decode prog_8_method_7_code 71 = .ok (.goto 4, 3) := by decide +kernel
theorem dX6_readNumber_74 : decode prog_8_method_7_code 74 = .ok (.iconst 0, 1) := by decide +kernel
theorem dX6_readNumber_75 : decode prog_8_method_7_code 75 = .ok (.istore 4, 2) := by decide +kernel
theorem dX6_readNumber_77 : decode prog_8_method_7_code 77 = .ok (.aload_n 0, 1) := by decide +kernel
theorem dX6_readNumber_78 : decode prog_8_method_7_code 78 = .ok (.getfield 26, 3) := by decide +kernel
theorem dX6_readNumber_81 : decode prog_8_method_7_code 81 = .ok (.getfield 95, 3) := by decide +kernel
theorem dX6_readNumber_84 : decode prog_8_method_7_code 84 = .ok (.iload_n 2, 1) := by decide +kernel
theorem dX6_readNumber_85 : decode prog_8_method_7_code 85 = .ok (.iload_n 3, 1) := by decide +kernel
theorem dX6_readNumber_86 : decode prog_8_method_7_code 86 = .ok (.invokestatic 45, 3) := by decide +kernel
theorem dX6_readNumber_89 : decode prog_8_method_7_code 89 = .ok (.ifCond .eq 8, 3) := by decide +kernel
theorem dX6_readNumber_92 : decode prog_8_method_7_code 92 = .ok (.iload 4, 2) := by decide +kernel
theorem dX6_readNumber_94 : decode prog_8_method_7_code 94 = .ok (.ifCond .eq 9, 3) := by decide +kernel
theorem dX6_readNumber_97 : decode prog_8_method_7_code 97 = .ok (.aload_n 0, 1) := by decide +kernel
theorem dX6_readNumber_98 : decode prog_8_method_7_code 98 = .ok (.iconst 2, 1) := by decide +kernel
theorem dX6_readNumber_99 : decode prog_8_method_7_code 99 = .ok (.invokevirtual 65, 3) := by decide +kernel
theorem dX6_readNumber_102 : decode prog_8_method_7_code 102 = .ok (.return_, 1) := by decide +kernel
theorem dX6_readNumber_103 : decode prog_8_method_7_code 103 = .ok (.aload_n 0, 1) := by decide +kernel
theorem dX6_readNumber_104 : decode prog_8_method_7_code 104 = .ok (.getfield 14, 3) := by decide +kernel
theorem dX6_readNumber_107 : decode prog_8_method_7_code 107 = .ok (.aload_n 0, 1) := by decide +kernel
theorem dX6_readNumber_108 : decode prog_8_method_7_code 108 = .ok (.getfield 68, 3) := by decide +kernel
theorem dX6_readNumber_111 : decode prog_8_method_7_code 111 = .ok (.iload_n 1, 1) := by decide +kernel
theorem dX6_readNumber_112 : decode prog_8_method_7_code 112 = .ok (.aload_n 0, 1) := by decide +kernel
theorem dX6_readNumber_113 : decode prog_8_method_7_code 113 = .ok (.getfield 26, 3) := by decide +kernel
theorem dX6_readNumber_116 : decode prog_8_method_7_code 116 = .ok (.getfield 95, 3) := by decide +kernel
theorem dX6_readNumber_119 : decode prog_8_method_7_code 119 = .ok (.invokevirtual 98, 3) := by decide +kernel
theorem dX6_readNumber_122 : decode prog_8_method_7_code 122 = .ok (.aload_n 0, 1) := by decide +kernel
theorem dX6_readNumber_123 : decode prog_8_method_7_code 123 = .ok (.getfield 26, 3) := by decide +kernel
theorem dX6_readNumber_126 : decode prog_8_method_7_code 126 = .ok (.invokevirtual 75, 3) := by decide +kernel
theorem dX6_readNumber_129 : decode prog_8_method_7_code 129 = .ok (.return_, 1) := by decide +kernel
theorem dX6_blame_0 : decode prog_8_method_8_code 0 = .ok (.aload_n 0, 1) := by decide +kernel
theorem dX6_blame_1 : decode prog_8_method_8_code 1 = .ok (.getfield 30, 3) := by decide +kernel
theorem dX6_blame_4 : decode prog_8_method_8_code 4 = .ok (.ifCond .ne 19, 3) := by decide +kernel
theorem dX6_blame_7 : decode prog_8_method_8_code 7 = .ok (.aload_n 0, 1) := by decide +kernel
theorem dX6_blame_8 : decode prog_8_method_8_code 8 = .ok (.iload_n 1, 1) := by decide +kernel
theorem dX6_blame_9 : decode prog_8_method_8_code 9 = .ok (.putfield 30, 3) := by decide +kernel
theorem dX6_blame_12 : decode prog_8_method_8_code 12 = .ok (.aload_n 0, 1) := by decide +kernel
theorem dX6_blame_13 : decode prog_8_method_8_code 13 = .ok (.aload_n 0, 1) := by decide +kernel
theorem dX6_blame_14 : decode prog_8_method_8_code 14 = .ok (.getfield 26, 3) := by decide +kernel
theorem dX6_blame_17 : decode prog_8_method_8_code 17 = .ok (.getfield 101, 3) := by decide +kernel
theorem dX6_blame_20 : decode prog_8_method_8_code 20 = .ok (.putfield 34, 3) := by decide +kernel
theorem dX6_blame_23 : decode prog_8_method_8_code 23 = .ok (.return_, 1) := by decide +kernel
theorem dX6_readLaw_0 : decode prog_8_method_9_code 0 = .ok (.aload_n 0, 1) := by decide +kernel
theorem dX6_readLaw_1 : decode prog_8_method_9_code 1 = .ok (.getfield 23, 3) := by decide +kernel
theorem dX6_readLaw_4 : decode prog_8_method_9_code 4 = .ok (.iconst 0, 1) := by decide +kernel
theorem dX6_readLaw_5 : decode prog_8_method_9_code 5 = .ok (.putfield 37, 3) := by decide +kernel
theorem dX6_readLaw_8 : decode prog_8_method_9_code 8 = .ok (.aload_n 0, 1) := by decide +kernel
theorem dX6_readLaw_9 : decode prog_8_method_9_code 9 = .ok (.iconst 0, 1) := by decide +kernel
theorem dX6_readLaw_10 : decode prog_8_method_9_code 10 = .ok (.putfield 104, 3) := by decide +kernel
theorem dX6_readLaw_13 : decode prog_8_method_9_code 13 = .ok (.aload_n 0, 1) := by decide +kernel
theorem dX6_readLaw_14 : decode prog_8_method_9_code 14 = .ok (.iconst 0, 1) := by decide +kernel
theorem dX6_readLaw_15 : decode prog_8_method_9_code 15 = .ok (.putfield 107, 3) := by decide +kernel
theorem dX6_readLaw_18 : decode prog_8_method_9_code 18 = .ok (.aload_n 0, 1) := by decide +kernel
theorem dX6_readLaw_19 : decode prog_8_method_9_code 19 = .ok (.iconst 0, 1) := by decide +kernel
theorem dX6_readLaw_20 : decode prog_8_method_9_code 20 = .ok (.putfield 110, 3) := by decide +kernel
theorem dX6_readLaw_23 : decode prog_8_method_9_code 23 = .ok (.aload_n 0, 1) := by decide +kernel
theorem dX6_readLaw_24 : decode prog_8_method_9_code 24 = .ok (.getfield 14, 3) := by decide +kernel
theorem dX6_readLaw_27 : decode prog_8_method_9_code 27 = .ok (.aload_n 0, 1) := by decide +kernel
theorem dX6_readLaw_28 : decode prog_8_method_9_code 28 = .ok (.getfield 68, 3) := by decide +kernel
theorem dX6_readLaw_31 : decode prog_8_method_9_code 31 = .ok (.iconst 1, 1) := by decide +kernel
theorem dX6_readLaw_32 : decode prog_8_method_9_code 32 = .ok (.aload_n 0, 1) := by decide +kernel
theorem dX6_readLaw_33 : decode prog_8_method_9_code 33 = .ok (.getfield 20, 3) := by decide +kernel
theorem dX6_readLaw_36 : decode prog_8_method_9_code 36 = .ok (.getfield 37, 3) := by decide +kernel
theorem dX6_readLaw_39 : decode prog_8_method_9_code 39 = .ok (.invokevirtual 98, 3) := by decide +kernel
theorem dX6_readLaw_42 : decode prog_8_method_9_code 42 = .ok (.iconst 1, 1) := by decide +kernel
theorem dX6_readLaw_43 : decode prog_8_method_9_code 43 = .ok (.istore_n 1, 1) := by decide +kernel
theorem dX6_readLaw_44 : decode prog_8_method_9_code 44 = .ok (.iconst 0, 1) := by decide +kernel
theorem dX6_readLaw_45 : decode prog_8_method_9_code 45 = .ok (.istore_n 2, 1) := by decide +kernel
theorem dX6_readLaw_46 : decode prog_8_method_9_code 46 = .ok (.iload_n 2, 1) := by decide +kernel
theorem dX6_readLaw_47 : decode prog_8_method_9_code 47 = .ok (.sipush 802, 3) := by decide +kernel
theorem dX6_readLaw_50 : decode prog_8_method_9_code 50 = .ok (.if_icmp .ge 89, 3) := by decide +kernel
theorem dX6_readLaw_53 : decode prog_8_method_9_code 53 = .ok (.iload_n 1, 1) := by decide +kernel
theorem dX6_readLaw_54 : decode prog_8_method_9_code 54 = .ok (.iconst 5, 1) := by decide +kernel
theorem dX6_readLaw_55 : decode prog_8_method_9_code 55 = .ok (.if_icmp .eq 84, 3) := by decide +kernel
theorem dX6_readLaw_58 : decode prog_8_method_9_code 58 = .ok (.aload_n 0, 1) := by decide +kernel
theorem dX6_readLaw_59 : decode prog_8_method_9_code 59 = .ok (.getfield 30, 3) := by decide +kernel
theorem dX6_readLaw_62 : decode prog_8_method_9_code 62 = .ok (.ifCond .ne 77, 3) := by decide +kernel
theorem dX6_readLaw_65 : decode prog_8_method_9_code 65 = .ok (.iload_n 1, 1) := by decide +kernel
theorem dX6_readLaw_66 : decode prog_8_method_9_code 66 = .ok (.tableswitch 62 0 3 #[30, 38, 46, 54], 30) := by decide +kernel
theorem dX6_readLaw_96 : decode prog_8_method_9_code 96 = .ok (.aload_n 0, 1) := by decide +kernel
theorem dX6_readLaw_97 : decode prog_8_method_9_code 97 = .ok (.invokevirtual 113, 3) := by decide +kernel
theorem dX6_readLaw_100 : decode prog_8_method_9_code 100 = .ok (.istore_n 1, 1) := by decide +kernel
theorem dX6_readLaw_101 : decode prog_8_method_9_code 101 = .ok (.goto 32, 3) := by decide +kernel
theorem dX6_readLaw_104 : decode prog_8_method_9_code 104 = .ok (.aload_n 0, 1) := by decide +kernel
theorem dX6_readLaw_105 : decode prog_8_method_9_code 105 = .ok (.invokevirtual 117, 3) := by decide +kernel
theorem dX6_readLaw_108 : decode prog_8_method_9_code 108 = .ok (.istore_n 1, 1) := by decide +kernel
theorem dX6_readLaw_109 : decode prog_8_method_9_code 109 = .ok (.goto 24, 3) := by decide +kernel
theorem dX6_readLaw_112 : decode prog_8_method_9_code 112 = .ok (.aload_n 0, 1) := by decide +kernel
theorem dX6_readLaw_113 : decode prog_8_method_9_code 113 = .ok (.invokevirtual 120, 3) := by decide +kernel
theorem dX6_readLaw_116 : decode prog_8_method_9_code 116 = .ok (.istore_n 1, 1) := by decide +kernel
theorem dX6_readLaw_117 : decode prog_8_method_9_code 117 = .ok (.goto 16, 3) := by decide +kernel
theorem dX6_readLaw_120 : decode prog_8_method_9_code 120 = .ok (.aload_n 0, 1) := by decide +kernel
theorem dX6_readLaw_121 : decode prog_8_method_9_code 121 = .ok (.invokevirtual 123, 3) := by decide +kernel
theorem dX6_readLaw_124 : decode prog_8_method_9_code 124 = .ok (.istore_n 1, 1) := by decide +kernel
theorem dX6_readLaw_125 : decode prog_8_method_9_code 125 = .ok (.goto 8, 3) := by decide +kernel
theorem dX6_readLaw_128 : decode prog_8_method_9_code 128 = .ok (.aload_n 0, 1) := by decide +kernel
theorem dX6_readLaw_129 : decode prog_8_method_9_code 129 = .ok (.invokevirtual 126, 3) := by decide +kernel
theorem dX6_readLaw_132 : decode prog_8_method_9_code 132 = .ok (.istore_n 1, 1) := by decide +kernel
theorem dX6_readLaw_133 : decode prog_8_method_9_code 133 = .ok (.iinc 2 1, 3) := by decide +kernel
theorem dX6_readLaw_136 : decode prog_8_method_9_code 136 = .ok (.goto (-90), 3) := by decide +kernel
theorem dX6_readLaw_139 : decode prog_8_method_9_code 139 = .ok (.return_, 1) := by decide +kernel
theorem dX6_readCondition_0 : decode prog_8_method_10_code 0 = .ok (.aload_n 0, 1) := by decide +kernel
theorem dX6_readCondition_1 : decode prog_8_method_10_code 1 = .ok (.getfield 26, 3) := by decide +kernel
theorem dX6_readCondition_4 : decode prog_8_method_10_code 4 = .ok (.getfield 54, 3) := by decide +kernel
theorem dX6_readCondition_7 : decode prog_8_method_10_code 7 = .ok (.bipush 40, 2) := by decide +kernel
theorem dX6_readCondition_9 : decode prog_8_method_10_code 9 = .ok (.if_icmp .ne 7, 3) := by decide +kernel
theorem dX6_readCondition_12 : decode prog_8_method_10_code 12 = .ok (.iconst 1, 1) := by decide +kernel
theorem dX6_readCondition_13 : decode prog_8_method_10_code 13 = .ok (.goto 4, 3) := by decide +kernel
theorem dX6_readCondition_16 : decode prog_8_method_10_code 16 = .ok (.iconst 0, 1) := by decide +kernel
theorem dX6_readCondition_17 : decode prog_8_method_10_code 17 = .ok (.istore_n 1, 1) := by decide +kernel
theorem dX6_readCondition_18 : decode prog_8_method_10_code 18 = .ok (.iload_n 1, 1) := by decide +kernel
theorem dX6_readCondition_19 : decode prog_8_method_10_code 19 = .ok (.ifCond .ne 23, 3) := by decide +kernel
theorem dX6_readCondition_22 : decode prog_8_method_10_code 22 = .ok (.aload_n 0, 1) := by decide +kernel
theorem dX6_readCondition_23 : decode prog_8_method_10_code 23 = .ok (.getfield 26, 3) := by decide +kernel
theorem dX6_readCondition_26 : decode prog_8_method_10_code 26 = .ok (.getfield 54, 3) := by decide +kernel
theorem dX6_readCondition_29 : decode prog_8_method_10_code 29 = .ok (.sipush 262, 3) := by decide +kernel
theorem dX6_readCondition_32 : decode prog_8_method_10_code 32 = .ok (.if_icmp .eq 10, 3) := by decide +kernel
theorem dX6_readCondition_35 : decode prog_8_method_10_code 35 = .ok (.aload_n 0, 1) := by decide +kernel
theorem dX6_readCondition_36 : decode prog_8_method_10_code 36 = .ok (.iconst 1, 1) := by decide +kernel
theorem dX6_readCondition_37 : decode prog_8_method_10_code 37 = .ok (.putfield 110, 3) := by decide +kernel
theorem dX6_readCondition_40 : decode prog_8_method_10_code 40 = .ok (.iconst 1, 1) := by decide +kernel
theorem dX6_readCondition_41 : decode prog_8_method_10_code 41 = .ok (.ireturn, 1) := by decide +kernel
theorem dX6_readCondition_42 : decode prog_8_method_10_code 42 = .ok (.aload_n 0, 1) := by decide +kernel
theorem dX6_readCondition_43 : decode prog_8_method_10_code 43 = .ok (.getfield 104, 3) := by decide +kernel
theorem dX6_readCondition_46 : decode prog_8_method_10_code 46 = .ok (.bipush 8, 2) := by decide +kernel
theorem dX6_readCondition_48 : decode prog_8_method_10_code 48 = .ok (.if_icmp .lt 9, 3) := by decide +kernel
theorem dX6_readCondition_51 : decode prog_8_method_10_code 51 = .ok (.aload_n 0, 1) := by decide +kernel
theorem dX6_readCondition_52 : decode prog_8_method_10_code 52 = .ok (.iconst 3, 1) := by decide +kernel
theorem dX6_readCondition_53 : decode prog_8_method_10_code 53 = .ok (.invokevirtual 129, 3) := by decide +kernel
theorem dX6_readCondition_56 : decode prog_8_method_10_code 56 = .ok (.ireturn, 1) := by decide +kernel
theorem dX6_readCondition_57 : decode prog_8_method_10_code 57 = .ok (.aload_n 0, 1) := by decide +kernel
theorem dX6_readCondition_58 : decode prog_8_method_10_code 58 = .ok (.getfield 23, 3) := by decide +kernel
theorem dX6_readCondition_61 : decode prog_8_method_10_code 61 = .ok (.iload_n 1, 1) := by decide +kernel
theorem dX6_readCondition_62 : decode prog_8_method_10_code 62 = .ok (.ifCond .eq 8, 3) := by decide +kernel
theorem dX6_readCondition_65 : decode prog_8_method_10_code 65 = .ok (.bipush 12, 2) := by decide +kernel
theorem dX6_readCondition_67 : decode prog_8_method_10_code 67 = .ok (.goto 5, 3) := by decide +kernel
theorem dX6_readCondition_70 : decode prog_8_method_10_code 70 = .ok (.bipush 9, 2) := by decide +kernel
theorem dX6_readCondition_72 : decode prog_8_method_10_code 72 = .ok (.iconst 0, 1) := by decide +kernel
theorem dX6_readCondition_73 : decode prog_8_method_10_code 73 = .ok (.iconst 0, 1) := by decide +kernel
theorem dX6_readCondition_74 : decode prog_8_method_10_code 74 = .ok (.iconst 0, 1) := by decide +kernel
theorem dX6_readCondition_75 : decode prog_8_method_10_code 75 = .ok (.invokevirtual 71, 3) := by decide +kernel
theorem dX6_readCondition_78 : decode prog_8_method_10_code 78 = .ok (.pop, 1) := by decide +kernel
theorem dX6_readCondition_79 : decode prog_8_method_10_code 79 = .ok (.aload_n 0, 1) := by decide +kernel
theorem dX6_readCondition_80 : decode prog_8_method_10_code 80 = .ok (.dup, 1) := by decide +kernel
theorem dX6_readCondition_81 : decode prog_8_method_10_code 81 = .ok (.getfield 104, 3) := by decide +kernel
theorem dX6_readCondition_84 : decode prog_8_method_10_code 84 = .ok (.iconst 1, 1) := by decide +kernel
theorem dX6_readCondition_85 : decode prog_8_method_10_code 85 = .ok (.iadd, 1) := by decide +kernel
theorem dX6_readCondition_86 : decode prog_8_method_10_code 86 = .ok (.putfield 104, 3) := by decide +kernel
theorem dX6_readCondition_89 : decode prog_8_method_10_code 89 = .ok (.aload_n 0, 1) := by decide +kernel
theorem dX6_readCondition_90 : decode prog_8_method_10_code 90 = .ok (.dup, 1) := by decide +kernel
theorem dX6_readCondition_91 : decode prog_8_method_10_code 91 = .ok (.getfield 107, 3) := by decide +kernel
theorem dX6_readCondition_94 : decode prog_8_method_10_code 94 = .ok (.iload_n 1, 1) := by decide +kernel
theorem dX6_readCondition_95 : decode prog_8_method_10_code 95 = .ok (.ifCond .eq 7, 3) := by decide +kernel
theorem dX6_readCondition_98 : decode prog_8_method_10_code 98 = .ok (.iconst 1, 1) := by decide +kernel
theorem dX6_readCondition_99 : decode prog_8_method_10_code 99 = .ok (.goto 4, 3) := by decide +kernel
theorem dX6_readCondition_102 : decode prog_8_method_10_code 102 = .ok (.iconst 0, 1) := by decide +kernel
theorem dX6_readCondition_103 : decode prog_8_method_10_code 103 = .ok (.iadd, 1) := by decide +kernel
theorem dX6_readCondition_104 : decode prog_8_method_10_code 104 = .ok (.putfield 107, 3) := by decide +kernel
theorem dX6_readCondition_107 : decode prog_8_method_10_code 107 = .ok (.aload_n 0, 1) := by decide +kernel
theorem dX6_readCondition_108 : decode prog_8_method_10_code 108 = .ok (.getfield 26, 3) := by decide +kernel
theorem dX6_readCondition_111 : decode prog_8_method_10_code 111 = .ok (.invokevirtual 75, 3) := by decide +kernel
theorem dX6_readCondition_114 : decode prog_8_method_10_code 114 = .ok (.iconst 0, 1) := by decide +kernel
theorem dX6_readCondition_115 : decode prog_8_method_10_code 115 = .ok (.ireturn, 1) := by decide +kernel
theorem dX6_readUnit_0 : decode prog_8_method_11_code 0 = .ok (.aload_n 0, 1) := by decide +kernel
theorem dX6_readUnit_1 : decode prog_8_method_11_code 1 = .ok (.getfield 26, 3) := by decide +kernel
theorem dX6_readUnit_4 : decode prog_8_method_11_code 4 = .ok (.getfield 54, 3) := by decide +kernel
theorem dX6_readUnit_7 : decode prog_8_method_11_code 7 = .ok (.iconst 1, 1) := by decide +kernel
theorem dX6_readUnit_8 : decode prog_8_method_11_code 8 = .ok (.if_icmp .ne 24, 3) := by decide +kernel
theorem dX6_readUnit_11 : decode prog_8_method_11_code 11 = .ok (.aload_n 0, 1) := by decide +kernel
theorem dX6_readUnit_12 : decode prog_8_method_11_code 12 = .ok (.getfield 20, 3) := by decide +kernel
theorem dX6_readUnit_15 : decode prog_8_method_11_code 15 = .ok (.iconst 0, 1) := by decide +kernel
theorem dX6_readUnit_16 : decode prog_8_method_11_code 16 = .ok (.aload_n 0, 1) := by decide +kernel
theorem dX6_readUnit_17 : decode prog_8_method_11_code 17 = .ok (.getfield 26, 3) := by decide +kernel
theorem dX6_readUnit_20 : decode prog_8_method_11_code 20 = .ok (.getfield 95, 3) := by decide +kernel
theorem dX6_readUnit_23 : decode prog_8_method_11_code 23 = .ok (.iconst 0, 1) := by decide +kernel
theorem dX6_readUnit_24 : decode prog_8_method_11_code 24 = .ok (.iconst 0, 1) := by decide +kernel
theorem dX6_readUnit_25 : decode prog_8_method_11_code 25 = .ok (.invokevirtual 71, 3) := by decide +kernel
theorem dX6_readUnit_28 : decode prog_8_method_11_code 28 = .ok (.pop, 1) := by decide +kernel
theorem dX6_readUnit_29 : decode prog_8_method_11_code 29 = .ok (.goto 53, 3) := by decide +kernel
theorem dX6_readUnit_32 : decode prog_8_method_11_code 32 = .ok (.aload_n 0, 1) := by decide +kernel
theorem dX6_readUnit_33 : decode prog_8_method_11_code 33 = .ok (.getfield 26, 3) := by decide +kernel
theorem dX6_readUnit_36 : decode prog_8_method_11_code 36 = .ok (.getfield 54, 3) := by decide +kernel
theorem dX6_readUnit_39 : decode prog_8_method_11_code 39 = .ok (.sipush 263, 3) := by decide +kernel
theorem dX6_readUnit_42 : decode prog_8_method_11_code 42 = .ok (.sipush 272, 3) := by decide +kernel
theorem dX6_readUnit_45 : decode prog_8_method_11_code 45 = .ok (.invokestatic 45, 3) := by decide +kernel
theorem dX6_readUnit_48 : decode prog_8_method_11_code 48 = .ok (.ifCond .eq 28, 3) := by decide +kernel
theorem dX6_readUnit_51 : decode prog_8_method_11_code 51 = .ok (.aload_n 0, 1) := by decide +kernel
theorem dX6_readUnit_52 : decode prog_8_method_11_code 52 = .ok (.getfield 20, 3) := by decide +kernel
theorem dX6_readUnit_55 : decode prog_8_method_11_code 55 = .ok (.iconst 1, 1) := by decide +kernel
theorem dX6_readUnit_56 : decode prog_8_method_11_code 56 = .ok (.aload_n 0, 1) := by decide +kernel
theorem dX6_readUnit_57 : decode prog_8_method_11_code 57 = .ok (.getfield 26, 3) := by decide +kernel
theorem dX6_readUnit_60 : decode prog_8_method_11_code 60 = .ok (.getfield 54, 3) := by decide +kernel
theorem dX6_readUnit_63 : decode prog_8_method_11_code 63 = .ok (.sipush 263, 3) := by decide +kernel
theorem dX6_readUnit_66 : decode prog_8_method_11_code 66 = .ok (.isub, 1) := by decide +kernel
theorem dX6_readUnit_67 : decode prog_8_method_11_code 67 = .ok (.iconst 0, 1) := by decide +kernel
theorem dX6_readUnit_68 : decode prog_8_method_11_code 68 = .ok (.iconst 0, 1) := by decide +kernel
theorem dX6_readUnit_69 : decode prog_8_method_11_code 69 = .ok (.invokevirtual 71, 3) := by decide +kernel
theorem dX6_readUnit_72 : decode prog_8_method_11_code 72 = .ok (.pop, 1) := by decide +kernel
theorem dX6_readUnit_73 : decode prog_8_method_11_code 73 = .ok (.goto 9, 3) := by decide +kernel
theorem dX6_readUnit_76 : decode prog_8_method_11_code 76 = .ok (.aload_n 0, 1) := by decide +kernel
theorem dX6_readUnit_77 : decode prog_8_method_11_code 77 = .ok (.iconst 1, 1) := by decide +kernel
theorem dX6_readUnit_78 : decode prog_8_method_11_code 78 = .ok (.invokevirtual 129, 3) := by decide +kernel
theorem dX6_readUnit_81 : decode prog_8_method_11_code 81 = .ok (.ireturn, 1) := by decide +kernel
theorem dX6_readUnit_82 : decode prog_8_method_11_code 82 = .ok (.aload_n 0, 1) := by decide +kernel
theorem dX6_readUnit_83 : decode prog_8_method_11_code 83 = .ok (.getfield 26, 3) := by decide +kernel
theorem dX6_readUnit_86 : decode prog_8_method_11_code 86 = .ok (.invokevirtual 75, 3) := by decide +kernel
theorem dX6_readUnit_89 : decode prog_8_method_11_code 89 = .ok (.iconst 3, 1) := by decide +kernel
theorem dX6_readUnit_90 : decode prog_8_method_11_code 90 = .ok (.ireturn, 1) := by decide +kernel
theorem dX6_readDivisor_0 : decode prog_8_method_12_code 0 = .ok (.aload_n 0, 1) := by decide +kernel
theorem dX6_readDivisor_1 : decode prog_8_method_12_code 1 = .ok (.getfield 26, 3) := by decide +kernel
theorem dX6_readDivisor_4 : decode prog_8_method_12_code 4 = .ok (.getfield 54, 3) := by decide +kernel
theorem dX6_readDivisor_7 : decode prog_8_method_12_code 7 = .ok (.iconst 1, 1) := by decide +kernel
theorem dX6_readDivisor_8 : decode prog_8_method_12_code 8 = .ok (.if_icmp .ne 19, 3) := by decide +kernel
theorem dX6_readDivisor_11 : decode prog_8_method_12_code 11 = .ok (.aload_n 0, 1) := by decide +kernel
theorem dX6_readDivisor_12 : decode prog_8_method_12_code 12 = .ok (.getfield 26, 3) := by decide +kernel
theorem dX6_readDivisor_15 : decode prog_8_method_12_code 15 = .ok (.getfield 95, 3) := by decide +kernel
theorem dX6_readDivisor_18 : decode prog_8_method_12_code 18 = .ok (.ifCond .ne 9, 3) := by decide +kernel
theorem dX6_readDivisor_21 : decode prog_8_method_12_code 21 = .ok (.aload_n 0, 1) := by decide +kernel
theorem dX6_readDivisor_22 : decode prog_8_method_12_code 22 = .ok (.iconst 2, 1) := by decide +kernel
theorem dX6_readDivisor_23 : decode prog_8_method_12_code 23 = .ok (.invokevirtual 129, 3) := by decide +kernel
theorem dX6_readDivisor_26 : decode prog_8_method_12_code 26 = .ok (.ireturn, 1) := by decide +kernel
theorem dX6_readDivisor_27 : decode prog_8_method_12_code 27 = .ok (.aload_n 0, 1) := by decide +kernel
theorem dX6_readDivisor_28 : decode prog_8_method_12_code 28 = .ok (.getfield 26, 3) := by decide +kernel
theorem dX6_readDivisor_31 : decode prog_8_method_12_code 31 = .ok (.getfield 54, 3) := by decide +kernel
theorem dX6_readDivisor_34 : decode prog_8_method_12_code 34 = .ok (.iconst 1, 1) := by decide +kernel
theorem dX6_readDivisor_35 : decode prog_8_method_12_code 35 = .ok (.if_icmp .ne 10, 3) := by decide +kernel
theorem dX6_readDivisor_38 : decode prog_8_method_12_code 38 = .ok (.aload_n 0, 1) := by decide +kernel
theorem dX6_readDivisor_39 : decode prog_8_method_12_code 39 = .ok (.invokevirtual 117, 3) := by decide +kernel
theorem dX6_readDivisor_42 : decode prog_8_method_12_code 42 = .ok (.goto 8, 3) := by decide +kernel
theorem dX6_readDivisor_45 : decode prog_8_method_12_code 45 = .ok (.aload_n 0, 1) := by decide +kernel
theorem dX6_readDivisor_46 : decode prog_8_method_12_code 46 = .ok (.iconst 1, 1) := by decide +kernel
theorem dX6_readDivisor_47 : decode prog_8_method_12_code 47 = .ok (.invokevirtual 129, 3) := by decide +kernel
theorem dX6_readDivisor_50 : decode prog_8_method_12_code 50 = .ok (.ireturn, 1) := by decide +kernel
theorem dX6_readBehindUnit_0 : decode prog_8_method_13_code 0 = .ok (.aload_n 0, 1) := by decide +kernel
theorem dX6_readBehindUnit_1 : decode prog_8_method_13_code 1 = .ok (.getfield 26, 3) := by decide +kernel
theorem dX6_readBehindUnit_4 : decode prog_8_method_13_code 4 = .ok (.getfield 54, 3) := by decide +kernel
theorem dX6_readBehindUnit_7 : decode prog_8_method_13_code 7 = .ok (.invokestatic 133, 3) := by decide +kernel
theorem dX6_readBehindUnit_10 : decode prog_8_method_13_code 10 = .ok (.istore_n 1, 1) := by decide +kernel
theorem dX6_readBehindUnit_11 : decode prog_8_method_13_code 11 = .ok (.iload_n 1, 1) := by decide +kernel
theorem dX6_readBehindUnit_12 : decode prog_8_method_13_code 12 = .ok (.iconst 2, 1) := by decide +kernel
theorem dX6_readBehindUnit_13 : decode prog_8_method_13_code 13 = .ok (.iconst 5, 1) := by decide +kernel
theorem dX6_readBehindUnit_14 : decode prog_8_method_13_code 14 = .ok (.invokestatic 45, 3) := by decide +kernel
theorem dX6_readBehindUnit_17 : decode prog_8_method_13_code 17 = .ok (.ifCond .eq 19, 3) := by decide +kernel
theorem dX6_readBehindUnit_20 : decode prog_8_method_13_code 20 = .ok (.aload_n 0, 1) := by decide +kernel
theorem dX6_readBehindUnit_21 : decode prog_8_method_13_code 21 = .ok (.iload_n 1, 1) := by decide +kernel
theorem dX6_readBehindUnit_22 : decode prog_8_method_13_code 22 = .ok (.invokevirtual 136, 3) := by decide +kernel
theorem dX6_readBehindUnit_25 : decode prog_8_method_13_code 25 = .ok (.iload_n 1, 1) := by decide +kernel
theorem dX6_readBehindUnit_26 : decode prog_8_method_13_code 26 = .ok (.iconst 3, 1) := by decide +kernel
theorem dX6_readBehindUnit_27 : decode prog_8_method_13_code 27 = .ok (.if_icmp .ne 7, 3) := by decide +kernel
theorem dX6_readBehindUnit_30 : decode prog_8_method_13_code 30 = .ok (.iconst 2, 1) := by decide +kernel
theorem dX6_readBehindUnit_31 : decode prog_8_method_13_code 31 = .ok (.goto 4, 3) := by decide +kernel
theorem dX6_readBehindUnit_34 : decode prog_8_method_13_code 34 = .ok (.iconst 1, 1) := by decide +kernel
theorem dX6_readBehindUnit_35 : decode prog_8_method_13_code 35 = .ok (.ireturn, 1) := by decide +kernel
theorem dX6_readBehindUnit_36 : decode prog_8_method_13_code 36 = .ok (.iload_n 1, 1) := by decide +kernel
theorem dX6_readBehindUnit_37 : decode prog_8_method_13_code 37 = .ok (.bipush 6, 2) := by decide +kernel
theorem dX6_readBehindUnit_39 : decode prog_8_method_13_code 39 = .ok (.bipush 8, 2) := by decide +kernel
theorem dX6_readBehindUnit_41 : decode prog_8_method_13_code 41 = .ok (.invokestatic 45, 3) := by decide +kernel
theorem dX6_readBehindUnit_44 : decode prog_8_method_13_code 44 = .ok (.ifCond .eq 23, 3) := by decide +kernel
theorem dX6_readBehindUnit_47 : decode prog_8_method_13_code 47 = .ok (.aload_n 0, 1) := by decide +kernel
theorem dX6_readBehindUnit_48 : decode prog_8_method_13_code 48 = .ok (.getfield 110, 3) := by decide +kernel
theorem dX6_readBehindUnit_51 : decode prog_8_method_13_code 51 = .ok (.iconst 1, 1) := by decide +kernel
theorem dX6_readBehindUnit_52 : decode prog_8_method_13_code 52 = .ok (.if_icmp .ne 15, 3) := by decide +kernel
theorem dX6_readBehindUnit_55 : decode prog_8_method_13_code 55 = .ok (.aload_n 0, 1) := by decide +kernel
theorem dX6_readBehindUnit_56 : decode prog_8_method_13_code 56 = .ok (.iconst 2, 1) := by decide +kernel
theorem dX6_readBehindUnit_57 : decode prog_8_method_13_code 57 = .ok (.putfield 110, 3) := by decide +kernel
theorem dX6_readBehindUnit_60 : decode prog_8_method_13_code 60 = .ok (.aload_n 0, 1) := by decide +kernel
theorem dX6_readBehindUnit_61 : decode prog_8_method_13_code 61 = .ok (.iload_n 1, 1) := by decide +kernel
theorem dX6_readBehindUnit_62 : decode prog_8_method_13_code 62 = .ok (.invokevirtual 136, 3) := by decide +kernel
theorem dX6_readBehindUnit_65 : decode prog_8_method_13_code 65 = .ok (.iconst 1, 1) := by decide +kernel
theorem dX6_readBehindUnit_66 : decode prog_8_method_13_code 66 = .ok (.ireturn, 1) := by decide +kernel
theorem dX6_readBehindUnit_67 : decode prog_8_method_13_code 67 = .ok (.aload_n 0, 1) := by decide +kernel
theorem dX6_readBehindUnit_68 : decode prog_8_method_13_code 68 = .ok (.getfield 26, 3) := by decide +kernel
theorem dX6_readBehindUnit_71 : decode prog_8_method_13_code 71 = .ok (.getfield 54, 3) := by decide +kernel
theorem dX6_readBehindUnit_74 : decode prog_8_method_13_code 74 = .ok (.sipush 259, 3) := by decide +kernel
theorem dX6_readBehindUnit_77 : decode prog_8_method_13_code 77 = .ok (.if_icmp .ne 43, 3) := by decide +kernel
theorem dX6_readBehindUnit_80 : decode prog_8_method_13_code 80 = .ok (.aload_n 0, 1) := by decide +kernel
theorem dX6_readBehindUnit_81 : decode prog_8_method_13_code 81 = .ok (.getfield 110, 3) := by decide +kernel
theorem dX6_readBehindUnit_84 : decode prog_8_method_13_code 84 = .ok (.ifCond .ne 36, 3) := by decide +kernel
theorem dX6_readBehindUnit_87 : decode prog_8_method_13_code 87 = .ok (.aload_n 0, 1) := by decide +kernel
theorem dX6_readBehindUnit_88 : decode prog_8_method_13_code 88 = .ok (.iconst 0, 1) := by decide +kernel
theorem dX6_readBehindUnit_89 : decode prog_8_method_13_code 89 = .ok (.invokevirtual 139, 3) := by decide +kernel
theorem dX6_readBehindUnit_92 : decode prog_8_method_13_code 92 = .ok (.aload_n 0, 1) := by decide +kernel
theorem dX6_readBehindUnit_93 : decode prog_8_method_13_code 93 = .ok (.getfield 14, 3) := by decide +kernel
theorem dX6_readBehindUnit_96 : decode prog_8_method_13_code 96 = .ok (.aload_n 0, 1) := by decide +kernel
theorem dX6_readBehindUnit_97 : decode prog_8_method_13_code 97 = .ok (.getfield 68, 3) := by decide +kernel
theorem dX6_readBehindUnit_100 : decode prog_8_method_13_code 100 = .ok (.iconst 2, 1) := by decide +kernel
theorem dX6_readBehindUnit_101 : decode prog_8_method_13_code 101 = .ok (.aload_n 0, 1) := by decide +kernel
theorem dX6_readBehindUnit_102 : decode prog_8_method_13_code 102 = .ok (.getfield 20, 3) := by decide +kernel
theorem dX6_readBehindUnit_105 : decode prog_8_method_13_code 105 = .ok (.getfield 37, 3) := by decide +kernel
theorem dX6_readBehindUnit_108 : decode prog_8_method_13_code 108 = .ok (.invokevirtual 98, 3) := by decide +kernel
theorem dX6_readBehindUnit_111 : decode prog_8_method_13_code 111 = .ok (.aload_n 0, 1) := by decide +kernel
theorem dX6_readBehindUnit_112 : decode prog_8_method_13_code 112 = .ok (.getfield 26, 3) := by decide +kernel
theorem dX6_readBehindUnit_115 : decode prog_8_method_13_code 115 = .ok (.invokevirtual 75, 3) := by decide +kernel
theorem dX6_readBehindUnit_118 : decode prog_8_method_13_code 118 = .ok (.iconst 0, 1) := by decide +kernel
theorem dX6_readBehindUnit_119 : decode prog_8_method_13_code 119 = .ok (.ireturn, 1) := by decide +kernel
theorem dX6_readBehindUnit_120 : decode prog_8_method_13_code 120 = .ok (.aload_n 0, 1) := by decide +kernel
theorem dX6_readBehindUnit_121 : decode prog_8_method_13_code 121 = .ok (.getfield 26, 3) := by decide +kernel
theorem dX6_readBehindUnit_124 : decode prog_8_method_13_code 124 = .ok (.getfield 54, 3) := by decide +kernel
theorem dX6_readBehindUnit_127 : decode prog_8_method_13_code 127 = .ok (.bipush 59, 2) := by decide +kernel
theorem dX6_readBehindUnit_129 : decode prog_8_method_13_code 129 = .ok (.if_icmp .ne 39, 3) := by decide +kernel
theorem dX6_readBehindUnit_132 : decode prog_8_method_13_code 132 = .ok (.aload_n 0, 1) := by decide +kernel
theorem dX6_readBehindUnit_133 : decode prog_8_method_13_code 133 = .ok (.getfield 110, 3) := by decide +kernel
theorem dX6_readBehindUnit_136 : decode prog_8_method_13_code 136 = .ok (.ifCond .ne 32, 3) := by decide +kernel
theorem dX6_readBehindUnit_139 : decode prog_8_method_13_code 139 = .ok (.aload_n 0, 1) := by decide +kernel
theorem dX6_readBehindUnit_140 : decode prog_8_method_13_code 140 = .ok (.iconst 0, 1) := by decide +kernel
theorem dX6_readBehindUnit_141 : decode prog_8_method_13_code 141 = .ok (.invokevirtual 139, 3) := by decide +kernel
theorem dX6_readBehindUnit_144 : decode prog_8_method_13_code 144 = .ok (.aload_n 0, 1) := by decide +kernel
theorem dX6_readBehindUnit_145 : decode prog_8_method_13_code 145 = .ok (.getfield 14, 3) := by decide +kernel
theorem dX6_readBehindUnit_148 : decode prog_8_method_13_code 148 = .ok (.aload_n 0, 1) := by decide +kernel
theorem dX6_readBehindUnit_149 : decode prog_8_method_13_code 149 = .ok (.getfield 68, 3) := by decide +kernel
theorem dX6_readBehindUnit_152 : decode prog_8_method_13_code 152 = .ok (.iconst 2, 1) := by decide +kernel
theorem dX6_readBehindUnit_153 : decode prog_8_method_13_code 153 = .ok (.aload_n 0, 1) := by decide +kernel
theorem dX6_readBehindUnit_154 : decode prog_8_method_13_code 154 = .ok (.getfield 20, 3) := by decide +kernel
theorem dX6_readBehindUnit_157 : decode prog_8_method_13_code 157 = .ok (.getfield 37, 3) := by decide +kernel
theorem dX6_readBehindUnit_160 : decode prog_8_method_13_code 160 = .ok (.invokevirtual 98, 3) := by decide +kernel
theorem dX6_readBehindUnit_163 : decode prog_8_method_13_code 163 = .ok (.aload_n 0, 1) := by decide +kernel
theorem dX6_readBehindUnit_164 : decode prog_8_method_13_code 164 = .ok (.invokevirtual 142, 3) := by decide +kernel
theorem dX6_readBehindUnit_167 : decode prog_8_method_13_code 167 = .ok (.ireturn, 1) := by decide +kernel
theorem dX6_readBehindUnit_168 : decode prog_8_method_13_code 168 = .ok (.aload_n 0, 1) := by decide +kernel
theorem dX6_readBehindUnit_169 : decode prog_8_method_13_code 169 = .ok (.getfield 110, 3) := by decide +kernel
theorem dX6_readBehindUnit_172 : decode prog_8_method_13_code 172 = .ok (.iconst 2, 1) := by decide +kernel
theorem dX6_readBehindUnit_173 : decode prog_8_method_13_code 173 = .ok (.if_icmp .ne 7, 3) := by decide +kernel
theorem dX6_readBehindUnit_176 : decode prog_8_method_13_code 176 = .ok (.iconst 4, 1) := by decide +kernel
theorem dX6_readBehindUnit_177 : decode prog_8_method_13_code 177 = .ok (.goto 8, 3) := by decide +kernel
theorem dX6_readBehindUnit_180 : decode prog_8_method_13_code 180 = .ok (.aload_n 0, 1) := by decide +kernel
theorem dX6_readBehindUnit_181 : decode prog_8_method_13_code 181 = .ok (.iconst 1, 1) := by decide +kernel
theorem dX6_readBehindUnit_182 : decode prog_8_method_13_code 182 = .ok (.invokevirtual 129, 3) := by decide +kernel
theorem dX6_readBehindUnit_185 : decode prog_8_method_13_code 185 = .ok (.ireturn, 1) := by decide +kernel
theorem dX6_readBehindCondition_0 : decode prog_8_method_14_code 0 = .ok (.aload_n 0, 1) := by decide +kernel
theorem dX6_readBehindCondition_1 : decode prog_8_method_14_code 1 = .ok (.getfield 26, 3) := by decide +kernel
theorem dX6_readBehindCondition_4 : decode prog_8_method_14_code 4 = .ok (.getfield 54, 3) := by decide +kernel
theorem dX6_readBehindCondition_7 : decode prog_8_method_14_code 7 = .ok (.invokestatic 133, 3) := by decide +kernel
theorem dX6_readBehindCondition_10 : decode prog_8_method_14_code 10 = .ok (.istore_n 1, 1) := by decide +kernel
theorem dX6_readBehindCondition_11 : decode prog_8_method_14_code 11 = .ok (.iload_n 1, 1) := by decide +kernel
theorem dX6_readBehindCondition_12 : decode prog_8_method_14_code 12 = .ok (.bipush 10, 2) := by decide +kernel
theorem dX6_readBehindCondition_14 : decode prog_8_method_14_code 14 = .ok (.if_icmp .eq 9, 3) := by decide +kernel
theorem dX6_readBehindCondition_17 : decode prog_8_method_14_code 17 = .ok (.iload_n 1, 1) := by decide +kernel
theorem dX6_readBehindCondition_18 : decode prog_8_method_14_code 18 = .ok (.bipush 11, 2) := by decide +kernel
theorem dX6_readBehindCondition_20 : decode prog_8_method_14_code 20 = .ok (.if_icmp .ne 10, 3) := by decide +kernel
theorem dX6_readBehindCondition_23 : decode prog_8_method_14_code 23 = .ok (.aload_n 0, 1) := by decide +kernel
theorem dX6_readBehindCondition_24 : decode prog_8_method_14_code 24 = .ok (.iload_n 1, 1) := by decide +kernel
theorem dX6_readBehindCondition_25 : decode prog_8_method_14_code 25 = .ok (.invokevirtual 136, 3) := by decide +kernel
theorem dX6_readBehindCondition_28 : decode prog_8_method_14_code 28 = .ok (.iconst 0, 1) := by decide +kernel
theorem dX6_readBehindCondition_29 : decode prog_8_method_14_code 29 = .ok (.ireturn, 1) := by decide +kernel
theorem dX6_readBehindCondition_30 : decode prog_8_method_14_code 30 = .ok (.aload_n 0, 1) := by decide +kernel
theorem dX6_readBehindCondition_31 : decode prog_8_method_14_code 31 = .ok (.getfield 26, 3) := by decide +kernel
theorem dX6_readBehindCondition_34 : decode prog_8_method_14_code 34 = .ok (.getfield 54, 3) := by decide +kernel
theorem dX6_readBehindCondition_37 : decode prog_8_method_14_code 37 = .ok (.bipush 41, 2) := by decide +kernel
theorem dX6_readBehindCondition_39 : decode prog_8_method_14_code 39 = .ok (.if_icmp .ne 64, 3) := by decide +kernel
theorem dX6_readBehindCondition_42 : decode prog_8_method_14_code 42 = .ok (.aload_n 0, 1) := by decide +kernel
theorem dX6_readBehindCondition_43 : decode prog_8_method_14_code 43 = .ok (.getfield 107, 3) := by decide +kernel
theorem dX6_readBehindCondition_46 : decode prog_8_method_14_code 46 = .ok (.ifCond .le 57, 3) := by decide +kernel
theorem dX6_readBehindCondition_49 : decode prog_8_method_14_code 49 = .ok (.aload_n 0, 1) := by decide +kernel
theorem dX6_readBehindCondition_50 : decode prog_8_method_14_code 50 = .ok (.iconst 0, 1) := by decide +kernel
theorem dX6_readBehindCondition_51 : decode prog_8_method_14_code 51 = .ok (.invokevirtual 139, 3) := by decide +kernel
theorem dX6_readBehindCondition_54 : decode prog_8_method_14_code 54 = .ok (.aload_n 0, 1) := by decide +kernel
theorem dX6_readBehindCondition_55 : decode prog_8_method_14_code 55 = .ok (.getfield 23, 3) := by decide +kernel
theorem dX6_readBehindCondition_58 : decode prog_8_method_14_code 58 = .ok (.iconst 0, 1) := by decide +kernel
theorem dX6_readBehindCondition_59 : decode prog_8_method_14_code 59 = .ok (.aload_n 0, 1) := by decide +kernel
theorem dX6_readBehindCondition_60 : decode prog_8_method_14_code 60 = .ok (.getfield 23, 3) := by decide +kernel
theorem dX6_readBehindCondition_63 : decode prog_8_method_14_code 63 = .ok (.getfield 37, 3) := by decide +kernel
theorem dX6_readBehindCondition_66 : decode prog_8_method_14_code 66 = .ok (.iconst 1, 1) := by decide +kernel
theorem dX6_readBehindCondition_67 : decode prog_8_method_14_code 67 = .ok (.isub, 1) := by decide +kernel
theorem dX6_readBehindCondition_68 : decode prog_8_method_14_code 68 = .ok (.invokestatic 145, 3) := by decide +kernel
theorem dX6_readBehindCondition_71 : decode prog_8_method_14_code 71 = .ok (.putfield 37, 3) := by decide +kernel
theorem dX6_readBehindCondition_74 : decode prog_8_method_14_code 74 = .ok (.aload_n 0, 1) := by decide +kernel
theorem dX6_readBehindCondition_75 : decode prog_8_method_14_code 75 = .ok (.dup, 1) := by decide +kernel
theorem dX6_readBehindCondition_76 : decode prog_8_method_14_code 76 = .ok (.getfield 104, 3) := by decide +kernel
theorem dX6_readBehindCondition_79 : decode prog_8_method_14_code 79 = .ok (.iconst 1, 1) := by decide +kernel
theorem dX6_readBehindCondition_80 : decode prog_8_method_14_code 80 = .ok (.isub, 1) := by decide +kernel
theorem dX6_readBehindCondition_81 : decode prog_8_method_14_code 81 = .ok (.putfield 104, 3) := by decide +kernel
theorem dX6_readBehindCondition_84 : decode prog_8_method_14_code 84 = .ok (.aload_n 0, 1) := by decide +kernel
theorem dX6_readBehindCondition_85 : decode prog_8_method_14_code 85 = .ok (.dup, 1) := by decide +kernel
theorem dX6_readBehindCondition_86 : decode prog_8_method_14_code 86 = .ok (.getfield 107, 3) := by decide +kernel
theorem dX6_readBehindCondition_89 : decode prog_8_method_14_code 89 = .ok (.iconst 1, 1) := by decide +kernel
theorem dX6_readBehindCondition_90 : decode prog_8_method_14_code 90 = .ok (.isub, 1) := by decide +kernel
theorem dX6_readBehindCondition_91 : decode prog_8_method_14_code 91 = .ok (.putfield 107, 3) := by decide +kernel
theorem dX6_readBehindCondition_94 : decode prog_8_method_14_code 94 = .ok (.aload_n 0, 1) := by decide +kernel
theorem dX6_readBehindCondition_95 : decode prog_8_method_14_code 95 = .ok (.getfield 26, 3) := by decide +kernel
theorem dX6_readBehindCondition_98 : decode prog_8_method_14_code 98 = .ok (.invokevirtual 75, 3) := by decide +kernel
theorem dX6_readBehindCondition_101 : decode prog_8_method_14_code 101 = .ok (.iconst 4, 1) := by decide +kernel
theorem dX6_readBehindCondition_102 : decode prog_8_method_14_code 102 = .ok (.ireturn, 1) := by decide +kernel
theorem dX6_readBehindCondition_103 : decode prog_8_method_14_code 103 = .ok (.aload_n 0, 1) := by decide +kernel
theorem dX6_readBehindCondition_104 : decode prog_8_method_14_code 104 = .ok (.getfield 26, 3) := by decide +kernel
theorem dX6_readBehindCondition_107 : decode prog_8_method_14_code 107 = .ok (.getfield 54, 3) := by decide +kernel
theorem dX6_readBehindCondition_110 : decode prog_8_method_14_code 110 = .ok (.bipush 59, 2) := by decide +kernel
theorem dX6_readBehindCondition_112 : decode prog_8_method_14_code 112 = .ok (.if_icmp .ne 20, 3) := by decide +kernel
theorem dX6_readBehindCondition_115 : decode prog_8_method_14_code 115 = .ok (.aload_n 0, 1) := by decide +kernel
theorem dX6_readBehindCondition_116 : decode prog_8_method_14_code 116 = .ok (.getfield 107, 3) := by decide +kernel
theorem dX6_readBehindCondition_119 : decode prog_8_method_14_code 119 = .ok (.ifCond .ne 13, 3) := by decide +kernel
theorem dX6_readBehindCondition_122 : decode prog_8_method_14_code 122 = .ok (.aload_n 0, 1) := by decide +kernel
theorem dX6_readBehindCondition_123 : decode prog_8_method_14_code 123 = .ok (.iconst 0, 1) := by decide +kernel
theorem dX6_readBehindCondition_124 : decode prog_8_method_14_code 124 = .ok (.invokevirtual 139, 3) := by decide +kernel
theorem dX6_readBehindCondition_127 : decode prog_8_method_14_code 127 = .ok (.aload_n 0, 1) := by decide +kernel
theorem dX6_readBehindCondition_128 : decode prog_8_method_14_code 128 = .ok (.invokevirtual 142, 3) := by decide +kernel
theorem dX6_readBehindCondition_131 : decode prog_8_method_14_code 131 = .ok (.ireturn, 1) := by decide +kernel
theorem dX6_readBehindCondition_132 : decode prog_8_method_14_code 132 = .ok (.aload_n 0, 1) := by decide +kernel
theorem dX6_readBehindCondition_133 : decode prog_8_method_14_code 133 = .ok (.iconst 1, 1) := by decide +kernel
theorem dX6_readBehindCondition_134 : decode prog_8_method_14_code 134 = .ok (.invokevirtual 129, 3) := by decide +kernel
theorem dX6_readBehindCondition_137 : decode prog_8_method_14_code 137 = .ok (.ireturn, 1) := by decide +kernel
theorem dX6_finish_0 : decode prog_8_method_15_code 0 = .ok (.aload_n 0, 1) := by decide +kernel
theorem dX6_finish_1 : decode prog_8_method_15_code 1 = .ok (.getfield 14, 3) := by decide +kernel
theorem dX6_finish_4 : decode prog_8_method_15_code 4 = .ok (.aload_n 0, 1) := by decide +kernel
theorem dX6_finish_5 : decode prog_8_method_15_code 5 = .ok (.getfield 68, 3) := by decide +kernel
theorem dX6_finish_8 : decode prog_8_method_15_code 8 = .ok (.iconst 3, 1) := by decide +kernel
theorem dX6_finish_9 : decode prog_8_method_15_code 9 = .ok (.aload_n 0, 1) := by decide +kernel
theorem dX6_finish_10 : decode prog_8_method_15_code 10 = .ok (.getfield 20, 3) := by decide +kernel
theorem dX6_finish_13 : decode prog_8_method_15_code 13 = .ok (.getfield 37, 3) := by decide +kernel
theorem dX6_finish_16 : decode prog_8_method_15_code 16 = .ok (.invokevirtual 98, 3) := by decide +kernel
theorem dX6_finish_19 : decode prog_8_method_15_code 19 = .ok (.aload_n 0, 1) := by decide +kernel
theorem dX6_finish_20 : decode prog_8_method_15_code 20 = .ok (.getfield 26, 3) := by decide +kernel
theorem dX6_finish_23 : decode prog_8_method_15_code 23 = .ok (.invokevirtual 75, 3) := by decide +kernel
theorem dX6_finish_26 : decode prog_8_method_15_code 26 = .ok (.iconst 5, 1) := by decide +kernel
theorem dX6_finish_27 : decode prog_8_method_15_code 27 = .ok (.ireturn, 1) := by decide +kernel
theorem dX6_failed_0 : decode prog_8_method_16_code 0 = .ok (.aload_n 0, 1) := by decide +kernel
theorem dX6_failed_1 : decode prog_8_method_16_code 1 = .ok (.iload_n 1, 1) := by decide +kernel
theorem dX6_failed_2 : decode prog_8_method_16_code 2 = .ok (.invokevirtual 65, 3) := by decide +kernel
theorem dX6_failed_5 : decode prog_8_method_16_code 5 = .ok (.iconst 5, 1) := by decide +kernel
theorem dX6_failed_6 : decode prog_8_method_16_code 6 = .ok (.ireturn, 1) := by decide +kernel
theorem dX6_join_0 : decode prog_8_method_17_code 0 = .ok (.aload_n 0, 1) := by decide +kernel
theorem dX6_join_1 : decode prog_8_method_17_code 1 = .ok (.iload_n 1, 1) := by decide +kernel
theorem dX6_join_2 : decode prog_8_method_17_code 2 = .ok (.invokestatic 150, 3) := by decide +kernel
theorem dX6_join_5 : decode prog_8_method_17_code 5 = .ok (.invokevirtual 139, 3) := by decide +kernel
theorem dX6_join_8 : decode prog_8_method_17_code 8 = .ok (.aload_n 0, 1) := by decide +kernel
theorem dX6_join_9 : decode prog_8_method_17_code 9 = .ok (.getfield 23, 3) := by decide +kernel
theorem dX6_join_12 : decode prog_8_method_17_code 12 = .ok (.iload_n 1, 1) := by decide +kernel
theorem dX6_join_13 : decode prog_8_method_17_code 13 = .ok (.iconst 0, 1) := by decide +kernel
theorem dX6_join_14 : decode prog_8_method_17_code 14 = .ok (.iconst 0, 1) := by decide +kernel
theorem dX6_join_15 : decode prog_8_method_17_code 15 = .ok (.iconst 0, 1) := by decide +kernel
theorem dX6_join_16 : decode prog_8_method_17_code 16 = .ok (.invokevirtual 71, 3) := by decide +kernel
theorem dX6_join_19 : decode prog_8_method_17_code 19 = .ok (.pop, 1) := by decide +kernel
theorem dX6_join_20 : decode prog_8_method_17_code 20 = .ok (.aload_n 0, 1) := by decide +kernel
theorem dX6_join_21 : decode prog_8_method_17_code 21 = .ok (.getfield 26, 3) := by decide +kernel
theorem dX6_join_24 : decode prog_8_method_17_code 24 = .ok (.invokevirtual 75, 3) := by decide +kernel
theorem dX6_join_27 : decode prog_8_method_17_code 27 = .ok (.return_, 1) := by decide +kernel
theorem dX6_dropDownTo_0 : decode prog_8_method_18_code 0 = .ok (.aload_n 0, 1) := by decide +kernel
theorem dX6_dropDownTo_1 : decode prog_8_method_18_code 1 = .ok (.getfield 23, 3) := by decide +kernel
theorem dX6_dropDownTo_4 : decode prog_8_method_18_code 4 = .ok (.getfield 37, 3) := by decide +kernel
theorem dX6_dropDownTo_7 : decode prog_8_method_18_code 7 = .ok (.iconst 1, 1) := by decide +kernel
theorem dX6_dropDownTo_8 : decode prog_8_method_18_code 8 = .ok (.isub, 1) := by decide +kernel
theorem dX6_dropDownTo_9 : decode prog_8_method_18_code 9 = .ok (.istore_n 2, 1) := by decide +kernel
theorem dX6_dropDownTo_10 : decode prog_8_method_18_code 10 = .ok (.iload_n 2, 1) := by decide +kernel
theorem dX6_dropDownTo_11 : decode prog_8_method_18_code 11 = .ok (.ifCond .lt 74, 3) := by decide +kernel
theorem dX6_dropDownTo_14 : decode prog_8_method_18_code 14 = .ok (.aload_n 0, 1) := by decide +kernel
theorem dX6_dropDownTo_15 : decode prog_8_method_18_code 15 = .ok (.getfield 23, 3) := by decide +kernel
theorem dX6_dropDownTo_18 : decode prog_8_method_18_code 18 = .ok (.iload_n 2, 1) := by decide +kernel
theorem dX6_dropDownTo_19 : decode prog_8_method_18_code 19 = .ok (.iconst 0, 1) := by decide +kernel
theorem dX6_dropDownTo_20 : decode prog_8_method_18_code 20 = .ok (.invokevirtual 91, 3) := by decide +kernel
theorem dX6_dropDownTo_23 : decode prog_8_method_18_code 23 = .ok (.istore_n 3, 1) := by decide +kernel
theorem dX6_dropDownTo_24 : decode prog_8_method_18_code 24 = .ok (.iload_n 3, 1) := by decide +kernel
theorem dX6_dropDownTo_25 : decode prog_8_method_18_code 25 = .ok (.bipush 12, 2) := by decide +kernel
theorem dX6_dropDownTo_27 : decode prog_8_method_18_code 27 = .ok (.if_icmp .eq 11, 3) := by decide +kernel
theorem dX6_dropDownTo_30 : decode prog_8_method_18_code 30 = .ok (.iload_n 3, 1) := by decide +kernel
theorem dX6_dropDownTo_31 : decode prog_8_method_18_code 31 = .ok (.invokestatic 150, 3) := by decide +kernel
theorem dX6_dropDownTo_34 : decode prog_8_method_18_code 34 = .ok (.iload_n 1, 1) := by decide +kernel
theorem dX6_dropDownTo_35 : decode prog_8_method_18_code 35 = .ok (.if_icmp .ge 4, 3) := by decide +kernel
theorem dX6_dropDownTo_38 : decode prog_8_method_18_code 38 = .ok (.return_, 1) := by decide +kernel
theorem dX6_dropDownTo_39 : decode prog_8_method_18_code 39 = .ok (.aload_n 0, 1) := by decide +kernel
theorem dX6_dropDownTo_40 : decode prog_8_method_18_code 40 = .ok (.getfield 20, 3) := by decide +kernel
theorem dX6_dropDownTo_43 : decode prog_8_method_18_code 43 = .ok (.iload_n 3, 1) := by decide +kernel
theorem dX6_dropDownTo_44 : decode prog_8_method_18_code 44 = .ok (.iconst 0, 1) := by decide +kernel
theorem dX6_dropDownTo_45 : decode prog_8_method_18_code 45 = .ok (.iconst 0, 1) := by decide +kernel
theorem dX6_dropDownTo_46 : decode prog_8_method_18_code 46 = .ok (.iconst 0, 1) := by decide +kernel
theorem dX6_dropDownTo_47 : decode prog_8_method_18_code 47 = .ok (.invokevirtual 71, 3) := by decide +kernel
theorem dX6_dropDownTo_50 : decode prog_8_method_18_code 50 = .ok (.pop, 1) := by decide +kernel
theorem dX6_dropDownTo_51 : decode prog_8_method_18_code 51 = .ok (.aload_n 0, 1) := by decide +kernel
theorem dX6_dropDownTo_52 : decode prog_8_method_18_code 52 = .ok (.getfield 23, 3) := by decide +kernel
theorem dX6_dropDownTo_55 : decode prog_8_method_18_code 55 = .ok (.iload_n 2, 1) := by decide +kernel
theorem dX6_dropDownTo_56 : decode prog_8_method_18_code 56 = .ok (.putfield 37, 3) := by decide +kernel
theorem dX6_dropDownTo_59 : decode prog_8_method_18_code 59 = .ok (.aload_n 0, 1) := by decide +kernel
theorem dX6_dropDownTo_60 : decode prog_8_method_18_code 60 = .ok (.dup, 1) := by decide +kernel
theorem dX6_dropDownTo_61 : decode prog_8_method_18_code 61 = .ok (.getfield 104, 3) := by decide +kernel
theorem dX6_dropDownTo_64 : decode prog_8_method_18_code 64 = .ok (.iload_n 3, 1) := by decide +kernel
theorem dX6_dropDownTo_65 : decode prog_8_method_18_code 65 = .ok (.bipush 9, 2) := by decide +kernel
theorem dX6_dropDownTo_67 : decode prog_8_method_18_code 67 = .ok (.if_icmp .ne 7, 3) := by decide +kernel
theorem dX6_dropDownTo_70 : decode prog_8_method_18_code 70 = .ok (.iconst 1, 1) := by decide +kernel
theorem dX6_dropDownTo_71 : decode prog_8_method_18_code 71 = .ok (.goto 4, 3) := by decide +kernel
theorem dX6_dropDownTo_74 : decode prog_8_method_18_code 74 = .ok (.iconst 0, 1) := by decide +kernel
theorem dX6_dropDownTo_75 : decode prog_8_method_18_code 75 = .ok (.isub, 1) := by decide +kernel
theorem dX6_dropDownTo_76 : decode prog_8_method_18_code 76 = .ok (.putfield 104, 3) := by decide +kernel
theorem dX6_dropDownTo_79 : decode prog_8_method_18_code 79 = .ok (.iinc 2 (-1), 3) := by decide +kernel
theorem dX6_dropDownTo_82 : decode prog_8_method_18_code 82 = .ok (.goto (-72), 3) := by decide +kernel
theorem dX6_dropDownTo_85 : decode prog_8_method_18_code 85 = .ok (.return_, 1) := by decide +kernel
theorem dX6_strength_0 : decode prog_8_method_19_code 0 = .ok (.iload_n 0, 1) := by decide +kernel
theorem dX6_strength_1 : decode prog_8_method_19_code 1 = .ok (.tableswitch 62 2 10 #[51, 51, 54, 54, 56, 56, 56, 58, 60], 51) := by decide +kernel
theorem dX6_strength_52 : decode prog_8_method_19_code 52 = .ok (.bipush 6, 2) := by decide +kernel
theorem dX6_strength_54 : decode prog_8_method_19_code 54 = .ok (.ireturn, 1) := by decide +kernel
theorem dX6_strength_55 : decode prog_8_method_19_code 55 = .ok (.iconst 5, 1) := by decide +kernel
theorem dX6_strength_56 : decode prog_8_method_19_code 56 = .ok (.ireturn, 1) := by decide +kernel
theorem dX6_strength_57 : decode prog_8_method_19_code 57 = .ok (.iconst 4, 1) := by decide +kernel
theorem dX6_strength_58 : decode prog_8_method_19_code 58 = .ok (.ireturn, 1) := by decide +kernel
theorem dX6_strength_59 : decode prog_8_method_19_code 59 = .ok (.iconst 3, 1) := by decide +kernel
theorem dX6_strength_60 : decode prog_8_method_19_code 60 = .ok (.ireturn, 1) := by decide +kernel
theorem dX6_strength_61 : decode prog_8_method_19_code 61 = .ok (.iconst 2, 1) := by decide +kernel
theorem dX6_strength_62 : decode prog_8_method_19_code 62 = .ok (.ireturn, 1) := by decide +kernel
theorem dX6_strength_63 : decode prog_8_method_19_code 63 = .ok (.iconst 1, 1) := by decide +kernel
theorem dX6_strength_64 : decode prog_8_method_19_code 64 = .ok (.ireturn, 1) := by decide +kernel
theorem dX6_opOf_0 : decode prog_8_method_20_code 0 = .ok (.iload_n 0, 1) := by decide +kernel
theorem dX6_opOf_1 : decode prog_8_method_20_code 1 = .ok (.lookupswitch 106 #[(42, 83), (43, 87), (45, 89), (47, 85), (60, 91), (61, 94), (62, 97), (260, 103), (261, 100)], 83) := by decide +kernel
theorem dX6_opOf_84 : decode prog_8_method_20_code 84 = .ok (.iconst 2, 1) := by decide +kernel
theorem dX6_opOf_85 : decode prog_8_method_20_code 85 = .ok (.ireturn, 1) := by decide +kernel
theorem dX6_opOf_86 : decode prog_8_method_20_code 86 = .ok (.iconst 3, 1) := by decide +kernel
theorem dX6_opOf_87 : decode prog_8_method_20_code 87 = .ok (.ireturn, 1) := by decide +kernel
theorem dX6_opOf_88 : decode prog_8_method_20_code 88 = .ok (.iconst 4, 1) := by decide +kernel
theorem dX6_opOf_89 : decode prog_8_method_20_code 89 = .ok (.ireturn, 1) := by decide +kernel
theorem dX6_opOf_90 : decode prog_8_method_20_code 90 = .ok (.iconst 5, 1) := by decide +kernel
theorem dX6_opOf_91 : decode prog_8_method_20_code 91 = .ok (.ireturn, 1) := by decide +kernel
theorem dX6_opOf_92 : decode prog_8_method_20_code 92 = .ok (.bipush 6, 2) := by decide +kernel
theorem dX6_opOf_94 : decode prog_8_method_20_code 94 = .ok (.ireturn, 1) := by decide +kernel
theorem dX6_opOf_95 : decode prog_8_method_20_code 95 = .ok (.bipush 7, 2) := by decide +kernel
theorem dX6_opOf_97 : decode prog_8_method_20_code 97 = .ok (.ireturn, 1) := by decide +kernel
theorem dX6_opOf_98 : decode prog_8_method_20_code 98 = .ok (.bipush 8, 2) := by decide +kernel
theorem dX6_opOf_100 : decode prog_8_method_20_code 100 = .ok (.ireturn, 1) := by decide +kernel
theorem dX6_opOf_101 : decode prog_8_method_20_code 101 = .ok (.bipush 10, 2) := by decide +kernel
theorem dX6_opOf_103 : decode prog_8_method_20_code 103 = .ok (.ireturn, 1) := by decide +kernel
theorem dX6_opOf_104 : decode prog_8_method_20_code 104 = .ok (.bipush 11, 2) := by decide +kernel
theorem dX6_opOf_106 : decode prog_8_method_20_code 106 = .ok (.ireturn, 1) := by decide +kernel
theorem dX6_opOf_107 : decode prog_8_method_20_code 107 = .ok (.iconst (-1), 1) := by decide +kernel
theorem dX6_opOf_108 : decode prog_8_method_20_code 108 = .ok (.ireturn, 1) := by decide +kernel
theorem dX7_init_0 : decode prog_9_method_1_code 0 = .ok (.aload_n 0, 1) := by decide +kernel
theorem dX7_init_1 : decode prog_9_method_1_code 1 = .ok (.invokespecial 3, 3) := by decide +kernel
theorem dX7_init_4 : decode prog_9_method_1_code 4 = .ok (.aload_n 0, 1) := by decide +kernel
theorem dX7_init_5 : decode prog_9_method_1_code 5 = .ok (.aload_n 1, 1) := by decide +kernel
theorem dX7_init_6 : decode prog_9_method_1_code 6 = .ok (.putfield 9, 3) := by decide +kernel
theorem dX7_init_9 : decode prog_9_method_1_code 9 = .ok (.return_, 1) := by decide +kernel
theorem dX8_init_0 : decode prog_10_method_1_code 0 = .ok (.aload_n 0, 1) := by decide +kernel
theorem dX8_init_1 : decode prog_10_method_1_code 1 = .ok (.invokespecial 3, 3) := by decide +kernel
theorem dX8_init_4 : decode prog_10_method_1_code 4 = .ok (.aload_n 0, 1) := by decide +kernel
theorem dX8_init_5 : decode prog_10_method_1_code 5 = .ok (.bipush 12, 2) := by decide +kernel
theorem dX8_init_7 : decode prog_10_method_1_code 7 = .ok (.newarray .int, 2) := by decide +kernel
theorem dX8_init_9 : decode prog_10_method_1_code 9 = .ok (.putfield 9, 3) := by decide +kernel
theorem dX8_init_12 : decode prog_10_method_1_code 12 = .ok (.aload_n 0, 1) := by decide +kernel
theorem dX8_init_13 : decode prog_10_method_1_code 13 = .ok (.bipush 12, 2) := by decide +kernel
theorem dX8_init_15 : decode prog_10_method_1_code 15 = .ok (.newarray .int, 2) := by decide +kernel
theorem dX8_init_17 : decode prog_10_method_1_code 17 = .ok (.putfield 15, 3) := by decide +kernel
theorem dX8_init_20 : decode prog_10_method_1_code 20 = .ok (.aload_n 0, 1) := by decide +kernel
theorem dX8_init_21 : decode prog_10_method_1_code 21 = .ok (.aload_n 1, 1) := by decide +kernel
theorem dX8_init_22 : decode prog_10_method_1_code 22 = .ok (.putfield 18, 3) := by decide +kernel
theorem dX8_init_25 : decode prog_10_method_1_code 25 = .ok (.aload_n 0, 1) := by decide +kernel
theorem dX8_init_26 : decode prog_10_method_1_code 26 = .ok (.aload_n 2, 1) := by decide +kernel
theorem dX8_init_27 : decode prog_10_method_1_code 27 = .ok (.putfield 22, 3) := by decide +kernel
theorem dX8_init_30 : decode prog_10_method_1_code 30 = .ok (.return_, 1) := by decide +kernel
theorem dX8_spendEvening_0 : decode prog_10_method_2_code 0 = .ok (.aload_n 0, 1) := by decide +kernel
theorem dX8_spendEvening_1 : decode prog_10_method_2_code 1 = .ok (.getfield 18, 3) := by decide +kernel
theorem dX8_spendEvening_4 : decode prog_10_method_2_code 4 = .ok (.iconst 0, 1) := by decide +kernel
theorem dX8_spendEvening_5 : decode prog_10_method_2_code 5 = .ok (.iconst 0, 1) := by decide +kernel
theorem dX8_spendEvening_6 : decode prog_10_method_2_code 6 = .ok (.invokevirtual 26, 3) := by decide +kernel
theorem dX8_spendEvening_9 : decode prog_10_method_2_code 9 = .ok (.aload_n 0, 1) := by decide +kernel
theorem dX8_spendEvening_10 : decode prog_10_method_2_code 10 = .ok (.getfield 18, 3) := by decide +kernel
theorem dX8_spendEvening_13 : decode prog_10_method_2_code 13 = .ok (.iconst 4, 1) := by decide +kernel
theorem dX8_spendEvening_14 : decode prog_10_method_2_code 14 = .ok (.iconst (-1), 1) := by decide +kernel
theorem dX8_spendEvening_15 : decode prog_10_method_2_code 15 = .ok (.invokevirtual 26, 3) := by decide +kernel
theorem dX8_spendEvening_18 : decode prog_10_method_2_code 18 = .ok (.aload_n 0, 1) := by decide +kernel
theorem dX8_spendEvening_19 : decode prog_10_method_2_code 19 = .ok (.getfield 18, 3) := by decide +kernel
theorem dX8_spendEvening_22 : decode prog_10_method_2_code 22 = .ok (.iconst 5, 1) := by decide +kernel
theorem dX8_spendEvening_23 : decode prog_10_method_2_code 23 = .ok (.iconst 0, 1) := by decide +kernel
theorem dX8_spendEvening_24 : decode prog_10_method_2_code 24 = .ok (.invokevirtual 26, 3) := by decide +kernel
theorem dX8_spendEvening_27 : decode prog_10_method_2_code 27 = .ok (.iconst 0, 1) := by decide +kernel
theorem dX8_spendEvening_28 : decode prog_10_method_2_code 28 = .ok (.istore_n 1, 1) := by decide +kernel
theorem dX8_spendEvening_29 : decode prog_10_method_2_code 29 = .ok (.iconst 0, 1) := by decide +kernel
theorem dX8_spendEvening_30 : decode prog_10_method_2_code 30 = .ok (.istore_n 2, 1) := by decide +kernel
theorem dX8_spendEvening_31 : decode prog_10_method_2_code 31 = .ok (.iload_n 2, 1) := by decide +kernel
theorem dX8_spendEvening_32 : decode prog_10_method_2_code 32 = .ok (.aload_n 0, 1) := by decide +kernel
theorem dX8_spendEvening_33 : decode prog_10_method_2_code 33 = .ok (.getfield 18, 3) := by decide +kernel
theorem dX8_spendEvening_36 : decode prog_10_method_2_code 36 = .ok (.getfield 32, 3) := by decide +kernel
theorem dX8_spendEvening_39 : decode prog_10_method_2_code 39 = .ok (.getfield 36, 3) := by decide +kernel
theorem dX8_spendEvening_42 : decode prog_10_method_2_code 42 = .ok (.if_icmp .ge 77, 3) := by decide +kernel
theorem dX8_spendEvening_45 : decode prog_10_method_2_code 45 = .ok (.aload_n 0, 1) := by decide +kernel
theorem dX8_spendEvening_46 : decode prog_10_method_2_code 46 = .ok (.getfield 18, 3) := by decide +kernel
theorem dX8_spendEvening_49 : decode prog_10_method_2_code 49 = .ok (.iconst 0, 1) := by decide +kernel
theorem dX8_spendEvening_50 : decode prog_10_method_2_code 50 = .ok (.aload_n 0, 1) := by decide +kernel
theorem dX8_spendEvening_51 : decode prog_10_method_2_code 51 = .ok (.getfield 18, 3) := by decide +kernel
theorem dX8_spendEvening_54 : decode prog_10_method_2_code 54 = .ok (.iconst 0, 1) := by decide +kernel
theorem dX8_spendEvening_55 : decode prog_10_method_2_code 55 = .ok (.invokevirtual 42, 3) := by decide +kernel
theorem dX8_spendEvening_58 : decode prog_10_method_2_code 58 = .ok (.aload_n 0, 1) := by decide +kernel
theorem dX8_spendEvening_59 : decode prog_10_method_2_code 59 = .ok (.getfield 18, 3) := by decide +kernel
theorem dX8_spendEvening_62 : decode prog_10_method_2_code 62 = .ok (.getfield 32, 3) := by decide +kernel
theorem dX8_spendEvening_65 : decode prog_10_method_2_code 65 = .ok (.iload_n 2, 1) := by decide +kernel
theorem dX8_spendEvening_66 : decode prog_10_method_2_code 66 = .ok (.iconst 1, 1) := by decide +kernel
theorem dX8_spendEvening_67 : decode prog_10_method_2_code 67 = .ok (.invokevirtual 46, 3) := by decide +kernel
theorem dX8_spendEvening_70 : decode prog_10_method_2_code 70 = .ok (.invokestatic 50, 3) := by decide +kernel
theorem dX8_spendEvening_73 : decode prog_10_method_2_code 73 = .ok (.invokevirtual 26, 3) := by decide +kernel
theorem dX8_spendEvening_76 : decode prog_10_method_2_code 76 = .ok (.aload_n 0, 1) := by decide +kernel
theorem dX8_spendEvening_77 : decode prog_10_method_2_code 77 = .ok (.getfield 18, 3) := by decide +kernel
theorem dX8_spendEvening_80 : decode prog_10_method_2_code 80 = .ok (.iconst 0, 1) := by decide +kernel
theorem dX8_spendEvening_81 : decode prog_10_method_2_code 81 = .ok (.invokevirtual 42, 3) := by decide +kernel
theorem dX8_spendEvening_84 : decode prog_10_method_2_code 84 = .ok (.aload_n 0, 1) := by decide +kernel
theorem dX8_spendEvening_85 : decode prog_10_method_2_code 85 = .ok (.getfield 18, 3) := by decide +kernel
theorem dX8_spendEvening_88 : decode prog_10_method_2_code 88 = .ok (.invokevirtual 55, 3) := by decide +kernel
theorem dX8_spendEvening_91 : decode prog_10_method_2_code 91 = .ok (.if_icmp .ge 22, 3) := by decide +kernel
theorem dX8_spendEvening_94 : decode prog_10_method_2_code 94 = .ok (.iload_n 1, 1) := by decide +kernel
theorem dX8_spendEvening_95 : decode prog_10_method_2_code 95 = .ok (.aload_n 0, 1) := by decide +kernel
theorem dX8_spendEvening_96 : decode prog_10_method_2_code 96 = .ok (.aload_n 0, 1) := by decide +kernel
theorem dX8_spendEvening_97 : decode prog_10_method_2_code 97 = .ok (.getfield 18, 3) := by decide +kernel
theorem dX8_spendEvening_100 : decode prog_10_method_2_code 100 = .ok (.getfield 32, 3) := by decide +kernel
theorem dX8_spendEvening_103 : decode prog_10_method_2_code 103 = .ok (.iload_n 2, 1) := by decide +kernel
theorem dX8_spendEvening_104 : decode prog_10_method_2_code 104 = .ok (.iconst 2, 1) := by decide +kernel
theorem dX8_spendEvening_105 : decode prog_10_method_2_code 105 = .ok (.invokevirtual 46, 3) := by decide +kernel
theorem dX8_spendEvening_108 : decode prog_10_method_2_code 108 = .ok (.invokevirtual 59, 3) := by decide +kernel
theorem dX8_spendEvening_111 : decode prog_10_method_2_code 111 = .ok (.iadd, 1) := by decide +kernel
theorem dX8_spendEvening_112 : decode prog_10_method_2_code 112 = .ok (.istore_n 1, 1) := by decide +kernel
theorem dX8_spendEvening_113 : decode prog_10_method_2_code 113 = .ok (.iinc 2 1, 3) := by decide +kernel
theorem dX8_spendEvening_116 : decode prog_10_method_2_code 116 = .ok (.goto (-85), 3) := by decide +kernel
theorem dX8_spendEvening_119 : decode prog_10_method_2_code 119 = .ok (.aload_n 0, 1) := by decide +kernel
theorem dX8_spendEvening_120 : decode prog_10_method_2_code 120 = .ok (.getfield 18, 3) := by decide +kernel
theorem dX8_spendEvening_123 : decode prog_10_method_2_code 123 = .ok (.iconst 1, 1) := by decide +kernel
theorem dX8_spendEvening_124 : decode prog_10_method_2_code 124 = .ok (.aload_n 0, 1) := by decide +kernel
theorem dX8_spendEvening_125 : decode prog_10_method_2_code 125 = .ok (.getfield 18, 3) := by decide +kernel
theorem dX8_spendEvening_128 : decode prog_10_method_2_code 128 = .ok (.iconst 1, 1) := by decide +kernel
theorem dX8_spendEvening_129 : decode prog_10_method_2_code 129 = .ok (.invokevirtual 42, 3) := by decide +kernel
theorem dX8_spendEvening_132 : decode prog_10_method_2_code 132 = .ok (.iconst 1, 1) := by decide +kernel
theorem dX8_spendEvening_133 : decode prog_10_method_2_code 133 = .ok (.iadd, 1) := by decide +kernel
theorem dX8_spendEvening_134 : decode prog_10_method_2_code 134 = .ok (.invokevirtual 26, 3) := by decide +kernel
theorem dX8_spendEvening_137 : decode prog_10_method_2_code 137 = .ok (.iload_n 1, 1) := by decide +kernel
theorem dX8_spendEvening_138 : decode prog_10_method_2_code 138 = .ok (.ireturn, 1) := by decide +kernel
theorem dX8_doWithAgains_0 : decode prog_10_method_3_code 0 = .ok (.iconst 0, 1) := by decide +kernel
theorem dX8_doWithAgains_1 : decode prog_10_method_3_code 1 = .ok (.istore_n 2, 1) := by decide +kernel
theorem dX8_doWithAgains_2 : decode prog_10_method_3_code 2 = .ok (.iconst 1, 1) := by decide +kernel
theorem dX8_doWithAgains_3 : decode prog_10_method_3_code 3 = .ok (.istore_n 3, 1) := by decide +kernel
theorem dX8_doWithAgains_4 : decode prog_10_method_3_code 4 = .ok (.iconst 0, 1) := by decide +kernel
theorem dX8_doWithAgains_5 : decode prog_10_method_3_code 5 = .ok (.istore 4, 2) := by decide +kernel
theorem dX8_doWithAgains_7 : decode prog_10_method_3_code 7 = .ok (.iload 4, 2) := by decide +kernel
theorem dX8_doWithAgains_9 : decode prog_10_method_3_code 9 = .ok (.bipush 20, 2) := by decide +kernel
theorem dX8_doWithAgains_11 : decode prog_10_method_3_code 11 = .ok (.if_icmp .gt 94, 3) := by decide +kernel
theorem dX8_doWithAgains_14 : decode prog_10_method_3_code 14 = .ok (.iload_n 3, 1) := by decide +kernel
theorem dX8_doWithAgains_15 : decode prog_10_method_3_code 15 = .ok (.ifCond .eq 90, 3) := by decide +kernel
theorem dX8_doWithAgains_18 : decode prog_10_method_3_code 18 = .ok (.aload_n 0, 1) := by decide +kernel
theorem dX8_doWithAgains_19 : decode prog_10_method_3_code 19 = .ok (.iload_n 1, 1) := by decide +kernel
theorem dX8_doWithAgains_20 : decode prog_10_method_3_code 20 = .ok (.invokevirtual 62, 3) := by decide +kernel
theorem dX8_doWithAgains_23 : decode prog_10_method_3_code 23 = .ok (.aload_n 0, 1) := by decide +kernel
theorem dX8_doWithAgains_24 : decode prog_10_method_3_code 24 = .ok (.invokevirtual 66, 3) := by decide +kernel
theorem dX8_doWithAgains_27 : decode prog_10_method_3_code 27 = .ok (.aload_n 0, 1) := by decide +kernel
theorem dX8_doWithAgains_28 : decode prog_10_method_3_code 28 = .ok (.iload_n 1, 1) := by decide +kernel
theorem dX8_doWithAgains_29 : decode prog_10_method_3_code 29 = .ok (.invokevirtual 69, 3) := by decide +kernel
theorem dX8_doWithAgains_32 : decode prog_10_method_3_code 32 = .ok (.aload_n 0, 1) := by decide +kernel
theorem dX8_doWithAgains_33 : decode prog_10_method_3_code 33 = .ok (.invokevirtual 72, 3) := by decide +kernel
theorem dX8_doWithAgains_36 : decode prog_10_method_3_code 36 = .ok (.istore 5, 2) := by decide +kernel
theorem dX8_doWithAgains_38 : decode prog_10_method_3_code 38 = .ok (.iload 5, 2) := by decide +kernel
theorem dX8_doWithAgains_40 : decode prog_10_method_3_code 40 = .ok (.ifCond .eq 7, 3) := by decide +kernel
theorem dX8_doWithAgains_43 : decode prog_10_method_3_code 43 = .ok (.iconst 0, 1) := by decide +kernel
theorem dX8_doWithAgains_44 : decode prog_10_method_3_code 44 = .ok (.goto 8, 3) := by decide +kernel
theorem dX8_doWithAgains_47 : decode prog_10_method_3_code 47 = .ok (.aload_n 0, 1) := by decide +kernel
theorem dX8_doWithAgains_48 : decode prog_10_method_3_code 48 = .ok (.iload_n 1, 1) := by decide +kernel
theorem dX8_doWithAgains_49 : decode prog_10_method_3_code 49 = .ok (.invokevirtual 76, 3) := by decide +kernel
theorem dX8_doWithAgains_52 : decode prog_10_method_3_code 52 = .ok (.istore 6, 2) := by decide +kernel
theorem dX8_doWithAgains_54 : decode prog_10_method_3_code 54 = .ok (.aload_n 0, 1) := by decide +kernel
theorem dX8_doWithAgains_55 : decode prog_10_method_3_code 55 = .ok (.iload_n 1, 1) := by decide +kernel
theorem dX8_doWithAgains_56 : decode prog_10_method_3_code 56 = .ok (.iload 5, 2) := by decide +kernel
theorem dX8_doWithAgains_58 : decode prog_10_method_3_code 58 = .ok (.iload 6, 2) := by decide +kernel
theorem dX8_doWithAgains_60 : decode prog_10_method_3_code 60 = .ok (.invokevirtual 79, 3) := by decide +kernel
theorem dX8_doWithAgains_63 : decode prog_10_method_3_code 63 = .ok (.iinc 2 1, 3) := by decide +kernel
theorem dX8_doWithAgains_66 : decode prog_10_method_3_code 66 = .ok (.iload 5, 2) := by decide +kernel
theorem dX8_doWithAgains_68 : decode prog_10_method_3_code 68 = .ok (.ifCond .ne 29, 3) := by decide +kernel
theorem dX8_doWithAgains_71 : decode prog_10_method_3_code 71 = .ok (.iload 6, 2) := by decide +kernel
theorem dX8_doWithAgains_73 : decode prog_10_method_3_code 73 = .ok (.aload_n 0, 1) := by decide +kernel
theorem dX8_doWithAgains_74 : decode prog_10_method_3_code 74 = .ok (.getfield 18, 3) := by decide +kernel
theorem dX8_doWithAgains_77 : decode prog_10_method_3_code 77 = .ok (.invokevirtual 83, 3) := by decide +kernel
theorem dX8_doWithAgains_80 : decode prog_10_method_3_code 80 = .ok (.if_icmp .lt 17, 3) := by decide +kernel
theorem dX8_doWithAgains_83 : decode prog_10_method_3_code 83 = .ok (.aload_n 0, 1) := by decide +kernel
theorem dX8_doWithAgains_84 : decode prog_10_method_3_code 84 = .ok (.getfield 18, 3) := by decide +kernel
theorem dX8_doWithAgains_87 : decode prog_10_method_3_code 87 = .ok (.invokevirtual 86, 3) := by decide +kernel
theorem dX8_doWithAgains_90 : decode prog_10_method_3_code 90 = .ok (.ifCond .eq 7, 3) := by decide +kernel
theorem dX8_doWithAgains_93 : decode prog_10_method_3_code 93 = .ok (.iconst 1, 1) := by decide +kernel
theorem dX8_doWithAgains_94 : decode prog_10_method_3_code 94 = .ok (.goto 4, 3) := by decide +kernel
theorem dX8_doWithAgains_97 : decode prog_10_method_3_code 97 = .ok (.iconst 0, 1) := by decide +kernel
theorem dX8_doWithAgains_98 : decode prog_10_method_3_code 98 = .ok (.istore_n 3, 1) := by decide +kernel
theorem dX8_doWithAgains_99 : decode prog_10_method_3_code 99 = .ok (.iinc 4 1, 3) := by decide +kernel
theorem dX8_doWithAgains_102 : decode prog_10_method_3_code 102 = .ok (.goto (-95), 3) := by decide +kernel
theorem dX8_doWithAgains_105 : decode prog_10_method_3_code 105 = .ok (.iload_n 2, 1) := by decide +kernel
theorem dX8_doWithAgains_106 : decode prog_10_method_3_code 106 = .ok (.ireturn, 1) := by decide +kernel
theorem dX8_begin_0 : decode prog_10_method_4_code 0 = .ok (.aload_n 0, 1) := by decide +kernel
theorem dX8_begin_1 : decode prog_10_method_4_code 1 = .ok (.getfield 18, 3) := by decide +kernel
theorem dX8_begin_4 : decode prog_10_method_4_code 4 = .ok (.iconst 5, 1) := by decide +kernel
theorem dX8_begin_5 : decode prog_10_method_4_code 5 = .ok (.aload_n 0, 1) := by decide +kernel
theorem dX8_begin_6 : decode prog_10_method_4_code 6 = .ok (.getfield 18, 3) := by decide +kernel
theorem dX8_begin_9 : decode prog_10_method_4_code 9 = .ok (.iconst 4, 1) := by decide +kernel
theorem dX8_begin_10 : decode prog_10_method_4_code 10 = .ok (.invokevirtual 42, 3) := by decide +kernel
theorem dX8_begin_13 : decode prog_10_method_4_code 13 = .ok (.iload_n 1, 1) := by decide +kernel
theorem dX8_begin_14 : decode prog_10_method_4_code 14 = .ok (.if_icmp .ne 16, 3) := by decide +kernel
theorem dX8_begin_17 : decode prog_10_method_4_code 17 = .ok (.aload_n 0, 1) := by decide +kernel
theorem dX8_begin_18 : decode prog_10_method_4_code 18 = .ok (.getfield 18, 3) := by decide +kernel
theorem dX8_begin_21 : decode prog_10_method_4_code 21 = .ok (.iconst 5, 1) := by decide +kernel
theorem dX8_begin_22 : decode prog_10_method_4_code 22 = .ok (.invokevirtual 42, 3) := by decide +kernel
theorem dX8_begin_25 : decode prog_10_method_4_code 25 = .ok (.iconst 1, 1) := by decide +kernel
theorem dX8_begin_26 : decode prog_10_method_4_code 26 = .ok (.iadd, 1) := by decide +kernel
theorem dX8_begin_27 : decode prog_10_method_4_code 27 = .ok (.goto 4, 3) := by decide +kernel
theorem dX8_begin_30 : decode prog_10_method_4_code 30 = .ok (.iconst 0, 1) := by decide +kernel
theorem dX8_begin_31 : decode prog_10_method_4_code 31 = .ok (.invokevirtual 26, 3) := by decide +kernel
theorem dX8_begin_34 : decode prog_10_method_4_code 34 = .ok (.aload_n 0, 1) := by decide +kernel
theorem dX8_begin_35 : decode prog_10_method_4_code 35 = .ok (.getfield 22, 3) := by decide +kernel
theorem dX8_begin_38 : decode prog_10_method_4_code 38 = .ok (.sipush 258, 3) := by decide +kernel
theorem dX8_begin_41 : decode prog_10_method_4_code 41 = .ok (.iload_n 1, 1) := by decide +kernel
theorem dX8_begin_42 : decode prog_10_method_4_code 42 = .ok (.invokevirtual 89, 3) := by decide +kernel
theorem dX8_begin_45 : decode prog_10_method_4_code 45 = .ok (.istore_n 2, 1) := by decide +kernel
theorem dX8_begin_46 : decode prog_10_method_4_code 46 = .ok (.aload_n 0, 1) := by decide +kernel
theorem dX8_begin_47 : decode prog_10_method_4_code 47 = .ok (.getfield 18, 3) := by decide +kernel
theorem dX8_begin_50 : decode prog_10_method_4_code 50 = .ok (.iconst 4, 1) := by decide +kernel
theorem dX8_begin_51 : decode prog_10_method_4_code 51 = .ok (.iload_n 1, 1) := by decide +kernel
theorem dX8_begin_52 : decode prog_10_method_4_code 52 = .ok (.invokevirtual 26, 3) := by decide +kernel
theorem dX8_begin_55 : decode prog_10_method_4_code 55 = .ok (.aload_n 0, 1) := by decide +kernel
theorem dX8_begin_56 : decode prog_10_method_4_code 56 = .ok (.getfield 18, 3) := by decide +kernel
theorem dX8_begin_59 : decode prog_10_method_4_code 59 = .ok (.iconst 0, 1) := by decide +kernel
theorem dX8_begin_60 : decode prog_10_method_4_code 60 = .ok (.aload_n 0, 1) := by decide +kernel
theorem dX8_begin_61 : decode prog_10_method_4_code 61 = .ok (.getfield 18, 3) := by decide +kernel
theorem dX8_begin_64 : decode prog_10_method_4_code 64 = .ok (.iconst 0, 1) := by decide +kernel
theorem dX8_begin_65 : decode prog_10_method_4_code 65 = .ok (.invokevirtual 42, 3) := by decide +kernel
theorem dX8_begin_68 : decode prog_10_method_4_code 68 = .ok (.aload_n 0, 1) := by decide +kernel
theorem dX8_begin_69 : decode prog_10_method_4_code 69 = .ok (.getfield 18, 3) := by decide +kernel
theorem dX8_begin_72 : decode prog_10_method_4_code 72 = .ok (.getfield 94, 3) := by decide +kernel
theorem dX8_begin_75 : decode prog_10_method_4_code 75 = .ok (.iload_n 1, 1) := by decide +kernel
theorem dX8_begin_76 : decode prog_10_method_4_code 76 = .ok (.iconst 1, 1) := by decide +kernel
theorem dX8_begin_77 : decode prog_10_method_4_code 77 = .ok (.invokevirtual 46, 3) := by decide +kernel
theorem dX8_begin_80 : decode prog_10_method_4_code 80 = .ok (.iadd, 1) := by decide +kernel
theorem dX8_begin_81 : decode prog_10_method_4_code 81 = .ok (.invokevirtual 26, 3) := by decide +kernel
theorem dX8_begin_84 : decode prog_10_method_4_code 84 = .ok (.aload_n 0, 1) := by decide +kernel
theorem dX8_begin_85 : decode prog_10_method_4_code 85 = .ok (.getfield 18, 3) := by decide +kernel
theorem dX8_begin_88 : decode prog_10_method_4_code 88 = .ok (.iconst 2, 1) := by decide +kernel
theorem dX8_begin_89 : decode prog_10_method_4_code 89 = .ok (.aload_n 0, 1) := by decide +kernel
theorem dX8_begin_90 : decode prog_10_method_4_code 90 = .ok (.getfield 18, 3) := by decide +kernel
theorem dX8_begin_93 : decode prog_10_method_4_code 93 = .ok (.iconst 2, 1) := by decide +kernel
theorem dX8_begin_94 : decode prog_10_method_4_code 94 = .ok (.invokevirtual 42, 3) := by decide +kernel
theorem dX8_begin_97 : decode prog_10_method_4_code 97 = .ok (.aload_n 0, 1) := by decide +kernel
theorem dX8_begin_98 : decode prog_10_method_4_code 98 = .ok (.getfield 18, 3) := by decide +kernel
theorem dX8_begin_101 : decode prog_10_method_4_code 101 = .ok (.getfield 94, 3) := by decide +kernel
theorem dX8_begin_104 : decode prog_10_method_4_code 104 = .ok (.iload_n 1, 1) := by decide +kernel
theorem dX8_begin_105 : decode prog_10_method_4_code 105 = .ok (.iconst 2, 1) := by decide +kernel
theorem dX8_begin_106 : decode prog_10_method_4_code 106 = .ok (.invokevirtual 46, 3) := by decide +kernel
theorem dX8_begin_109 : decode prog_10_method_4_code 109 = .ok (.isub, 1) := by decide +kernel
theorem dX8_begin_110 : decode prog_10_method_4_code 110 = .ok (.invokevirtual 26, 3) := by decide +kernel
theorem dX8_begin_113 : decode prog_10_method_4_code 113 = .ok (.aload_n 0, 1) := by decide +kernel
theorem dX8_begin_114 : decode prog_10_method_4_code 114 = .ok (.getfield 18, 3) := by decide +kernel
theorem dX8_begin_117 : decode prog_10_method_4_code 117 = .ok (.getfield 94, 3) := by decide +kernel
theorem dX8_begin_120 : decode prog_10_method_4_code 120 = .ok (.iload_n 1, 1) := by decide +kernel
theorem dX8_begin_121 : decode prog_10_method_4_code 121 = .ok (.iconst 4, 1) := by decide +kernel
theorem dX8_begin_122 : decode prog_10_method_4_code 122 = .ok (.aload_n 0, 1) := by decide +kernel
theorem dX8_begin_123 : decode prog_10_method_4_code 123 = .ok (.getfield 18, 3) := by decide +kernel
theorem dX8_begin_126 : decode prog_10_method_4_code 126 = .ok (.getfield 94, 3) := by decide +kernel
theorem dX8_begin_129 : decode prog_10_method_4_code 129 = .ok (.iload_n 1, 1) := by decide +kernel
theorem dX8_begin_130 : decode prog_10_method_4_code 130 = .ok (.iconst 4, 1) := by decide +kernel
theorem dX8_begin_131 : decode prog_10_method_4_code 131 = .ok (.invokevirtual 46, 3) := by decide +kernel
theorem dX8_begin_134 : decode prog_10_method_4_code 134 = .ok (.iconst 1, 1) := by decide +kernel
theorem dX8_begin_135 : decode prog_10_method_4_code 135 = .ok (.iadd, 1) := by decide +kernel
theorem dX8_begin_136 : decode prog_10_method_4_code 136 = .ok (.invokevirtual 97, 3) := by decide +kernel
theorem dX8_begin_139 : decode prog_10_method_4_code 139 = .ok (.aload_n 0, 1) := by decide +kernel
theorem dX8_begin_140 : decode prog_10_method_4_code 140 = .ok (.getfield 18, 3) := by decide +kernel
theorem dX8_begin_143 : decode prog_10_method_4_code 143 = .ok (.getfield 94, 3) := by decide +kernel
theorem dX8_begin_146 : decode prog_10_method_4_code 146 = .ok (.iload_n 1, 1) := by decide +kernel
theorem dX8_begin_147 : decode prog_10_method_4_code 147 = .ok (.iconst 3, 1) := by decide +kernel
theorem dX8_begin_148 : decode prog_10_method_4_code 148 = .ok (.bipush 99, 2) := by decide +kernel
theorem dX8_begin_150 : decode prog_10_method_4_code 150 = .ok (.aload_n 0, 1) := by decide +kernel
theorem dX8_begin_151 : decode prog_10_method_4_code 151 = .ok (.getfield 18, 3) := by decide +kernel
theorem dX8_begin_154 : decode prog_10_method_4_code 154 = .ok (.getfield 94, 3) := by decide +kernel
theorem dX8_begin_157 : decode prog_10_method_4_code 157 = .ok (.iload_n 1, 1) := by decide +kernel
theorem dX8_begin_158 : decode prog_10_method_4_code 158 = .ok (.iconst 3, 1) := by decide +kernel
theorem dX8_begin_159 : decode prog_10_method_4_code 159 = .ok (.invokevirtual 46, 3) := by decide +kernel
theorem dX8_begin_162 : decode prog_10_method_4_code 162 = .ok (.iload_n 2, 1) := by decide +kernel
theorem dX8_begin_163 : decode prog_10_method_4_code 163 = .ok (.iadd, 1) := by decide +kernel
theorem dX8_begin_164 : decode prog_10_method_4_code 164 = .ok (.invokestatic 101, 3) := by decide +kernel
theorem dX8_begin_167 : decode prog_10_method_4_code 167 = .ok (.invokevirtual 97, 3) := by decide +kernel
theorem dX8_begin_170 : decode prog_10_method_4_code 170 = .ok (.return_, 1) := by decide +kernel
theorem dX8_draw_0 : decode prog_10_method_5_code 0 = .ok (.aload_n 0, 1) := by decide +kernel
theorem dX8_draw_1 : decode prog_10_method_5_code 1 = .ok (.getfield 18, 3) := by decide +kernel
theorem dX8_draw_4 : decode prog_10_method_5_code 4 = .ok (.bipush 6, 2) := by decide +kernel
theorem dX8_draw_6 : decode prog_10_method_5_code 6 = .ok (.invokevirtual 42, 3) := by decide +kernel
theorem dX8_draw_9 : decode prog_10_method_5_code 9 = .ok (.ldc 104, 2) := by decide +kernel
theorem dX8_draw_11 : decode prog_10_method_5_code 11 = .ok (.imul, 1) := by decide +kernel
theorem dX8_draw_12 : decode prog_10_method_5_code 12 = .ok (.ldc 105, 2) := by decide +kernel
theorem dX8_draw_14 : decode prog_10_method_5_code 14 = .ok (.iadd, 1) := by decide +kernel
theorem dX8_draw_15 : decode prog_10_method_5_code 15 = .ok (.istore_n 2, 1) := by decide +kernel
theorem dX8_draw_16 : decode prog_10_method_5_code 16 = .ok (.aload_n 0, 1) := by decide +kernel
theorem dX8_draw_17 : decode prog_10_method_5_code 17 = .ok (.getfield 18, 3) := by decide +kernel
theorem dX8_draw_20 : decode prog_10_method_5_code 20 = .ok (.bipush 6, 2) := by decide +kernel
theorem dX8_draw_22 : decode prog_10_method_5_code 22 = .ok (.iload_n 2, 1) := by decide +kernel
theorem dX8_draw_23 : decode prog_10_method_5_code 23 = .ok (.invokevirtual 26, 3) := by decide +kernel
theorem dX8_draw_26 : decode prog_10_method_5_code 26 = .ok (.iload_n 1, 1) := by decide +kernel
theorem dX8_draw_27 : decode prog_10_method_5_code 27 = .ok (.ifCond .le 12, 3) := by decide +kernel
theorem dX8_draw_30 : decode prog_10_method_5_code 30 = .ok (.iload_n 2, 1) := by decide +kernel
theorem dX8_draw_31 : decode prog_10_method_5_code 31 = .ok (.bipush 8, 2) := by decide +kernel
theorem dX8_draw_33 : decode prog_10_method_5_code 33 = .ok (.iushr, 1) := by decide +kernel
theorem dX8_draw_34 : decode prog_10_method_5_code 34 = .ok (.iload_n 1, 1) := by decide +kernel
theorem dX8_draw_35 : decode prog_10_method_5_code 35 = .ok (.irem, 1) := by decide +kernel
theorem dX8_draw_36 : decode prog_10_method_5_code 36 = .ok (.goto 4, 3) := by decide +kernel
theorem dX8_draw_39 : decode prog_10_method_5_code 39 = .ok (.iconst 0, 1) := by decide +kernel
theorem dX8_draw_40 : decode prog_10_method_5_code 40 = .ok (.ireturn, 1) := by decide +kernel
theorem dX8_drawEach_0 : decode prog_10_method_6_code 0 = .ok (.iconst 0, 1) := by decide +kernel
theorem dX8_drawEach_1 : decode prog_10_method_6_code 1 = .ok (.istore_n 1, 1) := by decide +kernel
theorem dX8_drawEach_2 : decode prog_10_method_6_code 2 = .ok (.iload_n 1, 1) := by decide +kernel
theorem dX8_drawEach_3 : decode prog_10_method_6_code 3 = .ok (.aload_n 0, 1) := by decide +kernel
theorem dX8_drawEach_4 : decode prog_10_method_6_code 4 = .ok (.getfield 18, 3) := by decide +kernel
theorem dX8_drawEach_7 : decode prog_10_method_6_code 7 = .ok (.getfield 106, 3) := by decide +kernel
theorem dX8_drawEach_10 : decode prog_10_method_6_code 10 = .ok (.getfield 36, 3) := by decide +kernel
theorem dX8_drawEach_13 : decode prog_10_method_6_code 13 = .ok (.if_icmp .ge 54, 3) := by decide +kernel
theorem dX8_drawEach_16 : decode prog_10_method_6_code 16 = .ok (.iload_n 1, 1) := by decide +kernel
theorem dX8_drawEach_17 : decode prog_10_method_6_code 17 = .ok (.aload_n 0, 1) := by decide +kernel
theorem dX8_drawEach_18 : decode prog_10_method_6_code 18 = .ok (.getfield 9, 3) := by decide +kernel
theorem dX8_drawEach_21 : decode prog_10_method_6_code 21 = .ok (.arraylength, 1) := by decide +kernel
theorem dX8_drawEach_22 : decode prog_10_method_6_code 22 = .ok (.if_icmp .ge 45, 3) := by decide +kernel
theorem dX8_drawEach_25 : decode prog_10_method_6_code 25 = .ok (.aload_n 0, 1) := by decide +kernel
theorem dX8_drawEach_26 : decode prog_10_method_6_code 26 = .ok (.getfield 109, 3) := by decide +kernel
theorem dX8_drawEach_29 : decode prog_10_method_6_code 29 = .ok (.ifCond .ne 38, 3) := by decide +kernel
theorem dX8_drawEach_32 : decode prog_10_method_6_code 32 = .ok (.aload_n 0, 1) := by decide +kernel
theorem dX8_drawEach_33 : decode prog_10_method_6_code 33 = .ok (.getfield 18, 3) := by decide +kernel
theorem dX8_drawEach_36 : decode prog_10_method_6_code 36 = .ok (.getfield 106, 3) := by decide +kernel
theorem dX8_drawEach_39 : decode prog_10_method_6_code 39 = .ok (.iload_n 1, 1) := by decide +kernel
theorem dX8_drawEach_40 : decode prog_10_method_6_code 40 = .ok (.iconst 3, 1) := by decide +kernel
theorem dX8_drawEach_41 : decode prog_10_method_6_code 41 = .ok (.invokevirtual 46, 3) := by decide +kernel
theorem dX8_drawEach_44 : decode prog_10_method_6_code 44 = .ok (.iconst 1, 1) := by decide +kernel
theorem dX8_drawEach_45 : decode prog_10_method_6_code 45 = .ok (.if_icmp .ne 16, 3) := by decide +kernel
theorem dX8_drawEach_48 : decode prog_10_method_6_code 48 = .ok (.aload_n 0, 1) := by decide +kernel
theorem dX8_drawEach_49 : decode prog_10_method_6_code 49 = .ok (.getfield 9, 3) := by decide +kernel
theorem dX8_drawEach_52 : decode prog_10_method_6_code 52 = .ok (.iload_n 1, 1) := by decide +kernel
theorem dX8_drawEach_53 : decode prog_10_method_6_code 53 = .ok (.aload_n 0, 1) := by decide +kernel
theorem dX8_drawEach_54 : decode prog_10_method_6_code 54 = .ok (.sipush 1000, 3) := by decide +kernel
theorem dX8_drawEach_57 : decode prog_10_method_6_code 57 = .ok (.invokevirtual 113, 3) := by decide +kernel
theorem dX8_drawEach_60 : decode prog_10_method_6_code 60 = .ok (.iastore, 1) := by decide +kernel
theorem dX8_drawEach_61 : decode prog_10_method_6_code 61 = .ok (.iinc 1 1, 3) := by decide +kernel
theorem dX8_drawEach_64 : decode prog_10_method_6_code 64 = .ok (.goto (-62), 3) := by decide +kernel
theorem dX8_drawEach_67 : decode prog_10_method_6_code 67 = .ok (.return_, 1) := by decide +kernel
theorem dX8_applaud_0 : decode prog_10_method_7_code 0 = .ok (.aload_n 0, 1) := by decide +kernel
theorem dX8_applaud_1 : decode prog_10_method_7_code 1 = .ok (.iconst 0, 1) := by decide +kernel
theorem dX8_applaud_2 : decode prog_10_method_7_code 2 = .ok (.putfield 116, 3) := by decide +kernel
theorem dX8_applaud_5 : decode prog_10_method_7_code 5 = .ok (.aload_n 0, 1) := by decide +kernel
theorem dX8_applaud_6 : decode prog_10_method_7_code 6 = .ok (.iconst 0, 1) := by decide +kernel
theorem dX8_applaud_7 : decode prog_10_method_7_code 7 = .ok (.putfield 119, 3) := by decide +kernel
theorem dX8_applaud_10 : decode prog_10_method_7_code 10 = .ok (.iconst 0, 1) := by decide +kernel
theorem dX8_applaud_11 : decode prog_10_method_7_code 11 = .ok (.istore_n 2, 1) := by decide +kernel
theorem dX8_applaud_12 : decode prog_10_method_7_code 12 = .ok (.iload_n 2, 1) := by decide +kernel
theorem dX8_applaud_13 : decode prog_10_method_7_code 13 = .ok (.aload_n 0, 1) := by decide +kernel
theorem dX8_applaud_14 : decode prog_10_method_7_code 14 = .ok (.getfield 15, 3) := by decide +kernel
theorem dX8_applaud_17 : decode prog_10_method_7_code 17 = .ok (.arraylength, 1) := by decide +kernel
theorem dX8_applaud_18 : decode prog_10_method_7_code 18 = .ok (.if_icmp .ge 16, 3) := by decide +kernel
theorem dX8_applaud_21 : decode prog_10_method_7_code 21 = .ok (.aload_n 0, 1) := by decide +kernel
theorem dX8_applaud_22 : decode prog_10_method_7_code 22 = .ok (.getfield 15, 3) := by decide +kernel
theorem dX8_applaud_25 : decode prog_10_method_7_code 25 = .ok (.iload_n 2, 1) := by decide +kernel
theorem dX8_applaud_26 : decode prog_10_method_7_code 26 = .ok (.iconst (-1), 1) := by decide +kernel
theorem dX8_applaud_27 : decode prog_10_method_7_code 27 = .ok (.iastore, 1) := by decide +kernel
theorem dX8_applaud_28 : decode prog_10_method_7_code 28 = .ok (.iinc 2 1, 3) := by decide +kernel
theorem dX8_applaud_31 : decode prog_10_method_7_code 31 = .ok (.goto (-19), 3) := by decide +kernel
theorem dX8_applaud_34 : decode prog_10_method_7_code 34 = .ok (.aload_n 0, 1) := by decide +kernel
theorem dX8_applaud_35 : decode prog_10_method_7_code 35 = .ok (.getfield 18, 3) := by decide +kernel
theorem dX8_applaud_38 : decode prog_10_method_7_code 38 = .ok (.iconst 3, 1) := by decide +kernel
theorem dX8_applaud_39 : decode prog_10_method_7_code 39 = .ok (.invokevirtual 122, 3) := by decide +kernel
theorem dX8_applaud_42 : decode prog_10_method_7_code 42 = .ok (.aload_n 0, 1) := by decide +kernel
theorem dX8_applaud_43 : decode prog_10_method_7_code 43 = .ok (.getfield 18, 3) := by decide +kernel
theorem dX8_applaud_46 : decode prog_10_method_7_code 46 = .ok (.iconst 4, 1) := by decide +kernel
theorem dX8_applaud_47 : decode prog_10_method_7_code 47 = .ok (.invokevirtual 122, 3) := by decide +kernel
theorem dX8_applaud_50 : decode prog_10_method_7_code 50 = .ok (.iconst (-1), 1) := by decide +kernel
theorem dX8_applaud_51 : decode prog_10_method_7_code 51 = .ok (.ixor, 1) := by decide +kernel
theorem dX8_applaud_52 : decode prog_10_method_7_code 52 = .ok (.iand, 1) := by decide +kernel
theorem dX8_applaud_53 : decode prog_10_method_7_code 53 = .ok (.istore_n 2, 1) := by decide +kernel
theorem dX8_applaud_54 : decode prog_10_method_7_code 54 = .ok (.iconst 1, 1) := by decide +kernel
theorem dX8_applaud_55 : decode prog_10_method_7_code 55 = .ok (.istore_n 3, 1) := by decide +kernel
theorem dX8_applaud_56 : decode prog_10_method_7_code 56 = .ok (.iconst 0, 1) := by decide +kernel
theorem dX8_applaud_57 : decode prog_10_method_7_code 57 = .ok (.istore 4, 2) := by decide +kernel
theorem dX8_applaud_59 : decode prog_10_method_7_code 59 = .ok (.iload 4, 2) := by decide +kernel
theorem dX8_applaud_61 : decode prog_10_method_7_code 61 = .ok (.bipush 12, 2) := by decide +kernel
theorem dX8_applaud_63 : decode prog_10_method_7_code 63 = .ok (.if_icmp .gt 209, 3) := by decide +kernel
theorem dX8_applaud_66 : decode prog_10_method_7_code 66 = .ok (.iload_n 3, 1) := by decide +kernel
theorem dX8_applaud_67 : decode prog_10_method_7_code 67 = .ok (.ifCond .eq 205, 3) := by decide +kernel
theorem dX8_applaud_70 : decode prog_10_method_7_code 70 = .ok (.aload_n 0, 1) := by decide +kernel
theorem dX8_applaud_71 : decode prog_10_method_7_code 71 = .ok (.getfield 116, 3) := by decide +kernel
theorem dX8_applaud_74 : decode prog_10_method_7_code 74 = .ok (.istore 5, 2) := by decide +kernel
theorem dX8_applaud_76 : decode prog_10_method_7_code 76 = .ok (.iconst 0, 1) := by decide +kernel
theorem dX8_applaud_77 : decode prog_10_method_7_code 77 = .ok (.istore 6, 2) := by decide +kernel
theorem dX8_applaud_79 : decode prog_10_method_7_code 79 = .ok (.iload 6, 2) := by decide +kernel
theorem dX8_applaud_81 : decode prog_10_method_7_code 81 = .ok (.aload_n 0, 1) := by decide +kernel
theorem dX8_applaud_82 : decode prog_10_method_7_code 82 = .ok (.getfield 18, 3) := by decide +kernel
theorem dX8_applaud_85 : decode prog_10_method_7_code 85 = .ok (.getfield 106, 3) := by decide +kernel
theorem dX8_applaud_88 : decode prog_10_method_7_code 88 = .ok (.getfield 36, 3) := by decide +kernel
theorem dX8_applaud_91 : decode prog_10_method_7_code 91 = .ok (.if_icmp .ge 142, 3) := by decide +kernel
theorem dX8_applaud_94 : decode prog_10_method_7_code 94 = .ok (.iload 6, 2) := by decide +kernel
theorem dX8_applaud_96 : decode prog_10_method_7_code 96 = .ok (.aload_n 0, 1) := by decide +kernel
theorem dX8_applaud_97 : decode prog_10_method_7_code 97 = .ok (.getfield 9, 3) := by decide +kernel
theorem dX8_applaud_100 : decode prog_10_method_7_code 100 = .ok (.arraylength, 1) := by decide +kernel
theorem dX8_applaud_101 : decode prog_10_method_7_code 101 = .ok (.if_icmp .ge 132, 3) := by decide +kernel
theorem dX8_applaud_104 : decode prog_10_method_7_code 104 = .ok (.iload 6, 2) := by decide +kernel
theorem dX8_applaud_106 : decode prog_10_method_7_code 106 = .ok (.aload_n 0, 1) := by decide +kernel
theorem dX8_applaud_107 : decode prog_10_method_7_code 107 = .ok (.getfield 15, 3) := by decide +kernel
theorem dX8_applaud_110 : decode prog_10_method_7_code 110 = .ok (.arraylength, 1) := by decide +kernel
theorem dX8_applaud_111 : decode prog_10_method_7_code 111 = .ok (.if_icmp .ge 122, 3) := by decide +kernel
theorem dX8_applaud_114 : decode prog_10_method_7_code 114 = .ok (.iload 6, 2) := by decide +kernel
theorem dX8_applaud_116 : decode prog_10_method_7_code 116 = .ok (.iload_n 2, 1) := by decide +kernel
theorem dX8_applaud_117 : decode prog_10_method_7_code 117 = .ok (.aload_n 0, 1) := by decide +kernel
theorem dX8_applaud_118 : decode prog_10_method_7_code 118 = .ok (.getfield 116, 3) := by decide +kernel
theorem dX8_applaud_121 : decode prog_10_method_7_code 121 = .ok (.iconst (-1), 1) := by decide +kernel
theorem dX8_applaud_122 : decode prog_10_method_7_code 122 = .ok (.ixor, 1) := by decide +kernel
theorem dX8_applaud_123 : decode prog_10_method_7_code 123 = .ok (.iand, 1) := by decide +kernel
theorem dX8_applaud_124 : decode prog_10_method_7_code 124 = .ok (.invokestatic 125, 3) := by decide +kernel
theorem dX8_applaud_127 : decode prog_10_method_7_code 127 = .ok (.ifCond .eq 100, 3) := by decide +kernel
theorem dX8_applaud_130 : decode prog_10_method_7_code 130 = .ok (.aload_n 0, 1) := by decide +kernel
theorem dX8_applaud_131 : decode prog_10_method_7_code 131 = .ok (.getfield 18, 3) := by decide +kernel
theorem dX8_applaud_134 : decode prog_10_method_7_code 134 = .ok (.getfield 106, 3) := by decide +kernel
theorem dX8_applaud_137 : decode prog_10_method_7_code 137 = .ok (.iload 6, 2) := by decide +kernel
theorem dX8_applaud_139 : decode prog_10_method_7_code 139 = .ok (.bipush 6, 2) := by decide +kernel
theorem dX8_applaud_141 : decode prog_10_method_7_code 141 = .ok (.invokevirtual 46, 3) := by decide +kernel
theorem dX8_applaud_144 : decode prog_10_method_7_code 144 = .ok (.aload_n 0, 1) := by decide +kernel
theorem dX8_applaud_145 : decode prog_10_method_7_code 145 = .ok (.getfield 116, 3) := by decide +kernel
theorem dX8_applaud_148 : decode prog_10_method_7_code 148 = .ok (.iand, 1) := by decide +kernel
theorem dX8_applaud_149 : decode prog_10_method_7_code 149 = .ok (.invokestatic 129, 3) := by decide +kernel
theorem dX8_applaud_152 : decode prog_10_method_7_code 152 = .ok (.istore 7, 2) := by decide +kernel
theorem dX8_applaud_154 : decode prog_10_method_7_code 154 = .ok (.aload_n 0, 1) := by decide +kernel
theorem dX8_applaud_155 : decode prog_10_method_7_code 155 = .ok (.getfield 109, 3) := by decide +kernel
theorem dX8_applaud_158 : decode prog_10_method_7_code 158 = .ok (.ifCond .eq 9, 3) := by decide +kernel
theorem dX8_applaud_161 : decode prog_10_method_7_code 161 = .ok (.sipush 500, 3) := by decide +kernel
theorem dX8_applaud_164 : decode prog_10_method_7_code 164 = .ok (.goto 10, 3) := by decide +kernel
theorem dX8_applaud_167 : decode prog_10_method_7_code 167 = .ok (.aload_n 0, 1) := by decide +kernel
theorem dX8_applaud_168 : decode prog_10_method_7_code 168 = .ok (.getfield 9, 3) := by decide +kernel
theorem dX8_applaud_171 : decode prog_10_method_7_code 171 = .ok (.iload 6, 2) := by decide +kernel
theorem dX8_applaud_173 : decode prog_10_method_7_code 173 = .ok (.iaload, 1) := by decide +kernel
theorem dX8_applaud_174 : decode prog_10_method_7_code 174 = .ok (.istore 8, 2) := by decide +kernel
theorem dX8_applaud_176 : decode prog_10_method_7_code 176 = .ok (.aload_n 0, 1) := by decide +kernel
theorem dX8_applaud_177 : decode prog_10_method_7_code 177 = .ok (.getfield 15, 3) := by decide +kernel
theorem dX8_applaud_180 : decode prog_10_method_7_code 180 = .ok (.iload 6, 2) := by decide +kernel
theorem dX8_applaud_182 : decode prog_10_method_7_code 182 = .ok (.iaload, 1) := by decide +kernel
theorem dX8_applaud_183 : decode prog_10_method_7_code 183 = .ok (.iload 7, 2) := by decide +kernel
theorem dX8_applaud_185 : decode prog_10_method_7_code 185 = .ok (.if_icmp .eq 33, 3) := by decide +kernel
theorem dX8_applaud_188 : decode prog_10_method_7_code 188 = .ok (.iload 8, 2) := by decide +kernel
theorem dX8_applaud_190 : decode prog_10_method_7_code 190 = .ok (.aload_n 0, 1) := by decide +kernel
theorem dX8_applaud_191 : decode prog_10_method_7_code 191 = .ok (.getfield 22, 3) := by decide +kernel
theorem dX8_applaud_194 : decode prog_10_method_7_code 194 = .ok (.iload 6, 2) := by decide +kernel
theorem dX8_applaud_196 : decode prog_10_method_7_code 196 = .ok (.iload_n 1, 1) := by decide +kernel
theorem dX8_applaud_197 : decode prog_10_method_7_code 197 = .ok (.iload 7, 2) := by decide +kernel
theorem dX8_applaud_199 : decode prog_10_method_7_code 199 = .ok (.invokevirtual 134, 3) := by decide +kernel
theorem dX8_applaud_202 : decode prog_10_method_7_code 202 = .ok (.if_icmp .ge 16, 3) := by decide +kernel
theorem dX8_applaud_205 : decode prog_10_method_7_code 205 = .ok (.aload_n 0, 1) := by decide +kernel
theorem dX8_applaud_206 : decode prog_10_method_7_code 206 = .ok (.dup, 1) := by decide +kernel
theorem dX8_applaud_207 : decode prog_10_method_7_code 207 = .ok (.getfield 116, 3) := by decide +kernel
theorem dX8_applaud_210 : decode prog_10_method_7_code 210 = .ok (.iconst 1, 1) := by decide +kernel
theorem dX8_applaud_211 : decode prog_10_method_7_code 211 = .ok (.iload 6, 2) := by decide +kernel
theorem dX8_applaud_213 : decode prog_10_method_7_code 213 = .ok (.ishl, 1) := by decide +kernel
theorem dX8_applaud_214 : decode prog_10_method_7_code 214 = .ok (.ior, 1) := by decide +kernel
theorem dX8_applaud_215 : decode prog_10_method_7_code 215 = .ok (.putfield 116, 3) := by decide +kernel
theorem dX8_applaud_218 : decode prog_10_method_7_code 218 = .ok (.aload_n 0, 1) := by decide +kernel
theorem dX8_applaud_219 : decode prog_10_method_7_code 219 = .ok (.getfield 15, 3) := by decide +kernel
theorem dX8_applaud_222 : decode prog_10_method_7_code 222 = .ok (.iload 6, 2) := by decide +kernel
theorem dX8_applaud_224 : decode prog_10_method_7_code 224 = .ok (.iload 7, 2) := by decide +kernel
theorem dX8_applaud_226 : decode prog_10_method_7_code 226 = .ok (.iastore, 1) := by decide +kernel
theorem dX8_applaud_227 : decode prog_10_method_7_code 227 = .ok (.iinc 6 1, 3) := by decide +kernel
theorem dX8_applaud_230 : decode prog_10_method_7_code 230 = .ok (.goto (-151), 3) := by decide +kernel
theorem dX8_applaud_233 : decode prog_10_method_7_code 233 = .ok (.aload_n 0, 1) := by decide +kernel
theorem dX8_applaud_234 : decode prog_10_method_7_code 234 = .ok (.getfield 116, 3) := by decide +kernel
theorem dX8_applaud_237 : decode prog_10_method_7_code 237 = .ok (.iload 5, 2) := by decide +kernel
theorem dX8_applaud_239 : decode prog_10_method_7_code 239 = .ok (.if_icmp .eq 7, 3) := by decide +kernel
theorem dX8_applaud_242 : decode prog_10_method_7_code 242 = .ok (.iconst 1, 1) := by decide +kernel
theorem dX8_applaud_243 : decode prog_10_method_7_code 243 = .ok (.goto 4, 3) := by decide +kernel
theorem dX8_applaud_246 : decode prog_10_method_7_code 246 = .ok (.iconst 0, 1) := by decide +kernel
theorem dX8_applaud_247 : decode prog_10_method_7_code 247 = .ok (.istore_n 3, 1) := by decide +kernel
theorem dX8_applaud_248 : decode prog_10_method_7_code 248 = .ok (.aload_n 0, 1) := by decide +kernel
theorem dX8_applaud_249 : decode prog_10_method_7_code 249 = .ok (.dup, 1) := by decide +kernel
theorem dX8_applaud_250 : decode prog_10_method_7_code 250 = .ok (.getfield 119, 3) := by decide +kernel
theorem dX8_applaud_253 : decode prog_10_method_7_code 253 = .ok (.iload_n 3, 1) := by decide +kernel
theorem dX8_applaud_254 : decode prog_10_method_7_code 254 = .ok (.ifCond .eq 7, 3) := by decide +kernel
theorem dX8_applaud_257 : decode prog_10_method_7_code 257 = .ok (.iconst 1, 1) := by decide +kernel
theorem dX8_applaud_258 : decode prog_10_method_7_code 258 = .ok (.goto 4, 3) := by decide +kernel
theorem dX8_applaud_261 : decode prog_10_method_7_code 261 = .ok (.iconst 0, 1) := by decide +kernel
theorem dX8_applaud_262 : decode prog_10_method_7_code 262 = .ok (.iadd, 1) := by decide +kernel
theorem dX8_applaud_263 : decode prog_10_method_7_code 263 = .ok (.putfield 119, 3) := by decide +kernel
theorem dX8_applaud_266 : decode prog_10_method_7_code 266 = .ok (.iinc 4 1, 3) := by decide +kernel
theorem dX8_applaud_269 : decode prog_10_method_7_code 269 = .ok (.goto (-210), 3) := by decide +kernel
theorem dX8_applaud_272 : decode prog_10_method_7_code 272 = .ok (.return_, 1) := by decide +kernel
theorem dX8_coughs_0 : decode prog_10_method_8_code 0 = .ok (.aload_n 0, 1) := by decide +kernel
theorem dX8_coughs_1 : decode prog_10_method_8_code 1 = .ok (.getfield 109, 3) := by decide +kernel
theorem dX8_coughs_4 : decode prog_10_method_8_code 4 = .ok (.ifCond .ne 36, 3) := by decide +kernel
theorem dX8_coughs_7 : decode prog_10_method_8_code 7 = .ok (.aload_n 0, 1) := by decide +kernel
theorem dX8_coughs_8 : decode prog_10_method_8_code 8 = .ok (.getfield 18, 3) := by decide +kernel
theorem dX8_coughs_11 : decode prog_10_method_8_code 11 = .ok (.iconst 3, 1) := by decide +kernel
theorem dX8_coughs_12 : decode prog_10_method_8_code 12 = .ok (.invokevirtual 42, 3) := by decide +kernel
theorem dX8_coughs_15 : decode prog_10_method_8_code 15 = .ok (.ifCond .le 25, 3) := by decide +kernel
theorem dX8_coughs_18 : decode prog_10_method_8_code 18 = .ok (.aload_n 0, 1) := by decide +kernel
theorem dX8_coughs_19 : decode prog_10_method_8_code 19 = .ok (.sipush 1000, 3) := by decide +kernel
theorem dX8_coughs_22 : decode prog_10_method_8_code 22 = .ok (.invokevirtual 113, 3) := by decide +kernel
theorem dX8_coughs_25 : decode prog_10_method_8_code 25 = .ok (.aload_n 0, 1) := by decide +kernel
theorem dX8_coughs_26 : decode prog_10_method_8_code 26 = .ok (.getfield 18, 3) := by decide +kernel
theorem dX8_coughs_29 : decode prog_10_method_8_code 29 = .ok (.iconst 3, 1) := by decide +kernel
theorem dX8_coughs_30 : decode prog_10_method_8_code 30 = .ok (.invokevirtual 42, 3) := by decide +kernel
theorem dX8_coughs_33 : decode prog_10_method_8_code 33 = .ok (.if_icmp .ge 7, 3) := by decide +kernel
theorem dX8_coughs_36 : decode prog_10_method_8_code 36 = .ok (.iconst 1, 1) := by decide +kernel
theorem dX8_coughs_37 : decode prog_10_method_8_code 37 = .ok (.goto 4, 3) := by decide +kernel
theorem dX8_coughs_40 : decode prog_10_method_8_code 40 = .ok (.iconst 0, 1) := by decide +kernel
theorem dX8_coughs_41 : decode prog_10_method_8_code 41 = .ok (.ireturn, 1) := by decide +kernel
theorem dX8_handsAt_0 : decode prog_10_method_9_code 0 = .ok (.aload_n 0, 1) := by decide +kernel
theorem dX8_handsAt_1 : decode prog_10_method_9_code 1 = .ok (.aload_n 0, 1) := by decide +kernel
theorem dX8_handsAt_2 : decode prog_10_method_9_code 2 = .ok (.getfield 116, 3) := by decide +kernel
theorem dX8_handsAt_5 : decode prog_10_method_9_code 5 = .ok (.invokevirtual 138, 3) := by decide +kernel
theorem dX8_handsAt_8 : decode prog_10_method_9_code 8 = .ok (.aload_n 0, 1) := by decide +kernel
theorem dX8_handsAt_9 : decode prog_10_method_9_code 9 = .ok (.getfield 22, 3) := by decide +kernel
theorem dX8_handsAt_12 : decode prog_10_method_9_code 12 = .ok (.sipush 256, 3) := by decide +kernel
theorem dX8_handsAt_15 : decode prog_10_method_9_code 15 = .ok (.iload_n 1, 1) := by decide +kernel
theorem dX8_handsAt_16 : decode prog_10_method_9_code 16 = .ok (.invokevirtual 89, 3) := by decide +kernel
theorem dX8_handsAt_19 : decode prog_10_method_9_code 19 = .ok (.iadd, 1) := by decide +kernel
theorem dX8_handsAt_20 : decode prog_10_method_9_code 20 = .ok (.ireturn, 1) := by decide +kernel
theorem dX8_handsOf_0 : decode prog_10_method_10_code 0 = .ok (.iconst 0, 1) := by decide +kernel
theorem dX8_handsOf_1 : decode prog_10_method_10_code 1 = .ok (.istore_n 2, 1) := by decide +kernel
theorem dX8_handsOf_2 : decode prog_10_method_10_code 2 = .ok (.iconst 0, 1) := by decide +kernel
theorem dX8_handsOf_3 : decode prog_10_method_10_code 3 = .ok (.istore_n 3, 1) := by decide +kernel
theorem dX8_handsOf_4 : decode prog_10_method_10_code 4 = .ok (.iload_n 3, 1) := by decide +kernel
theorem dX8_handsOf_5 : decode prog_10_method_10_code 5 = .ok (.aload_n 0, 1) := by decide +kernel
theorem dX8_handsOf_6 : decode prog_10_method_10_code 6 = .ok (.getfield 18, 3) := by decide +kernel
theorem dX8_handsOf_9 : decode prog_10_method_10_code 9 = .ok (.getfield 106, 3) := by decide +kernel
theorem dX8_handsOf_12 : decode prog_10_method_10_code 12 = .ok (.getfield 36, 3) := by decide +kernel
theorem dX8_handsOf_15 : decode prog_10_method_10_code 15 = .ok (.if_icmp .ge 46, 3) := by decide +kernel
theorem dX8_handsOf_18 : decode prog_10_method_10_code 18 = .ok (.iload_n 3, 1) := by decide +kernel
theorem dX8_handsOf_19 : decode prog_10_method_10_code 19 = .ok (.iload_n 1, 1) := by decide +kernel
theorem dX8_handsOf_20 : decode prog_10_method_10_code 20 = .ok (.invokestatic 125, 3) := by decide +kernel
theorem dX8_handsOf_23 : decode prog_10_method_10_code 23 = .ok (.ifCond .eq 32, 3) := by decide +kernel
theorem dX8_handsOf_26 : decode prog_10_method_10_code 26 = .ok (.iload_n 2, 1) := by decide +kernel
theorem dX8_handsOf_27 : decode prog_10_method_10_code 27 = .ok (.aload_n 0, 1) := by decide +kernel
theorem dX8_handsOf_28 : decode prog_10_method_10_code 28 = .ok (.getfield 18, 3) := by decide +kernel
theorem dX8_handsOf_31 : decode prog_10_method_10_code 31 = .ok (.getfield 106, 3) := by decide +kernel
theorem dX8_handsOf_34 : decode prog_10_method_10_code 34 = .ok (.iload_n 3, 1) := by decide +kernel
theorem dX8_handsOf_35 : decode prog_10_method_10_code 35 = .ok (.iconst 0, 1) := by decide +kernel
theorem dX8_handsOf_36 : decode prog_10_method_10_code 36 = .ok (.invokevirtual 46, 3) := by decide +kernel
theorem dX8_handsOf_39 : decode prog_10_method_10_code 39 = .ok (.aload_n 0, 1) := by decide +kernel
theorem dX8_handsOf_40 : decode prog_10_method_10_code 40 = .ok (.getfield 18, 3) := by decide +kernel
theorem dX8_handsOf_43 : decode prog_10_method_10_code 43 = .ok (.getfield 106, 3) := by decide +kernel
theorem dX8_handsOf_46 : decode prog_10_method_10_code 46 = .ok (.iload_n 3, 1) := by decide +kernel
theorem dX8_handsOf_47 : decode prog_10_method_10_code 47 = .ok (.bipush 7, 2) := by decide +kernel
theorem dX8_handsOf_49 : decode prog_10_method_10_code 49 = .ok (.invokevirtual 46, 3) := by decide +kernel
theorem dX8_handsOf_52 : decode prog_10_method_10_code 52 = .ok (.imul, 1) := by decide +kernel
theorem dX8_handsOf_53 : decode prog_10_method_10_code 53 = .ok (.iadd, 1) := by decide +kernel
theorem dX8_handsOf_54 : decode prog_10_method_10_code 54 = .ok (.istore_n 2, 1) := by decide +kernel
theorem dX8_handsOf_55 : decode prog_10_method_10_code 55 = .ok (.iinc 3 1, 3) := by decide +kernel
theorem dX8_handsOf_58 : decode prog_10_method_10_code 58 = .ok (.goto (-54), 3) := by decide +kernel
theorem dX8_handsOf_61 : decode prog_10_method_10_code 61 = .ok (.iload_n 2, 1) := by decide +kernel
theorem dX8_handsOf_62 : decode prog_10_method_10_code 62 = .ok (.ireturn, 1) := by decide +kernel
theorem dX8_noteDone_0 : decode prog_10_method_11_code 0 = .ok (.aload_n 0, 1) := by decide +kernel
theorem dX8_noteDone_1 : decode prog_10_method_11_code 1 = .ok (.getfield 109, 3) := by decide +kernel
theorem dX8_noteDone_4 : decode prog_10_method_11_code 4 = .ok (.ifCond .eq 4, 3) := by decide +kernel
theorem dX8_noteDone_7 : decode prog_10_method_11_code 7 = .ok (.return_, 1) := by decide +kernel
theorem dX8_noteDone_8 : decode prog_10_method_11_code 8 = .ok (.iload_n 2, 1) := by decide +kernel
theorem dX8_noteDone_9 : decode prog_10_method_11_code 9 = .ok (.ifCond .eq 13, 3) := by decide +kernel
theorem dX8_noteDone_12 : decode prog_10_method_11_code 12 = .ok (.aload_n 0, 1) := by decide +kernel
theorem dX8_noteDone_13 : decode prog_10_method_11_code 13 = .ok (.getfield 18, 3) := by decide +kernel
theorem dX8_noteDone_16 : decode prog_10_method_11_code 16 = .ok (.iconst 2, 1) := by decide +kernel
theorem dX8_noteDone_17 : decode prog_10_method_11_code 17 = .ok (.iload_n 1, 1) := by decide +kernel
theorem dX8_noteDone_18 : decode prog_10_method_11_code 18 = .ok (.iconst 0, 1) := by decide +kernel
theorem dX8_noteDone_19 : decode prog_10_method_11_code 19 = .ok (.invokevirtual 141, 3) := by decide +kernel
theorem dX8_noteDone_22 : decode prog_10_method_11_code 22 = .ok (.aload_n 0, 1) := by decide +kernel
theorem dX8_noteDone_23 : decode prog_10_method_11_code 23 = .ok (.getfield 18, 3) := by decide +kernel
theorem dX8_noteDone_26 : decode prog_10_method_11_code 26 = .ok (.aload_n 0, 1) := by decide +kernel
theorem dX8_noteDone_27 : decode prog_10_method_11_code 27 = .ok (.getfield 18, 3) := by decide +kernel
theorem dX8_noteDone_30 : decode prog_10_method_11_code 30 = .ok (.iconst 5, 1) := by decide +kernel
theorem dX8_noteDone_31 : decode prog_10_method_11_code 31 = .ok (.invokevirtual 42, 3) := by decide +kernel
theorem dX8_noteDone_34 : decode prog_10_method_11_code 34 = .ok (.ifCond .le 7, 3) := by decide +kernel
theorem dX8_noteDone_37 : decode prog_10_method_11_code 37 = .ok (.iconst 1, 1) := by decide +kernel
theorem dX8_noteDone_38 : decode prog_10_method_11_code 38 = .ok (.goto 4, 3) := by decide +kernel
theorem dX8_noteDone_41 : decode prog_10_method_11_code 41 = .ok (.iconst 0, 1) := by decide +kernel
theorem dX8_noteDone_42 : decode prog_10_method_11_code 42 = .ok (.iload_n 1, 1) := by decide +kernel
theorem dX8_noteDone_43 : decode prog_10_method_11_code 43 = .ok (.iload_n 3, 1) := by decide +kernel
theorem dX8_noteDone_44 : decode prog_10_method_11_code 44 = .ok (.invokevirtual 141, 3) := by decide +kernel
theorem dX8_noteDone_47 : decode prog_10_method_11_code 47 = .ok (.return_, 1) := by decide +kernel
theorem dX9_init_0 : decode prog_11_method_1_code 0 = .ok (.aload_n 0, 1) := by decide +kernel
theorem dX9_init_1 : decode prog_11_method_1_code 1 = .ok (.invokespecial 3, 3) := by decide +kernel
theorem dX9_init_4 : decode prog_11_method_1_code 4 = .ok (.aload_n 0, 1) := by decide +kernel
theorem dX9_init_5 : decode prog_11_method_1_code 5 = .ok (.iconst 0, 1) := by decide +kernel
theorem dX9_init_6 : decode prog_11_method_1_code 6 = .ok (.iload_n 1, 1) := by decide +kernel
theorem dX9_init_7 : decode prog_11_method_1_code 7 = .ok (.invokestatic 9, 3) := by decide +kernel
theorem dX9_init_10 : decode prog_11_method_1_code 10 = .ok (.putfield 15, 3) := by decide +kernel
theorem dX9_init_13 : decode prog_11_method_1_code 13 = .ok (.aload_n 0, 1) := by decide +kernel
theorem dX9_init_14 : decode prog_11_method_1_code 14 = .ok (.iconst 1, 1) := by decide +kernel
theorem dX9_init_15 : decode prog_11_method_1_code 15 = .ok (.iload_n 2, 1) := by decide +kernel
theorem dX9_init_16 : decode prog_11_method_1_code 16 = .ok (.invokestatic 9, 3) := by decide +kernel
theorem dX9_init_19 : decode prog_11_method_1_code 19 = .ok (.putfield 21, 3) := by decide +kernel
theorem dX9_init_22 : decode prog_11_method_1_code 22 = .ok (.aload_n 0, 1) := by decide +kernel
theorem dX9_init_23 : decode prog_11_method_1_code 23 = .ok (.iconst 0, 1) := by decide +kernel
theorem dX9_init_24 : decode prog_11_method_1_code 24 = .ok (.aload_n 0, 1) := by decide +kernel
theorem dX9_init_25 : decode prog_11_method_1_code 25 = .ok (.getfield 15, 3) := by decide +kernel
theorem dX9_init_28 : decode prog_11_method_1_code 28 = .ok (.aload_n 0, 1) := by decide +kernel
theorem dX9_init_29 : decode prog_11_method_1_code 29 = .ok (.getfield 21, 3) := by decide +kernel
theorem dX9_init_32 : decode prog_11_method_1_code 32 = .ok (.imul, 1) := by decide +kernel
theorem dX9_init_33 : decode prog_11_method_1_code 33 = .ok (.invokestatic 9, 3) := by decide +kernel
theorem dX9_init_36 : decode prog_11_method_1_code 36 = .ok (.newarray .int, 2) := by decide +kernel
theorem dX9_init_38 : decode prog_11_method_1_code 38 = .ok (.putfield 24, 3) := by decide +kernel
theorem dX9_init_41 : decode prog_11_method_1_code 41 = .ok (.aload_n 0, 1) := by decide +kernel
theorem dX9_init_42 : decode prog_11_method_1_code 42 = .ok (.iconst 0, 1) := by decide +kernel
theorem dX9_init_43 : decode prog_11_method_1_code 43 = .ok (.putfield 28, 3) := by decide +kernel
theorem dX9_init_46 : decode prog_11_method_1_code 46 = .ok (.return_, 1) := by decide +kernel
theorem dX9_has_0 : decode prog_11_method_2_code 0 = .ok (.iload_n 1, 1) := by decide +kernel
theorem dX9_has_1 : decode prog_11_method_2_code 1 = .ok (.ifCond .lt 23, 3) := by decide +kernel
theorem dX9_has_4 : decode prog_11_method_2_code 4 = .ok (.iload_n 1, 1) := by decide +kernel
theorem dX9_has_5 : decode prog_11_method_2_code 5 = .ok (.aload_n 0, 1) := by decide +kernel
theorem dX9_has_6 : decode prog_11_method_2_code 6 = .ok (.getfield 28, 3) := by decide +kernel
theorem dX9_has_9 : decode prog_11_method_2_code 9 = .ok (.if_icmp .ge 15, 3) := by decide +kernel
theorem dX9_has_12 : decode prog_11_method_2_code 12 = .ok (.iload_n 1, 1) := by decide +kernel
theorem dX9_has_13 : decode prog_11_method_2_code 13 = .ok (.aload_n 0, 1) := by decide +kernel
theorem dX9_has_14 : decode prog_11_method_2_code 14 = .ok (.getfield 15, 3) := by decide +kernel
theorem dX9_has_17 : decode prog_11_method_2_code 17 = .ok (.if_icmp .ge 7, 3) := by decide +kernel
theorem dX9_has_20 : decode prog_11_method_2_code 20 = .ok (.iconst 1, 1) := by decide +kernel
theorem dX9_has_21 : decode prog_11_method_2_code 21 = .ok (.goto 4, 3) := by decide +kernel
theorem dX9_has_24 : decode prog_11_method_2_code 24 = .ok (.iconst 0, 1) := by decide +kernel
theorem dX9_has_25 : decode prog_11_method_2_code 25 = .ok (.ireturn, 1) := by decide +kernel
theorem dX9_at_0 : decode prog_11_method_3_code 0 = .ok (.iload_n 1, 1) := by decide +kernel
theorem dX9_at_1 : decode prog_11_method_3_code 1 = .ok (.ifCond .lt 23, 3) := by decide +kernel
theorem dX9_at_4 : decode prog_11_method_3_code 4 = .ok (.iload_n 1, 1) := by decide +kernel
theorem dX9_at_5 : decode prog_11_method_3_code 5 = .ok (.aload_n 0, 1) := by decide +kernel
theorem dX9_at_6 : decode prog_11_method_3_code 6 = .ok (.getfield 28, 3) := by decide +kernel
theorem dX9_at_9 : decode prog_11_method_3_code 9 = .ok (.if_icmp .ge 15, 3) := by decide +kernel
theorem dX9_at_12 : decode prog_11_method_3_code 12 = .ok (.iload_n 2, 1) := by decide +kernel
theorem dX9_at_13 : decode prog_11_method_3_code 13 = .ok (.ifCond .lt 11, 3) := by decide +kernel
theorem dX9_at_16 : decode prog_11_method_3_code 16 = .ok (.iload_n 2, 1) := by decide +kernel
theorem dX9_at_17 : decode prog_11_method_3_code 17 = .ok (.aload_n 0, 1) := by decide +kernel
theorem dX9_at_18 : decode prog_11_method_3_code 18 = .ok (.getfield 21, 3) := by decide +kernel
theorem dX9_at_21 : decode prog_11_method_3_code 21 = .ok (.if_icmp .lt 5, 3) := by decide +kernel
theorem dX9_at_24 : decode prog_11_method_3_code 24 = .ok (.iconst (-1), 1) := by decide +kernel
theorem dX9_at_25 : decode prog_11_method_3_code 25 = .ok (.ireturn, 1) := by decide +kernel
theorem dX9_at_26 : decode prog_11_method_3_code 26 = .ok (.iload_n 1, 1) := by decide +kernel
theorem dX9_at_27 : decode prog_11_method_3_code 27 = .ok (.aload_n 0, 1) := by decide +kernel
theorem dX9_at_28 : decode prog_11_method_3_code 28 = .ok (.getfield 21, 3) := by decide +kernel
theorem dX9_at_31 : decode prog_11_method_3_code 31 = .ok (.imul, 1) := by decide +kernel
theorem dX9_at_32 : decode prog_11_method_3_code 32 = .ok (.iload_n 2, 1) := by decide +kernel
theorem dX9_at_33 : decode prog_11_method_3_code 33 = .ok (.iadd, 1) := by decide +kernel
theorem dX9_at_34 : decode prog_11_method_3_code 34 = .ok (.istore_n 3, 1) := by decide +kernel
theorem dX9_at_35 : decode prog_11_method_3_code 35 = .ok (.iload_n 3, 1) := by decide +kernel
theorem dX9_at_36 : decode prog_11_method_3_code 36 = .ok (.ifCond .lt 21, 3) := by decide +kernel
theorem dX9_at_39 : decode prog_11_method_3_code 39 = .ok (.iload_n 3, 1) := by decide +kernel
theorem dX9_at_40 : decode prog_11_method_3_code 40 = .ok (.aload_n 0, 1) := by decide +kernel
theorem dX9_at_41 : decode prog_11_method_3_code 41 = .ok (.getfield 24, 3) := by decide +kernel
theorem dX9_at_44 : decode prog_11_method_3_code 44 = .ok (.arraylength, 1) := by decide +kernel
theorem dX9_at_45 : decode prog_11_method_3_code 45 = .ok (.if_icmp .ge 12, 3) := by decide +kernel
theorem dX9_at_48 : decode prog_11_method_3_code 48 = .ok (.aload_n 0, 1) := by decide +kernel
theorem dX9_at_49 : decode prog_11_method_3_code 49 = .ok (.getfield 24, 3) := by decide +kernel
theorem dX9_at_52 : decode prog_11_method_3_code 52 = .ok (.iload_n 3, 1) := by decide +kernel
theorem dX9_at_53 : decode prog_11_method_3_code 53 = .ok (.iaload, 1) := by decide +kernel
theorem dX9_at_54 : decode prog_11_method_3_code 54 = .ok (.goto 4, 3) := by decide +kernel
theorem dX9_at_57 : decode prog_11_method_3_code 57 = .ok (.iconst (-1), 1) := by decide +kernel
theorem dX9_at_58 : decode prog_11_method_3_code 58 = .ok (.ireturn, 1) := by decide +kernel
theorem dX9_put_0 : decode prog_11_method_4_code 0 = .ok (.iload_n 1, 1) := by decide +kernel
theorem dX9_put_1 : decode prog_11_method_4_code 1 = .ok (.ifCond .lt 23, 3) := by decide +kernel
theorem dX9_put_4 : decode prog_11_method_4_code 4 = .ok (.iload_n 1, 1) := by decide +kernel
theorem dX9_put_5 : decode prog_11_method_4_code 5 = .ok (.aload_n 0, 1) := by decide +kernel
theorem dX9_put_6 : decode prog_11_method_4_code 6 = .ok (.getfield 28, 3) := by decide +kernel
theorem dX9_put_9 : decode prog_11_method_4_code 9 = .ok (.if_icmp .ge 15, 3) := by decide +kernel
theorem dX9_put_12 : decode prog_11_method_4_code 12 = .ok (.iload_n 2, 1) := by decide +kernel
theorem dX9_put_13 : decode prog_11_method_4_code 13 = .ok (.ifCond .lt 11, 3) := by decide +kernel
theorem dX9_put_16 : decode prog_11_method_4_code 16 = .ok (.iload_n 2, 1) := by decide +kernel
theorem dX9_put_17 : decode prog_11_method_4_code 17 = .ok (.aload_n 0, 1) := by decide +kernel
theorem dX9_put_18 : decode prog_11_method_4_code 18 = .ok (.getfield 21, 3) := by decide +kernel
theorem dX9_put_21 : decode prog_11_method_4_code 21 = .ok (.if_icmp .lt 4, 3) := by decide +kernel
theorem dX9_put_24 : decode prog_11_method_4_code 24 = .ok (.return_, 1) := by decide +kernel
theorem dX9_put_25 : decode prog_11_method_4_code 25 = .ok (.iload_n 1, 1) := by decide +kernel
theorem dX9_put_26 : decode prog_11_method_4_code 26 = .ok (.aload_n 0, 1) := by decide +kernel
theorem dX9_put_27 : decode prog_11_method_4_code 27 = .ok (.getfield 21, 3) := by decide +kernel
theorem dX9_put_30 : decode prog_11_method_4_code 30 = .ok (.imul, 1) := by decide +kernel
theorem dX9_put_31 : decode prog_11_method_4_code 31 = .ok (.iload_n 2, 1) := by decide +kernel
theorem dX9_put_32 : decode prog_11_method_4_code 32 = .ok (.iadd, 1) := by decide +kernel
theorem dX9_put_33 : decode prog_11_method_4_code 33 = .ok (.istore 4, 2) := by decide +kernel
theorem dX9_put_35 : decode prog_11_method_4_code 35 = .ok (.iload 4, 2) := by decide +kernel
theorem dX9_put_37 : decode prog_11_method_4_code 37 = .ok (.ifCond .lt 21, 3) := by decide +kernel
theorem dX9_put_40 : decode prog_11_method_4_code 40 = .ok (.iload 4, 2) := by decide +kernel
theorem dX9_put_42 : decode prog_11_method_4_code 42 = .ok (.aload_n 0, 1) := by decide +kernel
theorem dX9_put_43 : decode prog_11_method_4_code 43 = .ok (.getfield 24, 3) := by decide +kernel
theorem dX9_put_46 : decode prog_11_method_4_code 46 = .ok (.arraylength, 1) := by decide +kernel
theorem dX9_put_47 : decode prog_11_method_4_code 47 = .ok (.if_icmp .ge 11, 3) := by decide +kernel
theorem dX9_put_50 : decode prog_11_method_4_code 50 = .ok (.aload_n 0, 1) := by decide +kernel
theorem dX9_put_51 : decode prog_11_method_4_code 51 = .ok (.getfield 24, 3) := by decide +kernel
theorem dX9_put_54 : decode prog_11_method_4_code 54 = .ok (.iload 4, 2) := by decide +kernel
theorem dX9_put_56 : decode prog_11_method_4_code 56 = .ok (.iload_n 3, 1) := by decide +kernel
theorem dX9_put_57 : decode prog_11_method_4_code 57 = .ok (.iastore, 1) := by decide +kernel
theorem dX9_put_58 : decode prog_11_method_4_code 58 = .ok (.return_, 1) := by decide +kernel
theorem dX9_add_0 : decode prog_11_method_5_code 0 = .ok (.aload_n 0, 1) := by decide +kernel
theorem dX9_add_1 : decode prog_11_method_5_code 1 = .ok (.getfield 28, 3) := by decide +kernel
theorem dX9_add_4 : decode prog_11_method_5_code 4 = .ok (.aload_n 0, 1) := by decide +kernel
theorem dX9_add_5 : decode prog_11_method_5_code 5 = .ok (.getfield 21, 3) := by decide +kernel
theorem dX9_add_8 : decode prog_11_method_5_code 8 = .ok (.imul, 1) := by decide +kernel
theorem dX9_add_9 : decode prog_11_method_5_code 9 = .ok (.istore 5, 2) := by decide +kernel
theorem dX9_add_11 : decode prog_11_method_5_code 11 = .ok (.aload_n 0, 1) := by decide +kernel
theorem dX9_add_12 : decode prog_11_method_5_code 12 = .ok (.getfield 28, 3) := by decide +kernel
theorem dX9_add_15 : decode prog_11_method_5_code 15 = .ok (.ifCond .lt 34, 3) := by decide +kernel
theorem dX9_add_18 : decode prog_11_method_5_code 18 = .ok (.aload_n 0, 1) := by decide +kernel
theorem dX9_add_19 : decode prog_11_method_5_code 19 = .ok (.getfield 28, 3) := by decide +kernel
theorem dX9_add_22 : decode prog_11_method_5_code 22 = .ok (.aload_n 0, 1) := by decide +kernel
theorem dX9_add_23 : decode prog_11_method_5_code 23 = .ok (.getfield 15, 3) := by decide +kernel
theorem dX9_add_26 : decode prog_11_method_5_code 26 = .ok (.if_icmp .ge 23, 3) := by decide +kernel
theorem dX9_add_29 : decode prog_11_method_5_code 29 = .ok (.iload 5, 2) := by decide +kernel
theorem dX9_add_31 : decode prog_11_method_5_code 31 = .ok (.ifCond .lt 18, 3) := by decide +kernel
theorem dX9_add_34 : decode prog_11_method_5_code 34 = .ok (.iload 5, 2) := by decide +kernel
theorem dX9_add_36 : decode prog_11_method_5_code 36 = .ok (.aload_n 0, 1) := by decide +kernel
theorem dX9_add_37 : decode prog_11_method_5_code 37 = .ok (.getfield 24, 3) := by decide +kernel
theorem dX9_add_40 : decode prog_11_method_5_code 40 = .ok (.arraylength, 1) := by decide +kernel
theorem dX9_add_41 : decode prog_11_method_5_code 41 = .ok (.aload_n 0, 1) := by decide +kernel
theorem dX9_add_42 : decode prog_11_method_5_code 42 = .ok (.getfield 21, 3) := by decide +kernel
theorem dX9_add_45 : decode prog_11_method_5_code 45 = .ok (.isub, 1) := by decide +kernel
theorem dX9_add_46 : decode prog_11_method_5_code 46 = .ok (.if_icmp .le 5, 3) := by decide +kernel
theorem dX9_add_49 : decode prog_11_method_5_code 49 = .ok (.iconst 0, 1) := by decide +kernel
theorem dX9_add_50 : decode prog_11_method_5_code 50 = .ok (.ireturn, 1) := by decide +kernel
theorem dX9_add_51 : decode prog_11_method_5_code 51 = .ok (.iconst 0, 1) := by decide +kernel
theorem dX9_add_52 : decode prog_11_method_5_code 52 = .ok (.istore 6, 2) := by decide +kernel
theorem dX9_add_54 : decode prog_11_method_5_code 54 = .ok (.iload 6, 2) := by decide +kernel
theorem dX9_add_56 : decode prog_11_method_5_code 56 = .ok (.aload_n 0, 1) := by decide +kernel
theorem dX9_add_57 : decode prog_11_method_5_code 57 = .ok (.getfield 21, 3) := by decide +kernel
theorem dX9_add_60 : decode prog_11_method_5_code 60 = .ok (.if_icmp .ge 73, 3) := by decide +kernel
theorem dX9_add_63 : decode prog_11_method_5_code 63 = .ok (.iload 5, 2) := by decide +kernel
theorem dX9_add_65 : decode prog_11_method_5_code 65 = .ok (.iload 6, 2) := by decide +kernel
theorem dX9_add_67 : decode prog_11_method_5_code 67 = .ok (.iadd, 1) := by decide +kernel
theorem dX9_add_68 : decode prog_11_method_5_code 68 = .ok (.aload_n 0, 1) := by decide +kernel
theorem dX9_add_69 : decode prog_11_method_5_code 69 = .ok (.getfield 24, 3) := by decide +kernel
theorem dX9_add_72 : decode prog_11_method_5_code 72 = .ok (.arraylength, 1) := by decide +kernel
theorem dX9_add_73 : decode prog_11_method_5_code 73 = .ok (.if_icmp .ge 60, 3) := by decide +kernel
theorem dX9_add_76 : decode prog_11_method_5_code 76 = .ok (.aload_n 0, 1) := by decide +kernel
theorem dX9_add_77 : decode prog_11_method_5_code 77 = .ok (.getfield 24, 3) := by decide +kernel
theorem dX9_add_80 : decode prog_11_method_5_code 80 = .ok (.iload 5, 2) := by decide +kernel
theorem dX9_add_82 : decode prog_11_method_5_code 82 = .ok (.iload 6, 2) := by decide +kernel
theorem dX9_add_84 : decode prog_11_method_5_code 84 = .ok (.iadd, 1) := by decide +kernel
theorem dX9_add_85 : decode prog_11_method_5_code 85 = .ok (.iload 6, 2) := by decide +kernel
theorem dX9_add_87 : decode prog_11_method_5_code 87 = .ok (.ifCond .ne 7, 3) := by decide +kernel
theorem dX9_add_90 : decode prog_11_method_5_code 90 = .ok (.iload_n 1, 1) := by decide +kernel
theorem dX9_add_91 : decode prog_11_method_5_code 91 = .ok (.goto 35, 3) := by decide +kernel
theorem dX9_add_94 : decode prog_11_method_5_code 94 = .ok (.iload 6, 2) := by decide +kernel
theorem dX9_add_96 : decode prog_11_method_5_code 96 = .ok (.iconst 1, 1) := by decide +kernel
theorem dX9_add_97 : decode prog_11_method_5_code 97 = .ok (.if_icmp .ne 7, 3) := by decide +kernel
theorem dX9_add_100 : decode prog_11_method_5_code 100 = .ok (.iload_n 2, 1) := by decide +kernel
theorem dX9_add_101 : decode prog_11_method_5_code 101 = .ok (.goto 25, 3) := by decide +kernel
theorem dX9_add_104 : decode prog_11_method_5_code 104 = .ok (.iload 6, 2) := by decide +kernel
theorem dX9_add_106 : decode prog_11_method_5_code 106 = .ok (.iconst 2, 1) := by decide +kernel
theorem dX9_add_107 : decode prog_11_method_5_code 107 = .ok (.if_icmp .ne 7, 3) := by decide +kernel
theorem dX9_add_110 : decode prog_11_method_5_code 110 = .ok (.iload_n 3, 1) := by decide +kernel
theorem dX9_add_111 : decode prog_11_method_5_code 111 = .ok (.goto 15, 3) := by decide +kernel
theorem dX9_add_114 : decode prog_11_method_5_code 114 = .ok (.iload 6, 2) := by decide +kernel
theorem dX9_add_116 : decode prog_11_method_5_code 116 = .ok (.iconst 3, 1) := by decide +kernel
theorem dX9_add_117 : decode prog_11_method_5_code 117 = .ok (.if_icmp .ne 8, 3) := by decide +kernel
theorem dX9_add_120 : decode prog_11_method_5_code 120 = .ok (.iload 4, 2) := by decide +kernel
theorem dX9_add_122 : decode prog_11_method_5_code 122 = .ok (.goto 4, 3) := by decide +kernel
theorem dX9_add_125 : decode prog_11_method_5_code 125 = .ok (.iconst 0, 1) := by decide +kernel
theorem dX9_add_126 : decode prog_11_method_5_code 126 = .ok (.iastore, 1) := by decide +kernel
theorem dX9_add_127 : decode prog_11_method_5_code 127 = .ok (.iinc 6 1, 3) := by decide +kernel
theorem dX9_add_130 : decode prog_11_method_5_code 130 = .ok (.goto (-76), 3) := by decide +kernel
theorem dX9_add_133 : decode prog_11_method_5_code 133 = .ok (.aload_n 0, 1) := by decide +kernel
theorem dX9_add_134 : decode prog_11_method_5_code 134 = .ok (.dup, 1) := by decide +kernel
theorem dX9_add_135 : decode prog_11_method_5_code 135 = .ok (.getfield 28, 3) := by decide +kernel
theorem dX9_add_138 : decode prog_11_method_5_code 138 = .ok (.iconst 1, 1) := by decide +kernel
theorem dX9_add_139 : decode prog_11_method_5_code 139 = .ok (.iadd, 1) := by decide +kernel
theorem dX9_add_140 : decode prog_11_method_5_code 140 = .ok (.putfield 28, 3) := by decide +kernel
theorem dX9_add_143 : decode prog_11_method_5_code 143 = .ok (.iconst 1, 1) := by decide +kernel
theorem dX9_add_144 : decode prog_11_method_5_code 144 = .ok (.ireturn, 1) := by decide +kernel
theorem dX9_copy_0 : decode prog_11_method_6_code 0 = .ok (.aload_n 1, 1) := by decide +kernel
theorem dX9_copy_1 : decode prog_11_method_6_code 1 = .ok (.getfield 24, 3) := by decide +kernel
theorem dX9_copy_4 : decode prog_11_method_6_code 4 = .ok (.arraylength, 1) := by decide +kernel
theorem dX9_copy_5 : decode prog_11_method_6_code 5 = .ok (.aload_n 0, 1) := by decide +kernel
theorem dX9_copy_6 : decode prog_11_method_6_code 6 = .ok (.getfield 24, 3) := by decide +kernel
theorem dX9_copy_9 : decode prog_11_method_6_code 9 = .ok (.arraylength, 1) := by decide +kernel
theorem dX9_copy_10 : decode prog_11_method_6_code 10 = .ok (.if_icmp .ne 29, 3) := by decide +kernel
theorem dX9_copy_13 : decode prog_11_method_6_code 13 = .ok (.aload_n 1, 1) := by decide +kernel
theorem dX9_copy_14 : decode prog_11_method_6_code 14 = .ok (.getfield 24, 3) := by decide +kernel
theorem dX9_copy_17 : decode prog_11_method_6_code 17 = .ok (.iconst 0, 1) := by decide +kernel
theorem dX9_copy_18 : decode prog_11_method_6_code 18 = .ok (.aload_n 0, 1) := by decide +kernel
theorem dX9_copy_19 : decode prog_11_method_6_code 19 = .ok (.getfield 24, 3) := by decide +kernel
theorem dX9_copy_22 : decode prog_11_method_6_code 22 = .ok (.iconst 0, 1) := by decide +kernel
theorem dX9_copy_23 : decode prog_11_method_6_code 23 = .ok (.aload_n 0, 1) := by decide +kernel
theorem dX9_copy_24 : decode prog_11_method_6_code 24 = .ok (.getfield 24, 3) := by decide +kernel
theorem dX9_copy_27 : decode prog_11_method_6_code 27 = .ok (.arraylength, 1) := by decide +kernel
theorem dX9_copy_28 : decode prog_11_method_6_code 28 = .ok (.invokestatic 31, 3) := by decide +kernel
theorem dX9_copy_31 : decode prog_11_method_6_code 31 = .ok (.aload_n 0, 1) := by decide +kernel
theorem dX9_copy_32 : decode prog_11_method_6_code 32 = .ok (.aload_n 1, 1) := by decide +kernel
theorem dX9_copy_33 : decode prog_11_method_6_code 33 = .ok (.getfield 28, 3) := by decide +kernel
theorem dX9_copy_36 : decode prog_11_method_6_code 36 = .ok (.putfield 28, 3) := by decide +kernel
theorem dX9_copy_39 : decode prog_11_method_6_code 39 = .ok (.return_, 1) := by decide +kernel
theorem dX10_init_0 : decode prog_12_method_1_code 0 = .ok (.aload_n 0, 1) := by decide +kernel
theorem dX10_init_1 : decode prog_12_method_1_code 1 = .ok (.invokespecial 3, 3) := by decide +kernel
theorem dX10_init_4 : decode prog_12_method_1_code 4 = .ok (.aload_n 0, 1) := by decide +kernel
theorem dX10_init_5 : decode prog_12_method_1_code 5 = .ok (.sipush 400, 3) := by decide +kernel
theorem dX10_init_8 : decode prog_12_method_1_code 8 = .ok (.newarray .int, 2) := by decide +kernel
theorem dX10_init_10 : decode prog_12_method_1_code 10 = .ok (.putfield 9, 3) := by decide +kernel
theorem dX10_init_13 : decode prog_12_method_1_code 13 = .ok (.aload_n 0, 1) := by decide +kernel
theorem dX10_init_14 : decode prog_12_method_1_code 14 = .ok (.new 15, 3) := by decide +kernel
theorem dX10_init_17 : decode prog_12_method_1_code 17 = .ok (.dup, 1) := by decide +kernel
theorem dX10_init_18 : decode prog_12_method_1_code 18 = .ok (.sipush 401, 3) := by decide +kernel
theorem dX10_init_21 : decode prog_12_method_1_code 21 = .ok (.iconst 3, 1) := by decide +kernel
theorem dX10_init_22 : decode prog_12_method_1_code 22 = .ok (.invokespecial 17, 3) := by decide +kernel
theorem dX10_init_25 : decode prog_12_method_1_code 25 = .ok (.putfield 20, 3) := by decide +kernel
theorem dX10_init_28 : decode prog_12_method_1_code 28 = .ok (.return_, 1) := by decide +kernel
theorem dX10_hasRoom_0 : decode prog_12_method_2_code 0 = .ok (.aload_n 0, 1) := by decide +kernel
theorem dX10_hasRoom_1 : decode prog_12_method_2_code 1 = .ok (.getfield 24, 3) := by decide +kernel
theorem dX10_hasRoom_4 : decode prog_12_method_2_code 4 = .ok (.iload_n 1, 1) := by decide +kernel
theorem dX10_hasRoom_5 : decode prog_12_method_2_code 5 = .ok (.iadd, 1) := by decide +kernel
theorem dX10_hasRoom_6 : decode prog_12_method_2_code 6 = .ok (.aload_n 0, 1) := by decide +kernel
theorem dX10_hasRoom_7 : decode prog_12_method_2_code 7 = .ok (.getfield 9, 3) := by decide +kernel
theorem dX10_hasRoom_10 : decode prog_12_method_2_code 10 = .ok (.arraylength, 1) := by decide +kernel
theorem dX10_hasRoom_11 : decode prog_12_method_2_code 11 = .ok (.if_icmp .gt 7, 3) := by decide +kernel
theorem dX10_hasRoom_14 : decode prog_12_method_2_code 14 = .ok (.iconst 1, 1) := by decide +kernel
theorem dX10_hasRoom_15 : decode prog_12_method_2_code 15 = .ok (.goto 4, 3) := by decide +kernel
theorem dX10_hasRoom_18 : decode prog_12_method_2_code 18 = .ok (.iconst 0, 1) := by decide +kernel
theorem dX10_hasRoom_19 : decode prog_12_method_2_code 19 = .ok (.ireturn, 1) := by decide +kernel
theorem dX10_append_0 : decode prog_12_method_3_code 0 = .ok (.bipush 24, 2) := by decide +kernel
theorem dX10_append_2 : decode prog_12_method_3_code 2 = .ok (.istore_n 2, 1) := by decide +kernel
theorem dX10_append_3 : decode prog_12_method_3_code 3 = .ok (.iload_n 2, 1) := by decide +kernel
theorem dX10_append_4 : decode prog_12_method_3_code 4 = .ok (.ifCond .lt 54, 3) := by decide +kernel
theorem dX10_append_7 : decode prog_12_method_3_code 7 = .ok (.aload_n 0, 1) := by decide +kernel
theorem dX10_append_8 : decode prog_12_method_3_code 8 = .ok (.getfield 24, 3) := by decide +kernel
theorem dX10_append_11 : decode prog_12_method_3_code 11 = .ok (.ifCond .lt 41, 3) := by decide +kernel
theorem dX10_append_14 : decode prog_12_method_3_code 14 = .ok (.aload_n 0, 1) := by decide +kernel
theorem dX10_append_15 : decode prog_12_method_3_code 15 = .ok (.getfield 24, 3) := by decide +kernel
theorem dX10_append_18 : decode prog_12_method_3_code 18 = .ok (.aload_n 0, 1) := by decide +kernel
theorem dX10_append_19 : decode prog_12_method_3_code 19 = .ok (.getfield 9, 3) := by decide +kernel
theorem dX10_append_22 : decode prog_12_method_3_code 22 = .ok (.arraylength, 1) := by decide +kernel
theorem dX10_append_23 : decode prog_12_method_3_code 23 = .ok (.if_icmp .ge 29, 3) := by decide +kernel
theorem dX10_append_26 : decode prog_12_method_3_code 26 = .ok (.aload_n 0, 1) := by decide +kernel
theorem dX10_append_27 : decode prog_12_method_3_code 27 = .ok (.getfield 9, 3) := by decide +kernel
theorem dX10_append_30 : decode prog_12_method_3_code 30 = .ok (.aload_n 0, 1) := by decide +kernel
theorem dX10_append_31 : decode prog_12_method_3_code 31 = .ok (.getfield 24, 3) := by decide +kernel
theorem dX10_append_34 : decode prog_12_method_3_code 34 = .ok (.iload_n 1, 1) := by decide +kernel
theorem dX10_append_35 : decode prog_12_method_3_code 35 = .ok (.iload_n 2, 1) := by decide +kernel
theorem dX10_append_36 : decode prog_12_method_3_code 36 = .ok (.ishr, 1) := by decide +kernel
theorem dX10_append_37 : decode prog_12_method_3_code 37 = .ok (.sipush 255, 3) := by decide +kernel
theorem dX10_append_40 : decode prog_12_method_3_code 40 = .ok (.iand, 1) := by decide +kernel
theorem dX10_append_41 : decode prog_12_method_3_code 41 = .ok (.iastore, 1) := by decide +kernel
theorem dX10_append_42 : decode prog_12_method_3_code 42 = .ok (.aload_n 0, 1) := by decide +kernel
theorem dX10_append_43 : decode prog_12_method_3_code 43 = .ok (.dup, 1) := by decide +kernel
theorem dX10_append_44 : decode prog_12_method_3_code 44 = .ok (.getfield 24, 3) := by decide +kernel
theorem dX10_append_47 : decode prog_12_method_3_code 47 = .ok (.iconst 1, 1) := by decide +kernel
theorem dX10_append_48 : decode prog_12_method_3_code 48 = .ok (.iadd, 1) := by decide +kernel
theorem dX10_append_49 : decode prog_12_method_3_code 49 = .ok (.putfield 24, 3) := by decide +kernel
theorem dX10_append_52 : decode prog_12_method_3_code 52 = .ok (.iinc 2 (-8), 3) := by decide +kernel
theorem dX10_append_55 : decode prog_12_method_3_code 55 = .ok (.goto (-52), 3) := by decide +kernel
theorem dX10_append_58 : decode prog_12_method_3_code 58 = .ok (.return_, 1) := by decide +kernel
theorem dX10_scan_0 : decode prog_12_method_4_code 0 = .ok (.aload_n 0, 1) := by decide +kernel
theorem dX10_scan_1 : decode prog_12_method_4_code 1 = .ok (.getfield 20, 3) := by decide +kernel
theorem dX10_scan_4 : decode prog_12_method_4_code 4 = .ok (.iconst 0, 1) := by decide +kernel
theorem dX10_scan_5 : decode prog_12_method_4_code 5 = .ok (.putfield 28, 3) := by decide +kernel
theorem dX10_scan_8 : decode prog_12_method_4_code 8 = .ok (.iconst 0, 1) := by decide +kernel
theorem dX10_scan_9 : decode prog_12_method_4_code 9 = .ok (.istore_n 1, 1) := by decide +kernel
theorem dX10_scan_10 : decode prog_12_method_4_code 10 = .ok (.iconst 0, 1) := by decide +kernel
theorem dX10_scan_11 : decode prog_12_method_4_code 11 = .ok (.istore_n 2, 1) := by decide +kernel
theorem dX10_scan_12 : decode prog_12_method_4_code 12 = .ok (.iload_n 2, 1) := by decide +kernel
theorem dX10_scan_13 : decode prog_12_method_4_code 13 = .ok (.sipush 400, 3) := by decide +kernel
theorem dX10_scan_16 : decode prog_12_method_4_code 16 = .ok (.if_icmp .ge 40, 3) := by decide +kernel
theorem dX10_scan_19 : decode prog_12_method_4_code 19 = .ok (.iload_n 1, 1) := by decide +kernel
theorem dX10_scan_20 : decode prog_12_method_4_code 20 = .ok (.aload_n 0, 1) := by decide +kernel
theorem dX10_scan_21 : decode prog_12_method_4_code 21 = .ok (.getfield 24, 3) := by decide +kernel
theorem dX10_scan_24 : decode prog_12_method_4_code 24 = .ok (.if_icmp .ge 32, 3) := by decide +kernel
theorem dX10_scan_27 : decode prog_12_method_4_code 27 = .ok (.aload_n 0, 1) := by decide +kernel
theorem dX10_scan_28 : decode prog_12_method_4_code 28 = .ok (.iload_n 1, 1) := by decide +kernel
theorem dX10_scan_29 : decode prog_12_method_4_code 29 = .ok (.invokevirtual 31, 3) := by decide +kernel
theorem dX10_scan_32 : decode prog_12_method_4_code 32 = .ok (.invokestatic 35, 3) := by decide +kernel
theorem dX10_scan_35 : decode prog_12_method_4_code 35 = .ok (.ifCond .eq 9, 3) := by decide +kernel
theorem dX10_scan_38 : decode prog_12_method_4_code 38 = .ok (.iload_n 1, 1) := by decide +kernel
theorem dX10_scan_39 : decode prog_12_method_4_code 39 = .ok (.iconst 1, 1) := by decide +kernel
theorem dX10_scan_40 : decode prog_12_method_4_code 40 = .ok (.iadd, 1) := by decide +kernel
theorem dX10_scan_41 : decode prog_12_method_4_code 41 = .ok (.goto 8, 3) := by decide +kernel
theorem dX10_scan_44 : decode prog_12_method_4_code 44 = .ok (.aload_n 0, 1) := by decide +kernel
theorem dX10_scan_45 : decode prog_12_method_4_code 45 = .ok (.iload_n 1, 1) := by decide +kernel
theorem dX10_scan_46 : decode prog_12_method_4_code 46 = .ok (.invokevirtual 39, 3) := by decide +kernel
theorem dX10_scan_49 : decode prog_12_method_4_code 49 = .ok (.istore_n 1, 1) := by decide +kernel
theorem dX10_scan_50 : decode prog_12_method_4_code 50 = .ok (.iinc 2 1, 3) := by decide +kernel
theorem dX10_scan_53 : decode prog_12_method_4_code 53 = .ok (.goto (-41), 3) := by decide +kernel
theorem dX10_scan_56 : decode prog_12_method_4_code 56 = .ok (.aload_n 0, 1) := by decide +kernel
theorem dX10_scan_57 : decode prog_12_method_4_code 57 = .ok (.getfield 20, 3) := by decide +kernel
theorem dX10_scan_60 : decode prog_12_method_4_code 60 = .ok (.iconst 0, 1) := by decide +kernel
theorem dX10_scan_61 : decode prog_12_method_4_code 61 = .ok (.aload_n 0, 1) := by decide +kernel
theorem dX10_scan_62 : decode prog_12_method_4_code 62 = .ok (.getfield 24, 3) := by decide +kernel
theorem dX10_scan_65 : decode prog_12_method_4_code 65 = .ok (.iconst 0, 1) := by decide +kernel
theorem dX10_scan_66 : decode prog_12_method_4_code 66 = .ok (.iconst 0, 1) := by decide +kernel
theorem dX10_scan_67 : decode prog_12_method_4_code 67 = .ok (.invokevirtual 42, 3) := by decide +kernel
theorem dX10_scan_70 : decode prog_12_method_4_code 70 = .ok (.pop, 1) := by decide +kernel
theorem dX10_scan_71 : decode prog_12_method_4_code 71 = .ok (.aload_n 0, 1) := by decide +kernel
theorem dX10_scan_72 : decode prog_12_method_4_code 72 = .ok (.iconst (-1), 1) := by decide +kernel
theorem dX10_scan_73 : decode prog_12_method_4_code 73 = .ok (.putfield 46, 3) := by decide +kernel
theorem dX10_scan_76 : decode prog_12_method_4_code 76 = .ok (.aload_n 0, 1) := by decide +kernel
theorem dX10_scan_77 : decode prog_12_method_4_code 77 = .ok (.invokevirtual 49, 3) := by decide +kernel
theorem dX10_scan_80 : decode prog_12_method_4_code 80 = .ok (.return_, 1) := by decide +kernel
theorem dX10_next_0 : decode prog_12_method_5_code 0 = .ok (.aload_n 0, 1) := by decide +kernel
theorem dX10_next_1 : decode prog_12_method_5_code 1 = .ok (.dup, 1) := by decide +kernel
theorem dX10_next_2 : decode prog_12_method_5_code 2 = .ok (.getfield 46, 3) := by decide +kernel
theorem dX10_next_5 : decode prog_12_method_5_code 5 = .ok (.iconst 1, 1) := by decide +kernel
theorem dX10_next_6 : decode prog_12_method_5_code 6 = .ok (.iadd, 1) := by decide +kernel
theorem dX10_next_7 : decode prog_12_method_5_code 7 = .ok (.putfield 46, 3) := by decide +kernel
theorem dX10_next_10 : decode prog_12_method_5_code 10 = .ok (.aload_n 0, 1) := by decide +kernel
theorem dX10_next_11 : decode prog_12_method_5_code 11 = .ok (.aload_n 0, 1) := by decide +kernel
theorem dX10_next_12 : decode prog_12_method_5_code 12 = .ok (.getfield 20, 3) := by decide +kernel
theorem dX10_next_15 : decode prog_12_method_5_code 15 = .ok (.aload_n 0, 1) := by decide +kernel
theorem dX10_next_16 : decode prog_12_method_5_code 16 = .ok (.getfield 46, 3) := by decide +kernel
theorem dX10_next_19 : decode prog_12_method_5_code 19 = .ok (.iconst 0, 1) := by decide +kernel
theorem dX10_next_20 : decode prog_12_method_5_code 20 = .ok (.invokevirtual 52, 3) := by decide +kernel
theorem dX10_next_23 : decode prog_12_method_5_code 23 = .ok (.putfield 56, 3) := by decide +kernel
theorem dX10_next_26 : decode prog_12_method_5_code 26 = .ok (.aload_n 0, 1) := by decide +kernel
theorem dX10_next_27 : decode prog_12_method_5_code 27 = .ok (.aload_n 0, 1) := by decide +kernel
theorem dX10_next_28 : decode prog_12_method_5_code 28 = .ok (.getfield 20, 3) := by decide +kernel
theorem dX10_next_31 : decode prog_12_method_5_code 31 = .ok (.aload_n 0, 1) := by decide +kernel
theorem dX10_next_32 : decode prog_12_method_5_code 32 = .ok (.getfield 46, 3) := by decide +kernel
theorem dX10_next_35 : decode prog_12_method_5_code 35 = .ok (.iconst 1, 1) := by decide +kernel
theorem dX10_next_36 : decode prog_12_method_5_code 36 = .ok (.invokevirtual 52, 3) := by decide +kernel
theorem dX10_next_39 : decode prog_12_method_5_code 39 = .ok (.putfield 59, 3) := by decide +kernel
theorem dX10_next_42 : decode prog_12_method_5_code 42 = .ok (.aload_n 0, 1) := by decide +kernel
theorem dX10_next_43 : decode prog_12_method_5_code 43 = .ok (.aload_n 0, 1) := by decide +kernel
theorem dX10_next_44 : decode prog_12_method_5_code 44 = .ok (.getfield 20, 3) := by decide +kernel
theorem dX10_next_47 : decode prog_12_method_5_code 47 = .ok (.aload_n 0, 1) := by decide +kernel
theorem dX10_next_48 : decode prog_12_method_5_code 48 = .ok (.getfield 46, 3) := by decide +kernel
theorem dX10_next_51 : decode prog_12_method_5_code 51 = .ok (.iconst 2, 1) := by decide +kernel
theorem dX10_next_52 : decode prog_12_method_5_code 52 = .ok (.invokevirtual 52, 3) := by decide +kernel
theorem dX10_next_55 : decode prog_12_method_5_code 55 = .ok (.putfield 62, 3) := by decide +kernel
theorem dX10_next_58 : decode prog_12_method_5_code 58 = .ok (.return_, 1) := by decide +kernel
theorem dX10_take_0 : decode prog_12_method_6_code 0 = .ok (.aload_n 0, 1) := by decide +kernel
theorem dX10_take_1 : decode prog_12_method_6_code 1 = .ok (.iload_n 1, 1) := by decide +kernel
theorem dX10_take_2 : decode prog_12_method_6_code 2 = .ok (.invokevirtual 31, 3) := by decide +kernel
theorem dX10_take_5 : decode prog_12_method_6_code 5 = .ok (.istore_n 2, 1) := by decide +kernel
theorem dX10_take_6 : decode prog_12_method_6_code 6 = .ok (.iload_n 2, 1) := by decide +kernel
theorem dX10_take_7 : decode prog_12_method_6_code 7 = .ok (.invokestatic 65, 3) := by decide +kernel
theorem dX10_take_10 : decode prog_12_method_6_code 10 = .ok (.ifCond .eq 9, 3) := by decide +kernel
theorem dX10_take_13 : decode prog_12_method_6_code 13 = .ok (.aload_n 0, 1) := by decide +kernel
theorem dX10_take_14 : decode prog_12_method_6_code 14 = .ok (.iload_n 1, 1) := by decide +kernel
theorem dX10_take_15 : decode prog_12_method_6_code 15 = .ok (.invokevirtual 68, 3) := by decide +kernel
theorem dX10_take_18 : decode prog_12_method_6_code 18 = .ok (.ireturn, 1) := by decide +kernel
theorem dX10_take_19 : decode prog_12_method_6_code 19 = .ok (.iload_n 2, 1) := by decide +kernel
theorem dX10_take_20 : decode prog_12_method_6_code 20 = .ok (.invokestatic 71, 3) := by decide +kernel
theorem dX10_take_23 : decode prog_12_method_6_code 23 = .ok (.ifCond .ne 30, 3) := by decide +kernel
theorem dX10_take_26 : decode prog_12_method_6_code 26 = .ok (.aload_n 0, 1) := by decide +kernel
theorem dX10_take_27 : decode prog_12_method_6_code 27 = .ok (.getfield 20, 3) := by decide +kernel
theorem dX10_take_30 : decode prog_12_method_6_code 30 = .ok (.iload_n 2, 1) := by decide +kernel
theorem dX10_take_31 : decode prog_12_method_6_code 31 = .ok (.invokestatic 74, 3) := by decide +kernel
theorem dX10_take_34 : decode prog_12_method_6_code 34 = .ok (.ifCond .eq 7, 3) := by decide +kernel
theorem dX10_take_37 : decode prog_12_method_6_code 37 = .ok (.iload_n 2, 1) := by decide +kernel
theorem dX10_take_38 : decode prog_12_method_6_code 38 = .ok (.goto 4, 3) := by decide +kernel
theorem dX10_take_41 : decode prog_12_method_6_code 41 = .ok (.iconst 2, 1) := by decide +kernel
theorem dX10_take_42 : decode prog_12_method_6_code 42 = .ok (.iload_n 1, 1) := by decide +kernel
theorem dX10_take_43 : decode prog_12_method_6_code 43 = .ok (.iconst 0, 1) := by decide +kernel
theorem dX10_take_44 : decode prog_12_method_6_code 44 = .ok (.iconst 0, 1) := by decide +kernel
theorem dX10_take_45 : decode prog_12_method_6_code 45 = .ok (.invokevirtual 42, 3) := by decide +kernel
theorem dX10_take_48 : decode prog_12_method_6_code 48 = .ok (.pop, 1) := by decide +kernel
theorem dX10_take_49 : decode prog_12_method_6_code 49 = .ok (.iload_n 1, 1) := by decide +kernel
theorem dX10_take_50 : decode prog_12_method_6_code 50 = .ok (.iconst 1, 1) := by decide +kernel
theorem dX10_take_51 : decode prog_12_method_6_code 51 = .ok (.iadd, 1) := by decide +kernel
theorem dX10_take_52 : decode prog_12_method_6_code 52 = .ok (.ireturn, 1) := by decide +kernel
theorem dX10_take_53 : decode prog_12_method_6_code 53 = .ok (.iload_n 1, 1) := by decide +kernel
theorem dX10_take_54 : decode prog_12_method_6_code 54 = .ok (.istore_n 3, 1) := by decide +kernel
theorem dX10_take_55 : decode prog_12_method_6_code 55 = .ok (.iload_n 3, 1) := by decide +kernel
theorem dX10_take_56 : decode prog_12_method_6_code 56 = .ok (.aload_n 0, 1) := by decide +kernel
theorem dX10_take_57 : decode prog_12_method_6_code 57 = .ok (.getfield 24, 3) := by decide +kernel
theorem dX10_take_60 : decode prog_12_method_6_code 60 = .ok (.if_icmp .ge 20, 3) := by decide +kernel
theorem dX10_take_63 : decode prog_12_method_6_code 63 = .ok (.aload_n 0, 1) := by decide +kernel
theorem dX10_take_64 : decode prog_12_method_6_code 64 = .ok (.iload_n 3, 1) := by decide +kernel
theorem dX10_take_65 : decode prog_12_method_6_code 65 = .ok (.invokevirtual 31, 3) := by decide +kernel
theorem dX10_take_68 : decode prog_12_method_6_code 68 = .ok (.invokestatic 71, 3) := by decide +kernel
theorem dX10_take_71 : decode prog_12_method_6_code 71 = .ok (.ifCond .eq 9, 3) := by decide +kernel
theorem dX10_take_74 : decode prog_12_method_6_code 74 = .ok (.iinc 3 1, 3) := by decide +kernel
theorem dX10_take_77 : decode prog_12_method_6_code 77 = .ok (.goto (-22), 3) := by decide +kernel
theorem dX10_take_80 : decode prog_12_method_6_code 80 = .ok (.aload_n 0, 1) := by decide +kernel
theorem dX10_take_81 : decode prog_12_method_6_code 81 = .ok (.getfield 20, 3) := by decide +kernel
theorem dX10_take_84 : decode prog_12_method_6_code 84 = .ok (.aload_n 0, 1) := by decide +kernel
theorem dX10_take_85 : decode prog_12_method_6_code 85 = .ok (.iload_n 1, 1) := by decide +kernel
theorem dX10_take_86 : decode prog_12_method_6_code 86 = .ok (.iload_n 3, 1) := by decide +kernel
theorem dX10_take_87 : decode prog_12_method_6_code 87 = .ok (.invokevirtual 77, 3) := by decide +kernel
theorem dX10_take_90 : decode prog_12_method_6_code 90 = .ok (.iload_n 1, 1) := by decide +kernel
theorem dX10_take_91 : decode prog_12_method_6_code 91 = .ok (.iconst 0, 1) := by decide +kernel
theorem dX10_take_92 : decode prog_12_method_6_code 92 = .ok (.iconst 0, 1) := by decide +kernel
theorem dX10_take_93 : decode prog_12_method_6_code 93 = .ok (.invokevirtual 42, 3) := by decide +kernel
theorem dX10_take_96 : decode prog_12_method_6_code 96 = .ok (.pop, 1) := by decide +kernel
theorem dX10_take_97 : decode prog_12_method_6_code 97 = .ok (.iload_n 3, 1) := by decide +kernel
theorem dX10_take_98 : decode prog_12_method_6_code 98 = .ok (.ireturn, 1) := by decide +kernel
theorem dX10_takeNumber_0 : decode prog_12_method_7_code 0 = .ok (.iconst 0, 1) := by decide +kernel
theorem dX10_takeNumber_1 : decode prog_12_method_7_code 1 = .ok (.istore_n 2, 1) := by decide +kernel
theorem dX10_takeNumber_2 : decode prog_12_method_7_code 2 = .ok (.iload_n 1, 1) := by decide +kernel
theorem dX10_takeNumber_3 : decode prog_12_method_7_code 3 = .ok (.istore_n 3, 1) := by decide +kernel
theorem dX10_takeNumber_4 : decode prog_12_method_7_code 4 = .ok (.iload_n 3, 1) := by decide +kernel
theorem dX10_takeNumber_5 : decode prog_12_method_7_code 5 = .ok (.aload_n 0, 1) := by decide +kernel
theorem dX10_takeNumber_6 : decode prog_12_method_7_code 6 = .ok (.getfield 24, 3) := by decide +kernel
theorem dX10_takeNumber_9 : decode prog_12_method_7_code 9 = .ok (.if_icmp .ge 34, 3) := by decide +kernel
theorem dX10_takeNumber_12 : decode prog_12_method_7_code 12 = .ok (.aload_n 0, 1) := by decide +kernel
theorem dX10_takeNumber_13 : decode prog_12_method_7_code 13 = .ok (.iload_n 3, 1) := by decide +kernel
theorem dX10_takeNumber_14 : decode prog_12_method_7_code 14 = .ok (.invokevirtual 31, 3) := by decide +kernel
theorem dX10_takeNumber_17 : decode prog_12_method_7_code 17 = .ok (.invokestatic 65, 3) := by decide +kernel
theorem dX10_takeNumber_20 : decode prog_12_method_7_code 20 = .ok (.ifCond .eq 23, 3) := by decide +kernel
theorem dX10_takeNumber_23 : decode prog_12_method_7_code 23 = .ok (.iload_n 2, 1) := by decide +kernel
theorem dX10_takeNumber_24 : decode prog_12_method_7_code 24 = .ok (.bipush 10, 2) := by decide +kernel
theorem dX10_takeNumber_26 : decode prog_12_method_7_code 26 = .ok (.imul, 1) := by decide +kernel
theorem dX10_takeNumber_27 : decode prog_12_method_7_code 27 = .ok (.aload_n 0, 1) := by decide +kernel
theorem dX10_takeNumber_28 : decode prog_12_method_7_code 28 = .ok (.iload_n 3, 1) := by decide +kernel
theorem dX10_takeNumber_29 : decode prog_12_method_7_code 29 = .ok (.invokevirtual 31, 3) := by decide +kernel
theorem dX10_takeNumber_32 : decode prog_12_method_7_code 32 = .ok (.iadd, 1) := by decide +kernel
theorem dX10_takeNumber_33 : decode prog_12_method_7_code 33 = .ok (.bipush 48, 2) := by decide +kernel
theorem dX10_takeNumber_35 : decode prog_12_method_7_code 35 = .ok (.isub, 1) := by decide +kernel
theorem dX10_takeNumber_36 : decode prog_12_method_7_code 36 = .ok (.istore_n 2, 1) := by decide +kernel
theorem dX10_takeNumber_37 : decode prog_12_method_7_code 37 = .ok (.iinc 3 1, 3) := by decide +kernel
theorem dX10_takeNumber_40 : decode prog_12_method_7_code 40 = .ok (.goto (-36), 3) := by decide +kernel
theorem dX10_takeNumber_43 : decode prog_12_method_7_code 43 = .ok (.aload_n 0, 1) := by decide +kernel
theorem dX10_takeNumber_44 : decode prog_12_method_7_code 44 = .ok (.getfield 20, 3) := by decide +kernel
theorem dX10_takeNumber_47 : decode prog_12_method_7_code 47 = .ok (.iload_n 3, 1) := by decide +kernel
theorem dX10_takeNumber_48 : decode prog_12_method_7_code 48 = .ok (.iload_n 1, 1) := by decide +kernel
theorem dX10_takeNumber_49 : decode prog_12_method_7_code 49 = .ok (.isub, 1) := by decide +kernel
theorem dX10_takeNumber_50 : decode prog_12_method_7_code 50 = .ok (.iconst 4, 1) := by decide +kernel
theorem dX10_takeNumber_51 : decode prog_12_method_7_code 51 = .ok (.if_icmp .gt 7, 3) := by decide +kernel
theorem dX10_takeNumber_54 : decode prog_12_method_7_code 54 = .ok (.iconst 1, 1) := by decide +kernel
theorem dX10_takeNumber_55 : decode prog_12_method_7_code 55 = .ok (.goto 4, 3) := by decide +kernel
theorem dX10_takeNumber_58 : decode prog_12_method_7_code 58 = .ok (.iconst 2, 1) := by decide +kernel
theorem dX10_takeNumber_59 : decode prog_12_method_7_code 59 = .ok (.iload_n 1, 1) := by decide +kernel
theorem dX10_takeNumber_60 : decode prog_12_method_7_code 60 = .ok (.iload_n 2, 1) := by decide +kernel
theorem dX10_takeNumber_61 : decode prog_12_method_7_code 61 = .ok (.iconst 0, 1) := by decide +kernel
theorem dX10_takeNumber_62 : decode prog_12_method_7_code 62 = .ok (.invokevirtual 42, 3) := by decide +kernel
theorem dX10_takeNumber_65 : decode prog_12_method_7_code 65 = .ok (.pop, 1) := by decide +kernel
theorem dX10_takeNumber_66 : decode prog_12_method_7_code 66 = .ok (.iload_n 3, 1) := by decide +kernel
theorem dX10_takeNumber_67 : decode prog_12_method_7_code 67 = .ok (.ireturn, 1) := by decide +kernel
theorem dX10_wordAt_0 : decode prog_12_method_8_code 0 = .ok (.sipush 256, 3) := by decide +kernel
theorem dX10_wordAt_3 : decode prog_12_method_8_code 3 = .ok (.istore_n 3, 1) := by decide +kernel
theorem dX10_wordAt_4 : decode prog_12_method_8_code 4 = .ok (.iconst 0, 1) := by decide +kernel
theorem dX10_wordAt_5 : decode prog_12_method_8_code 5 = .ok (.istore 4, 2) := by decide +kernel
theorem dX10_wordAt_7 : decode prog_12_method_8_code 7 = .ok (.iconst 0, 1) := by decide +kernel
theorem dX10_wordAt_8 : decode prog_12_method_8_code 8 = .ok (.istore 5, 2) := by decide +kernel
theorem dX10_wordAt_10 : decode prog_12_method_8_code 10 = .ok (.iload 5, 2) := by decide +kernel
theorem dX10_wordAt_12 : decode prog_12_method_8_code 12 = .ok (.ldc 80, 2) := by decide +kernel
theorem dX10_wordAt_14 : decode prog_12_method_8_code 14 = .ok (.invokevirtual 82, 3) := by decide +kernel
theorem dX10_wordAt_17 : decode prog_12_method_8_code 17 = .ok (.if_icmp .ge 55, 3) := by decide +kernel
theorem dX10_wordAt_20 : decode prog_12_method_8_code 20 = .ok (.ldc 80, 2) := by decide +kernel
theorem dX10_wordAt_22 : decode prog_12_method_8_code 22 = .ok (.iload 5, 2) := by decide +kernel
theorem dX10_wordAt_24 : decode prog_12_method_8_code 24 = .ok (.invokevirtual 87, 3) := by decide +kernel
theorem dX10_wordAt_27 : decode prog_12_method_8_code 27 = .ok (.bipush 32, 2) := by decide +kernel
theorem dX10_wordAt_29 : decode prog_12_method_8_code 29 = .ok (.if_icmp .ne 37, 3) := by decide +kernel
theorem dX10_wordAt_32 : decode prog_12_method_8_code 32 = .ok (.iload 5, 2) := by decide +kernel
theorem dX10_wordAt_34 : decode prog_12_method_8_code 34 = .ok (.iload 4, 2) := by decide +kernel
theorem dX10_wordAt_36 : decode prog_12_method_8_code 36 = .ok (.isub, 1) := by decide +kernel
theorem dX10_wordAt_37 : decode prog_12_method_8_code 37 = .ok (.iload_n 2, 1) := by decide +kernel
theorem dX10_wordAt_38 : decode prog_12_method_8_code 38 = .ok (.iload_n 1, 1) := by decide +kernel
theorem dX10_wordAt_39 : decode prog_12_method_8_code 39 = .ok (.isub, 1) := by decide +kernel
theorem dX10_wordAt_40 : decode prog_12_method_8_code 40 = .ok (.if_icmp .ne 17, 3) := by decide +kernel
theorem dX10_wordAt_43 : decode prog_12_method_8_code 43 = .ok (.aload_n 0, 1) := by decide +kernel
theorem dX10_wordAt_44 : decode prog_12_method_8_code 44 = .ok (.iload 4, 2) := by decide +kernel
theorem dX10_wordAt_46 : decode prog_12_method_8_code 46 = .ok (.iload 5, 2) := by decide +kernel
theorem dX10_wordAt_48 : decode prog_12_method_8_code 48 = .ok (.iload_n 1, 1) := by decide +kernel
theorem dX10_wordAt_49 : decode prog_12_method_8_code 49 = .ok (.invokevirtual 91, 3) := by decide +kernel
theorem dX10_wordAt_52 : decode prog_12_method_8_code 52 = .ok (.ifCond .eq 5, 3) := by decide +kernel
theorem dX10_wordAt_55 : decode prog_12_method_8_code 55 = .ok (.iload_n 3, 1) := by decide +kernel
theorem dX10_wordAt_56 : decode prog_12_method_8_code 56 = .ok (.ireturn, 1) := by decide +kernel
theorem dX10_wordAt_57 : decode prog_12_method_8_code 57 = .ok (.iinc 3 1, 3) := by decide +kernel
theorem dX10_wordAt_60 : decode prog_12_method_8_code 60 = .ok (.iload 5, 2) := by decide +kernel
theorem dX10_wordAt_62 : decode prog_12_method_8_code 62 = .ok (.iconst 1, 1) := by decide +kernel
theorem dX10_wordAt_63 : decode prog_12_method_8_code 63 = .ok (.iadd, 1) := by decide +kernel
theorem dX10_wordAt_64 : decode prog_12_method_8_code 64 = .ok (.istore 4, 2) := by decide +kernel
theorem dX10_wordAt_66 : decode prog_12_method_8_code 66 = .ok (.iinc 5 1, 3) := by decide +kernel
theorem dX10_wordAt_69 : decode prog_12_method_8_code 69 = .ok (.goto (-59), 3) := by decide +kernel
theorem dX10_wordAt_72 : decode prog_12_method_8_code 72 = .ok (.iconst 2, 1) := by decide +kernel
theorem dX10_wordAt_73 : decode prog_12_method_8_code 73 = .ok (.ireturn, 1) := by decide +kernel
theorem dX10_isSame_0 : decode prog_12_method_9_code 0 = .ok (.iconst 0, 1) := by decide +kernel
theorem dX10_isSame_1 : decode prog_12_method_9_code 1 = .ok (.iload_n 1, 1) := by decide +kernel
theorem dX10_isSame_2 : decode prog_12_method_9_code 2 = .ok (.invokestatic 95, 3) := by decide +kernel
theorem dX10_isSame_5 : decode prog_12_method_9_code 5 = .ok (.istore 4, 2) := by decide +kernel
theorem dX10_isSame_7 : decode prog_12_method_9_code 7 = .ok (.iload 4, 2) := by decide +kernel
theorem dX10_isSame_9 : decode prog_12_method_9_code 9 = .ok (.iload_n 2, 1) := by decide +kernel
theorem dX10_isSame_10 : decode prog_12_method_9_code 10 = .ok (.if_icmp .ge 41, 3) := by decide +kernel
theorem dX10_isSame_13 : decode prog_12_method_9_code 13 = .ok (.iload 4, 2) := by decide +kernel
theorem dX10_isSame_15 : decode prog_12_method_9_code 15 = .ok (.ldc 80, 2) := by decide +kernel
theorem dX10_isSame_17 : decode prog_12_method_9_code 17 = .ok (.invokevirtual 82, 3) := by decide +kernel
theorem dX10_isSame_20 : decode prog_12_method_9_code 20 = .ok (.if_icmp .ge 31, 3) := by decide +kernel
theorem dX10_isSame_23 : decode prog_12_method_9_code 23 = .ok (.ldc 80, 2) := by decide +kernel
theorem dX10_isSame_25 : decode prog_12_method_9_code 25 = .ok (.iload 4, 2) := by decide +kernel
theorem dX10_isSame_27 : decode prog_12_method_9_code 27 = .ok (.invokevirtual 87, 3) := by decide +kernel
theorem dX10_isSame_30 : decode prog_12_method_9_code 30 = .ok (.aload_n 0, 1) := by decide +kernel
theorem dX10_isSame_31 : decode prog_12_method_9_code 31 = .ok (.iload_n 3, 1) := by decide +kernel
theorem dX10_isSame_32 : decode prog_12_method_9_code 32 = .ok (.iload 4, 2) := by decide +kernel
theorem dX10_isSame_34 : decode prog_12_method_9_code 34 = .ok (.iadd, 1) := by decide +kernel
theorem dX10_isSame_35 : decode prog_12_method_9_code 35 = .ok (.iload_n 1, 1) := by decide +kernel
theorem dX10_isSame_36 : decode prog_12_method_9_code 36 = .ok (.isub, 1) := by decide +kernel
theorem dX10_isSame_37 : decode prog_12_method_9_code 37 = .ok (.invokevirtual 31, 3) := by decide +kernel
theorem dX10_isSame_40 : decode prog_12_method_9_code 40 = .ok (.if_icmp .eq 5, 3) := by decide +kernel
theorem dX10_isSame_43 : decode prog_12_method_9_code 43 = .ok (.iconst 0, 1) := by decide +kernel
theorem dX10_isSame_44 : decode prog_12_method_9_code 44 = .ok (.ireturn, 1) := by decide +kernel
theorem dX10_isSame_45 : decode prog_12_method_9_code 45 = .ok (.iinc 4 1, 3) := by decide +kernel
theorem dX10_isSame_48 : decode prog_12_method_9_code 48 = .ok (.goto (-41), 3) := by decide +kernel
theorem dX10_isSame_51 : decode prog_12_method_9_code 51 = .ok (.iconst 1, 1) := by decide +kernel
theorem dX10_isSame_52 : decode prog_12_method_9_code 52 = .ok (.ireturn, 1) := by decide +kernel
theorem dX10_byteAt_0 : decode prog_12_method_10_code 0 = .ok (.iload_n 1, 1) := by decide +kernel
theorem dX10_byteAt_1 : decode prog_12_method_10_code 1 = .ok (.ifCond .lt 29, 3) := by decide +kernel
theorem dX10_byteAt_4 : decode prog_12_method_10_code 4 = .ok (.iload_n 1, 1) := by decide +kernel
theorem dX10_byteAt_5 : decode prog_12_method_10_code 5 = .ok (.aload_n 0, 1) := by decide +kernel
theorem dX10_byteAt_6 : decode prog_12_method_10_code 6 = .ok (.getfield 24, 3) := by decide +kernel
theorem dX10_byteAt_9 : decode prog_12_method_10_code 9 = .ok (.if_icmp .ge 21, 3) := by decide +kernel
theorem dX10_byteAt_12 : decode prog_12_method_10_code 12 = .ok (.iload_n 1, 1) := by decide +kernel
theorem dX10_byteAt_13 : decode prog_12_method_10_code 13 = .ok (.aload_n 0, 1) := by decide +kernel
theorem dX10_byteAt_14 : decode prog_12_method_10_code 14 = .ok (.getfield 9, 3) := by decide +kernel
theorem dX10_byteAt_17 : decode prog_12_method_10_code 17 = .ok (.arraylength, 1) := by decide +kernel
theorem dX10_byteAt_18 : decode prog_12_method_10_code 18 = .ok (.if_icmp .ge 12, 3) := by decide +kernel
theorem dX10_byteAt_21 : decode prog_12_method_10_code 21 = .ok (.aload_n 0, 1) := by decide +kernel
theorem dX10_byteAt_22 : decode prog_12_method_10_code 22 = .ok (.getfield 9, 3) := by decide +kernel
theorem dX10_byteAt_25 : decode prog_12_method_10_code 25 = .ok (.iload_n 1, 1) := by decide +kernel
theorem dX10_byteAt_26 : decode prog_12_method_10_code 26 = .ok (.iaload, 1) := by decide +kernel
theorem dX10_byteAt_27 : decode prog_12_method_10_code 27 = .ok (.goto 4, 3) := by decide +kernel
theorem dX10_byteAt_30 : decode prog_12_method_10_code 30 = .ok (.iconst (-1), 1) := by decide +kernel
theorem dX10_byteAt_31 : decode prog_12_method_10_code 31 = .ok (.ireturn, 1) := by decide +kernel
theorem dX10_isBlank_0 : decode prog_12_method_11_code 0 = .ok (.iload_n 0, 1) := by decide +kernel
theorem dX10_isBlank_1 : decode prog_12_method_11_code 1 = .ok (.bipush 32, 2) := by decide +kernel
theorem dX10_isBlank_3 : decode prog_12_method_11_code 3 = .ok (.if_icmp .eq 9, 3) := by decide +kernel
theorem dX10_isBlank_6 : decode prog_12_method_11_code 6 = .ok (.iload_n 0, 1) := by decide +kernel
theorem dX10_isBlank_7 : decode prog_12_method_11_code 7 = .ok (.bipush 10, 2) := by decide +kernel
theorem dX10_isBlank_9 : decode prog_12_method_11_code 9 = .ok (.if_icmp .ne 7, 3) := by decide +kernel
theorem dX10_isBlank_12 : decode prog_12_method_11_code 12 = .ok (.iconst 1, 1) := by decide +kernel
theorem dX10_isBlank_13 : decode prog_12_method_11_code 13 = .ok (.goto 4, 3) := by decide +kernel
theorem dX10_isBlank_16 : decode prog_12_method_11_code 16 = .ok (.iconst 0, 1) := by decide +kernel
theorem dX10_isBlank_17 : decode prog_12_method_11_code 17 = .ok (.ireturn, 1) := by decide +kernel
theorem dX10_isLetter_0 : decode prog_12_method_12_code 0 = .ok (.iload_n 0, 1) := by decide +kernel
theorem dX10_isLetter_1 : decode prog_12_method_12_code 1 = .ok (.bipush 97, 2) := by decide +kernel
theorem dX10_isLetter_3 : decode prog_12_method_12_code 3 = .ok (.if_icmp .lt 9, 3) := by decide +kernel
theorem dX10_isLetter_6 : decode prog_12_method_12_code 6 = .ok (.iload_n 0, 1) := by decide +kernel
theorem dX10_isLetter_7 : decode prog_12_method_12_code 7 = .ok (.bipush 122, 2) := by decide +kernel
theorem dX10_isLetter_9 : decode prog_12_method_12_code 9 = .ok (.if_icmp .le 15, 3) := by decide +kernel
theorem dX10_isLetter_12 : decode prog_12_method_12_code 12 = .ok (.iload_n 0, 1) := by decide +kernel
theorem dX10_isLetter_13 : decode prog_12_method_12_code 13 = .ok (.bipush 65, 2) := by decide +kernel
theorem dX10_isLetter_15 : decode prog_12_method_12_code 15 = .ok (.if_icmp .lt 13, 3) := by decide +kernel
theorem dX10_isLetter_18 : decode prog_12_method_12_code 18 = .ok (.iload_n 0, 1) := by decide +kernel
theorem dX10_isLetter_19 : decode prog_12_method_12_code 19 = .ok (.bipush 90, 2) := by decide +kernel
theorem dX10_isLetter_21 : decode prog_12_method_12_code 21 = .ok (.if_icmp .gt 7, 3) := by decide +kernel
theorem dX10_isLetter_24 : decode prog_12_method_12_code 24 = .ok (.iconst 1, 1) := by decide +kernel
theorem dX10_isLetter_25 : decode prog_12_method_12_code 25 = .ok (.goto 4, 3) := by decide +kernel
theorem dX10_isLetter_28 : decode prog_12_method_12_code 28 = .ok (.iconst 0, 1) := by decide +kernel
theorem dX10_isLetter_29 : decode prog_12_method_12_code 29 = .ok (.ireturn, 1) := by decide +kernel
theorem dX10_isDigit_0 : decode prog_12_method_13_code 0 = .ok (.iload_n 0, 1) := by decide +kernel
theorem dX10_isDigit_1 : decode prog_12_method_13_code 1 = .ok (.bipush 48, 2) := by decide +kernel
theorem dX10_isDigit_3 : decode prog_12_method_13_code 3 = .ok (.if_icmp .lt 13, 3) := by decide +kernel
theorem dX10_isDigit_6 : decode prog_12_method_13_code 6 = .ok (.iload_n 0, 1) := by decide +kernel
theorem dX10_isDigit_7 : decode prog_12_method_13_code 7 = .ok (.bipush 57, 2) := by decide +kernel
theorem dX10_isDigit_9 : decode prog_12_method_13_code 9 = .ok (.if_icmp .gt 7, 3) := by decide +kernel
theorem dX10_isDigit_12 : decode prog_12_method_13_code 12 = .ok (.iconst 1, 1) := by decide +kernel
theorem dX10_isDigit_13 : decode prog_12_method_13_code 13 = .ok (.goto 4, 3) := by decide +kernel
theorem dX10_isDigit_16 : decode prog_12_method_13_code 16 = .ok (.iconst 0, 1) := by decide +kernel
theorem dX10_isDigit_17 : decode prog_12_method_13_code 17 = .ok (.ireturn, 1) := by decide +kernel
theorem dX10_isSign_0 : decode prog_12_method_14_code 0 = .ok (.iload_n 0, 1) := by decide +kernel
theorem dX10_isSign_1 : decode prog_12_method_14_code 1 = .ok (.bipush 59, 2) := by decide +kernel
theorem dX10_isSign_3 : decode prog_12_method_14_code 3 = .ok (.if_icmp .eq 57, 3) := by decide +kernel
theorem dX10_isSign_6 : decode prog_12_method_14_code 6 = .ok (.iload_n 0, 1) := by decide +kernel
theorem dX10_isSign_7 : decode prog_12_method_14_code 7 = .ok (.bipush 43, 2) := by decide +kernel
theorem dX10_isSign_9 : decode prog_12_method_14_code 9 = .ok (.if_icmp .eq 51, 3) := by decide +kernel
theorem dX10_isSign_12 : decode prog_12_method_14_code 12 = .ok (.iload_n 0, 1) := by decide +kernel
theorem dX10_isSign_13 : decode prog_12_method_14_code 13 = .ok (.bipush 45, 2) := by decide +kernel
theorem dX10_isSign_15 : decode prog_12_method_14_code 15 = .ok (.if_icmp .eq 45, 3) := by decide +kernel
theorem dX10_isSign_18 : decode prog_12_method_14_code 18 = .ok (.iload_n 0, 1) := by decide +kernel
theorem dX10_isSign_19 : decode prog_12_method_14_code 19 = .ok (.bipush 42, 2) := by decide +kernel
theorem dX10_isSign_21 : decode prog_12_method_14_code 21 = .ok (.if_icmp .eq 39, 3) := by decide +kernel
theorem dX10_isSign_24 : decode prog_12_method_14_code 24 = .ok (.iload_n 0, 1) := by decide +kernel
theorem dX10_isSign_25 : decode prog_12_method_14_code 25 = .ok (.bipush 47, 2) := by decide +kernel
theorem dX10_isSign_27 : decode prog_12_method_14_code 27 = .ok (.if_icmp .eq 33, 3) := by decide +kernel
theorem dX10_isSign_30 : decode prog_12_method_14_code 30 = .ok (.iload_n 0, 1) := by decide +kernel
theorem dX10_isSign_31 : decode prog_12_method_14_code 31 = .ok (.bipush 40, 2) := by decide +kernel
theorem dX10_isSign_33 : decode prog_12_method_14_code 33 = .ok (.if_icmp .eq 27, 3) := by decide +kernel
theorem dX10_isSign_36 : decode prog_12_method_14_code 36 = .ok (.iload_n 0, 1) := by decide +kernel
theorem dX10_isSign_37 : decode prog_12_method_14_code 37 = .ok (.bipush 41, 2) := by decide +kernel
theorem dX10_isSign_39 : decode prog_12_method_14_code 39 = .ok (.if_icmp .eq 21, 3) := by decide +kernel
theorem dX10_isSign_42 : decode prog_12_method_14_code 42 = .ok (.iload_n 0, 1) := by decide +kernel
theorem dX10_isSign_43 : decode prog_12_method_14_code 43 = .ok (.bipush 60, 2) := by decide +kernel
theorem dX10_isSign_45 : decode prog_12_method_14_code 45 = .ok (.if_icmp .eq 15, 3) := by decide +kernel
theorem dX10_isSign_48 : decode prog_12_method_14_code 48 = .ok (.iload_n 0, 1) := by decide +kernel
theorem dX10_isSign_49 : decode prog_12_method_14_code 49 = .ok (.bipush 61, 2) := by decide +kernel
theorem dX10_isSign_51 : decode prog_12_method_14_code 51 = .ok (.if_icmp .eq 9, 3) := by decide +kernel
theorem dX10_isSign_54 : decode prog_12_method_14_code 54 = .ok (.iload_n 0, 1) := by decide +kernel
theorem dX10_isSign_55 : decode prog_12_method_14_code 55 = .ok (.bipush 62, 2) := by decide +kernel
theorem dX10_isSign_57 : decode prog_12_method_14_code 57 = .ok (.if_icmp .ne 7, 3) := by decide +kernel
theorem dX10_isSign_60 : decode prog_12_method_14_code 60 = .ok (.iconst 1, 1) := by decide +kernel
theorem dX10_isSign_61 : decode prog_12_method_14_code 61 = .ok (.goto 4, 3) := by decide +kernel
theorem dX10_isSign_64 : decode prog_12_method_14_code 64 = .ok (.iconst 0, 1) := by decide +kernel
theorem dX10_isSign_65 : decode prog_12_method_14_code 65 = .ok (.ireturn, 1) := by decide +kernel
theorem dX11_init_0 : decode prog_1_method_1_code 0 = .ok (.aload_n 0, 1) := by decide +kernel
theorem dX11_init_1 : decode prog_1_method_1_code 1 = .ok (.invokespecial 3, 3) := by decide +kernel
theorem dX11_init_4 : decode prog_1_method_1_code 4 = .ok (.aload_n 0, 1) := by decide +kernel
theorem dX11_init_5 : decode prog_1_method_1_code 5 = .ok (.bipush 12, 2) := by decide +kernel
theorem dX11_init_7 : decode prog_1_method_1_code 7 = .ok (.newarray .int, 2) := by decide +kernel
theorem dX11_init_9 : decode prog_1_method_1_code 9 = .ok (.putfield 9, 3) := by decide +kernel
theorem dX11_init_12 : decode prog_1_method_1_code 12 = .ok (.aload_n 0, 1) := by decide +kernel
theorem dX11_init_13 : decode prog_1_method_1_code 13 = .ok (.new 13, 3) := by decide +kernel
theorem dX11_init_16 : decode prog_1_method_1_code 16 = .ok (.dup, 1) := by decide +kernel
theorem dX11_init_17 : decode prog_1_method_1_code 17 = .ok (.invokespecial 15, 3) := by decide +kernel
theorem dX11_init_20 : decode prog_1_method_1_code 20 = .ok (.putfield 16, 3) := by decide +kernel
theorem dX11_init_23 : decode prog_1_method_1_code 23 = .ok (.aload_n 0, 1) := by decide +kernel
theorem dX11_init_24 : decode prog_1_method_1_code 24 = .ok (.new 13, 3) := by decide +kernel
theorem dX11_init_27 : decode prog_1_method_1_code 27 = .ok (.dup, 1) := by decide +kernel
theorem dX11_init_28 : decode prog_1_method_1_code 28 = .ok (.invokespecial 15, 3) := by decide +kernel
theorem dX11_init_31 : decode prog_1_method_1_code 31 = .ok (.putfield 20, 3) := by decide +kernel
theorem dX11_init_34 : decode prog_1_method_1_code 34 = .ok (.aload_n 0, 1) := by decide +kernel
theorem dX11_init_35 : decode prog_1_method_1_code 35 = .ok (.iconst 0, 1) := by decide +kernel
theorem dX11_init_36 : decode prog_1_method_1_code 36 = .ok (.putfield 23, 3) := by decide +kernel
theorem dX11_init_39 : decode prog_1_method_1_code 39 = .ok (.aload_n 0, 1) := by decide +kernel
theorem dX11_init_40 : decode prog_1_method_1_code 40 = .ok (.new 27, 3) := by decide +kernel
theorem dX11_init_43 : decode prog_1_method_1_code 43 = .ok (.dup, 1) := by decide +kernel
theorem dX11_init_44 : decode prog_1_method_1_code 44 = .ok (.invokespecial 29, 3) := by decide +kernel
theorem dX11_init_47 : decode prog_1_method_1_code 47 = .ok (.putfield 30, 3) := by decide +kernel
theorem dX11_init_50 : decode prog_1_method_1_code 50 = .ok (.aload_n 0, 1) := by decide +kernel
theorem dX11_init_51 : decode prog_1_method_1_code 51 = .ok (.new 34, 3) := by decide +kernel
theorem dX11_init_54 : decode prog_1_method_1_code 54 = .ok (.dup, 1) := by decide +kernel
theorem dX11_init_55 : decode prog_1_method_1_code 55 = .ok (.invokespecial 36, 3) := by decide +kernel
theorem dX11_init_58 : decode prog_1_method_1_code 58 = .ok (.putfield 37, 3) := by decide +kernel
theorem dX11_init_61 : decode prog_1_method_1_code 61 = .ok (.aload_n 0, 1) := by decide +kernel
theorem dX11_init_62 : decode prog_1_method_1_code 62 = .ok (.new 41, 3) := by decide +kernel
theorem dX11_init_65 : decode prog_1_method_1_code 65 = .ok (.dup, 1) := by decide +kernel
theorem dX11_init_66 : decode prog_1_method_1_code 66 = .ok (.invokespecial 43, 3) := by decide +kernel
theorem dX11_init_69 : decode prog_1_method_1_code 69 = .ok (.putfield 44, 3) := by decide +kernel
theorem dX11_init_72 : decode prog_1_method_1_code 72 = .ok (.aload_n 0, 1) := by decide +kernel
theorem dX11_init_73 : decode prog_1_method_1_code 73 = .ok (.new 48, 3) := by decide +kernel
theorem dX11_init_76 : decode prog_1_method_1_code 76 = .ok (.dup, 1) := by decide +kernel
theorem dX11_init_77 : decode prog_1_method_1_code 77 = .ok (.aload_n 0, 1) := by decide +kernel
theorem dX11_init_78 : decode prog_1_method_1_code 78 = .ok (.getfield 44, 3) := by decide +kernel
theorem dX11_init_81 : decode prog_1_method_1_code 81 = .ok (.invokespecial 50, 3) := by decide +kernel
theorem dX11_init_84 : decode prog_1_method_1_code 84 = .ok (.putfield 53, 3) := by decide +kernel
theorem dX11_init_87 : decode prog_1_method_1_code 87 = .ok (.aload_n 0, 1) := by decide +kernel
theorem dX11_init_88 : decode prog_1_method_1_code 88 = .ok (.new 57, 3) := by decide +kernel
theorem dX11_init_91 : decode prog_1_method_1_code 91 = .ok (.dup, 1) := by decide +kernel
theorem dX11_init_92 : decode prog_1_method_1_code 92 = .ok (.aload_n 0, 1) := by decide +kernel
theorem dX11_init_93 : decode prog_1_method_1_code 93 = .ok (.getfield 16, 3) := by decide +kernel
theorem dX11_init_96 : decode prog_1_method_1_code 96 = .ok (.invokespecial 59, 3) := by decide +kernel
theorem dX11_init_99 : decode prog_1_method_1_code 99 = .ok (.putfield 62, 3) := by decide +kernel
theorem dX11_init_102 : decode prog_1_method_1_code 102 = .ok (.aload_n 0, 1) := by decide +kernel
theorem dX11_init_103 : decode prog_1_method_1_code 103 = .ok (.new 66, 3) := by decide +kernel
theorem dX11_init_106 : decode prog_1_method_1_code 106 = .ok (.dup, 1) := by decide +kernel
theorem dX11_init_107 : decode prog_1_method_1_code 107 = .ok (.aload_n 0, 1) := by decide +kernel
theorem dX11_init_108 : decode prog_1_method_1_code 108 = .ok (.getfield 16, 3) := by decide +kernel
theorem dX11_init_111 : decode prog_1_method_1_code 111 = .ok (.aload_n 0, 1) := by decide +kernel
theorem dX11_init_112 : decode prog_1_method_1_code 112 = .ok (.getfield 62, 3) := by decide +kernel
theorem dX11_init_115 : decode prog_1_method_1_code 115 = .ok (.invokespecial 68, 3) := by decide +kernel
theorem dX11_init_118 : decode prog_1_method_1_code 118 = .ok (.putfield 71, 3) := by decide +kernel
theorem dX11_init_121 : decode prog_1_method_1_code 121 = .ok (.aload_n 0, 1) := by decide +kernel
theorem dX11_init_122 : decode prog_1_method_1_code 122 = .ok (.new 75, 3) := by decide +kernel
theorem dX11_init_125 : decode prog_1_method_1_code 125 = .ok (.dup, 1) := by decide +kernel
theorem dX11_init_126 : decode prog_1_method_1_code 126 = .ok (.aload_n 0, 1) := by decide +kernel
theorem dX11_init_127 : decode prog_1_method_1_code 127 = .ok (.getfield 16, 3) := by decide +kernel
theorem dX11_init_130 : decode prog_1_method_1_code 130 = .ok (.aload_n 0, 1) := by decide +kernel
theorem dX11_init_131 : decode prog_1_method_1_code 131 = .ok (.getfield 62, 3) := by decide +kernel
theorem dX11_init_134 : decode prog_1_method_1_code 134 = .ok (.aload_n 0, 1) := by decide +kernel
theorem dX11_init_135 : decode prog_1_method_1_code 135 = .ok (.getfield 71, 3) := by decide +kernel
theorem dX11_init_138 : decode prog_1_method_1_code 138 = .ok (.invokespecial 77, 3) := by decide +kernel
theorem dX11_init_141 : decode prog_1_method_1_code 141 = .ok (.putfield 80, 3) := by decide +kernel
theorem dX11_init_144 : decode prog_1_method_1_code 144 = .ok (.aload_n 0, 1) := by decide +kernel
theorem dX11_init_145 : decode prog_1_method_1_code 145 = .ok (.new 84, 3) := by decide +kernel
theorem dX11_init_148 : decode prog_1_method_1_code 148 = .ok (.dup, 1) := by decide +kernel
theorem dX11_init_149 : decode prog_1_method_1_code 149 = .ok (.aload_n 0, 1) := by decide +kernel
theorem dX11_init_150 : decode prog_1_method_1_code 150 = .ok (.getfield 16, 3) := by decide +kernel
theorem dX11_init_153 : decode prog_1_method_1_code 153 = .ok (.invokespecial 86, 3) := by decide +kernel
theorem dX11_init_156 : decode prog_1_method_1_code 156 = .ok (.putfield 87, 3) := by decide +kernel
theorem dX11_init_159 : decode prog_1_method_1_code 159 = .ok (.aload_n 0, 1) := by decide +kernel
theorem dX11_init_160 : decode prog_1_method_1_code 160 = .ok (.new 91, 3) := by decide +kernel
theorem dX11_init_163 : decode prog_1_method_1_code 163 = .ok (.dup, 1) := by decide +kernel
theorem dX11_init_164 : decode prog_1_method_1_code 164 = .ok (.aload_n 0, 1) := by decide +kernel
theorem dX11_init_165 : decode prog_1_method_1_code 165 = .ok (.getfield 16, 3) := by decide +kernel
theorem dX11_init_168 : decode prog_1_method_1_code 168 = .ok (.invokespecial 93, 3) := by decide +kernel
theorem dX11_init_171 : decode prog_1_method_1_code 171 = .ok (.putfield 94, 3) := by decide +kernel
theorem dX11_init_174 : decode prog_1_method_1_code 174 = .ok (.return_, 1) := by decide +kernel
theorem dX11_state_0 : decode prog_1_method_2_code 0 = .ok (.aload_n 0, 1) := by decide +kernel
theorem dX11_state_1 : decode prog_1_method_2_code 1 = .ok (.getfield 16, 3) := by decide +kernel
theorem dX11_state_4 : decode prog_1_method_2_code 4 = .ok (.bipush 6, 2) := by decide +kernel
theorem dX11_state_6 : decode prog_1_method_2_code 6 = .ok (.invokevirtual 98, 3) := by decide +kernel
theorem dX11_state_9 : decode prog_1_method_2_code 9 = .ok (.istore_n 2, 1) := by decide +kernel
theorem dX11_state_10 : decode prog_1_method_2_code 10 = .ok (.aload_n 0, 1) := by decide +kernel
theorem dX11_state_11 : decode prog_1_method_2_code 11 = .ok (.getfield 16, 3) := by decide +kernel
theorem dX11_state_14 : decode prog_1_method_2_code 14 = .ok (.bipush 6, 2) := by decide +kernel
theorem dX11_state_16 : decode prog_1_method_2_code 16 = .ok (.iload_n 1, 1) := by decide +kernel
theorem dX11_state_17 : decode prog_1_method_2_code 17 = .ok (.invokevirtual 102, 3) := by decide +kernel
theorem dX11_state_20 : decode prog_1_method_2_code 20 = .ok (.aload_n 0, 1) := by decide +kernel
theorem dX11_state_21 : decode prog_1_method_2_code 21 = .ok (.getfield 30, 3) := by decide +kernel
theorem dX11_state_24 : decode prog_1_method_2_code 24 = .ok (.invokevirtual 106, 3) := by decide +kernel
theorem dX11_state_27 : decode prog_1_method_2_code 27 = .ok (.iload_n 2, 1) := by decide +kernel
theorem dX11_state_28 : decode prog_1_method_2_code 28 = .ok (.ireturn, 1) := by decide +kernel
theorem dX11_hearer_0 : decode prog_1_method_3_code 0 = .ok (.iload_n 1, 1) := by decide +kernel
theorem dX11_hearer_1 : decode prog_1_method_3_code 1 = .ok (.iconst 0, 1) := by decide +kernel
theorem dX11_hearer_2 : decode prog_1_method_3_code 2 = .ok (.bipush 9, 2) := by decide +kernel
theorem dX11_hearer_4 : decode prog_1_method_3_code 4 = .ok (.invokestatic 109, 3) := by decide +kernel
theorem dX11_hearer_7 : decode prog_1_method_3_code 7 = .ok (.ifCond .eq 23, 3) := by decide +kernel
theorem dX11_hearer_10 : decode prog_1_method_3_code 10 = .ok (.iload_n 2, 1) := by decide +kernel
theorem dX11_hearer_11 : decode prog_1_method_3_code 11 = .ok (.iconst 0, 1) := by decide +kernel
theorem dX11_hearer_12 : decode prog_1_method_3_code 12 = .ok (.bipush 9, 2) := by decide +kernel
theorem dX11_hearer_14 : decode prog_1_method_3_code 14 = .ok (.invokestatic 109, 3) := by decide +kernel
theorem dX11_hearer_17 : decode prog_1_method_3_code 17 = .ok (.ifCond .eq 13, 3) := by decide +kernel
theorem dX11_hearer_20 : decode prog_1_method_3_code 20 = .ok (.iload_n 3, 1) := by decide +kernel
theorem dX11_hearer_21 : decode prog_1_method_3_code 21 = .ok (.iconst 0, 1) := by decide +kernel
theorem dX11_hearer_22 : decode prog_1_method_3_code 22 = .ok (.bipush 9, 2) := by decide +kernel
theorem dX11_hearer_24 : decode prog_1_method_3_code 24 = .ok (.invokestatic 109, 3) := by decide +kernel
theorem dX11_hearer_27 : decode prog_1_method_3_code 27 = .ok (.ifCond .ne 5, 3) := by decide +kernel
theorem dX11_hearer_30 : decode prog_1_method_3_code 30 = .ok (.iconst (-1), 1) := by decide +kernel
theorem dX11_hearer_31 : decode prog_1_method_3_code 31 = .ok (.ireturn, 1) := by decide +kernel
theorem dX11_hearer_32 : decode prog_1_method_3_code 32 = .ok (.aload_n 0, 1) := by decide +kernel
theorem dX11_hearer_33 : decode prog_1_method_3_code 33 = .ok (.getfield 16, 3) := by decide +kernel
theorem dX11_hearer_36 : decode prog_1_method_3_code 36 = .ok (.getfield 113, 3) := by decide +kernel
theorem dX11_hearer_39 : decode prog_1_method_3_code 39 = .ok (.getfield 117, 3) := by decide +kernel
theorem dX11_hearer_42 : decode prog_1_method_3_code 42 = .ok (.istore 4, 2) := by decide +kernel
theorem dX11_hearer_44 : decode prog_1_method_3_code 44 = .ok (.aload_n 0, 1) := by decide +kernel
theorem dX11_hearer_45 : decode prog_1_method_3_code 45 = .ok (.getfield 16, 3) := by decide +kernel
theorem dX11_hearer_48 : decode prog_1_method_3_code 48 = .ok (.getfield 113, 3) := by decide +kernel
theorem dX11_hearer_51 : decode prog_1_method_3_code 51 = .ok (.iload_n 1, 1) := by decide +kernel
theorem dX11_hearer_52 : decode prog_1_method_3_code 52 = .ok (.iload_n 2, 1) := by decide +kernel
theorem dX11_hearer_53 : decode prog_1_method_3_code 53 = .ok (.iload_n 3, 1) := by decide +kernel
theorem dX11_hearer_54 : decode prog_1_method_3_code 54 = .ok (.iconst 1, 1) := by decide +kernel
theorem dX11_hearer_55 : decode prog_1_method_3_code 55 = .ok (.invokevirtual 123, 3) := by decide +kernel
theorem dX11_hearer_58 : decode prog_1_method_3_code 58 = .ok (.ifCond .ne 5, 3) := by decide +kernel
theorem dX11_hearer_61 : decode prog_1_method_3_code 61 = .ok (.iconst (-1), 1) := by decide +kernel
theorem dX11_hearer_62 : decode prog_1_method_3_code 62 = .ok (.ireturn, 1) := by decide +kernel
theorem dX11_hearer_63 : decode prog_1_method_3_code 63 = .ok (.aload_n 0, 1) := by decide +kernel
theorem dX11_hearer_64 : decode prog_1_method_3_code 64 = .ok (.getfield 16, 3) := by decide +kernel
theorem dX11_hearer_67 : decode prog_1_method_3_code 67 = .ok (.getfield 113, 3) := by decide +kernel
theorem dX11_hearer_70 : decode prog_1_method_3_code 70 = .ok (.iload 4, 2) := by decide +kernel
theorem dX11_hearer_72 : decode prog_1_method_3_code 72 = .ok (.bipush 7, 2) := by decide +kernel
theorem dX11_hearer_74 : decode prog_1_method_3_code 74 = .ok (.iconst 1, 1) := by decide +kernel
theorem dX11_hearer_75 : decode prog_1_method_3_code 75 = .ok (.invokevirtual 127, 3) := by decide +kernel
theorem dX11_hearer_78 : decode prog_1_method_3_code 78 = .ok (.aload_n 0, 1) := by decide +kernel
theorem dX11_hearer_79 : decode prog_1_method_3_code 79 = .ok (.getfield 30, 3) := by decide +kernel
theorem dX11_hearer_82 : decode prog_1_method_3_code 82 = .ok (.invokevirtual 106, 3) := by decide +kernel
theorem dX11_hearer_85 : decode prog_1_method_3_code 85 = .ok (.iload 4, 2) := by decide +kernel
theorem dX11_hearer_87 : decode prog_1_method_3_code 87 = .ok (.ireturn, 1) := by decide +kernel
theorem dX11_deed_0 : decode prog_1_method_4_code 0 = .ok (.iload_n 1, 1) := by decide +kernel
theorem dX11_deed_1 : decode prog_1_method_4_code 1 = .ok (.iconst 0, 1) := by decide +kernel
theorem dX11_deed_2 : decode prog_1_method_4_code 2 = .ok (.bipush 9, 2) := by decide +kernel
theorem dX11_deed_4 : decode prog_1_method_4_code 4 = .ok (.invokestatic 109, 3) := by decide +kernel
theorem dX11_deed_7 : decode prog_1_method_4_code 7 = .ok (.ifCond .eq 23, 3) := by decide +kernel
theorem dX11_deed_10 : decode prog_1_method_4_code 10 = .ok (.iload_n 2, 1) := by decide +kernel
theorem dX11_deed_11 : decode prog_1_method_4_code 11 = .ok (.iconst 1, 1) := by decide +kernel
theorem dX11_deed_12 : decode prog_1_method_4_code 12 = .ok (.bipush 60, 2) := by decide +kernel
theorem dX11_deed_14 : decode prog_1_method_4_code 14 = .ok (.invokestatic 109, 3) := by decide +kernel
theorem dX11_deed_17 : decode prog_1_method_4_code 17 = .ok (.ifCond .eq 13, 3) := by decide +kernel
theorem dX11_deed_20 : decode prog_1_method_4_code 20 = .ok (.iload_n 3, 1) := by decide +kernel
theorem dX11_deed_21 : decode prog_1_method_4_code 21 = .ok (.iconst 0, 1) := by decide +kernel
theorem dX11_deed_22 : decode prog_1_method_4_code 22 = .ok (.bipush 99, 2) := by decide +kernel
theorem dX11_deed_24 : decode prog_1_method_4_code 24 = .ok (.invokestatic 109, 3) := by decide +kernel
theorem dX11_deed_27 : decode prog_1_method_4_code 27 = .ok (.ifCond .ne 5, 3) := by decide +kernel
theorem dX11_deed_30 : decode prog_1_method_4_code 30 = .ok (.iconst (-1), 1) := by decide +kernel
theorem dX11_deed_31 : decode prog_1_method_4_code 31 = .ok (.ireturn, 1) := by decide +kernel
theorem dX11_deed_32 : decode prog_1_method_4_code 32 = .ok (.aload_n 0, 1) := by decide +kernel
theorem dX11_deed_33 : decode prog_1_method_4_code 33 = .ok (.getfield 16, 3) := by decide +kernel
theorem dX11_deed_36 : decode prog_1_method_4_code 36 = .ok (.getfield 131, 3) := by decide +kernel
theorem dX11_deed_39 : decode prog_1_method_4_code 39 = .ok (.getfield 117, 3) := by decide +kernel
theorem dX11_deed_42 : decode prog_1_method_4_code 42 = .ok (.istore 4, 2) := by decide +kernel
theorem dX11_deed_44 : decode prog_1_method_4_code 44 = .ok (.aload_n 0, 1) := by decide +kernel
theorem dX11_deed_45 : decode prog_1_method_4_code 45 = .ok (.getfield 16, 3) := by decide +kernel
theorem dX11_deed_48 : decode prog_1_method_4_code 48 = .ok (.getfield 131, 3) := by decide +kernel
theorem dX11_deed_51 : decode prog_1_method_4_code 51 = .ok (.iload_n 1, 1) := by decide +kernel
theorem dX11_deed_52 : decode prog_1_method_4_code 52 = .ok (.iload_n 2, 1) := by decide +kernel
theorem dX11_deed_53 : decode prog_1_method_4_code 53 = .ok (.iload_n 3, 1) := by decide +kernel
theorem dX11_deed_54 : decode prog_1_method_4_code 54 = .ok (.iconst 0, 1) := by decide +kernel
theorem dX11_deed_55 : decode prog_1_method_4_code 55 = .ok (.invokevirtual 123, 3) := by decide +kernel
theorem dX11_deed_58 : decode prog_1_method_4_code 58 = .ok (.ifCond .ne 5, 3) := by decide +kernel
theorem dX11_deed_61 : decode prog_1_method_4_code 61 = .ok (.iconst (-1), 1) := by decide +kernel
theorem dX11_deed_62 : decode prog_1_method_4_code 62 = .ok (.ireturn, 1) := by decide +kernel
theorem dX11_deed_63 : decode prog_1_method_4_code 63 = .ok (.aload_n 0, 1) := by decide +kernel
theorem dX11_deed_64 : decode prog_1_method_4_code 64 = .ok (.getfield 30, 3) := by decide +kernel
theorem dX11_deed_67 : decode prog_1_method_4_code 67 = .ok (.invokevirtual 106, 3) := by decide +kernel
theorem dX11_deed_70 : decode prog_1_method_4_code 70 = .ok (.iload 4, 2) := by decide +kernel
theorem dX11_deed_72 : decode prog_1_method_4_code 72 = .ok (.ireturn, 1) := by decide +kernel
theorem dX11_set_0 : decode prog_1_method_5_code 0 = .ok (.iconst 0, 1) := by decide +kernel
theorem dX11_set_1 : decode prog_1_method_5_code 1 = .ok (.istore 4, 2) := by decide +kernel
theorem dX11_set_3 : decode prog_1_method_5_code 3 = .ok (.iload_n 1, 1) := by decide +kernel
theorem dX11_set_4 : decode prog_1_method_5_code 4 = .ok (.tableswitch 167 0 5 #[40, 67, 87, 107, 127, 147], 40) := by decide +kernel
theorem dX11_set_44 : decode prog_1_method_5_code 44 = .ok (.iload_n 3, 1) := by decide +kernel
theorem dX11_set_45 : decode prog_1_method_5_code 45 = .ok (.iconst 0, 1) := by decide +kernel
theorem dX11_set_46 : decode prog_1_method_5_code 46 = .ok (.sipush 1000, 3) := by decide +kernel
theorem dX11_set_49 : decode prog_1_method_5_code 49 = .ok (.invokestatic 109, 3) := by decide +kernel
theorem dX11_set_52 : decode prog_1_method_5_code 52 = .ok (.istore 4, 2) := by decide +kernel
theorem dX11_set_54 : decode prog_1_method_5_code 54 = .ok (.iload 4, 2) := by decide +kernel
theorem dX11_set_56 : decode prog_1_method_5_code 56 = .ok (.ifCond .eq 115, 3) := by decide +kernel
theorem dX11_set_59 : decode prog_1_method_5_code 59 = .ok (.aload_n 0, 1) := by decide +kernel
theorem dX11_set_60 : decode prog_1_method_5_code 60 = .ok (.getfield 16, 3) := by decide +kernel
theorem dX11_set_63 : decode prog_1_method_5_code 63 = .ok (.iconst 3, 1) := by decide +kernel
theorem dX11_set_64 : decode prog_1_method_5_code 64 = .ok (.iload_n 3, 1) := by decide +kernel
theorem dX11_set_65 : decode prog_1_method_5_code 65 = .ok (.invokevirtual 102, 3) := by decide +kernel
theorem dX11_set_68 : decode prog_1_method_5_code 68 = .ok (.goto 103, 3) := by decide +kernel
theorem dX11_set_71 : decode prog_1_method_5_code 71 = .ok (.aload_n 0, 1) := by decide +kernel
theorem dX11_set_72 : decode prog_1_method_5_code 72 = .ok (.getfield 16, 3) := by decide +kernel
theorem dX11_set_75 : decode prog_1_method_5_code 75 = .ok (.getfield 113, 3) := by decide +kernel
theorem dX11_set_78 : decode prog_1_method_5_code 78 = .ok (.iload_n 2, 1) := by decide +kernel
theorem dX11_set_79 : decode prog_1_method_5_code 79 = .ok (.iconst 0, 1) := by decide +kernel
theorem dX11_set_80 : decode prog_1_method_5_code 80 = .ok (.iload_n 3, 1) := by decide +kernel
theorem dX11_set_81 : decode prog_1_method_5_code 81 = .ok (.bipush 9, 2) := by decide +kernel
theorem dX11_set_83 : decode prog_1_method_5_code 83 = .ok (.invokestatic 134, 3) := by decide +kernel
theorem dX11_set_86 : decode prog_1_method_5_code 86 = .ok (.istore 4, 2) := by decide +kernel
theorem dX11_set_88 : decode prog_1_method_5_code 88 = .ok (.goto 83, 3) := by decide +kernel
theorem dX11_set_91 : decode prog_1_method_5_code 91 = .ok (.aload_n 0, 1) := by decide +kernel
theorem dX11_set_92 : decode prog_1_method_5_code 92 = .ok (.getfield 16, 3) := by decide +kernel
theorem dX11_set_95 : decode prog_1_method_5_code 95 = .ok (.getfield 113, 3) := by decide +kernel
theorem dX11_set_98 : decode prog_1_method_5_code 98 = .ok (.iload_n 2, 1) := by decide +kernel
theorem dX11_set_99 : decode prog_1_method_5_code 99 = .ok (.iconst 1, 1) := by decide +kernel
theorem dX11_set_100 : decode prog_1_method_5_code 100 = .ok (.iload_n 3, 1) := by decide +kernel
theorem dX11_set_101 : decode prog_1_method_5_code 101 = .ok (.bipush 9, 2) := by decide +kernel
theorem dX11_set_103 : decode prog_1_method_5_code 103 = .ok (.invokestatic 134, 3) := by decide +kernel
theorem dX11_set_106 : decode prog_1_method_5_code 106 = .ok (.istore 4, 2) := by decide +kernel
theorem dX11_set_108 : decode prog_1_method_5_code 108 = .ok (.goto 63, 3) := by decide +kernel
theorem dX11_set_111 : decode prog_1_method_5_code 111 = .ok (.aload_n 0, 1) := by decide +kernel
theorem dX11_set_112 : decode prog_1_method_5_code 112 = .ok (.getfield 16, 3) := by decide +kernel
theorem dX11_set_115 : decode prog_1_method_5_code 115 = .ok (.getfield 113, 3) := by decide +kernel
theorem dX11_set_118 : decode prog_1_method_5_code 118 = .ok (.iload_n 2, 1) := by decide +kernel
theorem dX11_set_119 : decode prog_1_method_5_code 119 = .ok (.iconst 2, 1) := by decide +kernel
theorem dX11_set_120 : decode prog_1_method_5_code 120 = .ok (.iload_n 3, 1) := by decide +kernel
theorem dX11_set_121 : decode prog_1_method_5_code 121 = .ok (.bipush 9, 2) := by decide +kernel
theorem dX11_set_123 : decode prog_1_method_5_code 123 = .ok (.invokestatic 134, 3) := by decide +kernel
theorem dX11_set_126 : decode prog_1_method_5_code 126 = .ok (.istore 4, 2) := by decide +kernel
theorem dX11_set_128 : decode prog_1_method_5_code 128 = .ok (.goto 43, 3) := by decide +kernel
theorem dX11_set_131 : decode prog_1_method_5_code 131 = .ok (.aload_n 0, 1) := by decide +kernel
theorem dX11_set_132 : decode prog_1_method_5_code 132 = .ok (.getfield 16, 3) := by decide +kernel
theorem dX11_set_135 : decode prog_1_method_5_code 135 = .ok (.getfield 131, 3) := by decide +kernel
theorem dX11_set_138 : decode prog_1_method_5_code 138 = .ok (.iload_n 2, 1) := by decide +kernel
theorem dX11_set_139 : decode prog_1_method_5_code 139 = .ok (.iconst 0, 1) := by decide +kernel
theorem dX11_set_140 : decode prog_1_method_5_code 140 = .ok (.iload_n 3, 1) := by decide +kernel
theorem dX11_set_141 : decode prog_1_method_5_code 141 = .ok (.bipush 9, 2) := by decide +kernel
theorem dX11_set_143 : decode prog_1_method_5_code 143 = .ok (.invokestatic 134, 3) := by decide +kernel
theorem dX11_set_146 : decode prog_1_method_5_code 146 = .ok (.istore 4, 2) := by decide +kernel
theorem dX11_set_148 : decode prog_1_method_5_code 148 = .ok (.goto 23, 3) := by decide +kernel
theorem dX11_set_151 : decode prog_1_method_5_code 151 = .ok (.aload_n 0, 1) := by decide +kernel
theorem dX11_set_152 : decode prog_1_method_5_code 152 = .ok (.getfield 16, 3) := by decide +kernel
theorem dX11_set_155 : decode prog_1_method_5_code 155 = .ok (.getfield 131, 3) := by decide +kernel
theorem dX11_set_158 : decode prog_1_method_5_code 158 = .ok (.iload_n 2, 1) := by decide +kernel
theorem dX11_set_159 : decode prog_1_method_5_code 159 = .ok (.iconst 3, 1) := by decide +kernel
theorem dX11_set_160 : decode prog_1_method_5_code 160 = .ok (.iload_n 3, 1) := by decide +kernel
theorem dX11_set_161 : decode prog_1_method_5_code 161 = .ok (.bipush 99, 2) := by decide +kernel
theorem dX11_set_163 : decode prog_1_method_5_code 163 = .ok (.invokestatic 134, 3) := by decide +kernel
theorem dX11_set_166 : decode prog_1_method_5_code 166 = .ok (.istore 4, 2) := by decide +kernel
theorem dX11_set_168 : decode prog_1_method_5_code 168 = .ok (.goto 3, 3) := by decide +kernel
theorem dX11_set_171 : decode prog_1_method_5_code 171 = .ok (.iload 4, 2) := by decide +kernel
theorem dX11_set_173 : decode prog_1_method_5_code 173 = .ok (.ifCond .eq 10, 3) := by decide +kernel
theorem dX11_set_176 : decode prog_1_method_5_code 176 = .ok (.aload_n 0, 1) := by decide +kernel
theorem dX11_set_177 : decode prog_1_method_5_code 177 = .ok (.getfield 30, 3) := by decide +kernel
theorem dX11_set_180 : decode prog_1_method_5_code 180 = .ok (.invokevirtual 106, 3) := by decide +kernel
theorem dX11_set_183 : decode prog_1_method_5_code 183 = .ok (.iload 4, 2) := by decide +kernel
theorem dX11_set_185 : decode prog_1_method_5_code 185 = .ok (.ireturn, 1) := by decide +kernel
theorem dX11_setTo_0 : decode prog_1_method_6_code 0 = .ok (.aload_n 0, 1) := by decide +kernel
theorem dX11_setTo_1 : decode prog_1_method_6_code 1 = .ok (.iload_n 1, 1) := by decide +kernel
theorem dX11_setTo_2 : decode prog_1_method_6_code 2 = .ok (.invokevirtual 138, 3) := by decide +kernel
theorem dX11_setTo_5 : decode prog_1_method_6_code 5 = .ok (.ifCond .eq 13, 3) := by decide +kernel
theorem dX11_setTo_8 : decode prog_1_method_6_code 8 = .ok (.iload_n 3, 1) := by decide +kernel
theorem dX11_setTo_9 : decode prog_1_method_6_code 9 = .ok (.iconst 0, 1) := by decide +kernel
theorem dX11_setTo_10 : decode prog_1_method_6_code 10 = .ok (.iload 4, 2) := by decide +kernel
theorem dX11_setTo_12 : decode prog_1_method_6_code 12 = .ok (.invokestatic 109, 3) := by decide +kernel
theorem dX11_setTo_15 : decode prog_1_method_6_code 15 = .ok (.ifCond .ne 5, 3) := by decide +kernel
theorem dX11_setTo_18 : decode prog_1_method_6_code 18 = .ok (.iconst 0, 1) := by decide +kernel
theorem dX11_setTo_19 : decode prog_1_method_6_code 19 = .ok (.ireturn, 1) := by decide +kernel
theorem dX11_setTo_20 : decode prog_1_method_6_code 20 = .ok (.aload_n 0, 1) := by decide +kernel
theorem dX11_setTo_21 : decode prog_1_method_6_code 21 = .ok (.iload_n 1, 1) := by decide +kernel
theorem dX11_setTo_22 : decode prog_1_method_6_code 22 = .ok (.iload_n 2, 1) := by decide +kernel
theorem dX11_setTo_23 : decode prog_1_method_6_code 23 = .ok (.iload_n 3, 1) := by decide +kernel
theorem dX11_setTo_24 : decode prog_1_method_6_code 24 = .ok (.invokevirtual 127, 3) := by decide +kernel
theorem dX11_setTo_27 : decode prog_1_method_6_code 27 = .ok (.iconst 1, 1) := by decide +kernel
theorem dX11_setTo_28 : decode prog_1_method_6_code 28 = .ok (.ireturn, 1) := by decide +kernel
theorem dX11_perform_0 : decode prog_1_method_7_code 0 = .ok (.aload_n 0, 1) := by decide +kernel
theorem dX11_perform_1 : decode prog_1_method_7_code 1 = .ok (.getfield 16, 3) := by decide +kernel
theorem dX11_perform_4 : decode prog_1_method_7_code 4 = .ok (.getfield 131, 3) := by decide +kernel
theorem dX11_perform_7 : decode prog_1_method_7_code 7 = .ok (.iload_n 1, 1) := by decide +kernel
theorem dX11_perform_8 : decode prog_1_method_7_code 8 = .ok (.invokevirtual 138, 3) := by decide +kernel
theorem dX11_perform_11 : decode prog_1_method_7_code 11 = .ok (.ifCond .ne 5, 3) := by decide +kernel
theorem dX11_perform_14 : decode prog_1_method_7_code 14 = .ok (.iconst (-1), 1) := by decide +kernel
theorem dX11_perform_15 : decode prog_1_method_7_code 15 = .ok (.ireturn, 1) := by decide +kernel
theorem dX11_perform_16 : decode prog_1_method_7_code 16 = .ok (.aload_n 0, 1) := by decide +kernel
theorem dX11_perform_17 : decode prog_1_method_7_code 17 = .ok (.getfield 16, 3) := by decide +kernel
theorem dX11_perform_20 : decode prog_1_method_7_code 20 = .ok (.iconst 0, 1) := by decide +kernel
theorem dX11_perform_21 : decode prog_1_method_7_code 21 = .ok (.invokevirtual 98, 3) := by decide +kernel
theorem dX11_perform_24 : decode prog_1_method_7_code 24 = .ok (.bipush 21, 2) := by decide +kernel
theorem dX11_perform_26 : decode prog_1_method_7_code 26 = .ok (.aload_n 0, 1) := by decide +kernel
theorem dX11_perform_27 : decode prog_1_method_7_code 27 = .ok (.getfield 16, 3) := by decide +kernel
theorem dX11_perform_30 : decode prog_1_method_7_code 30 = .ok (.getfield 131, 3) := by decide +kernel
theorem dX11_perform_33 : decode prog_1_method_7_code 33 = .ok (.iload_n 1, 1) := by decide +kernel
theorem dX11_perform_34 : decode prog_1_method_7_code 34 = .ok (.iconst 1, 1) := by decide +kernel
theorem dX11_perform_35 : decode prog_1_method_7_code 35 = .ok (.invokevirtual 142, 3) := by decide +kernel
theorem dX11_perform_38 : decode prog_1_method_7_code 38 = .ok (.imul, 1) := by decide +kernel
theorem dX11_perform_39 : decode prog_1_method_7_code 39 = .ok (.iadd, 1) := by decide +kernel
theorem dX11_perform_40 : decode prog_1_method_7_code 40 = .ok (.istore_n 2, 1) := by decide +kernel
theorem dX11_perform_41 : decode prog_1_method_7_code 41 = .ok (.iload_n 2, 1) := by decide +kernel
theorem dX11_perform_42 : decode prog_1_method_7_code 42 = .ok (.sipush 9999, 3) := by decide +kernel
theorem dX11_perform_45 : decode prog_1_method_7_code 45 = .ok (.if_icmp .lt 5, 3) := by decide +kernel
theorem dX11_perform_48 : decode prog_1_method_7_code 48 = .ok (.iconst (-1), 1) := by decide +kernel
theorem dX11_perform_49 : decode prog_1_method_7_code 49 = .ok (.ireturn, 1) := by decide +kernel
theorem dX11_perform_50 : decode prog_1_method_7_code 50 = .ok (.aload_n 0, 1) := by decide +kernel
theorem dX11_perform_51 : decode prog_1_method_7_code 51 = .ok (.getfield 30, 3) := by decide +kernel
theorem dX11_perform_54 : decode prog_1_method_7_code 54 = .ok (.aload_n 0, 1) := by decide +kernel
theorem dX11_perform_55 : decode prog_1_method_7_code 55 = .ok (.getfield 16, 3) := by decide +kernel
theorem dX11_perform_58 : decode prog_1_method_7_code 58 = .ok (.invokevirtual 146, 3) := by decide +kernel
theorem dX11_perform_61 : decode prog_1_method_7_code 61 = .ok (.aload_n 0, 1) := by decide +kernel
theorem dX11_perform_62 : decode prog_1_method_7_code 62 = .ok (.getfield 71, 3) := by decide +kernel
theorem dX11_perform_65 : decode prog_1_method_7_code 65 = .ok (.iload_n 1, 1) := by decide +kernel
theorem dX11_perform_66 : decode prog_1_method_7_code 66 = .ok (.invokevirtual 149, 3) := by decide +kernel
theorem dX11_perform_69 : decode prog_1_method_7_code 69 = .ok (.ireturn, 1) := by decide +kernel
theorem dX11_pay_0 : decode prog_1_method_8_code 0 = .ok (.aload_n 0, 1) := by decide +kernel
theorem dX11_pay_1 : decode prog_1_method_8_code 1 = .ok (.getfield 16, 3) := by decide +kernel
theorem dX11_pay_4 : decode prog_1_method_8_code 4 = .ok (.getfield 113, 3) := by decide +kernel
theorem dX11_pay_7 : decode prog_1_method_8_code 7 = .ok (.iload_n 1, 1) := by decide +kernel
theorem dX11_pay_8 : decode prog_1_method_8_code 8 = .ok (.invokevirtual 138, 3) := by decide +kernel
theorem dX11_pay_11 : decode prog_1_method_8_code 11 = .ok (.ifCond .eq 13, 3) := by decide +kernel
theorem dX11_pay_14 : decode prog_1_method_8_code 14 = .ok (.iload_n 2, 1) := by decide +kernel
theorem dX11_pay_15 : decode prog_1_method_8_code 15 = .ok (.iconst 1, 1) := by decide +kernel
theorem dX11_pay_16 : decode prog_1_method_8_code 16 = .ok (.bipush 99, 2) := by decide +kernel
theorem dX11_pay_18 : decode prog_1_method_8_code 18 = .ok (.invokestatic 109, 3) := by decide +kernel
theorem dX11_pay_21 : decode prog_1_method_8_code 21 = .ok (.ifCond .ne 5, 3) := by decide +kernel
theorem dX11_pay_24 : decode prog_1_method_8_code 24 = .ok (.iconst 0, 1) := by decide +kernel
theorem dX11_pay_25 : decode prog_1_method_8_code 25 = .ok (.ireturn, 1) := by decide +kernel
theorem dX11_pay_26 : decode prog_1_method_8_code 26 = .ok (.aload_n 0, 1) := by decide +kernel
theorem dX11_pay_27 : decode prog_1_method_8_code 27 = .ok (.getfield 30, 3) := by decide +kernel
theorem dX11_pay_30 : decode prog_1_method_8_code 30 = .ok (.aload_n 0, 1) := by decide +kernel
theorem dX11_pay_31 : decode prog_1_method_8_code 31 = .ok (.getfield 16, 3) := by decide +kernel
theorem dX11_pay_34 : decode prog_1_method_8_code 34 = .ok (.invokevirtual 146, 3) := by decide +kernel
theorem dX11_pay_37 : decode prog_1_method_8_code 37 = .ok (.aload_n 0, 1) := by decide +kernel
theorem dX11_pay_38 : decode prog_1_method_8_code 38 = .ok (.getfield 16, 3) := by decide +kernel
theorem dX11_pay_41 : decode prog_1_method_8_code 41 = .ok (.getfield 113, 3) := by decide +kernel
theorem dX11_pay_44 : decode prog_1_method_8_code 44 = .ok (.iload_n 1, 1) := by decide +kernel
theorem dX11_pay_45 : decode prog_1_method_8_code 45 = .ok (.iconst 5, 1) := by decide +kernel
theorem dX11_pay_46 : decode prog_1_method_8_code 46 = .ok (.bipush 99, 2) := by decide +kernel
theorem dX11_pay_48 : decode prog_1_method_8_code 48 = .ok (.aload_n 0, 1) := by decide +kernel
theorem dX11_pay_49 : decode prog_1_method_8_code 49 = .ok (.getfield 16, 3) := by decide +kernel
theorem dX11_pay_52 : decode prog_1_method_8_code 52 = .ok (.getfield 113, 3) := by decide +kernel
theorem dX11_pay_55 : decode prog_1_method_8_code 55 = .ok (.iload_n 1, 1) := by decide +kernel
theorem dX11_pay_56 : decode prog_1_method_8_code 56 = .ok (.iconst 5, 1) := by decide +kernel
theorem dX11_pay_57 : decode prog_1_method_8_code 57 = .ok (.invokevirtual 142, 3) := by decide +kernel
theorem dX11_pay_60 : decode prog_1_method_8_code 60 = .ok (.iload_n 2, 1) := by decide +kernel
theorem dX11_pay_61 : decode prog_1_method_8_code 61 = .ok (.iadd, 1) := by decide +kernel
theorem dX11_pay_62 : decode prog_1_method_8_code 62 = .ok (.invokestatic 152, 3) := by decide +kernel
theorem dX11_pay_65 : decode prog_1_method_8_code 65 = .ok (.invokevirtual 127, 3) := by decide +kernel
theorem dX11_pay_68 : decode prog_1_method_8_code 68 = .ok (.aload_n 0, 1) := by decide +kernel
theorem dX11_pay_69 : decode prog_1_method_8_code 69 = .ok (.getfield 16, 3) := by decide +kernel
theorem dX11_pay_72 : decode prog_1_method_8_code 72 = .ok (.iconst 2, 1) := by decide +kernel
theorem dX11_pay_73 : decode prog_1_method_8_code 73 = .ok (.aload_n 0, 1) := by decide +kernel
theorem dX11_pay_74 : decode prog_1_method_8_code 74 = .ok (.getfield 16, 3) := by decide +kernel
theorem dX11_pay_77 : decode prog_1_method_8_code 77 = .ok (.iconst 2, 1) := by decide +kernel
theorem dX11_pay_78 : decode prog_1_method_8_code 78 = .ok (.invokevirtual 98, 3) := by decide +kernel
theorem dX11_pay_81 : decode prog_1_method_8_code 81 = .ok (.iload_n 2, 1) := by decide +kernel
theorem dX11_pay_82 : decode prog_1_method_8_code 82 = .ok (.isub, 1) := by decide +kernel
theorem dX11_pay_83 : decode prog_1_method_8_code 83 = .ok (.invokevirtual 102, 3) := by decide +kernel
theorem dX11_pay_86 : decode prog_1_method_8_code 86 = .ok (.aload_n 0, 1) := by decide +kernel
theorem dX11_pay_87 : decode prog_1_method_8_code 87 = .ok (.getfield 16, 3) := by decide +kernel
theorem dX11_pay_90 : decode prog_1_method_8_code 90 = .ok (.iconst 3, 1) := by decide +kernel
theorem dX11_pay_91 : decode prog_1_method_8_code 91 = .ok (.iload_n 1, 1) := by decide +kernel
theorem dX11_pay_92 : decode prog_1_method_8_code 92 = .ok (.iload_n 2, 1) := by decide +kernel
theorem dX11_pay_93 : decode prog_1_method_8_code 93 = .ok (.invokevirtual 157, 3) := by decide +kernel
theorem dX11_pay_96 : decode prog_1_method_8_code 96 = .ok (.iconst 1, 1) := by decide +kernel
theorem dX11_pay_97 : decode prog_1_method_8_code 97 = .ok (.ireturn, 1) := by decide +kernel
theorem dX11_glove_0 : decode prog_1_method_9_code 0 = .ok (.aload_n 0, 1) := by decide +kernel
theorem dX11_glove_1 : decode prog_1_method_9_code 1 = .ok (.iload_n 1, 1) := by decide +kernel
theorem dX11_glove_2 : decode prog_1_method_9_code 2 = .ok (.iconst 4, 1) := by decide +kernel
theorem dX11_glove_3 : decode prog_1_method_9_code 3 = .ok (.iload_n 2, 1) := by decide +kernel
theorem dX11_glove_4 : decode prog_1_method_9_code 4 = .ok (.iconst 4, 1) := by decide +kernel
theorem dX11_glove_5 : decode prog_1_method_9_code 5 = .ok (.invokevirtual 160, 3) := by decide +kernel
theorem dX11_glove_8 : decode prog_1_method_9_code 8 = .ok (.ireturn, 1) := by decide +kernel
theorem dX11_let_0 : decode prog_1_method_10_code 0 = .ok (.aload_n 0, 1) := by decide +kernel
theorem dX11_let_1 : decode prog_1_method_10_code 1 = .ok (.iload_n 1, 1) := by decide +kernel
theorem dX11_let_2 : decode prog_1_method_10_code 2 = .ok (.iconst 3, 1) := by decide +kernel
theorem dX11_let_3 : decode prog_1_method_10_code 3 = .ok (.iload_n 2, 1) := by decide +kernel
theorem dX11_let_4 : decode prog_1_method_10_code 4 = .ok (.iconst 5, 1) := by decide +kernel
theorem dX11_let_5 : decode prog_1_method_10_code 5 = .ok (.invokevirtual 160, 3) := by decide +kernel
theorem dX11_let_8 : decode prog_1_method_10_code 8 = .ok (.ireturn, 1) := by decide +kernel
theorem dX11_turn_0 : decode prog_1_method_11_code 0 = .ok (.iload_n 3, 1) := by decide +kernel
theorem dX11_turn_1 : decode prog_1_method_11_code 1 = .ok (.ifCond .eq 7, 3) := by decide +kernel
theorem dX11_turn_4 : decode prog_1_method_11_code 4 = .ok (.iconst 1, 1) := by decide +kernel
theorem dX11_turn_5 : decode prog_1_method_11_code 5 = .ok (.goto 4, 3) := by decide +kernel
theorem dX11_turn_8 : decode prog_1_method_11_code 8 = .ok (.iconst 0, 1) := by decide +kernel
theorem dX11_turn_9 : decode prog_1_method_11_code 9 = .ok (.istore 5, 2) := by decide +kernel
theorem dX11_turn_11 : decode prog_1_method_11_code 11 = .ok (.aload_n 0, 1) := by decide +kernel
theorem dX11_turn_12 : decode prog_1_method_11_code 12 = .ok (.getfield 16, 3) := by decide +kernel
theorem dX11_turn_15 : decode prog_1_method_11_code 15 = .ok (.getfield 113, 3) := by decide +kernel
theorem dX11_turn_18 : decode prog_1_method_11_code 18 = .ok (.iload_n 1, 1) := by decide +kernel
theorem dX11_turn_19 : decode prog_1_method_11_code 19 = .ok (.invokevirtual 138, 3) := by decide +kernel
theorem dX11_turn_22 : decode prog_1_method_11_code 22 = .ok (.ifCond .eq 20, 3) := by decide +kernel
theorem dX11_turn_25 : decode prog_1_method_11_code 25 = .ok (.aload_n 0, 1) := by decide +kernel
theorem dX11_turn_26 : decode prog_1_method_11_code 26 = .ok (.getfield 16, 3) := by decide +kernel
theorem dX11_turn_29 : decode prog_1_method_11_code 29 = .ok (.getfield 113, 3) := by decide +kernel
theorem dX11_turn_32 : decode prog_1_method_11_code 32 = .ok (.iload_n 1, 1) := by decide +kernel
theorem dX11_turn_33 : decode prog_1_method_11_code 33 = .ok (.iload_n 2, 1) := by decide +kernel
theorem dX11_turn_34 : decode prog_1_method_11_code 34 = .ok (.invokevirtual 142, 3) := by decide +kernel
theorem dX11_turn_37 : decode prog_1_method_11_code 37 = .ok (.iload 5, 2) := by decide +kernel
theorem dX11_turn_39 : decode prog_1_method_11_code 39 = .ok (.if_icmp .ne 5, 3) := by decide +kernel
theorem dX11_turn_42 : decode prog_1_method_11_code 42 = .ok (.iconst 0, 1) := by decide +kernel
theorem dX11_turn_43 : decode prog_1_method_11_code 43 = .ok (.ireturn, 1) := by decide +kernel
theorem dX11_turn_44 : decode prog_1_method_11_code 44 = .ok (.aload_n 0, 1) := by decide +kernel
theorem dX11_turn_45 : decode prog_1_method_11_code 45 = .ok (.getfield 30, 3) := by decide +kernel
theorem dX11_turn_48 : decode prog_1_method_11_code 48 = .ok (.aload_n 0, 1) := by decide +kernel
theorem dX11_turn_49 : decode prog_1_method_11_code 49 = .ok (.getfield 16, 3) := by decide +kernel
theorem dX11_turn_52 : decode prog_1_method_11_code 52 = .ok (.invokevirtual 146, 3) := by decide +kernel
theorem dX11_turn_55 : decode prog_1_method_11_code 55 = .ok (.aload_n 0, 1) := by decide +kernel
theorem dX11_turn_56 : decode prog_1_method_11_code 56 = .ok (.getfield 16, 3) := by decide +kernel
theorem dX11_turn_59 : decode prog_1_method_11_code 59 = .ok (.getfield 113, 3) := by decide +kernel
theorem dX11_turn_62 : decode prog_1_method_11_code 62 = .ok (.iload_n 1, 1) := by decide +kernel
theorem dX11_turn_63 : decode prog_1_method_11_code 63 = .ok (.iload_n 2, 1) := by decide +kernel
theorem dX11_turn_64 : decode prog_1_method_11_code 64 = .ok (.iload 5, 2) := by decide +kernel
theorem dX11_turn_66 : decode prog_1_method_11_code 66 = .ok (.invokevirtual 127, 3) := by decide +kernel
theorem dX11_turn_69 : decode prog_1_method_11_code 69 = .ok (.aload_n 0, 1) := by decide +kernel
theorem dX11_turn_70 : decode prog_1_method_11_code 70 = .ok (.getfield 16, 3) := by decide +kernel
theorem dX11_turn_73 : decode prog_1_method_11_code 73 = .ok (.iload 4, 2) := by decide +kernel
theorem dX11_turn_75 : decode prog_1_method_11_code 75 = .ok (.iload_n 1, 1) := by decide +kernel
theorem dX11_turn_76 : decode prog_1_method_11_code 76 = .ok (.iload 5, 2) := by decide +kernel
theorem dX11_turn_78 : decode prog_1_method_11_code 78 = .ok (.invokevirtual 157, 3) := by decide +kernel
theorem dX11_turn_81 : decode prog_1_method_11_code 81 = .ok (.iconst 1, 1) := by decide +kernel
theorem dX11_turn_82 : decode prog_1_method_11_code 82 = .ok (.ireturn, 1) := by decide +kernel
theorem dX11_evenings_0 : decode prog_1_method_12_code 0 = .ok (.iload_n 1, 1) := by decide +kernel
theorem dX11_evenings_1 : decode prog_1_method_12_code 1 = .ok (.iconst 1, 1) := by decide +kernel
theorem dX11_evenings_2 : decode prog_1_method_12_code 2 = .ok (.bipush 20, 2) := by decide +kernel
theorem dX11_evenings_4 : decode prog_1_method_12_code 4 = .ok (.invokestatic 109, 3) := by decide +kernel
theorem dX11_evenings_7 : decode prog_1_method_12_code 7 = .ok (.ifCond .eq 19, 3) := by decide +kernel
theorem dX11_evenings_10 : decode prog_1_method_12_code 10 = .ok (.aload_n 0, 1) := by decide +kernel
theorem dX11_evenings_11 : decode prog_1_method_12_code 11 = .ok (.getfield 16, 3) := by decide +kernel
theorem dX11_evenings_14 : decode prog_1_method_12_code 14 = .ok (.iconst 1, 1) := by decide +kernel
theorem dX11_evenings_15 : decode prog_1_method_12_code 15 = .ok (.invokevirtual 98, 3) := by decide +kernel
theorem dX11_evenings_18 : decode prog_1_method_12_code 18 = .ok (.iload_n 1, 1) := by decide +kernel
theorem dX11_evenings_19 : decode prog_1_method_12_code 19 = .ok (.iadd, 1) := by decide +kernel
theorem dX11_evenings_20 : decode prog_1_method_12_code 20 = .ok (.sipush 9999, 3) := by decide +kernel
theorem dX11_evenings_23 : decode prog_1_method_12_code 23 = .ok (.if_icmp .le 5, 3) := by decide +kernel
theorem dX11_evenings_26 : decode prog_1_method_12_code 26 = .ok (.iconst (-1), 1) := by decide +kernel
theorem dX11_evenings_27 : decode prog_1_method_12_code 27 = .ok (.ireturn, 1) := by decide +kernel
theorem dX11_evenings_28 : decode prog_1_method_12_code 28 = .ok (.iconst 0, 1) := by decide +kernel
theorem dX11_evenings_29 : decode prog_1_method_12_code 29 = .ok (.istore_n 2, 1) := by decide +kernel
theorem dX11_evenings_30 : decode prog_1_method_12_code 30 = .ok (.iconst 0, 1) := by decide +kernel
theorem dX11_evenings_31 : decode prog_1_method_12_code 31 = .ok (.istore_n 3, 1) := by decide +kernel
theorem dX11_evenings_32 : decode prog_1_method_12_code 32 = .ok (.iload_n 3, 1) := by decide +kernel
theorem dX11_evenings_33 : decode prog_1_method_12_code 33 = .ok (.iload_n 1, 1) := by decide +kernel
theorem dX11_evenings_34 : decode prog_1_method_12_code 34 = .ok (.if_icmp .ge 30, 3) := by decide +kernel
theorem dX11_evenings_37 : decode prog_1_method_12_code 37 = .ok (.aload_n 0, 1) := by decide +kernel
theorem dX11_evenings_38 : decode prog_1_method_12_code 38 = .ok (.getfield 30, 3) := by decide +kernel
theorem dX11_evenings_41 : decode prog_1_method_12_code 41 = .ok (.aload_n 0, 1) := by decide +kernel
theorem dX11_evenings_42 : decode prog_1_method_12_code 42 = .ok (.getfield 16, 3) := by decide +kernel
theorem dX11_evenings_45 : decode prog_1_method_12_code 45 = .ok (.invokevirtual 146, 3) := by decide +kernel
theorem dX11_evenings_48 : decode prog_1_method_12_code 48 = .ok (.iload_n 2, 1) := by decide +kernel
theorem dX11_evenings_49 : decode prog_1_method_12_code 49 = .ok (.aload_n 0, 1) := by decide +kernel
theorem dX11_evenings_50 : decode prog_1_method_12_code 50 = .ok (.getfield 71, 3) := by decide +kernel
theorem dX11_evenings_53 : decode prog_1_method_12_code 53 = .ok (.invokevirtual 164, 3) := by decide +kernel
theorem dX11_evenings_56 : decode prog_1_method_12_code 56 = .ok (.iadd, 1) := by decide +kernel
theorem dX11_evenings_57 : decode prog_1_method_12_code 57 = .ok (.istore_n 2, 1) := by decide +kernel
theorem dX11_evenings_58 : decode prog_1_method_12_code 58 = .ok (.iinc 3 1, 3) := by decide +kernel
theorem dX11_evenings_61 : decode prog_1_method_12_code 61 = .ok (.goto (-29), 3) := by decide +kernel
theorem dX11_evenings_64 : decode prog_1_method_12_code 64 = .ok (.iload_n 2, 1) := by decide +kernel
theorem dX11_evenings_65 : decode prog_1_method_12_code 65 = .ok (.ireturn, 1) := by decide +kernel
theorem dX11_feed_0 : decode prog_1_method_13_code 0 = .ok (.aload_n 0, 1) := by decide +kernel
theorem dX11_feed_1 : decode prog_1_method_13_code 1 = .ok (.getfield 44, 3) := by decide +kernel
theorem dX11_feed_4 : decode prog_1_method_13_code 4 = .ok (.bipush 20, 2) := by decide +kernel
theorem dX11_feed_6 : decode prog_1_method_13_code 6 = .ok (.invokevirtual 168, 3) := by decide +kernel
theorem dX11_feed_9 : decode prog_1_method_13_code 9 = .ok (.ifCond .ne 5, 3) := by decide +kernel
theorem dX11_feed_12 : decode prog_1_method_13_code 12 = .ok (.iconst (-1), 1) := by decide +kernel
theorem dX11_feed_13 : decode prog_1_method_13_code 13 = .ok (.ireturn, 1) := by decide +kernel
theorem dX11_feed_14 : decode prog_1_method_13_code 14 = .ok (.aload_n 0, 1) := by decide +kernel
theorem dX11_feed_15 : decode prog_1_method_13_code 15 = .ok (.getfield 44, 3) := by decide +kernel
theorem dX11_feed_18 : decode prog_1_method_13_code 18 = .ok (.iload_n 1, 1) := by decide +kernel
theorem dX11_feed_19 : decode prog_1_method_13_code 19 = .ok (.invokevirtual 171, 3) := by decide +kernel
theorem dX11_feed_22 : decode prog_1_method_13_code 22 = .ok (.aload_n 0, 1) := by decide +kernel
theorem dX11_feed_23 : decode prog_1_method_13_code 23 = .ok (.getfield 44, 3) := by decide +kernel
theorem dX11_feed_26 : decode prog_1_method_13_code 26 = .ok (.iload_n 2, 1) := by decide +kernel
theorem dX11_feed_27 : decode prog_1_method_13_code 27 = .ok (.invokevirtual 171, 3) := by decide +kernel
theorem dX11_feed_30 : decode prog_1_method_13_code 30 = .ok (.aload_n 0, 1) := by decide +kernel
theorem dX11_feed_31 : decode prog_1_method_13_code 31 = .ok (.getfield 44, 3) := by decide +kernel
theorem dX11_feed_34 : decode prog_1_method_13_code 34 = .ok (.iload_n 3, 1) := by decide +kernel
theorem dX11_feed_35 : decode prog_1_method_13_code 35 = .ok (.invokevirtual 171, 3) := by decide +kernel
theorem dX11_feed_38 : decode prog_1_method_13_code 38 = .ok (.aload_n 0, 1) := by decide +kernel
theorem dX11_feed_39 : decode prog_1_method_13_code 39 = .ok (.getfield 44, 3) := by decide +kernel
theorem dX11_feed_42 : decode prog_1_method_13_code 42 = .ok (.iload 4, 2) := by decide +kernel
theorem dX11_feed_44 : decode prog_1_method_13_code 44 = .ok (.invokevirtual 171, 3) := by decide +kernel
theorem dX11_feed_47 : decode prog_1_method_13_code 47 = .ok (.aload_n 0, 1) := by decide +kernel
theorem dX11_feed_48 : decode prog_1_method_13_code 48 = .ok (.getfield 44, 3) := by decide +kernel
theorem dX11_feed_51 : decode prog_1_method_13_code 51 = .ok (.iload 5, 2) := by decide +kernel
theorem dX11_feed_53 : decode prog_1_method_13_code 53 = .ok (.invokevirtual 171, 3) := by decide +kernel
theorem dX11_feed_56 : decode prog_1_method_13_code 56 = .ok (.aload_n 0, 1) := by decide +kernel
theorem dX11_feed_57 : decode prog_1_method_13_code 57 = .ok (.getfield 44, 3) := by decide +kernel
theorem dX11_feed_60 : decode prog_1_method_13_code 60 = .ok (.getfield 175, 3) := by decide +kernel
theorem dX11_feed_63 : decode prog_1_method_13_code 63 = .ok (.ireturn, 1) := by decide +kernel
theorem dX11_end_0 : decode prog_1_method_14_code 0 = .ok (.iload_n 1, 1) := by decide +kernel
theorem dX11_end_1 : decode prog_1_method_14_code 1 = .ok (.iconst 0, 1) := by decide +kernel
theorem dX11_end_2 : decode prog_1_method_14_code 2 = .ok (.aload_n 0, 1) := by decide +kernel
theorem dX11_end_3 : decode prog_1_method_14_code 3 = .ok (.getfield 44, 3) := by decide +kernel
theorem dX11_end_6 : decode prog_1_method_14_code 6 = .ok (.getfield 175, 3) := by decide +kernel
theorem dX11_end_9 : decode prog_1_method_14_code 9 = .ok (.invokestatic 109, 3) := by decide +kernel
theorem dX11_end_12 : decode prog_1_method_14_code 12 = .ok (.ifCond .ne 5, 3) := by decide +kernel
theorem dX11_end_15 : decode prog_1_method_14_code 15 = .ok (.iconst 0, 1) := by decide +kernel
theorem dX11_end_16 : decode prog_1_method_14_code 16 = .ok (.ireturn, 1) := by decide +kernel
theorem dX11_end_17 : decode prog_1_method_14_code 17 = .ok (.aload_n 0, 1) := by decide +kernel
theorem dX11_end_18 : decode prog_1_method_14_code 18 = .ok (.getfield 44, 3) := by decide +kernel
theorem dX11_end_21 : decode prog_1_method_14_code 21 = .ok (.iload_n 1, 1) := by decide +kernel
theorem dX11_end_22 : decode prog_1_method_14_code 22 = .ok (.putfield 175, 3) := by decide +kernel
theorem dX11_end_25 : decode prog_1_method_14_code 25 = .ok (.iconst 1, 1) := by decide +kernel
theorem dX11_end_26 : decode prog_1_method_14_code 26 = .ok (.ireturn, 1) := by decide +kernel
theorem dX11_text_0 : decode prog_1_method_15_code 0 = .ok (.aload_n 0, 1) := by decide +kernel
theorem dX11_text_1 : decode prog_1_method_15_code 1 = .ok (.getfield 53, 3) := by decide +kernel
theorem dX11_text_4 : decode prog_1_method_15_code 4 = .ok (.iload_n 1, 1) := by decide +kernel
theorem dX11_text_5 : decode prog_1_method_15_code 5 = .ok (.aload_n 0, 1) := by decide +kernel
theorem dX11_text_6 : decode prog_1_method_15_code 6 = .ok (.getfield 16, 3) := by decide +kernel
theorem dX11_text_9 : decode prog_1_method_15_code 9 = .ok (.getfield 113, 3) := by decide +kernel
theorem dX11_text_12 : decode prog_1_method_15_code 12 = .ok (.getfield 117, 3) := by decide +kernel
theorem dX11_text_15 : decode prog_1_method_15_code 15 = .ok (.aload_n 0, 1) := by decide +kernel
theorem dX11_text_16 : decode prog_1_method_15_code 16 = .ok (.getfield 16, 3) := by decide +kernel
theorem dX11_text_19 : decode prog_1_method_15_code 19 = .ok (.getfield 131, 3) := by decide +kernel
theorem dX11_text_22 : decode prog_1_method_15_code 22 = .ok (.getfield 117, 3) := by decide +kernel
theorem dX11_text_25 : decode prog_1_method_15_code 25 = .ok (.invokevirtual 178, 3) := by decide +kernel
theorem dX11_text_28 : decode prog_1_method_15_code 28 = .ok (.aload_n 0, 1) := by decide +kernel
theorem dX11_text_29 : decode prog_1_method_15_code 29 = .ok (.getfield 44, 3) := by decide +kernel
theorem dX11_text_32 : decode prog_1_method_15_code 32 = .ok (.iconst 0, 1) := by decide +kernel
theorem dX11_text_33 : decode prog_1_method_15_code 33 = .ok (.putfield 175, 3) := by decide +kernel
theorem dX11_text_36 : decode prog_1_method_15_code 36 = .ok (.iload_n 1, 1) := by decide +kernel
theorem dX11_text_37 : decode prog_1_method_15_code 37 = .ok (.iconst 0, 1) := by decide +kernel
theorem dX11_text_38 : decode prog_1_method_15_code 38 = .ok (.iconst 3, 1) := by decide +kernel
theorem dX11_text_39 : decode prog_1_method_15_code 39 = .ok (.invokestatic 109, 3) := by decide +kernel
theorem dX11_text_42 : decode prog_1_method_15_code 42 = .ok (.ifCond .eq 13, 3) := by decide +kernel
theorem dX11_text_45 : decode prog_1_method_15_code 45 = .ok (.aload_n 0, 1) := by decide +kernel
theorem dX11_text_46 : decode prog_1_method_15_code 46 = .ok (.getfield 53, 3) := by decide +kernel
theorem dX11_text_49 : decode prog_1_method_15_code 49 = .ok (.getfield 181, 3) := by decide +kernel
theorem dX11_text_52 : decode prog_1_method_15_code 52 = .ok (.ifCond .eq 5, 3) := by decide +kernel
theorem dX11_text_55 : decode prog_1_method_15_code 55 = .ok (.iconst (-1), 1) := by decide +kernel
theorem dX11_text_56 : decode prog_1_method_15_code 56 = .ok (.ireturn, 1) := by decide +kernel
theorem dX11_text_57 : decode prog_1_method_15_code 57 = .ok (.aload_n 0, 1) := by decide +kernel
theorem dX11_text_58 : decode prog_1_method_15_code 58 = .ok (.getfield 16, 3) := by decide +kernel
theorem dX11_text_61 : decode prog_1_method_15_code 61 = .ok (.iload_n 1, 1) := by decide +kernel
theorem dX11_text_62 : decode prog_1_method_15_code 62 = .ok (.aload_n 0, 1) := by decide +kernel
theorem dX11_text_63 : decode prog_1_method_15_code 63 = .ok (.getfield 53, 3) := by decide +kernel
theorem dX11_text_66 : decode prog_1_method_15_code 66 = .ok (.getfield 184, 3) := by decide +kernel
theorem dX11_text_69 : decode prog_1_method_15_code 69 = .ok (.aload_n 0, 1) := by decide +kernel
theorem dX11_text_70 : decode prog_1_method_15_code 70 = .ok (.getfield 53, 3) := by decide +kernel
theorem dX11_text_73 : decode prog_1_method_15_code 73 = .ok (.getfield 186, 3) := by decide +kernel
theorem dX11_text_76 : decode prog_1_method_15_code 76 = .ok (.invokevirtual 189, 3) := by decide +kernel
theorem dX11_text_79 : decode prog_1_method_15_code 79 = .ok (.iload_n 1, 1) := by decide +kernel
theorem dX11_text_80 : decode prog_1_method_15_code 80 = .ok (.ifCond .eq 10, 3) := by decide +kernel
theorem dX11_text_83 : decode prog_1_method_15_code 83 = .ok (.aload_n 0, 1) := by decide +kernel
theorem dX11_text_84 : decode prog_1_method_15_code 84 = .ok (.getfield 30, 3) := by decide +kernel
theorem dX11_text_87 : decode prog_1_method_15_code 87 = .ok (.invokevirtual 106, 3) := by decide +kernel
theorem dX11_text_90 : decode prog_1_method_15_code 90 = .ok (.aload_n 0, 1) := by decide +kernel
theorem dX11_text_91 : decode prog_1_method_15_code 91 = .ok (.getfield 53, 3) := by decide +kernel
theorem dX11_text_94 : decode prog_1_method_15_code 94 = .ok (.getfield 184, 3) := by decide +kernel
theorem dX11_text_97 : decode prog_1_method_15_code 97 = .ok (.getfield 117, 3) := by decide +kernel
theorem dX11_text_100 : decode prog_1_method_15_code 100 = .ok (.ireturn, 1) := by decide +kernel
theorem dX11_of_0 : decode prog_1_method_17_code 0 = .ok (.aload_n 0, 1) := by decide +kernel
theorem dX11_of_1 : decode prog_1_method_17_code 1 = .ok (.getfield 16, 3) := by decide +kernel
theorem dX11_of_4 : decode prog_1_method_17_code 4 = .ok (.getfield 113, 3) := by decide +kernel
theorem dX11_of_7 : decode prog_1_method_17_code 7 = .ok (.iload_n 1, 1) := by decide +kernel
theorem dX11_of_8 : decode prog_1_method_17_code 8 = .ok (.invokevirtual 138, 3) := by decide +kernel
theorem dX11_of_11 : decode prog_1_method_17_code 11 = .ok (.ifCond .ne 5, 3) := by decide +kernel
theorem dX11_of_14 : decode prog_1_method_17_code 14 = .ok (.iconst (-1), 1) := by decide +kernel
theorem dX11_of_15 : decode prog_1_method_17_code 15 = .ok (.ireturn, 1) := by decide +kernel
theorem dX11_of_16 : decode prog_1_method_17_code 16 = .ok (.iload_n 2, 1) := by decide +kernel
theorem dX11_of_17 : decode prog_1_method_17_code 17 = .ok (.bipush 10, 2) := by decide +kernel
theorem dX11_of_19 : decode prog_1_method_17_code 19 = .ok (.if_icmp .ge 16, 3) := by decide +kernel
theorem dX11_of_22 : decode prog_1_method_17_code 22 = .ok (.aload_n 0, 1) := by decide +kernel
theorem dX11_of_23 : decode prog_1_method_17_code 23 = .ok (.getfield 16, 3) := by decide +kernel
theorem dX11_of_26 : decode prog_1_method_17_code 26 = .ok (.getfield 113, 3) := by decide +kernel
theorem dX11_of_29 : decode prog_1_method_17_code 29 = .ok (.iload_n 1, 1) := by decide +kernel
theorem dX11_of_30 : decode prog_1_method_17_code 30 = .ok (.iload_n 2, 1) := by decide +kernel
theorem dX11_of_31 : decode prog_1_method_17_code 31 = .ok (.invokevirtual 142, 3) := by decide +kernel
theorem dX11_of_34 : decode prog_1_method_17_code 34 = .ok (.ireturn, 1) := by decide +kernel
theorem dX11_of_35 : decode prog_1_method_17_code 35 = .ok (.aload_n 0, 1) := by decide +kernel
theorem dX11_of_36 : decode prog_1_method_17_code 36 = .ok (.getfield 16, 3) := by decide +kernel
theorem dX11_of_39 : decode prog_1_method_17_code 39 = .ok (.getfield 131, 3) := by decide +kernel
theorem dX11_of_42 : decode prog_1_method_17_code 42 = .ok (.iload_n 2, 1) := by decide +kernel
theorem dX11_of_43 : decode prog_1_method_17_code 43 = .ok (.bipush 10, 2) := by decide +kernel
theorem dX11_of_45 : decode prog_1_method_17_code 45 = .ok (.isub, 1) := by decide +kernel
theorem dX11_of_46 : decode prog_1_method_17_code 46 = .ok (.invokevirtual 138, 3) := by decide +kernel
theorem dX11_of_49 : decode prog_1_method_17_code 49 = .ok (.ifCond .eq 19, 3) := by decide +kernel
theorem dX11_of_52 : decode prog_1_method_17_code 52 = .ok (.aload_n 0, 1) := by decide +kernel
theorem dX11_of_53 : decode prog_1_method_17_code 53 = .ok (.getfield 62, 3) := by decide +kernel
theorem dX11_of_56 : decode prog_1_method_17_code 56 = .ok (.iload_n 1, 1) := by decide +kernel
theorem dX11_of_57 : decode prog_1_method_17_code 57 = .ok (.iload_n 2, 1) := by decide +kernel
theorem dX11_of_58 : decode prog_1_method_17_code 58 = .ok (.bipush 10, 2) := by decide +kernel
theorem dX11_of_60 : decode prog_1_method_17_code 60 = .ok (.isub, 1) := by decide +kernel
theorem dX11_of_61 : decode prog_1_method_17_code 61 = .ok (.iconst 0, 1) := by decide +kernel
theorem dX11_of_62 : decode prog_1_method_17_code 62 = .ok (.invokevirtual 196, 3) := by decide +kernel
theorem dX11_of_65 : decode prog_1_method_17_code 65 = .ok (.goto 4, 3) := by decide +kernel
theorem dX11_of_68 : decode prog_1_method_17_code 68 = .ok (.iconst (-1), 1) := by decide +kernel
theorem dX11_of_69 : decode prog_1_method_17_code 69 = .ok (.ireturn, 1) := by decide +kernel
theorem dX11_deedOf_0 : decode prog_1_method_18_code 0 = .ok (.aload_n 0, 1) := by decide +kernel
theorem dX11_deedOf_1 : decode prog_1_method_18_code 1 = .ok (.getfield 16, 3) := by decide +kernel
theorem dX11_deedOf_4 : decode prog_1_method_18_code 4 = .ok (.getfield 131, 3) := by decide +kernel
theorem dX11_deedOf_7 : decode prog_1_method_18_code 7 = .ok (.iload_n 1, 1) := by decide +kernel
theorem dX11_deedOf_8 : decode prog_1_method_18_code 8 = .ok (.invokevirtual 138, 3) := by decide +kernel
theorem dX11_deedOf_11 : decode prog_1_method_18_code 11 = .ok (.ifCond .ne 5, 3) := by decide +kernel
theorem dX11_deedOf_14 : decode prog_1_method_18_code 14 = .ok (.iconst (-1), 1) := by decide +kernel
theorem dX11_deedOf_15 : decode prog_1_method_18_code 15 = .ok (.ireturn, 1) := by decide +kernel
theorem dX11_deedOf_16 : decode prog_1_method_18_code 16 = .ok (.iload_n 2, 1) := by decide +kernel
theorem dX11_deedOf_17 : decode prog_1_method_18_code 17 = .ok (.iconst 5, 1) := by decide +kernel
theorem dX11_deedOf_18 : decode prog_1_method_18_code 18 = .ok (.if_icmp .ne 15, 3) := by decide +kernel
theorem dX11_deedOf_21 : decode prog_1_method_18_code 21 = .ok (.aload_n 0, 1) := by decide +kernel
theorem dX11_deedOf_22 : decode prog_1_method_18_code 22 = .ok (.getfield 62, 3) := by decide +kernel
theorem dX11_deedOf_25 : decode prog_1_method_18_code 25 = .ok (.sipush 256, 3) := by decide +kernel
theorem dX11_deedOf_28 : decode prog_1_method_18_code 28 = .ok (.iload_n 1, 1) := by decide +kernel
theorem dX11_deedOf_29 : decode prog_1_method_18_code 29 = .ok (.invokevirtual 200, 3) := by decide +kernel
theorem dX11_deedOf_32 : decode prog_1_method_18_code 32 = .ok (.ireturn, 1) := by decide +kernel
theorem dX11_deedOf_33 : decode prog_1_method_18_code 33 = .ok (.iload_n 2, 1) := by decide +kernel
theorem dX11_deedOf_34 : decode prog_1_method_18_code 34 = .ok (.bipush 6, 2) := by decide +kernel
theorem dX11_deedOf_36 : decode prog_1_method_18_code 36 = .ok (.if_icmp .ne 17, 3) := by decide +kernel
theorem dX11_deedOf_39 : decode prog_1_method_18_code 39 = .ok (.aload_n 0, 1) := by decide +kernel
theorem dX11_deedOf_40 : decode prog_1_method_18_code 40 = .ok (.getfield 62, 3) := by decide +kernel
theorem dX11_deedOf_43 : decode prog_1_method_18_code 43 = .ok (.sipush 258, 3) := by decide +kernel
theorem dX11_deedOf_46 : decode prog_1_method_18_code 46 = .ok (.iload_n 1, 1) := by decide +kernel
theorem dX11_deedOf_47 : decode prog_1_method_18_code 47 = .ok (.invokevirtual 200, 3) := by decide +kernel
theorem dX11_deedOf_50 : decode prog_1_method_18_code 50 = .ok (.goto 15, 3) := by decide +kernel
theorem dX11_deedOf_53 : decode prog_1_method_18_code 53 = .ok (.aload_n 0, 1) := by decide +kernel
theorem dX11_deedOf_54 : decode prog_1_method_18_code 54 = .ok (.getfield 16, 3) := by decide +kernel
theorem dX11_deedOf_57 : decode prog_1_method_18_code 57 = .ok (.getfield 131, 3) := by decide +kernel
theorem dX11_deedOf_60 : decode prog_1_method_18_code 60 = .ok (.iload_n 1, 1) := by decide +kernel
theorem dX11_deedOf_61 : decode prog_1_method_18_code 61 = .ok (.iload_n 2, 1) := by decide +kernel
theorem dX11_deedOf_62 : decode prog_1_method_18_code 62 = .ok (.invokevirtual 142, 3) := by decide +kernel
theorem dX11_deedOf_65 : decode prog_1_method_18_code 65 = .ok (.ireturn, 1) := by decide +kernel
theorem dX11_statute_0 : decode prog_1_method_19_code 0 = .ok (.iload_n 1, 1) := by decide +kernel
theorem dX11_statute_1 : decode prog_1_method_19_code 1 = .ok (.ifCond .ne 11, 3) := by decide +kernel
theorem dX11_statute_4 : decode prog_1_method_19_code 4 = .ok (.aload_n 0, 1) := by decide +kernel
theorem dX11_statute_5 : decode prog_1_method_19_code 5 = .ok (.getfield 16, 3) := by decide +kernel
theorem dX11_statute_8 : decode prog_1_method_19_code 8 = .ok (.invokevirtual 203, 3) := by decide +kernel
theorem dX11_statute_11 : decode prog_1_method_19_code 11 = .ok (.ireturn, 1) := by decide +kernel
theorem dX11_statute_12 : decode prog_1_method_19_code 12 = .ok (.iload_n 1, 1) := by decide +kernel
theorem dX11_statute_13 : decode prog_1_method_19_code 13 = .ok (.iconst 1, 1) := by decide +kernel
theorem dX11_statute_14 : decode prog_1_method_19_code 14 = .ok (.if_icmp .ne 11, 3) := by decide +kernel
theorem dX11_statute_17 : decode prog_1_method_19_code 17 = .ok (.aload_n 0, 1) := by decide +kernel
theorem dX11_statute_18 : decode prog_1_method_19_code 18 = .ok (.getfield 16, 3) := by decide +kernel
theorem dX11_statute_21 : decode prog_1_method_19_code 21 = .ok (.invokevirtual 206, 3) := by decide +kernel
theorem dX11_statute_24 : decode prog_1_method_19_code 24 = .ok (.ireturn, 1) := by decide +kernel
theorem dX11_statute_25 : decode prog_1_method_19_code 25 = .ok (.iload_n 1, 1) := by decide +kernel
theorem dX11_statute_26 : decode prog_1_method_19_code 26 = .ok (.iconst 2, 1) := by decide +kernel
theorem dX11_statute_27 : decode prog_1_method_19_code 27 = .ok (.if_icmp .ne 13, 3) := by decide +kernel
theorem dX11_statute_30 : decode prog_1_method_19_code 30 = .ok (.aload_n 0, 1) := by decide +kernel
theorem dX11_statute_31 : decode prog_1_method_19_code 31 = .ok (.getfield 16, 3) := by decide +kernel
theorem dX11_statute_34 : decode prog_1_method_19_code 34 = .ok (.invokevirtual 209, 3) := by decide +kernel
theorem dX11_statute_37 : decode prog_1_method_19_code 37 = .ok (.goto 4, 3) := by decide +kernel
theorem dX11_statute_40 : decode prog_1_method_19_code 40 = .ok (.iconst (-1), 1) := by decide +kernel
theorem dX11_statute_41 : decode prog_1_method_19_code 41 = .ok (.ireturn, 1) := by decide +kernel
theorem dX11_book_0 : decode prog_1_method_20_code 0 = .ok (.aload_n 0, 1) := by decide +kernel
theorem dX11_book_1 : decode prog_1_method_20_code 1 = .ok (.getfield 16, 3) := by decide +kernel
theorem dX11_book_4 : decode prog_1_method_20_code 4 = .ok (.getfield 212, 3) := by decide +kernel
theorem dX11_book_7 : decode prog_1_method_20_code 7 = .ok (.iload_n 1, 1) := by decide +kernel
theorem dX11_book_8 : decode prog_1_method_20_code 8 = .ok (.iload_n 2, 1) := by decide +kernel
theorem dX11_book_9 : decode prog_1_method_20_code 9 = .ok (.invokevirtual 142, 3) := by decide +kernel
theorem dX11_book_12 : decode prog_1_method_20_code 12 = .ok (.ireturn, 1) := by decide +kernel
theorem dX11_look_0 : decode prog_1_method_21_code 0 = .ok (.iload_n 1, 1) := by decide +kernel
theorem dX11_look_1 : decode prog_1_method_21_code 1 = .ok (.iconst 2, 1) := by decide +kernel
theorem dX11_look_2 : decode prog_1_method_21_code 2 = .ok (.if_icmp .lt 20, 3) := by decide +kernel
theorem dX11_look_5 : decode prog_1_method_21_code 5 = .ok (.iload_n 1, 1) := by decide +kernel
theorem dX11_look_6 : decode prog_1_method_21_code 6 = .ok (.bipush 7, 2) := by decide +kernel
theorem dX11_look_8 : decode prog_1_method_21_code 8 = .ok (.if_icmp .gt 14, 3) := by decide +kernel
theorem dX11_look_11 : decode prog_1_method_21_code 11 = .ok (.aload_n 0, 1) := by decide +kernel
theorem dX11_look_12 : decode prog_1_method_21_code 12 = .ok (.getfield 16, 3) := by decide +kernel
theorem dX11_look_15 : decode prog_1_method_21_code 15 = .ok (.iload_n 1, 1) := by decide +kernel
theorem dX11_look_16 : decode prog_1_method_21_code 16 = .ok (.iconst 2, 1) := by decide +kernel
theorem dX11_look_17 : decode prog_1_method_21_code 17 = .ok (.isub, 1) := by decide +kernel
theorem dX11_look_18 : decode prog_1_method_21_code 18 = .ok (.invokevirtual 98, 3) := by decide +kernel
theorem dX11_look_21 : decode prog_1_method_21_code 21 = .ok (.ireturn, 1) := by decide +kernel
theorem dX11_look_22 : decode prog_1_method_21_code 22 = .ok (.iload_n 1, 1) := by decide +kernel
theorem dX11_look_23 : decode prog_1_method_21_code 23 = .ok (.tableswitch 196 0 16 #[81, 92, 196, 196, 196, 196, 196, 196, 103, 112, 123, 133, 144, 155, 166, 177, 188], 81) := by decide +kernel
theorem dX11_look_104 : decode prog_1_method_21_code 104 = .ok (.aload_n 0, 1) := by decide +kernel
theorem dX11_look_105 : decode prog_1_method_21_code 105 = .ok (.getfield 16, 3) := by decide +kernel
theorem dX11_look_108 : decode prog_1_method_21_code 108 = .ok (.getfield 113, 3) := by decide +kernel
theorem dX11_look_111 : decode prog_1_method_21_code 111 = .ok (.getfield 117, 3) := by decide +kernel
theorem dX11_look_114 : decode prog_1_method_21_code 114 = .ok (.ireturn, 1) := by decide +kernel
theorem dX11_look_115 : decode prog_1_method_21_code 115 = .ok (.aload_n 0, 1) := by decide +kernel
theorem dX11_look_116 : decode prog_1_method_21_code 116 = .ok (.getfield 16, 3) := by decide +kernel
theorem dX11_look_119 : decode prog_1_method_21_code 119 = .ok (.getfield 131, 3) := by decide +kernel
theorem dX11_look_122 : decode prog_1_method_21_code 122 = .ok (.getfield 117, 3) := by decide +kernel
theorem dX11_look_125 : decode prog_1_method_21_code 125 = .ok (.ireturn, 1) := by decide +kernel
theorem dX11_look_126 : decode prog_1_method_21_code 126 = .ok (.aload_n 0, 1) := by decide +kernel
theorem dX11_look_127 : decode prog_1_method_21_code 127 = .ok (.getfield 16, 3) := by decide +kernel
theorem dX11_look_130 : decode prog_1_method_21_code 130 = .ok (.iconst 3, 1) := by decide +kernel
theorem dX11_look_131 : decode prog_1_method_21_code 131 = .ok (.invokevirtual 215, 3) := by decide +kernel
theorem dX11_look_134 : decode prog_1_method_21_code 134 = .ok (.ireturn, 1) := by decide +kernel
theorem dX11_look_135 : decode prog_1_method_21_code 135 = .ok (.aload_n 0, 1) := by decide +kernel
theorem dX11_look_136 : decode prog_1_method_21_code 136 = .ok (.getfield 16, 3) := by decide +kernel
theorem dX11_look_139 : decode prog_1_method_21_code 139 = .ok (.getfield 212, 3) := by decide +kernel
theorem dX11_look_142 : decode prog_1_method_21_code 142 = .ok (.getfield 117, 3) := by decide +kernel
theorem dX11_look_145 : decode prog_1_method_21_code 145 = .ok (.ireturn, 1) := by decide +kernel
theorem dX11_look_146 : decode prog_1_method_21_code 146 = .ok (.aload_n 0, 1) := by decide +kernel
theorem dX11_look_147 : decode prog_1_method_21_code 147 = .ok (.getfield 16, 3) := by decide +kernel
theorem dX11_look_150 : decode prog_1_method_21_code 150 = .ok (.bipush 6, 2) := by decide +kernel
theorem dX11_look_152 : decode prog_1_method_21_code 152 = .ok (.invokevirtual 98, 3) := by decide +kernel
theorem dX11_look_155 : decode prog_1_method_21_code 155 = .ok (.ireturn, 1) := by decide +kernel
theorem dX11_look_156 : decode prog_1_method_21_code 156 = .ok (.aload_n 0, 1) := by decide +kernel
theorem dX11_look_157 : decode prog_1_method_21_code 157 = .ok (.getfield 16, 3) := by decide +kernel
theorem dX11_look_160 : decode prog_1_method_21_code 160 = .ok (.getfield 218, 3) := by decide +kernel
theorem dX11_look_163 : decode prog_1_method_21_code 163 = .ok (.getfield 117, 3) := by decide +kernel
theorem dX11_look_166 : decode prog_1_method_21_code 166 = .ok (.ireturn, 1) := by decide +kernel
theorem dX11_look_167 : decode prog_1_method_21_code 167 = .ok (.aload_n 0, 1) := by decide +kernel
theorem dX11_look_168 : decode prog_1_method_21_code 168 = .ok (.getfield 16, 3) := by decide +kernel
theorem dX11_look_171 : decode prog_1_method_21_code 171 = .ok (.getfield 221, 3) := by decide +kernel
theorem dX11_look_174 : decode prog_1_method_21_code 174 = .ok (.getfield 117, 3) := by decide +kernel
theorem dX11_look_177 : decode prog_1_method_21_code 177 = .ok (.ireturn, 1) := by decide +kernel
theorem dX11_look_178 : decode prog_1_method_21_code 178 = .ok (.aload_n 0, 1) := by decide +kernel
theorem dX11_look_179 : decode prog_1_method_21_code 179 = .ok (.getfield 16, 3) := by decide +kernel
theorem dX11_look_182 : decode prog_1_method_21_code 182 = .ok (.getfield 224, 3) := by decide +kernel
theorem dX11_look_185 : decode prog_1_method_21_code 185 = .ok (.getfield 117, 3) := by decide +kernel
theorem dX11_look_188 : decode prog_1_method_21_code 188 = .ok (.ireturn, 1) := by decide +kernel
theorem dX11_look_189 : decode prog_1_method_21_code 189 = .ok (.aload_n 0, 1) := by decide +kernel
theorem dX11_look_190 : decode prog_1_method_21_code 190 = .ok (.getfield 16, 3) := by decide +kernel
theorem dX11_look_193 : decode prog_1_method_21_code 193 = .ok (.getfield 226, 3) := by decide +kernel
theorem dX11_look_196 : decode prog_1_method_21_code 196 = .ok (.getfield 117, 3) := by decide +kernel
theorem dX11_look_199 : decode prog_1_method_21_code 199 = .ok (.ireturn, 1) := by decide +kernel
theorem dX11_look_200 : decode prog_1_method_21_code 200 = .ok (.aload_n 0, 1) := by decide +kernel
theorem dX11_look_201 : decode prog_1_method_21_code 201 = .ok (.getfield 16, 3) := by decide +kernel
theorem dX11_look_204 : decode prog_1_method_21_code 204 = .ok (.getfield 229, 3) := by decide +kernel
theorem dX11_look_207 : decode prog_1_method_21_code 207 = .ok (.getfield 117, 3) := by decide +kernel
theorem dX11_look_210 : decode prog_1_method_21_code 210 = .ok (.ireturn, 1) := by decide +kernel
theorem dX11_look_211 : decode prog_1_method_21_code 211 = .ok (.aload_n 0, 1) := by decide +kernel
theorem dX11_look_212 : decode prog_1_method_21_code 212 = .ok (.getfield 30, 3) := by decide +kernel
theorem dX11_look_215 : decode prog_1_method_21_code 215 = .ok (.getfield 232, 3) := by decide +kernel
theorem dX11_look_218 : decode prog_1_method_21_code 218 = .ok (.ireturn, 1) := by decide +kernel
theorem dX11_look_219 : decode prog_1_method_21_code 219 = .ok (.ldc 235, 2) := by decide +kernel
theorem dX11_look_221 : decode prog_1_method_21_code 221 = .ok (.ireturn, 1) := by decide +kernel
theorem dX11_undo_0 : decode prog_1_method_55_code 0 = .ok (.aload_n 0, 1) := by decide +kernel
theorem dX11_undo_1 : decode prog_1_method_55_code 1 = .ok (.getfield 30, 3) := by decide +kernel
theorem dX11_undo_4 : decode prog_1_method_55_code 4 = .ok (.aload_n 0, 1) := by decide +kernel
theorem dX11_undo_5 : decode prog_1_method_55_code 5 = .ok (.getfield 16, 3) := by decide +kernel
theorem dX11_undo_8 : decode prog_1_method_55_code 8 = .ok (.invokevirtual 344, 3) := by decide +kernel
theorem dX11_undo_11 : decode prog_1_method_55_code 11 = .ok (.ireturn, 1) := by decide +kernel
theorem dX11_within_0 : decode prog_1_method_57_code 0 = .ok (.iload_n 0, 1) := by decide +kernel
theorem dX11_within_1 : decode prog_1_method_57_code 1 = .ok (.iload_n 1, 1) := by decide +kernel
theorem dX11_within_2 : decode prog_1_method_57_code 2 = .ok (.if_icmp .lt 12, 3) := by decide +kernel
theorem dX11_within_5 : decode prog_1_method_57_code 5 = .ok (.iload_n 0, 1) := by decide +kernel
theorem dX11_within_6 : decode prog_1_method_57_code 6 = .ok (.iload_n 2, 1) := by decide +kernel
theorem dX11_within_7 : decode prog_1_method_57_code 7 = .ok (.if_icmp .gt 7, 3) := by decide +kernel
theorem dX11_within_10 : decode prog_1_method_57_code 10 = .ok (.iconst 1, 1) := by decide +kernel
theorem dX11_within_11 : decode prog_1_method_57_code 11 = .ok (.goto 4, 3) := by decide +kernel
theorem dX11_within_14 : decode prog_1_method_57_code 14 = .ok (.iconst 0, 1) := by decide +kernel
theorem dX11_within_15 : decode prog_1_method_57_code 15 = .ok (.ireturn, 1) := by decide +kernel
theorem dX11_isIn_0 : decode prog_1_method_58_code 0 = .ok (.iload_n 0, 1) := by decide +kernel
theorem dX11_isIn_1 : decode prog_1_method_58_code 1 = .ok (.ifCond .lt 22, 3) := by decide +kernel
theorem dX11_isIn_4 : decode prog_1_method_58_code 4 = .ok (.iload_n 0, 1) := by decide +kernel
theorem dX11_isIn_5 : decode prog_1_method_58_code 5 = .ok (.bipush 31, 2) := by decide +kernel
theorem dX11_isIn_7 : decode prog_1_method_58_code 7 = .ok (.if_icmp .ge 16, 3) := by decide +kernel
theorem dX11_isIn_10 : decode prog_1_method_58_code 10 = .ok (.iload_n 1, 1) := by decide +kernel
theorem dX11_isIn_11 : decode prog_1_method_58_code 11 = .ok (.iload_n 0, 1) := by decide +kernel
theorem dX11_isIn_12 : decode prog_1_method_58_code 12 = .ok (.ishr, 1) := by decide +kernel
theorem dX11_isIn_13 : decode prog_1_method_58_code 13 = .ok (.iconst 1, 1) := by decide +kernel
theorem dX11_isIn_14 : decode prog_1_method_58_code 14 = .ok (.iand, 1) := by decide +kernel
theorem dX11_isIn_15 : decode prog_1_method_58_code 15 = .ok (.iconst 1, 1) := by decide +kernel
theorem dX11_isIn_16 : decode prog_1_method_58_code 16 = .ok (.if_icmp .ne 7, 3) := by decide +kernel
theorem dX11_isIn_19 : decode prog_1_method_58_code 19 = .ok (.iconst 1, 1) := by decide +kernel
theorem dX11_isIn_20 : decode prog_1_method_58_code 20 = .ok (.goto 4, 3) := by decide +kernel
theorem dX11_isIn_23 : decode prog_1_method_58_code 23 = .ok (.iconst 0, 1) := by decide +kernel
theorem dX11_isIn_24 : decode prog_1_method_58_code 24 = .ok (.ireturn, 1) := by decide +kernel
theorem dX12_init_0 : decode prog_14_method_1_code 0 = .ok (.aload_n 0, 1) := by decide +kernel
theorem dX12_init_1 : decode prog_14_method_1_code 1 = .ok (.invokespecial 1, 3) := by decide +kernel
theorem dX12_init_4 : decode prog_14_method_1_code 4 = .ok (.aload_n 0, 1) := by decide +kernel
theorem dX12_init_5 : decode prog_14_method_1_code 5 = .ok (.iconst (-1), 1) := by decide +kernel
theorem dX12_init_6 : decode prog_14_method_1_code 6 = .ok (.putfield 7, 3) := by decide +kernel
theorem dX12_init_9 : decode prog_14_method_1_code 9 = .ok (.aload_n 0, 1) := by decide +kernel
theorem dX12_init_10 : decode prog_14_method_1_code 10 = .ok (.bipush 9, 2) := by decide +kernel
theorem dX12_init_12 : decode prog_14_method_1_code 12 = .ok (.putfield 13, 3) := by decide +kernel
theorem dX12_init_15 : decode prog_14_method_1_code 15 = .ok (.aload_n 0, 1) := by decide +kernel
theorem dX12_init_16 : decode prog_14_method_1_code 16 = .ok (.sipush 300, 3) := by decide +kernel
theorem dX12_init_19 : decode prog_14_method_1_code 19 = .ok (.putfield 16, 3) := by decide +kernel
theorem dX12_init_22 : decode prog_14_method_1_code 22 = .ok (.aload_n 0, 1) := by decide +kernel
theorem dX12_init_23 : decode prog_14_method_1_code 23 = .ok (.bipush 12, 2) := by decide +kernel
theorem dX12_init_25 : decode prog_14_method_1_code 25 = .ok (.anewarray 19, 3) := by decide +kernel
theorem dX12_init_28 : decode prog_14_method_1_code 28 = .ok (.putfield 21, 3) := by decide +kernel
theorem dX12_init_31 : decode prog_14_method_1_code 31 = .ok (.aload_n 0, 1) := by decide +kernel
theorem dX12_init_32 : decode prog_14_method_1_code 32 = .ok (.bipush 8, 2) := by decide +kernel
theorem dX12_init_34 : decode prog_14_method_1_code 34 = .ok (.anewarray 19, 3) := by decide +kernel
theorem dX12_init_37 : decode prog_14_method_1_code 37 = .ok (.putfield 25, 3) := by decide +kernel
theorem dX12_init_40 : decode prog_14_method_1_code 40 = .ok (.aload_n 0, 1) := by decide +kernel
theorem dX12_init_41 : decode prog_14_method_1_code 41 = .ok (.sipush 150, 3) := by decide +kernel
theorem dX12_init_44 : decode prog_14_method_1_code 44 = .ok (.anewarray 19, 3) := by decide +kernel
theorem dX12_init_47 : decode prog_14_method_1_code 47 = .ok (.putfield 28, 3) := by decide +kernel
theorem dX12_init_50 : decode prog_14_method_1_code 50 = .ok (.aload_n 0, 1) := by decide +kernel
theorem dX12_init_51 : decode prog_14_method_1_code 51 = .ok (.iconst 0, 1) := by decide +kernel
theorem dX12_init_52 : decode prog_14_method_1_code 52 = .ok (.anewarray 19, 3) := by decide +kernel
theorem dX12_init_55 : decode prog_14_method_1_code 55 = .ok (.putfield 31, 3) := by decide +kernel
theorem dX12_init_58 : decode prog_14_method_1_code 58 = .ok (.aload_n 0, 1) := by decide +kernel
theorem dX12_init_59 : decode prog_14_method_1_code 59 = .ok (.iconst 0, 1) := by decide +kernel
theorem dX12_init_60 : decode prog_14_method_1_code 60 = .ok (.anewarray 19, 3) := by decide +kernel
theorem dX12_init_63 : decode prog_14_method_1_code 63 = .ok (.putfield 34, 3) := by decide +kernel
theorem dX12_init_66 : decode prog_14_method_1_code 66 = .ok (.aload_n 0, 1) := by decide +kernel
theorem dX12_init_67 : decode prog_14_method_1_code 67 = .ok (.bipush 12, 2) := by decide +kernel
theorem dX12_init_69 : decode prog_14_method_1_code 69 = .ok (.newarray .int, 2) := by decide +kernel
theorem dX12_init_71 : decode prog_14_method_1_code 71 = .ok (.putfield 37, 3) := by decide +kernel
theorem dX12_init_74 : decode prog_14_method_1_code 74 = .ok (.return_, 1) := by decide +kernel
theorem dX12_copy_0 : decode prog_14_method_2_code 0 = .ok (.new 8, 3) := by decide +kernel
theorem dX12_copy_3 : decode prog_14_method_2_code 3 = .ok (.dup, 1) := by decide +kernel
theorem dX12_copy_4 : decode prog_14_method_2_code 4 = .ok (.invokespecial 40, 3) := by decide +kernel
theorem dX12_copy_7 : decode prog_14_method_2_code 7 = .ok (.astore_n 1, 1) := by decide +kernel
theorem dX12_copy_8 : decode prog_14_method_2_code 8 = .ok (.aload_n 1, 1) := by decide +kernel
theorem dX12_copy_9 : decode prog_14_method_2_code 9 = .ok (.aload_n 0, 1) := by decide +kernel
theorem dX12_copy_10 : decode prog_14_method_2_code 10 = .ok (.getfield 41, 3) := by decide +kernel
theorem dX12_copy_13 : decode prog_14_method_2_code 13 = .ok (.putfield 41, 3) := by decide +kernel
theorem dX12_copy_16 : decode prog_14_method_2_code 16 = .ok (.aload_n 1, 1) := by decide +kernel
theorem dX12_copy_17 : decode prog_14_method_2_code 17 = .ok (.aload_n 0, 1) := by decide +kernel
theorem dX12_copy_18 : decode prog_14_method_2_code 18 = .ok (.getfield 44, 3) := by decide +kernel
theorem dX12_copy_21 : decode prog_14_method_2_code 21 = .ok (.putfield 44, 3) := by decide +kernel
theorem dX12_copy_24 : decode prog_14_method_2_code 24 = .ok (.aload_n 1, 1) := by decide +kernel
theorem dX12_copy_25 : decode prog_14_method_2_code 25 = .ok (.aload_n 0, 1) := by decide +kernel
theorem dX12_copy_26 : decode prog_14_method_2_code 26 = .ok (.getfield 47, 3) := by decide +kernel
theorem dX12_copy_29 : decode prog_14_method_2_code 29 = .ok (.putfield 47, 3) := by decide +kernel
theorem dX12_copy_32 : decode prog_14_method_2_code 32 = .ok (.aload_n 1, 1) := by decide +kernel
theorem dX12_copy_33 : decode prog_14_method_2_code 33 = .ok (.aload_n 0, 1) := by decide +kernel
theorem dX12_copy_34 : decode prog_14_method_2_code 34 = .ok (.getfield 50, 3) := by decide +kernel
theorem dX12_copy_37 : decode prog_14_method_2_code 37 = .ok (.putfield 50, 3) := by decide +kernel
theorem dX12_copy_40 : decode prog_14_method_2_code 40 = .ok (.aload_n 1, 1) := by decide +kernel
theorem dX12_copy_41 : decode prog_14_method_2_code 41 = .ok (.aload_n 0, 1) := by decide +kernel
theorem dX12_copy_42 : decode prog_14_method_2_code 42 = .ok (.getfield 7, 3) := by decide +kernel
theorem dX12_copy_45 : decode prog_14_method_2_code 45 = .ok (.putfield 7, 3) := by decide +kernel
theorem dX12_copy_48 : decode prog_14_method_2_code 48 = .ok (.aload_n 1, 1) := by decide +kernel
theorem dX12_copy_49 : decode prog_14_method_2_code 49 = .ok (.aload_n 0, 1) := by decide +kernel
theorem dX12_copy_50 : decode prog_14_method_2_code 50 = .ok (.getfield 53, 3) := by decide +kernel
theorem dX12_copy_53 : decode prog_14_method_2_code 53 = .ok (.putfield 53, 3) := by decide +kernel
theorem dX12_copy_56 : decode prog_14_method_2_code 56 = .ok (.aload_n 1, 1) := by decide +kernel
theorem dX12_copy_57 : decode prog_14_method_2_code 57 = .ok (.aload_n 0, 1) := by decide +kernel
theorem dX12_copy_58 : decode prog_14_method_2_code 58 = .ok (.getfield 56, 3) := by decide +kernel
theorem dX12_copy_61 : decode prog_14_method_2_code 61 = .ok (.putfield 56, 3) := by decide +kernel
theorem dX12_copy_64 : decode prog_14_method_2_code 64 = .ok (.aload_n 1, 1) := by decide +kernel
theorem dX12_copy_65 : decode prog_14_method_2_code 65 = .ok (.aload_n 0, 1) := by decide +kernel
theorem dX12_copy_66 : decode prog_14_method_2_code 66 = .ok (.getfield 59, 3) := by decide +kernel
theorem dX12_copy_69 : decode prog_14_method_2_code 69 = .ok (.putfield 59, 3) := by decide +kernel
theorem dX12_copy_72 : decode prog_14_method_2_code 72 = .ok (.aload_n 1, 1) := by decide +kernel
theorem dX12_copy_73 : decode prog_14_method_2_code 73 = .ok (.aload_n 0, 1) := by decide +kernel
theorem dX12_copy_74 : decode prog_14_method_2_code 74 = .ok (.getfield 62, 3) := by decide +kernel
theorem dX12_copy_77 : decode prog_14_method_2_code 77 = .ok (.putfield 62, 3) := by decide +kernel
theorem dX12_copy_80 : decode prog_14_method_2_code 80 = .ok (.aload_n 1, 1) := by decide +kernel
theorem dX12_copy_81 : decode prog_14_method_2_code 81 = .ok (.aload_n 0, 1) := by decide +kernel
theorem dX12_copy_82 : decode prog_14_method_2_code 82 = .ok (.getfield 65, 3) := by decide +kernel
theorem dX12_copy_85 : decode prog_14_method_2_code 85 = .ok (.putfield 65, 3) := by decide +kernel
theorem dX12_copy_88 : decode prog_14_method_2_code 88 = .ok (.aload_n 1, 1) := by decide +kernel
theorem dX12_copy_89 : decode prog_14_method_2_code 89 = .ok (.aload_n 0, 1) := by decide +kernel
theorem dX12_copy_90 : decode prog_14_method_2_code 90 = .ok (.getfield 13, 3) := by decide +kernel
theorem dX12_copy_93 : decode prog_14_method_2_code 93 = .ok (.putfield 13, 3) := by decide +kernel
theorem dX12_copy_96 : decode prog_14_method_2_code 96 = .ok (.aload_n 1, 1) := by decide +kernel
theorem dX12_copy_97 : decode prog_14_method_2_code 97 = .ok (.aload_n 0, 1) := by decide +kernel
theorem dX12_copy_98 : decode prog_14_method_2_code 98 = .ok (.getfield 16, 3) := by decide +kernel
theorem dX12_copy_101 : decode prog_14_method_2_code 101 = .ok (.putfield 16, 3) := by decide +kernel
theorem dX12_copy_104 : decode prog_14_method_2_code 104 = .ok (.aload_n 1, 1) := by decide +kernel
theorem dX12_copy_105 : decode prog_14_method_2_code 105 = .ok (.aload_n 0, 1) := by decide +kernel
theorem dX12_copy_106 : decode prog_14_method_2_code 106 = .ok (.getfield 68, 3) := by decide +kernel
theorem dX12_copy_109 : decode prog_14_method_2_code 109 = .ok (.putfield 68, 3) := by decide +kernel
theorem dX12_copy_112 : decode prog_14_method_2_code 112 = .ok (.aload_n 1, 1) := by decide +kernel
theorem dX12_copy_113 : decode prog_14_method_2_code 113 = .ok (.aload_n 0, 1) := by decide +kernel
theorem dX12_copy_114 : decode prog_14_method_2_code 114 = .ok (.getfield 71, 3) := by decide +kernel
theorem dX12_copy_117 : decode prog_14_method_2_code 117 = .ok (.putfield 71, 3) := by decide +kernel
theorem dX12_copy_120 : decode prog_14_method_2_code 120 = .ok (.aload_n 1, 1) := by decide +kernel
theorem dX12_copy_121 : decode prog_14_method_2_code 121 = .ok (.aload_n 0, 1) := by decide +kernel
theorem dX12_copy_122 : decode prog_14_method_2_code 122 = .ok (.getfield 74, 3) := by decide +kernel
theorem dX12_copy_125 : decode prog_14_method_2_code 125 = .ok (.putfield 74, 3) := by decide +kernel
theorem dX12_copy_128 : decode prog_14_method_2_code 128 = .ok (.aload_n 1, 1) := by decide +kernel
theorem dX12_copy_129 : decode prog_14_method_2_code 129 = .ok (.aload_n 0, 1) := by decide +kernel
theorem dX12_copy_130 : decode prog_14_method_2_code 130 = .ok (.getfield 31, 3) := by decide +kernel
theorem dX12_copy_133 : decode prog_14_method_2_code 133 = .ok (.putfield 31, 3) := by decide +kernel
theorem dX12_copy_136 : decode prog_14_method_2_code 136 = .ok (.aload_n 1, 1) := by decide +kernel
theorem dX12_copy_137 : decode prog_14_method_2_code 137 = .ok (.aload_n 0, 1) := by decide +kernel
theorem dX12_copy_138 : decode prog_14_method_2_code 138 = .ok (.getfield 34, 3) := by decide +kernel
theorem dX12_copy_141 : decode prog_14_method_2_code 141 = .ok (.putfield 34, 3) := by decide +kernel
theorem dX12_copy_144 : decode prog_14_method_2_code 144 = .ok (.aload_n 1, 1) := by decide +kernel
theorem dX12_copy_145 : decode prog_14_method_2_code 145 = .ok (.aload_n 0, 1) := by decide +kernel
theorem dX12_copy_146 : decode prog_14_method_2_code 146 = .ok (.getfield 37, 3) := by decide +kernel
theorem dX12_copy_149 : decode prog_14_method_2_code 149 = .ok (.putfield 37, 3) := by decide +kernel
theorem dX12_copy_152 : decode prog_14_method_2_code 152 = .ok (.aload_n 1, 1) := by decide +kernel
theorem dX12_copy_153 : decode prog_14_method_2_code 153 = .ok (.aload_n 0, 1) := by decide +kernel
theorem dX12_copy_154 : decode prog_14_method_2_code 154 = .ok (.getfield 77, 3) := by decide +kernel
theorem dX12_copy_157 : decode prog_14_method_2_code 157 = .ok (.putfield 77, 3) := by decide +kernel
theorem dX12_copy_160 : decode prog_14_method_2_code 160 = .ok (.iconst 0, 1) := by decide +kernel
theorem dX12_copy_161 : decode prog_14_method_2_code 161 = .ok (.istore_n 2, 1) := by decide +kernel
theorem dX12_copy_162 : decode prog_14_method_2_code 162 = .ok (.iload_n 2, 1) := by decide +kernel
theorem dX12_copy_163 : decode prog_14_method_2_code 163 = .ok (.aload_n 0, 1) := by decide +kernel
theorem dX12_copy_164 : decode prog_14_method_2_code 164 = .ok (.getfield 59, 3) := by decide +kernel
theorem dX12_copy_167 : decode prog_14_method_2_code 167 = .ok (.if_icmp .ge 27, 3) := by decide +kernel
theorem dX12_copy_170 : decode prog_14_method_2_code 170 = .ok (.aload_n 1, 1) := by decide +kernel
theorem dX12_copy_171 : decode prog_14_method_2_code 171 = .ok (.getfield 21, 3) := by decide +kernel
theorem dX12_copy_174 : decode prog_14_method_2_code 174 = .ok (.iload_n 2, 1) := by decide +kernel
theorem dX12_copy_175 : decode prog_14_method_2_code 175 = .ok (.aload_n 0, 1) := by decide +kernel
theorem dX12_copy_176 : decode prog_14_method_2_code 176 = .ok (.getfield 21, 3) := by decide +kernel
theorem dX12_copy_179 : decode prog_14_method_2_code 179 = .ok (.iload_n 2, 1) := by decide +kernel
theorem dX12_copy_180 : decode prog_14_method_2_code 180 = .ok (.aaload, 1) := by decide +kernel
theorem dX12_copy_181 : decode prog_14_method_2_code 181 = .ok (.invokevirtual 80, 3) := by decide +kernel
theorem dX12_copy_184 : decode prog_14_method_2_code 184 = .ok (.checkcast 19, 3) := by decide +kernel
theorem dX12_copy_187 : decode prog_14_method_2_code 187 = .ok (.aastore, 1) := by decide +kernel
theorem dX12_copy_188 : decode prog_14_method_2_code 188 = .ok (.iinc 2 1, 3) := by decide +kernel
theorem dX12_copy_191 : decode prog_14_method_2_code 191 = .ok (.goto (-29), 3) := by decide +kernel
theorem dX12_copy_194 : decode prog_14_method_2_code 194 = .ok (.iconst 0, 1) := by decide +kernel
theorem dX12_copy_195 : decode prog_14_method_2_code 195 = .ok (.istore_n 2, 1) := by decide +kernel
theorem dX12_copy_196 : decode prog_14_method_2_code 196 = .ok (.iload_n 2, 1) := by decide +kernel
theorem dX12_copy_197 : decode prog_14_method_2_code 197 = .ok (.aload_n 0, 1) := by decide +kernel
theorem dX12_copy_198 : decode prog_14_method_2_code 198 = .ok (.getfield 62, 3) := by decide +kernel
theorem dX12_copy_201 : decode prog_14_method_2_code 201 = .ok (.if_icmp .ge 27, 3) := by decide +kernel
theorem dX12_copy_204 : decode prog_14_method_2_code 204 = .ok (.aload_n 1, 1) := by decide +kernel
theorem dX12_copy_205 : decode prog_14_method_2_code 205 = .ok (.getfield 25, 3) := by decide +kernel
theorem dX12_copy_208 : decode prog_14_method_2_code 208 = .ok (.iload_n 2, 1) := by decide +kernel
theorem dX12_copy_209 : decode prog_14_method_2_code 209 = .ok (.aload_n 0, 1) := by decide +kernel
theorem dX12_copy_210 : decode prog_14_method_2_code 210 = .ok (.getfield 25, 3) := by decide +kernel
theorem dX12_copy_213 : decode prog_14_method_2_code 213 = .ok (.iload_n 2, 1) := by decide +kernel
theorem dX12_copy_214 : decode prog_14_method_2_code 214 = .ok (.aaload, 1) := by decide +kernel
theorem dX12_copy_215 : decode prog_14_method_2_code 215 = .ok (.invokevirtual 80, 3) := by decide +kernel
theorem dX12_copy_218 : decode prog_14_method_2_code 218 = .ok (.checkcast 19, 3) := by decide +kernel
theorem dX12_copy_221 : decode prog_14_method_2_code 221 = .ok (.aastore, 1) := by decide +kernel
theorem dX12_copy_222 : decode prog_14_method_2_code 222 = .ok (.iinc 2 1, 3) := by decide +kernel
theorem dX12_copy_225 : decode prog_14_method_2_code 225 = .ok (.goto (-29), 3) := by decide +kernel
theorem dX12_copy_228 : decode prog_14_method_2_code 228 = .ok (.iconst 0, 1) := by decide +kernel
theorem dX12_copy_229 : decode prog_14_method_2_code 229 = .ok (.istore_n 2, 1) := by decide +kernel
theorem dX12_copy_230 : decode prog_14_method_2_code 230 = .ok (.iload_n 2, 1) := by decide +kernel
theorem dX12_copy_231 : decode prog_14_method_2_code 231 = .ok (.aload_n 0, 1) := by decide +kernel
theorem dX12_copy_232 : decode prog_14_method_2_code 232 = .ok (.getfield 65, 3) := by decide +kernel
theorem dX12_copy_235 : decode prog_14_method_2_code 235 = .ok (.if_icmp .ge 21, 3) := by decide +kernel
theorem dX12_copy_238 : decode prog_14_method_2_code 238 = .ok (.aload_n 1, 1) := by decide +kernel
theorem dX12_copy_239 : decode prog_14_method_2_code 239 = .ok (.getfield 28, 3) := by decide +kernel
theorem dX12_copy_242 : decode prog_14_method_2_code 242 = .ok (.iload_n 2, 1) := by decide +kernel
theorem dX12_copy_243 : decode prog_14_method_2_code 243 = .ok (.aload_n 0, 1) := by decide +kernel
theorem dX12_copy_244 : decode prog_14_method_2_code 244 = .ok (.getfield 28, 3) := by decide +kernel
theorem dX12_copy_247 : decode prog_14_method_2_code 247 = .ok (.iload_n 2, 1) := by decide +kernel
theorem dX12_copy_248 : decode prog_14_method_2_code 248 = .ok (.aaload, 1) := by decide +kernel
theorem dX12_copy_249 : decode prog_14_method_2_code 249 = .ok (.aastore, 1) := by decide +kernel
theorem dX12_copy_250 : decode prog_14_method_2_code 250 = .ok (.iinc 2 1, 3) := by decide +kernel
theorem dX12_copy_253 : decode prog_14_method_2_code 253 = .ok (.goto (-23), 3) := by decide +kernel
theorem dX12_copy_256 : decode prog_14_method_2_code 256 = .ok (.aload_n 1, 1) := by decide +kernel
theorem dX12_copy_257 : decode prog_14_method_2_code 257 = .ok (.areturn, 1) := by decide +kernel
theorem dX12_draw_0 : decode prog_14_method_3_code 0 = .ok (.aload_n 0, 1) := by decide +kernel
theorem dX12_draw_1 : decode prog_14_method_3_code 1 = .ok (.ldc 84, 2) := by decide +kernel
theorem dX12_draw_3 : decode prog_14_method_3_code 3 = .ok (.aload_n 0, 1) := by decide +kernel
theorem dX12_draw_4 : decode prog_14_method_3_code 4 = .ok (.getfield 41, 3) := by decide +kernel
theorem dX12_draw_7 : decode prog_14_method_3_code 7 = .ok (.imul, 1) := by decide +kernel
theorem dX12_draw_8 : decode prog_14_method_3_code 8 = .ok (.ldc 85, 2) := by decide +kernel
theorem dX12_draw_10 : decode prog_14_method_3_code 10 = .ok (.iadd, 1) := by decide +kernel
theorem dX12_draw_11 : decode prog_14_method_3_code 11 = .ok (.putfield 41, 3) := by decide +kernel
theorem dX12_draw_14 : decode prog_14_method_3_code 14 = .ok (.aload_n 0, 1) := by decide +kernel
theorem dX12_draw_15 : decode prog_14_method_3_code 15 = .ok (.getfield 41, 3) := by decide +kernel
theorem dX12_draw_18 : decode prog_14_method_3_code 18 = .ok (.bipush 8, 2) := by decide +kernel
theorem dX12_draw_20 : decode prog_14_method_3_code 20 = .ok (.iushr, 1) := by decide +kernel
theorem dX12_draw_21 : decode prog_14_method_3_code 21 = .ok (.iload_n 1, 1) := by decide +kernel
theorem dX12_draw_22 : decode prog_14_method_3_code 22 = .ok (.irem, 1) := by decide +kernel
theorem dX12_draw_23 : decode prog_14_method_3_code 23 = .ok (.ireturn, 1) := by decide +kernel
theorem dX12_loud_0 : decode prog_14_method_4_code 0 = .ok (.aload_n 0, 1) := by decide +kernel
theorem dX12_loud_1 : decode prog_14_method_4_code 1 = .ok (.getfield 77, 3) := by decide +kernel
theorem dX12_loud_4 : decode prog_14_method_4_code 4 = .ok (.ifnonnull 22, 3) := by decide +kernel
theorem dX12_loud_7 : decode prog_14_method_4_code 7 = .ok (.aload_n 0, 1) := by decide +kernel
theorem dX12_loud_8 : decode prog_14_method_4_code 8 = .ok (.getfield 25, 3) := by decide +kernel
theorem dX12_loud_11 : decode prog_14_method_4_code 11 = .ok (.iload_n 1, 1) := by decide +kernel
theorem dX12_loud_12 : decode prog_14_method_4_code 12 = .ok (.aaload, 1) := by decide +kernel
theorem dX12_loud_13 : decode prog_14_method_4_code 13 = .ok (.iconst 0, 1) := by decide +kernel
theorem dX12_loud_14 : decode prog_14_method_4_code 14 = .ok (.iaload, 1) := by decide +kernel
theorem dX12_loud_15 : decode prog_14_method_4_code 15 = .ok (.iconst 3, 1) := by decide +kernel
theorem dX12_loud_16 : decode prog_14_method_4_code 16 = .ok (.idiv, 1) := by decide +kernel
theorem dX12_loud_17 : decode prog_14_method_4_code 17 = .ok (.iconst 0, 1) := by decide +kernel
theorem dX12_loud_18 : decode prog_14_method_4_code 18 = .ok (.bipush 99, 2) := by decide +kernel
theorem dX12_loud_20 : decode prog_14_method_4_code 20 = .ok (.invokestatic 86, 3) := by decide +kernel
theorem dX12_loud_23 : decode prog_14_method_4_code 23 = .ok (.goto 37, 3) := by decide +kernel
theorem dX12_loud_26 : decode prog_14_method_4_code 26 = .ok (.aload_n 0, 1) := by decide +kernel
theorem dX12_loud_27 : decode prog_14_method_4_code 27 = .ok (.getfield 25, 3) := by decide +kernel
theorem dX12_loud_30 : decode prog_14_method_4_code 30 = .ok (.iload_n 1, 1) := by decide +kernel
theorem dX12_loud_31 : decode prog_14_method_4_code 31 = .ok (.aaload, 1) := by decide +kernel
theorem dX12_loud_32 : decode prog_14_method_4_code 32 = .ok (.iconst 0, 1) := by decide +kernel
theorem dX12_loud_33 : decode prog_14_method_4_code 33 = .ok (.iaload, 1) := by decide +kernel
theorem dX12_loud_34 : decode prog_14_method_4_code 34 = .ok (.aload_n 0, 1) := by decide +kernel
theorem dX12_loud_35 : decode prog_14_method_4_code 35 = .ok (.getfield 77, 3) := by decide +kernel
theorem dX12_loud_38 : decode prog_14_method_4_code 38 = .ok (.iconst 0, 1) := by decide +kernel
theorem dX12_loud_39 : decode prog_14_method_4_code 39 = .ok (.iaload, 1) := by decide +kernel
theorem dX12_loud_40 : decode prog_14_method_4_code 40 = .ok (.imul, 1) := by decide +kernel
theorem dX12_loud_41 : decode prog_14_method_4_code 41 = .ok (.aload_n 0, 1) := by decide +kernel
theorem dX12_loud_42 : decode prog_14_method_4_code 42 = .ok (.getfield 53, 3) := by decide +kernel
theorem dX12_loud_45 : decode prog_14_method_4_code 45 = .ok (.isub, 1) := by decide +kernel
theorem dX12_loud_46 : decode prog_14_method_4_code 46 = .ok (.aload_n 0, 1) := by decide +kernel
theorem dX12_loud_47 : decode prog_14_method_4_code 47 = .ok (.getfield 44, 3) := by decide +kernel
theorem dX12_loud_50 : decode prog_14_method_4_code 50 = .ok (.bipush 60, 2) := by decide +kernel
theorem dX12_loud_52 : decode prog_14_method_4_code 52 = .ok (.idiv, 1) := by decide +kernel
theorem dX12_loud_53 : decode prog_14_method_4_code 53 = .ok (.isub, 1) := by decide +kernel
theorem dX12_loud_54 : decode prog_14_method_4_code 54 = .ok (.iconst 0, 1) := by decide +kernel
theorem dX12_loud_55 : decode prog_14_method_4_code 55 = .ok (.bipush 99, 2) := by decide +kernel
theorem dX12_loud_57 : decode prog_14_method_4_code 57 = .ok (.invokestatic 86, 3) := by decide +kernel
theorem dX12_loud_60 : decode prog_14_method_4_code 60 = .ok (.ireturn, 1) := by decide +kernel
theorem dX12_wears_0 : decode prog_14_method_5_code 0 = .ok (.aload_n 0, 1) := by decide +kernel
theorem dX12_wears_1 : decode prog_14_method_5_code 1 = .ok (.getfield 77, 3) := by decide +kernel
theorem dX12_wears_4 : decode prog_14_method_5_code 4 = .ok (.ifnonnull 7, 3) := by decide +kernel
theorem dX12_wears_7 : decode prog_14_method_5_code 7 = .ok (.iconst 2, 1) := by decide +kernel
theorem dX12_wears_8 : decode prog_14_method_5_code 8 = .ok (.goto 58, 3) := by decide +kernel
theorem dX12_wears_11 : decode prog_14_method_5_code 11 = .ok (.aload_n 0, 1) := by decide +kernel
theorem dX12_wears_12 : decode prog_14_method_5_code 12 = .ok (.getfield 53, 3) := by decide +kernel
theorem dX12_wears_15 : decode prog_14_method_5_code 15 = .ok (.aload_n 0, 1) := by decide +kernel
theorem dX12_wears_16 : decode prog_14_method_5_code 16 = .ok (.getfield 77, 3) := by decide +kernel
theorem dX12_wears_19 : decode prog_14_method_5_code 19 = .ok (.iconst 1, 1) := by decide +kernel
theorem dX12_wears_20 : decode prog_14_method_5_code 20 = .ok (.iaload, 1) := by decide +kernel
theorem dX12_wears_21 : decode prog_14_method_5_code 21 = .ok (.if_icmp .le 24, 3) := by decide +kernel
theorem dX12_wears_24 : decode prog_14_method_5_code 24 = .ok (.aload_n 0, 1) := by decide +kernel
theorem dX12_wears_25 : decode prog_14_method_5_code 25 = .ok (.getfield 25, 3) := by decide +kernel
theorem dX12_wears_28 : decode prog_14_method_5_code 28 = .ok (.iload_n 1, 1) := by decide +kernel
theorem dX12_wears_29 : decode prog_14_method_5_code 29 = .ok (.aaload, 1) := by decide +kernel
theorem dX12_wears_30 : decode prog_14_method_5_code 30 = .ok (.iconst 3, 1) := by decide +kernel
theorem dX12_wears_31 : decode prog_14_method_5_code 31 = .ok (.iaload, 1) := by decide +kernel
theorem dX12_wears_32 : decode prog_14_method_5_code 32 = .ok (.iconst 4, 1) := by decide +kernel
theorem dX12_wears_33 : decode prog_14_method_5_code 33 = .ok (.idiv, 1) := by decide +kernel
theorem dX12_wears_34 : decode prog_14_method_5_code 34 = .ok (.iconst 1, 1) := by decide +kernel
theorem dX12_wears_35 : decode prog_14_method_5_code 35 = .ok (.iadd, 1) := by decide +kernel
theorem dX12_wears_36 : decode prog_14_method_5_code 36 = .ok (.iconst 0, 1) := by decide +kernel
theorem dX12_wears_37 : decode prog_14_method_5_code 37 = .ok (.bipush 99, 2) := by decide +kernel
theorem dX12_wears_39 : decode prog_14_method_5_code 39 = .ok (.invokestatic 86, 3) := by decide +kernel
theorem dX12_wears_42 : decode prog_14_method_5_code 42 = .ok (.goto 24, 3) := by decide +kernel
theorem dX12_wears_45 : decode prog_14_method_5_code 45 = .ok (.aload_n 0, 1) := by decide +kernel
theorem dX12_wears_46 : decode prog_14_method_5_code 46 = .ok (.getfield 77, 3) := by decide +kernel
theorem dX12_wears_49 : decode prog_14_method_5_code 49 = .ok (.iconst 2, 1) := by decide +kernel
theorem dX12_wears_50 : decode prog_14_method_5_code 50 = .ok (.iaload, 1) := by decide +kernel
theorem dX12_wears_51 : decode prog_14_method_5_code 51 = .ok (.aload_n 0, 1) := by decide +kernel
theorem dX12_wears_52 : decode prog_14_method_5_code 52 = .ok (.getfield 25, 3) := by decide +kernel
theorem dX12_wears_55 : decode prog_14_method_5_code 55 = .ok (.iload_n 1, 1) := by decide +kernel
theorem dX12_wears_56 : decode prog_14_method_5_code 56 = .ok (.aaload, 1) := by decide +kernel
theorem dX12_wears_57 : decode prog_14_method_5_code 57 = .ok (.iconst 0, 1) := by decide +kernel
theorem dX12_wears_58 : decode prog_14_method_5_code 58 = .ok (.iaload, 1) := by decide +kernel
theorem dX12_wears_59 : decode prog_14_method_5_code 59 = .ok (.iadd, 1) := by decide +kernel
theorem dX12_wears_60 : decode prog_14_method_5_code 60 = .ok (.iconst 0, 1) := by decide +kernel
theorem dX12_wears_61 : decode prog_14_method_5_code 61 = .ok (.bipush 99, 2) := by decide +kernel
theorem dX12_wears_63 : decode prog_14_method_5_code 63 = .ok (.invokestatic 86, 3) := by decide +kernel
theorem dX12_wears_66 : decode prog_14_method_5_code 66 = .ok (.ireturn, 1) := by decide +kernel
theorem dX12_clap_0 : decode prog_14_method_6_code 0 = .ok (.aload_n 0, 1) := by decide +kernel
theorem dX12_clap_1 : decode prog_14_method_6_code 1 = .ok (.getfield 21, 3) := by decide +kernel
theorem dX12_clap_4 : decode prog_14_method_6_code 4 = .ok (.iload_n 1, 1) := by decide +kernel
theorem dX12_clap_5 : decode prog_14_method_6_code 5 = .ok (.aaload, 1) := by decide +kernel
theorem dX12_clap_6 : decode prog_14_method_6_code 6 = .ok (.astore 4, 2) := by decide +kernel
theorem dX12_clap_8 : decode prog_14_method_6_code 8 = .ok (.aload_n 0, 1) := by decide +kernel
theorem dX12_clap_9 : decode prog_14_method_6_code 9 = .ok (.getfield 77, 3) := by decide +kernel
theorem dX12_clap_12 : decode prog_14_method_6_code 12 = .ok (.astore 5, 2) := by decide +kernel
theorem dX12_clap_14 : decode prog_14_method_6_code 14 = .ok (.aload 5, 2) := by decide +kernel
theorem dX12_clap_16 : decode prog_14_method_6_code 16 = .ok (.ifnonnull 18, 3) := by decide +kernel
theorem dX12_clap_19 : decode prog_14_method_6_code 19 = .ok (.bipush 100, 2) := by decide +kernel
theorem dX12_clap_21 : decode prog_14_method_6_code 21 = .ok (.aload 4, 2) := by decide +kernel
theorem dX12_clap_23 : decode prog_14_method_6_code 23 = .ok (.iconst 1, 1) := by decide +kernel
theorem dX12_clap_24 : decode prog_14_method_6_code 24 = .ok (.iaload, 1) := by decide +kernel
theorem dX12_clap_25 : decode prog_14_method_6_code 25 = .ok (.imul, 1) := by decide +kernel
theorem dX12_clap_26 : decode prog_14_method_6_code 26 = .ok (.iconst 0, 1) := by decide +kernel
theorem dX12_clap_27 : decode prog_14_method_6_code 27 = .ok (.sipush 1000, 3) := by decide +kernel
theorem dX12_clap_30 : decode prog_14_method_6_code 30 = .ok (.invokestatic 86, 3) := by decide +kernel
theorem dX12_clap_33 : decode prog_14_method_6_code 33 = .ok (.ireturn, 1) := by decide +kernel
theorem dX12_clap_34 : decode prog_14_method_6_code 34 = .ok (.aload 4, 2) := by decide +kernel
theorem dX12_clap_36 : decode prog_14_method_6_code 36 = .ok (.iconst 1, 1) := by decide +kernel
theorem dX12_clap_37 : decode prog_14_method_6_code 37 = .ok (.iaload, 1) := by decide +kernel
theorem dX12_clap_38 : decode prog_14_method_6_code 38 = .ok (.aload 5, 2) := by decide +kernel
theorem dX12_clap_40 : decode prog_14_method_6_code 40 = .ok (.iconst 3, 1) := by decide +kernel
theorem dX12_clap_41 : decode prog_14_method_6_code 41 = .ok (.iaload, 1) := by decide +kernel
theorem dX12_clap_42 : decode prog_14_method_6_code 42 = .ok (.if_icmp .le 53, 3) := by decide +kernel
theorem dX12_clap_45 : decode prog_14_method_6_code 45 = .ok (.aload 4, 2) := by decide +kernel
theorem dX12_clap_47 : decode prog_14_method_6_code 47 = .ok (.iconst 2, 1) := by decide +kernel
theorem dX12_clap_48 : decode prog_14_method_6_code 48 = .ok (.iaload, 1) := by decide +kernel
theorem dX12_clap_49 : decode prog_14_method_6_code 49 = .ok (.aload 5, 2) := by decide +kernel
theorem dX12_clap_51 : decode prog_14_method_6_code 51 = .ok (.iconst 4, 1) := by decide +kernel
theorem dX12_clap_52 : decode prog_14_method_6_code 52 = .ok (.iaload, 1) := by decide +kernel
theorem dX12_clap_53 : decode prog_14_method_6_code 53 = .ok (.if_icmp .gt 42, 3) := by decide +kernel
theorem dX12_clap_56 : decode prog_14_method_6_code 56 = .ok (.aload_n 0, 1) := by decide +kernel
theorem dX12_clap_57 : decode prog_14_method_6_code 57 = .ok (.getfield 53, 3) := by decide +kernel
theorem dX12_clap_60 : decode prog_14_method_6_code 60 = .ok (.iconst 3, 1) := by decide +kernel
theorem dX12_clap_61 : decode prog_14_method_6_code 61 = .ok (.if_icmp .gt 34, 3) := by decide +kernel
theorem dX12_clap_64 : decode prog_14_method_6_code 64 = .ok (.aload 5, 2) := by decide +kernel
theorem dX12_clap_66 : decode prog_14_method_6_code 66 = .ok (.iconst 5, 1) := by decide +kernel
theorem dX12_clap_67 : decode prog_14_method_6_code 67 = .ok (.iaload, 1) := by decide +kernel
theorem dX12_clap_68 : decode prog_14_method_6_code 68 = .ok (.iload_n 3, 1) := by decide +kernel
theorem dX12_clap_69 : decode prog_14_method_6_code 69 = .ok (.sipush 150, 3) := by decide +kernel
theorem dX12_clap_72 : decode prog_14_method_6_code 72 = .ok (.imul, 1) := by decide +kernel
theorem dX12_clap_73 : decode prog_14_method_6_code 73 = .ok (.iadd, 1) := by decide +kernel
theorem dX12_clap_74 : decode prog_14_method_6_code 74 = .ok (.aload_n 0, 1) := by decide +kernel
theorem dX12_clap_75 : decode prog_14_method_6_code 75 = .ok (.getfield 25, 3) := by decide +kernel
theorem dX12_clap_78 : decode prog_14_method_6_code 78 = .ok (.iload_n 2, 1) := by decide +kernel
theorem dX12_clap_79 : decode prog_14_method_6_code 79 = .ok (.aaload, 1) := by decide +kernel
theorem dX12_clap_80 : decode prog_14_method_6_code 80 = .ok (.iconst 3, 1) := by decide +kernel
theorem dX12_clap_81 : decode prog_14_method_6_code 81 = .ok (.iaload, 1) := by decide +kernel
theorem dX12_clap_82 : decode prog_14_method_6_code 82 = .ok (.iconst 5, 1) := by decide +kernel
theorem dX12_clap_83 : decode prog_14_method_6_code 83 = .ok (.imul, 1) := by decide +kernel
theorem dX12_clap_84 : decode prog_14_method_6_code 84 = .ok (.isub, 1) := by decide +kernel
theorem dX12_clap_85 : decode prog_14_method_6_code 85 = .ok (.iconst 0, 1) := by decide +kernel
theorem dX12_clap_86 : decode prog_14_method_6_code 86 = .ok (.sipush 1000, 3) := by decide +kernel
theorem dX12_clap_89 : decode prog_14_method_6_code 89 = .ok (.invokestatic 86, 3) := by decide +kernel
theorem dX12_clap_92 : decode prog_14_method_6_code 92 = .ok (.goto 71, 3) := by decide +kernel
theorem dX12_clap_95 : decode prog_14_method_6_code 95 = .ok (.iload_n 3, 1) := by decide +kernel
theorem dX12_clap_96 : decode prog_14_method_6_code 96 = .ok (.iconst 1, 1) := by decide +kernel
theorem dX12_clap_97 : decode prog_14_method_6_code 97 = .ok (.if_icmp .gt 12, 3) := by decide +kernel
theorem dX12_clap_100 : decode prog_14_method_6_code 100 = .ok (.aload 4, 2) := by decide +kernel
theorem dX12_clap_102 : decode prog_14_method_6_code 102 = .ok (.iconst 5, 1) := by decide +kernel
theorem dX12_clap_103 : decode prog_14_method_6_code 103 = .ok (.iaload, 1) := by decide +kernel
theorem dX12_clap_104 : decode prog_14_method_6_code 104 = .ok (.bipush 20, 2) := by decide +kernel
theorem dX12_clap_106 : decode prog_14_method_6_code 106 = .ok (.if_icmp .le 27, 3) := by decide +kernel
theorem dX12_clap_109 : decode prog_14_method_6_code 109 = .ok (.aload 5, 2) := by decide +kernel
theorem dX12_clap_111 : decode prog_14_method_6_code 111 = .ok (.bipush 6, 2) := by decide +kernel
theorem dX12_clap_113 : decode prog_14_method_6_code 113 = .ok (.iaload, 1) := by decide +kernel
theorem dX12_clap_114 : decode prog_14_method_6_code 114 = .ok (.aload 4, 2) := by decide +kernel
theorem dX12_clap_116 : decode prog_14_method_6_code 116 = .ok (.iconst 5, 1) := by decide +kernel
theorem dX12_clap_117 : decode prog_14_method_6_code 117 = .ok (.iaload, 1) := by decide +kernel
theorem dX12_clap_118 : decode prog_14_method_6_code 118 = .ok (.iconst 4, 1) := by decide +kernel
theorem dX12_clap_119 : decode prog_14_method_6_code 119 = .ok (.imul, 1) := by decide +kernel
theorem dX12_clap_120 : decode prog_14_method_6_code 120 = .ok (.iadd, 1) := by decide +kernel
theorem dX12_clap_121 : decode prog_14_method_6_code 121 = .ok (.iload_n 1, 1) := by decide +kernel
theorem dX12_clap_122 : decode prog_14_method_6_code 122 = .ok (.isub, 1) := by decide +kernel
theorem dX12_clap_123 : decode prog_14_method_6_code 123 = .ok (.iconst 0, 1) := by decide +kernel
theorem dX12_clap_124 : decode prog_14_method_6_code 124 = .ok (.sipush 1000, 3) := by decide +kernel
theorem dX12_clap_127 : decode prog_14_method_6_code 127 = .ok (.invokestatic 86, 3) := by decide +kernel
theorem dX12_clap_130 : decode prog_14_method_6_code 130 = .ok (.goto 33, 3) := by decide +kernel
theorem dX12_clap_133 : decode prog_14_method_6_code 133 = .ok (.aload 4, 2) := by decide +kernel
theorem dX12_clap_135 : decode prog_14_method_6_code 135 = .ok (.iconst 1, 1) := by decide +kernel
theorem dX12_clap_136 : decode prog_14_method_6_code 136 = .ok (.iaload, 1) := by decide +kernel
theorem dX12_clap_137 : decode prog_14_method_6_code 137 = .ok (.bipush 60, 2) := by decide +kernel
theorem dX12_clap_139 : decode prog_14_method_6_code 139 = .ok (.imul, 1) := by decide +kernel
theorem dX12_clap_140 : decode prog_14_method_6_code 140 = .ok (.aload_n 0, 1) := by decide +kernel
theorem dX12_clap_141 : decode prog_14_method_6_code 141 = .ok (.getfield 44, 3) := by decide +kernel
theorem dX12_clap_144 : decode prog_14_method_6_code 144 = .ok (.bipush 60, 2) := by decide +kernel
theorem dX12_clap_146 : decode prog_14_method_6_code 146 = .ok (.idiv, 1) := by decide +kernel
theorem dX12_clap_147 : decode prog_14_method_6_code 147 = .ok (.bipush 20, 2) := by decide +kernel
theorem dX12_clap_149 : decode prog_14_method_6_code 149 = .ok (.imul, 1) := by decide +kernel
theorem dX12_clap_150 : decode prog_14_method_6_code 150 = .ok (.isub, 1) := by decide +kernel
theorem dX12_clap_151 : decode prog_14_method_6_code 151 = .ok (.aload 4, 2) := by decide +kernel
theorem dX12_clap_153 : decode prog_14_method_6_code 153 = .ok (.iconst 0, 1) := by decide +kernel
theorem dX12_clap_154 : decode prog_14_method_6_code 154 = .ok (.iaload, 1) := by decide +kernel
theorem dX12_clap_155 : decode prog_14_method_6_code 155 = .ok (.iadd, 1) := by decide +kernel
theorem dX12_clap_156 : decode prog_14_method_6_code 156 = .ok (.iconst 0, 1) := by decide +kernel
theorem dX12_clap_157 : decode prog_14_method_6_code 157 = .ok (.sipush 1000, 3) := by decide +kernel
theorem dX12_clap_160 : decode prog_14_method_6_code 160 = .ok (.invokestatic 86, 3) := by decide +kernel
theorem dX12_clap_163 : decode prog_14_method_6_code 163 = .ok (.ireturn, 1) := by decide +kernel
theorem dX12_asks_0 : decode prog_14_method_7_code 0 = .ok (.iconst 5, 1) := by decide +kernel
theorem dX12_asks_1 : decode prog_14_method_7_code 1 = .ok (.istore_n 1, 1) := by decide +kernel
theorem dX12_asks_2 : decode prog_14_method_7_code 2 = .ok (.iconst (-1), 1) := by decide +kernel
theorem dX12_asks_3 : decode prog_14_method_7_code 3 = .ok (.istore_n 2, 1) := by decide +kernel
theorem dX12_asks_4 : decode prog_14_method_7_code 4 = .ok (.aload_n 0, 1) := by decide +kernel
theorem dX12_asks_5 : decode prog_14_method_7_code 5 = .ok (.getfield 31, 3) := by decide +kernel
theorem dX12_asks_8 : decode prog_14_method_7_code 8 = .ok (.astore_n 3, 1) := by decide +kernel
theorem dX12_asks_9 : decode prog_14_method_7_code 9 = .ok (.aload_n 3, 1) := by decide +kernel
theorem dX12_asks_10 : decode prog_14_method_7_code 10 = .ok (.arraylength, 1) := by decide +kernel
theorem dX12_asks_11 : decode prog_14_method_7_code 11 = .ok (.istore 4, 2) := by decide +kernel
theorem dX12_asks_13 : decode prog_14_method_7_code 13 = .ok (.iconst 0, 1) := by decide +kernel
theorem dX12_asks_14 : decode prog_14_method_7_code 14 = .ok (.istore 5, 2) := by decide +kernel
theorem dX12_asks_16 : decode prog_14_method_7_code 16 = .ok (.iload 5, 2) := by decide +kernel
theorem dX12_asks_18 : decode prog_14_method_7_code 18 = .ok (.iload 4, 2) := by decide +kernel
theorem dX12_asks_20 : decode prog_14_method_7_code 20 = .ok (.if_icmp .ge 44, 3) := by decide +kernel
theorem dX12_asks_23 : decode prog_14_method_7_code 23 = .ok (.aload_n 3, 1) := by decide +kernel
theorem dX12_asks_24 : decode prog_14_method_7_code 24 = .ok (.iload 5, 2) := by decide +kernel
theorem dX12_asks_26 : decode prog_14_method_7_code 26 = .ok (.aaload, 1) := by decide +kernel
theorem dX12_asks_27 : decode prog_14_method_7_code 27 = .ok (.astore 6, 2) := by decide +kernel
theorem dX12_asks_29 : decode prog_14_method_7_code 29 = .ok (.aload 6, 2) := by decide +kernel
theorem dX12_asks_31 : decode prog_14_method_7_code 31 = .ok (.iconst 1, 1) := by decide +kernel
theorem dX12_asks_32 : decode prog_14_method_7_code 32 = .ok (.iaload, 1) := by decide +kernel
theorem dX12_asks_33 : decode prog_14_method_7_code 33 = .ok (.aload_n 0, 1) := by decide +kernel
theorem dX12_asks_34 : decode prog_14_method_7_code 34 = .ok (.getfield 47, 3) := by decide +kernel
theorem dX12_asks_37 : decode prog_14_method_7_code 37 = .ok (.if_icmp .gt 21, 3) := by decide +kernel
theorem dX12_asks_40 : decode prog_14_method_7_code 40 = .ok (.aload 6, 2) := by decide +kernel
theorem dX12_asks_42 : decode prog_14_method_7_code 42 = .ok (.iconst 1, 1) := by decide +kernel
theorem dX12_asks_43 : decode prog_14_method_7_code 43 = .ok (.iaload, 1) := by decide +kernel
theorem dX12_asks_44 : decode prog_14_method_7_code 44 = .ok (.iload_n 2, 1) := by decide +kernel
theorem dX12_asks_45 : decode prog_14_method_7_code 45 = .ok (.if_icmp .lt 13, 3) := by decide +kernel
theorem dX12_asks_48 : decode prog_14_method_7_code 48 = .ok (.aload 6, 2) := by decide +kernel
theorem dX12_asks_50 : decode prog_14_method_7_code 50 = .ok (.iconst 1, 1) := by decide +kernel
theorem dX12_asks_51 : decode prog_14_method_7_code 51 = .ok (.iaload, 1) := by decide +kernel
theorem dX12_asks_52 : decode prog_14_method_7_code 52 = .ok (.istore_n 2, 1) := by decide +kernel
theorem dX12_asks_53 : decode prog_14_method_7_code 53 = .ok (.aload 6, 2) := by decide +kernel
theorem dX12_asks_55 : decode prog_14_method_7_code 55 = .ok (.iconst 0, 1) := by decide +kernel
theorem dX12_asks_56 : decode prog_14_method_7_code 56 = .ok (.iaload, 1) := by decide +kernel
theorem dX12_asks_57 : decode prog_14_method_7_code 57 = .ok (.istore_n 1, 1) := by decide +kernel
theorem dX12_asks_58 : decode prog_14_method_7_code 58 = .ok (.iinc 5 1, 3) := by decide +kernel
theorem dX12_asks_61 : decode prog_14_method_7_code 61 = .ok (.goto (-45), 3) := by decide +kernel
theorem dX12_asks_64 : decode prog_14_method_7_code 64 = .ok (.iload_n 1, 1) := by decide +kernel
theorem dX12_asks_65 : decode prog_14_method_7_code 65 = .ok (.ireturn, 1) := by decide +kernel
theorem dX12_there_0 : decode prog_14_method_8_code 0 = .ok (.iconst 0, 1) := by decide +kernel
theorem dX12_there_1 : decode prog_14_method_8_code 1 = .ok (.istore_n 1, 1) := by decide +kernel
theorem dX12_there_2 : decode prog_14_method_8_code 2 = .ok (.iconst 0, 1) := by decide +kernel
theorem dX12_there_3 : decode prog_14_method_8_code 3 = .ok (.istore_n 2, 1) := by decide +kernel
theorem dX12_there_4 : decode prog_14_method_8_code 4 = .ok (.iload_n 2, 1) := by decide +kernel
theorem dX12_there_5 : decode prog_14_method_8_code 5 = .ok (.aload_n 0, 1) := by decide +kernel
theorem dX12_there_6 : decode prog_14_method_8_code 6 = .ok (.getfield 59, 3) := by decide +kernel
theorem dX12_there_9 : decode prog_14_method_8_code 9 = .ok (.if_icmp .ge 27, 3) := by decide +kernel
theorem dX12_there_12 : decode prog_14_method_8_code 12 = .ok (.aload_n 0, 1) := by decide +kernel
theorem dX12_there_13 : decode prog_14_method_8_code 13 = .ok (.getfield 21, 3) := by decide +kernel
theorem dX12_there_16 : decode prog_14_method_8_code 16 = .ok (.iload_n 2, 1) := by decide +kernel
theorem dX12_there_17 : decode prog_14_method_8_code 17 = .ok (.aaload, 1) := by decide +kernel
theorem dX12_there_18 : decode prog_14_method_8_code 18 = .ok (.iconst 3, 1) := by decide +kernel
theorem dX12_there_19 : decode prog_14_method_8_code 19 = .ok (.iaload, 1) := by decide +kernel
theorem dX12_there_20 : decode prog_14_method_8_code 20 = .ok (.iconst 1, 1) := by decide +kernel
theorem dX12_there_21 : decode prog_14_method_8_code 21 = .ok (.if_icmp .ne 9, 3) := by decide +kernel
theorem dX12_there_24 : decode prog_14_method_8_code 24 = .ok (.iload_n 1, 1) := by decide +kernel
theorem dX12_there_25 : decode prog_14_method_8_code 25 = .ok (.iconst 1, 1) := by decide +kernel
theorem dX12_there_26 : decode prog_14_method_8_code 26 = .ok (.iload_n 2, 1) := by decide +kernel
theorem dX12_there_27 : decode prog_14_method_8_code 27 = .ok (.ishl, 1) := by decide +kernel
theorem dX12_there_28 : decode prog_14_method_8_code 28 = .ok (.ior, 1) := by decide +kernel
theorem dX12_there_29 : decode prog_14_method_8_code 29 = .ok (.istore_n 1, 1) := by decide +kernel
theorem dX12_there_30 : decode prog_14_method_8_code 30 = .ok (.iinc 2 1, 3) := by decide +kernel
theorem dX12_there_33 : decode prog_14_method_8_code 33 = .ok (.goto (-29), 3) := by decide +kernel
theorem dX12_there_36 : decode prog_14_method_8_code 36 = .ok (.iload_n 1, 1) := by decide +kernel
theorem dX12_there_37 : decode prog_14_method_8_code 37 = .ok (.ireturn, 1) := by decide +kernel
theorem dX12_notes_0 : decode prog_14_method_9_code 0 = .ok (.iload 4, 2) := by decide +kernel
theorem dX12_notes_2 : decode prog_14_method_9_code 2 = .ok (.ifCond .eq 51, 3) := by decide +kernel
theorem dX12_notes_5 : decode prog_14_method_9_code 5 = .ok (.aload_n 0, 1) := by decide +kernel
theorem dX12_notes_6 : decode prog_14_method_9_code 6 = .ok (.getfield 65, 3) := by decide +kernel
theorem dX12_notes_9 : decode prog_14_method_9_code 9 = .ok (.sipush 150, 3) := by decide +kernel
theorem dX12_notes_12 : decode prog_14_method_9_code 12 = .ok (.if_icmp .ge 41, 3) := by decide +kernel
theorem dX12_notes_15 : decode prog_14_method_9_code 15 = .ok (.aload_n 0, 1) := by decide +kernel
theorem dX12_notes_16 : decode prog_14_method_9_code 16 = .ok (.getfield 28, 3) := by decide +kernel
theorem dX12_notes_19 : decode prog_14_method_9_code 19 = .ok (.aload_n 0, 1) := by decide +kernel
theorem dX12_notes_20 : decode prog_14_method_9_code 20 = .ok (.dup, 1) := by decide +kernel
theorem dX12_notes_21 : decode prog_14_method_9_code 21 = .ok (.getfield 65, 3) := by decide +kernel
theorem dX12_notes_24 : decode prog_14_method_9_code 24 = .ok (.dup_x1, 1) := by decide +kernel
theorem dX12_notes_25 : decode prog_14_method_9_code 25 = .ok (.iconst 1, 1) := by decide +kernel
theorem dX12_notes_26 : decode prog_14_method_9_code 26 = .ok (.iadd, 1) := by decide +kernel
theorem dX12_notes_27 : decode prog_14_method_9_code 27 = .ok (.putfield 65, 3) := by decide +kernel
theorem dX12_notes_30 : decode prog_14_method_9_code 30 = .ok (.iconst 4, 1) := by decide +kernel
theorem dX12_notes_31 : decode prog_14_method_9_code 31 = .ok (.newarray .int, 2) := by decide +kernel
theorem dX12_notes_33 : decode prog_14_method_9_code 33 = .ok (.dup, 1) := by decide +kernel
theorem dX12_notes_34 : decode prog_14_method_9_code 34 = .ok (.iconst 0, 1) := by decide +kernel
theorem dX12_notes_35 : decode prog_14_method_9_code 35 = .ok (.aload_n 0, 1) := by decide +kernel
theorem dX12_notes_36 : decode prog_14_method_9_code 36 = .ok (.getfield 47, 3) := by decide +kernel
theorem dX12_notes_39 : decode prog_14_method_9_code 39 = .ok (.iastore, 1) := by decide +kernel
theorem dX12_notes_40 : decode prog_14_method_9_code 40 = .ok (.dup, 1) := by decide +kernel
theorem dX12_notes_41 : decode prog_14_method_9_code 41 = .ok (.iconst 1, 1) := by decide +kernel
theorem dX12_notes_42 : decode prog_14_method_9_code 42 = .ok (.iload_n 1, 1) := by decide +kernel
theorem dX12_notes_43 : decode prog_14_method_9_code 43 = .ok (.iastore, 1) := by decide +kernel
theorem dX12_notes_44 : decode prog_14_method_9_code 44 = .ok (.dup, 1) := by decide +kernel
theorem dX12_notes_45 : decode prog_14_method_9_code 45 = .ok (.iconst 2, 1) := by decide +kernel
theorem dX12_notes_46 : decode prog_14_method_9_code 46 = .ok (.iload_n 2, 1) := by decide +kernel
theorem dX12_notes_47 : decode prog_14_method_9_code 47 = .ok (.iastore, 1) := by decide +kernel
theorem dX12_notes_48 : decode prog_14_method_9_code 48 = .ok (.dup, 1) := by decide +kernel
theorem dX12_notes_49 : decode prog_14_method_9_code 49 = .ok (.iconst 3, 1) := by decide +kernel
theorem dX12_notes_50 : decode prog_14_method_9_code 50 = .ok (.iload_n 3, 1) := by decide +kernel
theorem dX12_notes_51 : decode prog_14_method_9_code 51 = .ok (.iastore, 1) := by decide +kernel
theorem dX12_notes_52 : decode prog_14_method_9_code 52 = .ok (.aastore, 1) := by decide +kernel
theorem dX12_notes_53 : decode prog_14_method_9_code 53 = .ok (.return_, 1) := by decide +kernel
theorem dX12_once_0 : decode prog_14_method_10_code 0 = .ok (.aload_n 0, 1) := by decide +kernel
theorem dX12_once_1 : decode prog_14_method_10_code 1 = .ok (.getfield 25, 3) := by decide +kernel
theorem dX12_once_4 : decode prog_14_method_10_code 4 = .ok (.iload_n 1, 1) := by decide +kernel
theorem dX12_once_5 : decode prog_14_method_10_code 5 = .ok (.aaload, 1) := by decide +kernel
theorem dX12_once_6 : decode prog_14_method_10_code 6 = .ok (.astore_n 3, 1) := by decide +kernel
theorem dX12_once_7 : decode prog_14_method_10_code 7 = .ok (.aload_n 0, 1) := by decide +kernel
theorem dX12_once_8 : decode prog_14_method_10_code 8 = .ok (.aload_n 0, 1) := by decide +kernel
theorem dX12_once_9 : decode prog_14_method_10_code 9 = .ok (.getfield 7, 3) := by decide +kernel
theorem dX12_once_12 : decode prog_14_method_10_code 12 = .ok (.iload_n 1, 1) := by decide +kernel
theorem dX12_once_13 : decode prog_14_method_10_code 13 = .ok (.if_icmp .ne 12, 3) := by decide +kernel
theorem dX12_once_16 : decode prog_14_method_10_code 16 = .ok (.aload_n 0, 1) := by decide +kernel
theorem dX12_once_17 : decode prog_14_method_10_code 17 = .ok (.getfield 53, 3) := by decide +kernel
theorem dX12_once_20 : decode prog_14_method_10_code 20 = .ok (.iconst 1, 1) := by decide +kernel
theorem dX12_once_21 : decode prog_14_method_10_code 21 = .ok (.iadd, 1) := by decide +kernel
theorem dX12_once_22 : decode prog_14_method_10_code 22 = .ok (.goto 4, 3) := by decide +kernel
theorem dX12_once_25 : decode prog_14_method_10_code 25 = .ok (.iconst 0, 1) := by decide +kernel
theorem dX12_once_26 : decode prog_14_method_10_code 26 = .ok (.putfield 53, 3) := by decide +kernel

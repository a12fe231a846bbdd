theorem dM_init_0 : decode cM_init 0 = .ok (.aload_n 0, 1) := by decide +kernel
theorem dM_init_1 : decode cM_init 1 = .ok (.invokespecial 1, 3) := by decide +kernel
theorem dM_init_4 : decode cM_init 4 = .ok (.aload_n 0, 1) := by decide +kernel
theorem dM_init_5 : decode cM_init 5 = .ok (.iconst 3, 1) := by decide +kernel
theorem dM_init_6 : decode cM_init 6 = .ok (.newarray .int, 2) := by decide +kernel
theorem dM_init_8 : decode cM_init 8 = .ok (.putfield 7, 3) := by decide +kernel
theorem dM_init_11 : decode cM_init 11 = .ok (.aload_n 0, 1) := by decide +kernel
theorem dM_init_12 : decode cM_init 12 = .ok (.iconst 3, 1) := by decide +kernel
theorem dM_init_13 : decode cM_init 13 = .ok (.newarray .int, 2) := by decide +kernel
theorem dM_init_15 : decode cM_init 15 = .ok (.putfield 13, 3) := by decide +kernel
theorem dM_init_18 : decode cM_init 18 = .ok (.aload_n 0, 1) := by decide +kernel
theorem dM_init_19 : decode cM_init 19 = .ok (.iconst 3, 1) := by decide +kernel
theorem dM_init_20 : decode cM_init 20 = .ok (.newarray .int, 2) := by decide +kernel
theorem dM_init_22 : decode cM_init 22 = .ok (.putfield 16, 3) := by decide +kernel
theorem dM_init_25 : decode cM_init 25 = .ok (.aload_n 0, 1) := by decide +kernel
theorem dM_init_26 : decode cM_init 26 = .ok (.iconst 3, 1) := by decide +kernel
theorem dM_init_27 : decode cM_init 27 = .ok (.newarray .boolean, 2) := by decide +kernel
theorem dM_init_29 : decode cM_init 29 = .ok (.putfield 19, 3) := by decide +kernel
theorem dM_init_32 : decode cM_init 32 = .ok (.aload_n 0, 1) := by decide +kernel
theorem dM_init_33 : decode cM_init 33 = .ok (.iconst 3, 1) := by decide +kernel
theorem dM_init_34 : decode cM_init 34 = .ok (.newarray .int, 2) := by decide +kernel
theorem dM_init_36 : decode cM_init 36 = .ok (.putfield 23, 3) := by decide +kernel
theorem dM_init_39 : decode cM_init 39 = .ok (.aload_n 0, 1) := by decide +kernel
theorem dM_init_40 : decode cM_init 40 = .ok (.sipush 512, 3) := by decide +kernel
theorem dM_init_43 : decode cM_init 43 = .ok (.newarray .int, 2) := by decide +kernel
theorem dM_init_45 : decode cM_init 45 = .ok (.putfield 26, 3) := by decide +kernel
theorem dM_init_48 : decode cM_init 48 = .ok (.aload_n 0, 1) := by decide +kernel
theorem dM_init_49 : decode cM_init 49 = .ok (.sipush 512, 3) := by decide +kernel
theorem dM_init_52 : decode cM_init 52 = .ok (.newarray .int, 2) := by decide +kernel
theorem dM_init_54 : decode cM_init 54 = .ok (.putfield 29, 3) := by decide +kernel
theorem dM_init_57 : decode cM_init 57 = .ok (.aload_n 0, 1) := by decide +kernel
theorem dM_init_58 : decode cM_init 58 = .ok (.sipush 512, 3) := by decide +kernel
theorem dM_init_61 : decode cM_init 61 = .ok (.newarray .int, 2) := by decide +kernel
theorem dM_init_63 : decode cM_init 63 = .ok (.putfield 32, 3) := by decide +kernel
theorem dM_init_66 : decode cM_init 66 = .ok (.aload_n 0, 1) := by decide +kernel
theorem dM_init_67 : decode cM_init 67 = .ok (.iconst 5, 1) := by decide +kernel
theorem dM_init_68 : decode cM_init 68 = .ok (.newarray .int, 2) := by decide +kernel
theorem dM_init_70 : decode cM_init 70 = .ok (.putfield 35, 3) := by decide +kernel
theorem dM_init_73 : decode cM_init 73 = .ok (.aload_n 0, 1) := by decide +kernel
theorem dM_init_74 : decode cM_init 74 = .ok (.iconst 5, 1) := by decide +kernel
theorem dM_init_75 : decode cM_init 75 = .ok (.newarray .int, 2) := by decide +kernel
theorem dM_init_77 : decode cM_init 77 = .ok (.putfield 38, 3) := by decide +kernel
theorem dM_init_80 : decode cM_init 80 = .ok (.aload_n 0, 1) := by decide +kernel
theorem dM_init_81 : decode cM_init 81 = .ok (.iconst 5, 1) := by decide +kernel
theorem dM_init_82 : decode cM_init 82 = .ok (.newarray .int, 2) := by decide +kernel
theorem dM_init_84 : decode cM_init 84 = .ok (.putfield 41, 3) := by decide +kernel
theorem dM_init_87 : decode cM_init 87 = .ok (.aload_n 0, 1) := by decide +kernel
theorem dM_init_88 : decode cM_init 88 = .ok (.iconst 5, 1) := by decide +kernel
theorem dM_init_89 : decode cM_init 89 = .ok (.newarray .int, 2) := by decide +kernel
theorem dM_init_91 : decode cM_init 91 = .ok (.putfield 44, 3) := by decide +kernel
theorem dM_init_94 : decode cM_init 94 = .ok (.aload_n 0, 1) := by decide +kernel
theorem dM_init_95 : decode cM_init 95 = .ok (.iconst 5, 1) := by decide +kernel
theorem dM_init_96 : decode cM_init 96 = .ok (.newarray .int, 2) := by decide +kernel
theorem dM_init_98 : decode cM_init 98 = .ok (.putfield 47, 3) := by decide +kernel
theorem dM_init_101 : decode cM_init 101 = .ok (.aload_n 0, 1) := by decide +kernel
theorem dM_init_102 : decode cM_init 102 = .ok (.bipush 45, 2) := by decide +kernel
theorem dM_init_104 : decode cM_init 104 = .ok (.newarray .int, 2) := by decide +kernel
theorem dM_init_106 : decode cM_init 106 = .ok (.putfield 50, 3) := by decide +kernel
theorem dM_init_109 : decode cM_init 109 = .ok (.aload_n 0, 1) := by decide +kernel
theorem dM_init_110 : decode cM_init 110 = .ok (.bipush 45, 2) := by decide +kernel
theorem dM_init_112 : decode cM_init 112 = .ok (.newarray .boolean, 2) := by decide +kernel
theorem dM_init_114 : decode cM_init 114 = .ok (.putfield 53, 3) := by decide +kernel
theorem dM_init_117 : decode cM_init 117 = .ok (.aload_n 0, 1) := by decide +kernel
theorem dM_init_118 : decode cM_init 118 = .ok (.bipush 45, 2) := by decide +kernel
theorem dM_init_120 : decode cM_init 120 = .ok (.newarray .int, 2) := by decide +kernel
theorem dM_init_122 : decode cM_init 122 = .ok (.putfield 56, 3) := by decide +kernel
theorem dM_init_125 : decode cM_init 125 = .ok (.aload_n 0, 1) := by decide +kernel
theorem dM_init_126 : decode cM_init 126 = .ok (.bipush 15, 2) := by decide +kernel
theorem dM_init_128 : decode cM_init 128 = .ok (.newarray .boolean, 2) := by decide +kernel
theorem dM_init_130 : decode cM_init 130 = .ok (.putfield 59, 3) := by decide +kernel
theorem dM_init_133 : decode cM_init 133 = .ok (.aload_n 0, 1) := by decide +kernel
theorem dM_init_134 : decode cM_init 134 = .ok (.bipush 15, 2) := by decide +kernel
theorem dM_init_136 : decode cM_init 136 = .ok (.newarray .int, 2) := by decide +kernel
theorem dM_init_138 : decode cM_init 138 = .ok (.putfield 62, 3) := by decide +kernel
theorem dM_init_141 : decode cM_init 141 = .ok (.aload_n 0, 1) := by decide +kernel
theorem dM_init_142 : decode cM_init 142 = .ok (.bipush 45, 2) := by decide +kernel
theorem dM_init_144 : decode cM_init 144 = .ok (.newarray .int, 2) := by decide +kernel
theorem dM_init_146 : decode cM_init 146 = .ok (.putfield 65, 3) := by decide +kernel
theorem dM_init_149 : decode cM_init 149 = .ok (.aload_n 0, 1) := by decide +kernel
theorem dM_init_150 : decode cM_init 150 = .ok (.bipush 45, 2) := by decide +kernel
theorem dM_init_152 : decode cM_init 152 = .ok (.newarray .int, 2) := by decide +kernel
theorem dM_init_154 : decode cM_init 154 = .ok (.putfield 68, 3) := by decide +kernel
theorem dM_init_157 : decode cM_init 157 = .ok (.aload_n 0, 1) := by decide +kernel
theorem dM_init_158 : decode cM_init 158 = .ok (.iload_n 1, 1) := by decide +kernel
theorem dM_init_159 : decode cM_init 159 = .ok (.ifCond .ge 7, 3) := by decide +kernel
theorem dM_init_162 : decode cM_init 162 = .ok (.iconst 0, 1) := by decide +kernel
theorem dM_init_163 : decode cM_init 163 = .ok (.goto 15, 3) := by decide +kernel
theorem dM_init_166 : decode cM_init 166 = .ok (.iload_n 1, 1) := by decide +kernel
theorem dM_init_167 : decode cM_init 167 = .ok (.bipush 20, 2) := by decide +kernel
theorem dM_init_169 : decode cM_init 169 = .ok (.if_icmp .le 8, 3) := by decide +kernel
theorem dM_init_172 : decode cM_init 172 = .ok (.bipush 20, 2) := by decide +kernel
theorem dM_init_174 : decode cM_init 174 = .ok (.goto 4, 3) := by decide +kernel
theorem dM_init_177 : decode cM_init 177 = .ok (.iload_n 1, 1) := by decide +kernel
theorem dM_init_178 : decode cM_init 178 = .ok (.putfield 71, 3) := by decide +kernel
theorem dM_init_181 : decode cM_init 181 = .ok (.iconst 0, 1) := by decide +kernel
theorem dM_init_182 : decode cM_init 182 = .ok (.istore_n 2, 1) := by decide +kernel
theorem dM_init_183 : decode cM_init 183 = .ok (.iload_n 2, 1) := by decide +kernel
theorem dM_init_184 : decode cM_init 184 = .ok (.iconst 3, 1) := by decide +kernel
theorem dM_init_185 : decode cM_init 185 = .ok (.if_icmp .ge 29, 3) := by decide +kernel
theorem dM_init_188 : decode cM_init 188 = .ok (.aload_n 0, 1) := by decide +kernel
theorem dM_init_189 : decode cM_init 189 = .ok (.getfield 7, 3) := by decide +kernel
theorem dM_init_192 : decode cM_init 192 = .ok (.iload_n 2, 1) := by decide +kernel
theorem dM_init_193 : decode cM_init 193 = .ok (.aload_n 0, 1) := by decide +kernel
theorem dM_init_194 : decode cM_init 194 = .ok (.getfield 71, 3) := by decide +kernel
theorem dM_init_197 : decode cM_init 197 = .ok (.iastore, 1) := by decide +kernel
theorem dM_init_198 : decode cM_init 198 = .ok (.aload_n 0, 1) := by decide +kernel
theorem dM_init_199 : decode cM_init 199 = .ok (.getfield 13, 3) := by decide +kernel
theorem dM_init_202 : decode cM_init 202 = .ok (.iload_n 2, 1) := by decide +kernel
theorem dM_init_203 : decode cM_init 203 = .ok (.aload_n 0, 1) := by decide +kernel
theorem dM_init_204 : decode cM_init 204 = .ok (.getfield 71, 3) := by decide +kernel
theorem dM_init_207 : decode cM_init 207 = .ok (.iastore, 1) := by decide +kernel
theorem dM_init_208 : decode cM_init 208 = .ok (.iinc 2 1, 3) := by decide +kernel
theorem dM_init_211 : decode cM_init 211 = .ok (.goto (-28), 3) := by decide +kernel
theorem dM_init_214 : decode cM_init 214 = .ok (.return_, 1) := by decide +kernel
theorem dM_in_0 : decode cM_in 0 = .ok (.iload_n 0, 1) := by decide +kernel
theorem dM_in_1 : decode cM_in 1 = .ok (.ifCond .lt 12, 3) := by decide +kernel
theorem dM_in_4 : decode cM_in 4 = .ok (.iload_n 0, 1) := by decide +kernel
theorem dM_in_5 : decode cM_in 5 = .ok (.iload_n 1, 1) := by decide +kernel
theorem dM_in_6 : decode cM_in 6 = .ok (.if_icmp .ge 7, 3) := by decide +kernel
theorem dM_in_9 : decode cM_in 9 = .ok (.iconst 1, 1) := by decide +kernel
theorem dM_in_10 : decode cM_in 10 = .ok (.goto 4, 3) := by decide +kernel
theorem dM_in_13 : decode cM_in 13 = .ok (.iconst 0, 1) := by decide +kernel
theorem dM_in_14 : decode cM_in 14 = .ok (.ireturn, 1) := by decide +kernel
theorem dM_clock_0 : decode cM_clock 0 = .ok (.iload_n 1, 1) := by decide +kernel
theorem dM_clock_1 : decode cM_clock 1 = .ok (.iconst 3, 1) := by decide +kernel
theorem dM_clock_2 : decode cM_clock 2 = .ok (.invokestatic 75, 3) := by decide +kernel
theorem dM_clock_5 : decode cM_clock 5 = .ok (.ifCond .eq 29, 3) := by decide +kernel
theorem dM_clock_8 : decode cM_clock 8 = .ok (.iload_n 2, 1) := by decide +kernel
theorem dM_clock_9 : decode cM_clock 9 = .ok (.aload_n 0, 1) := by decide +kernel
theorem dM_clock_10 : decode cM_clock 10 = .ok (.getfield 71, 3) := by decide +kernel
theorem dM_clock_13 : decode cM_clock 13 = .ok (.iconst 1, 1) := by decide +kernel
theorem dM_clock_14 : decode cM_clock 14 = .ok (.iadd, 1) := by decide +kernel
theorem dM_clock_15 : decode cM_clock 15 = .ok (.invokestatic 75, 3) := by decide +kernel
theorem dM_clock_18 : decode cM_clock 18 = .ok (.ifCond .eq 16, 3) := by decide +kernel
theorem dM_clock_21 : decode cM_clock 21 = .ok (.iload_n 3, 1) := by decide +kernel
theorem dM_clock_22 : decode cM_clock 22 = .ok (.aload_n 0, 1) := by decide +kernel
theorem dM_clock_23 : decode cM_clock 23 = .ok (.getfield 71, 3) := by decide +kernel
theorem dM_clock_26 : decode cM_clock 26 = .ok (.iconst 1, 1) := by decide +kernel
theorem dM_clock_27 : decode cM_clock 27 = .ok (.iadd, 1) := by decide +kernel
theorem dM_clock_28 : decode cM_clock 28 = .ok (.invokestatic 75, 3) := by decide +kernel
theorem dM_clock_31 : decode cM_clock 31 = .ok (.ifCond .ne 5, 3) := by decide +kernel
theorem dM_clock_34 : decode cM_clock 34 = .ok (.iconst 0, 1) := by decide +kernel
theorem dM_clock_35 : decode cM_clock 35 = .ok (.ireturn, 1) := by decide +kernel
theorem dM_clock_36 : decode cM_clock 36 = .ok (.aload_n 0, 1) := by decide +kernel
theorem dM_clock_37 : decode cM_clock 37 = .ok (.getfield 7, 3) := by decide +kernel
theorem dM_clock_40 : decode cM_clock 40 = .ok (.iload_n 1, 1) := by decide +kernel
theorem dM_clock_41 : decode cM_clock 41 = .ok (.iload_n 2, 1) := by decide +kernel
theorem dM_clock_42 : decode cM_clock 42 = .ok (.iastore, 1) := by decide +kernel
theorem dM_clock_43 : decode cM_clock 43 = .ok (.aload_n 0, 1) := by decide +kernel
theorem dM_clock_44 : decode cM_clock 44 = .ok (.getfield 13, 3) := by decide +kernel
theorem dM_clock_47 : decode cM_clock 47 = .ok (.iload_n 1, 1) := by decide +kernel
theorem dM_clock_48 : decode cM_clock 48 = .ok (.iload_n 3, 1) := by decide +kernel
theorem dM_clock_49 : decode cM_clock 49 = .ok (.iastore, 1) := by decide +kernel
theorem dM_clock_50 : decode cM_clock 50 = .ok (.iconst 1, 1) := by decide +kernel
theorem dM_clock_51 : decode cM_clock 51 = .ok (.ireturn, 1) := by decide +kernel
theorem dM_delay_0 : decode cM_delay 0 = .ok (.iload_n 1, 1) := by decide +kernel
theorem dM_delay_1 : decode cM_delay 1 = .ok (.iconst 3, 1) := by decide +kernel
theorem dM_delay_2 : decode cM_delay 2 = .ok (.invokestatic 75, 3) := by decide +kernel
theorem dM_delay_5 : decode cM_delay 5 = .ok (.ifCond .eq 12, 3) := by decide +kernel
theorem dM_delay_8 : decode cM_delay 8 = .ok (.iload_n 2, 1) := by decide +kernel
theorem dM_delay_9 : decode cM_delay 9 = .ok (.bipush 10, 2) := by decide +kernel
theorem dM_delay_11 : decode cM_delay 11 = .ok (.invokestatic 75, 3) := by decide +kernel
theorem dM_delay_14 : decode cM_delay 14 = .ok (.ifCond .ne 5, 3) := by decide +kernel
theorem dM_delay_17 : decode cM_delay 17 = .ok (.iconst 0, 1) := by decide +kernel
theorem dM_delay_18 : decode cM_delay 18 = .ok (.ireturn, 1) := by decide +kernel
theorem dM_delay_19 : decode cM_delay 19 = .ok (.aload_n 0, 1) := by decide +kernel
theorem dM_delay_20 : decode cM_delay 20 = .ok (.getfield 16, 3) := by decide +kernel
theorem dM_delay_23 : decode cM_delay 23 = .ok (.iload_n 1, 1) := by decide +kernel
theorem dM_delay_24 : decode cM_delay 24 = .ok (.iload_n 2, 1) := by decide +kernel
theorem dM_delay_25 : decode cM_delay 25 = .ok (.iastore, 1) := by decide +kernel
theorem dM_delay_26 : decode cM_delay 26 = .ok (.iconst 1, 1) := by decide +kernel
theorem dM_delay_27 : decode cM_delay 27 = .ok (.ireturn, 1) := by decide +kernel
theorem dM_power_0 : decode cM_power 0 = .ok (.iload_n 1, 1) := by decide +kernel
theorem dM_power_1 : decode cM_power 1 = .ok (.iconst 3, 1) := by decide +kernel
theorem dM_power_2 : decode cM_power 2 = .ok (.invokestatic 75, 3) := by decide +kernel
theorem dM_power_5 : decode cM_power 5 = .ok (.ifCond .eq 13, 3) := by decide +kernel
theorem dM_power_8 : decode cM_power 8 = .ok (.aload_n 0, 1) := by decide +kernel
theorem dM_power_9 : decode cM_power 9 = .ok (.getfield 19, 3) := by decide +kernel
theorem dM_power_12 : decode cM_power 12 = .ok (.iload_n 1, 1) := by decide +kernel
theorem dM_power_13 : decode cM_power 13 = .ok (.baload, 1) := by decide +kernel
theorem dM_power_14 : decode cM_power 14 = .ok (.iload_n 2, 1) := by decide +kernel
theorem dM_power_15 : decode cM_power 15 = .ok (.if_icmp .eq 5, 3) := by decide +kernel
theorem dM_power_18 : decode cM_power 18 = .ok (.iconst 0, 1) := by decide +kernel
theorem dM_power_19 : decode cM_power 19 = .ok (.ireturn, 1) := by decide +kernel
theorem dM_power_20 : decode cM_power 20 = .ok (.aload_n 0, 1) := by decide +kernel
theorem dM_power_21 : decode cM_power 21 = .ok (.getfield 19, 3) := by decide +kernel
theorem dM_power_24 : decode cM_power 24 = .ok (.iload_n 1, 1) := by decide +kernel
theorem dM_power_25 : decode cM_power 25 = .ok (.iload_n 2, 1) := by decide +kernel
theorem dM_power_26 : decode cM_power 26 = .ok (.ifCond .ne 7, 3) := by decide +kernel
theorem dM_power_29 : decode cM_power 29 = .ok (.iconst 1, 1) := by decide +kernel
theorem dM_power_30 : decode cM_power 30 = .ok (.goto 4, 3) := by decide +kernel
theorem dM_power_33 : decode cM_power 33 = .ok (.iconst 0, 1) := by decide +kernel
theorem dM_power_34 : decode cM_power 34 = .ok (.bastore, 1) := by decide +kernel
theorem dM_power_35 : decode cM_power 35 = .ok (.iconst 1, 1) := by decide +kernel
theorem dM_power_36 : decode cM_power 36 = .ok (.ireturn, 1) := by decide +kernel
theorem dM_raise_0 : decode cM_raise 0 = .ok (.aload_n 0, 1) := by decide +kernel
theorem dM_raise_1 : decode cM_raise 1 = .ok (.getfield 23, 3) := by decide +kernel
theorem dM_raise_4 : decode cM_raise 4 = .ok (.iload_n 1, 1) := by decide +kernel
theorem dM_raise_5 : decode cM_raise 5 = .ok (.aload_n 0, 1) := by decide +kernel
theorem dM_raise_6 : decode cM_raise 6 = .ok (.getfield 23, 3) := by decide +kernel
theorem dM_raise_9 : decode cM_raise 9 = .ok (.iload_n 1, 1) := by decide +kernel
theorem dM_raise_10 : decode cM_raise 10 = .ok (.iaload, 1) := by decide +kernel
theorem dM_raise_11 : decode cM_raise 11 = .ok (.iload_n 2, 1) := by decide +kernel
theorem dM_raise_12 : decode cM_raise 12 = .ok (.if_icmp .ge 7, 3) := by decide +kernel
theorem dM_raise_15 : decode cM_raise 15 = .ok (.iload_n 2, 1) := by decide +kernel
theorem dM_raise_16 : decode cM_raise 16 = .ok (.goto 9, 3) := by decide +kernel
theorem dM_raise_19 : decode cM_raise 19 = .ok (.aload_n 0, 1) := by decide +kernel
theorem dM_raise_20 : decode cM_raise 20 = .ok (.getfield 23, 3) := by decide +kernel
theorem dM_raise_23 : decode cM_raise 23 = .ok (.iload_n 1, 1) := by decide +kernel
theorem dM_raise_24 : decode cM_raise 24 = .ok (.iaload, 1) := by decide +kernel
theorem dM_raise_25 : decode cM_raise 25 = .ok (.iastore, 1) := by decide +kernel
theorem dM_raise_26 : decode cM_raise 26 = .ok (.return_, 1) := by decide +kernel
theorem dM_active_0 : decode cM_active 0 = .ok (.iload_n 1, 1) := by decide +kernel
theorem dM_active_1 : decode cM_active 1 = .ok (.iconst 5, 1) := by decide +kernel
theorem dM_active_2 : decode cM_active 2 = .ok (.invokestatic 75, 3) := by decide +kernel
theorem dM_active_5 : decode cM_active 5 = .ok (.ifCond .eq 17, 3) := by decide +kernel
theorem dM_active_8 : decode cM_active 8 = .ok (.aload_n 0, 1) := by decide +kernel
theorem dM_active_9 : decode cM_active 9 = .ok (.getfield 35, 3) := by decide +kernel
theorem dM_active_12 : decode cM_active 12 = .ok (.iload_n 1, 1) := by decide +kernel
theorem dM_active_13 : decode cM_active 13 = .ok (.iaload, 1) := by decide +kernel
theorem dM_active_14 : decode cM_active 14 = .ok (.iconst 1, 1) := by decide +kernel
theorem dM_active_15 : decode cM_active 15 = .ok (.if_icmp .ne 7, 3) := by decide +kernel
theorem dM_active_18 : decode cM_active 18 = .ok (.iconst 1, 1) := by decide +kernel
theorem dM_active_19 : decode cM_active 19 = .ok (.goto 4, 3) := by decide +kernel
theorem dM_active_22 : decode cM_active 22 = .ok (.iconst 0, 1) := by decide +kernel
theorem dM_active_23 : decode cM_active 23 = .ok (.ireturn, 1) := by decide +kernel
theorem dM_takesPart_0 : decode cM_takesPart 0 = .ok (.aload_n 0, 1) := by decide +kernel
theorem dM_takesPart_1 : decode cM_takesPart 1 = .ok (.getfield 50, 3) := by decide +kernel
theorem dM_takesPart_4 : decode cM_takesPart 4 = .ok (.bipush 9, 2) := by decide +kernel
theorem dM_takesPart_6 : decode cM_takesPart 6 = .ok (.iload_n 1, 1) := by decide +kernel
theorem dM_takesPart_7 : decode cM_takesPart 7 = .ok (.imul, 1) := by decide +kernel
theorem dM_takesPart_8 : decode cM_takesPart 8 = .ok (.iload_n 2, 1) := by decide +kernel
theorem dM_takesPart_9 : decode cM_takesPart 9 = .ok (.iadd, 1) := by decide +kernel
theorem dM_takesPart_10 : decode cM_takesPart 10 = .ok (.iaload, 1) := by decide +kernel
theorem dM_takesPart_11 : decode cM_takesPart 11 = .ok (.aload_n 0, 1) := by decide +kernel
theorem dM_takesPart_12 : decode cM_takesPart 12 = .ok (.getfield 50, 3) := by decide +kernel
theorem dM_takesPart_15 : decode cM_takesPart 15 = .ok (.bipush 9, 2) := by decide +kernel
theorem dM_takesPart_17 : decode cM_takesPart 17 = .ok (.iload_n 1, 1) := by decide +kernel
theorem dM_takesPart_18 : decode cM_takesPart 18 = .ok (.imul, 1) := by decide +kernel
theorem dM_takesPart_19 : decode cM_takesPart 19 = .ok (.iload_n 2, 1) := by decide +kernel
theorem dM_takesPart_20 : decode cM_takesPart 20 = .ok (.iadd, 1) := by decide +kernel
theorem dM_takesPart_21 : decode cM_takesPart 21 = .ok (.iconst 3, 1) := by decide +kernel
theorem dM_takesPart_22 : decode cM_takesPart 22 = .ok (.iadd, 1) := by decide +kernel
theorem dM_takesPart_23 : decode cM_takesPart 23 = .ok (.iaload, 1) := by decide +kernel
theorem dM_takesPart_24 : decode cM_takesPart 24 = .ok (.iadd, 1) := by decide +kernel
theorem dM_takesPart_25 : decode cM_takesPart 25 = .ok (.aload_n 0, 1) := by decide +kernel
theorem dM_takesPart_26 : decode cM_takesPart 26 = .ok (.getfield 50, 3) := by decide +kernel
theorem dM_takesPart_29 : decode cM_takesPart 29 = .ok (.bipush 9, 2) := by decide +kernel
theorem dM_takesPart_31 : decode cM_takesPart 31 = .ok (.iload_n 1, 1) := by decide +kernel
theorem dM_takesPart_32 : decode cM_takesPart 32 = .ok (.imul, 1) := by decide +kernel
theorem dM_takesPart_33 : decode cM_takesPart 33 = .ok (.iload_n 2, 1) := by decide +kernel
theorem dM_takesPart_34 : decode cM_takesPart 34 = .ok (.iadd, 1) := by decide +kernel
theorem dM_takesPart_35 : decode cM_takesPart 35 = .ok (.bipush 6, 2) := by decide +kernel
theorem dM_takesPart_37 : decode cM_takesPart 37 = .ok (.iadd, 1) := by decide +kernel
theorem dM_takesPart_38 : decode cM_takesPart 38 = .ok (.iaload, 1) := by decide +kernel
theorem dM_takesPart_39 : decode cM_takesPart 39 = .ok (.iadd, 1) := by decide +kernel
theorem dM_takesPart_40 : decode cM_takesPart 40 = .ok (.ifCond .le 7, 3) := by decide +kernel
theorem dM_takesPart_43 : decode cM_takesPart 43 = .ok (.iconst 1, 1) := by decide +kernel
theorem dM_takesPart_44 : decode cM_takesPart 44 = .ok (.goto 4, 3) := by decide +kernel
theorem dM_takesPart_47 : decode cM_takesPart 47 = .ok (.iconst 0, 1) := by decide +kernel
theorem dM_takesPart_48 : decode cM_takesPart 48 = .ok (.ireturn, 1) := by decide +kernel
theorem dM_least_0 : decode cM_least 0 = .ok (.aload_n 0, 1) := by decide +kernel
theorem dM_least_1 : decode cM_least 1 = .ok (.iload_n 1, 1) := by decide +kernel
theorem dM_least_2 : decode cM_least 2 = .ok (.iconst 0, 1) := by decide +kernel
theorem dM_least_3 : decode cM_least 3 = .ok (.invokevirtual 79, 3) := by decide +kernel
theorem dM_least_6 : decode cM_least 6 = .ok (.ifCond .eq 7, 3) := by decide +kernel
theorem dM_least_9 : decode cM_least 9 = .ok (.iconst 0, 1) := by decide +kernel
theorem dM_least_10 : decode cM_least 10 = .ok (.goto 30, 3) := by decide +kernel
theorem dM_least_13 : decode cM_least 13 = .ok (.aload_n 0, 1) := by decide +kernel
theorem dM_least_14 : decode cM_least 14 = .ok (.iload_n 1, 1) := by decide +kernel
theorem dM_least_15 : decode cM_least 15 = .ok (.iconst 1, 1) := by decide +kernel
theorem dM_least_16 : decode cM_least 16 = .ok (.invokevirtual 79, 3) := by decide +kernel
theorem dM_least_19 : decode cM_least 19 = .ok (.ifCond .eq 7, 3) := by decide +kernel
theorem dM_least_22 : decode cM_least 22 = .ok (.iconst 1, 1) := by decide +kernel
theorem dM_least_23 : decode cM_least 23 = .ok (.goto 17, 3) := by decide +kernel
theorem dM_least_26 : decode cM_least 26 = .ok (.aload_n 0, 1) := by decide +kernel
theorem dM_least_27 : decode cM_least 27 = .ok (.iload_n 1, 1) := by decide +kernel
theorem dM_least_28 : decode cM_least 28 = .ok (.iconst 2, 1) := by decide +kernel
theorem dM_least_29 : decode cM_least 29 = .ok (.invokevirtual 79, 3) := by decide +kernel
theorem dM_least_32 : decode cM_least 32 = .ok (.ifCond .eq 7, 3) := by decide +kernel
theorem dM_least_35 : decode cM_least 35 = .ok (.iconst 2, 1) := by decide +kernel
theorem dM_least_36 : decode cM_least 36 = .ok (.goto 4, 3) := by decide +kernel
theorem dM_least_39 : decode cM_least 39 = .ok (.iconst 3, 1) := by decide +kernel
theorem dM_least_40 : decode cM_least 40 = .ok (.ireturn, 1) := by decide +kernel
theorem dM_forget_0 : decode cM_forget 0 = .ok (.bipush 9, 2) := by decide +kernel
theorem dM_forget_2 : decode cM_forget 2 = .ok (.iload_n 1, 1) := by decide +kernel
theorem dM_forget_3 : decode cM_forget 3 = .ok (.imul, 1) := by decide +kernel
theorem dM_forget_4 : decode cM_forget 4 = .ok (.istore_n 2, 1) := by decide +kernel
theorem dM_forget_5 : decode cM_forget 5 = .ok (.iload_n 2, 1) := by decide +kernel
theorem dM_forget_6 : decode cM_forget 6 = .ok (.bipush 9, 2) := by decide +kernel
theorem dM_forget_8 : decode cM_forget 8 = .ok (.iload_n 1, 1) := by decide +kernel
theorem dM_forget_9 : decode cM_forget 9 = .ok (.imul, 1) := by decide +kernel
theorem dM_forget_10 : decode cM_forget 10 = .ok (.bipush 9, 2) := by decide +kernel
theorem dM_forget_12 : decode cM_forget 12 = .ok (.iadd, 1) := by decide +kernel
theorem dM_forget_13 : decode cM_forget 13 = .ok (.if_icmp .ge 23, 3) := by decide +kernel
theorem dM_forget_16 : decode cM_forget 16 = .ok (.aload_n 0, 1) := by decide +kernel
theorem dM_forget_17 : decode cM_forget 17 = .ok (.getfield 50, 3) := by decide +kernel
theorem dM_forget_20 : decode cM_forget 20 = .ok (.iload_n 2, 1) := by decide +kernel
theorem dM_forget_21 : decode cM_forget 21 = .ok (.iconst 0, 1) := by decide +kernel
theorem dM_forget_22 : decode cM_forget 22 = .ok (.iastore, 1) := by decide +kernel
theorem dM_forget_23 : decode cM_forget 23 = .ok (.aload_n 0, 1) := by decide +kernel
theorem dM_forget_24 : decode cM_forget 24 = .ok (.getfield 53, 3) := by decide +kernel
theorem dM_forget_27 : decode cM_forget 27 = .ok (.iload_n 2, 1) := by decide +kernel
theorem dM_forget_28 : decode cM_forget 28 = .ok (.iconst 0, 1) := by decide +kernel
theorem dM_forget_29 : decode cM_forget 29 = .ok (.bastore, 1) := by decide +kernel
theorem dM_forget_30 : decode cM_forget 30 = .ok (.iinc 2 1, 3) := by decide +kernel
theorem dM_forget_33 : decode cM_forget 33 = .ok (.goto (-28), 3) := by decide +kernel
theorem dM_forget_36 : decode cM_forget 36 = .ok (.return_, 1) := by decide +kernel
theorem dM_begin_0 : decode cM_begin 0 = .ok (.iload_n 1, 1) := by decide +kernel
theorem dM_begin_1 : decode cM_begin 1 = .ok (.iconst 5, 1) := by decide +kernel
theorem dM_begin_2 : decode cM_begin 2 = .ok (.invokestatic 75, 3) := by decide +kernel
theorem dM_begin_5 : decode cM_begin 5 = .ok (.ifCond .eq 37, 3) := by decide +kernel
theorem dM_begin_8 : decode cM_begin 8 = .ok (.aload_n 0, 1) := by decide +kernel
theorem dM_begin_9 : decode cM_begin 9 = .ok (.getfield 35, 3) := by decide +kernel
theorem dM_begin_12 : decode cM_begin 12 = .ok (.iload_n 1, 1) := by decide +kernel
theorem dM_begin_13 : decode cM_begin 13 = .ok (.iaload, 1) := by decide +kernel
theorem dM_begin_14 : decode cM_begin 14 = .ok (.iconst 1, 1) := by decide +kernel
theorem dM_begin_15 : decode cM_begin 15 = .ok (.isub, 1) := by decide +kernel
theorem dM_begin_16 : decode cM_begin 16 = .ok (.iconst 3, 1) := by decide +kernel
theorem dM_begin_17 : decode cM_begin 17 = .ok (.invokestatic 75, 3) := by decide +kernel
theorem dM_begin_20 : decode cM_begin 20 = .ok (.ifCond .ne 22, 3) := by decide +kernel
theorem dM_begin_23 : decode cM_begin 23 = .ok (.aload_n 0, 1) := by decide +kernel
theorem dM_begin_24 : decode cM_begin 24 = .ok (.getfield 35, 3) := by decide +kernel
theorem dM_begin_27 : decode cM_begin 27 = .ok (.iload_n 1, 1) := by decide +kernel
theorem dM_begin_28 : decode cM_begin 28 = .ok (.iaload, 1) := by decide +kernel
theorem dM_begin_29 : decode cM_begin 29 = .ok (.iconst 4, 1) := by decide +kernel
theorem dM_begin_30 : decode cM_begin 30 = .ok (.if_icmp .ne 14, 3) := by decide +kernel
theorem dM_begin_33 : decode cM_begin 33 = .ok (.aload_n 0, 1) := by decide +kernel
theorem dM_begin_34 : decode cM_begin 34 = .ok (.iload_n 1, 1) := by decide +kernel
theorem dM_begin_35 : decode cM_begin 35 = .ok (.invokevirtual 82, 3) := by decide +kernel
theorem dM_begin_38 : decode cM_begin 38 = .ok (.iconst 3, 1) := by decide +kernel
theorem dM_begin_39 : decode cM_begin 39 = .ok (.if_icmp .ge 5, 3) := by decide +kernel
theorem dM_begin_42 : decode cM_begin 42 = .ok (.iconst 0, 1) := by decide +kernel
theorem dM_begin_43 : decode cM_begin 43 = .ok (.ireturn, 1) := by decide +kernel
theorem dM_begin_44 : decode cM_begin 44 = .ok (.aload_n 0, 1) := by decide +kernel
theorem dM_begin_45 : decode cM_begin 45 = .ok (.iload_n 1, 1) := by decide +kernel
theorem dM_begin_46 : decode cM_begin 46 = .ok (.invokevirtual 86, 3) := by decide +kernel
theorem dM_begin_49 : decode cM_begin 49 = .ok (.aload_n 0, 1) := by decide +kernel
theorem dM_begin_50 : decode cM_begin 50 = .ok (.getfield 35, 3) := by decide +kernel
theorem dM_begin_53 : decode cM_begin 53 = .ok (.iload_n 1, 1) := by decide +kernel
theorem dM_begin_54 : decode cM_begin 54 = .ok (.iconst 1, 1) := by decide +kernel
theorem dM_begin_55 : decode cM_begin 55 = .ok (.iastore, 1) := by decide +kernel
theorem dM_begin_56 : decode cM_begin 56 = .ok (.aload_n 0, 1) := by decide +kernel
theorem dM_begin_57 : decode cM_begin 57 = .ok (.dup, 1) := by decide +kernel
theorem dM_begin_58 : decode cM_begin 58 = .ok (.getfield 90, 3) := by decide +kernel
theorem dM_begin_61 : decode cM_begin 61 = .ok (.iconst 1, 1) := by decide +kernel
theorem dM_begin_62 : decode cM_begin 62 = .ok (.iadd, 1) := by decide +kernel
theorem dM_begin_63 : decode cM_begin 63 = .ok (.putfield 90, 3) := by decide +kernel
theorem dM_begin_66 : decode cM_begin 66 = .ok (.aload_n 0, 1) := by decide +kernel
theorem dM_begin_67 : decode cM_begin 67 = .ok (.getfield 38, 3) := by decide +kernel
theorem dM_begin_70 : decode cM_begin 70 = .ok (.iload_n 1, 1) := by decide +kernel
theorem dM_begin_71 : decode cM_begin 71 = .ok (.aload_n 0, 1) := by decide +kernel
theorem dM_begin_72 : decode cM_begin 72 = .ok (.getfield 90, 3) := by decide +kernel
theorem dM_begin_75 : decode cM_begin 75 = .ok (.iastore, 1) := by decide +kernel
theorem dM_begin_76 : decode cM_begin 76 = .ok (.iconst 1, 1) := by decide +kernel
theorem dM_begin_77 : decode cM_begin 77 = .ok (.ireturn, 1) := by decide +kernel
theorem dM_conflicts_0 : decode cM_conflicts 0 = .ok (.iload_n 2, 1) := by decide +kernel
theorem dM_conflicts_1 : decode cM_conflicts 1 = .ok (.iload_n 1, 1) := by decide +kernel
theorem dM_conflicts_2 : decode cM_conflicts 2 = .ok (.if_icmp .eq 39, 3) := by decide +kernel
theorem dM_conflicts_5 : decode cM_conflicts 5 = .ok (.aload_n 0, 1) := by decide +kernel
theorem dM_conflicts_6 : decode cM_conflicts 6 = .ok (.getfield 50, 3) := by decide +kernel
theorem dM_conflicts_9 : decode cM_conflicts 9 = .ok (.bipush 9, 2) := by decide +kernel
theorem dM_conflicts_11 : decode cM_conflicts 11 = .ok (.iload_n 2, 1) := by decide +kernel
theorem dM_conflicts_12 : decode cM_conflicts 12 = .ok (.imul, 1) := by decide +kernel
theorem dM_conflicts_13 : decode cM_conflicts 13 = .ok (.iload_n 3, 1) := by decide +kernel
theorem dM_conflicts_14 : decode cM_conflicts 14 = .ok (.iadd, 1) := by decide +kernel
theorem dM_conflicts_15 : decode cM_conflicts 15 = .ok (.iaload, 1) := by decide +kernel
theorem dM_conflicts_16 : decode cM_conflicts 16 = .ok (.iload 4, 2) := by decide +kernel
theorem dM_conflicts_18 : decode cM_conflicts 18 = .ok (.iadd, 1) := by decide +kernel
theorem dM_conflicts_19 : decode cM_conflicts 19 = .ok (.iconst 2, 1) := by decide +kernel
theorem dM_conflicts_20 : decode cM_conflicts 20 = .ok (.if_icmp .le 21, 3) := by decide +kernel
theorem dM_conflicts_23 : decode cM_conflicts 23 = .ok (.aload_n 0, 1) := by decide +kernel
theorem dM_conflicts_24 : decode cM_conflicts 24 = .ok (.getfield 50, 3) := by decide +kernel
theorem dM_conflicts_27 : decode cM_conflicts 27 = .ok (.bipush 9, 2) := by decide +kernel
theorem dM_conflicts_29 : decode cM_conflicts 29 = .ok (.iload_n 2, 1) := by decide +kernel
theorem dM_conflicts_30 : decode cM_conflicts 30 = .ok (.imul, 1) := by decide +kernel
theorem dM_conflicts_31 : decode cM_conflicts 31 = .ok (.iload_n 3, 1) := by decide +kernel
theorem dM_conflicts_32 : decode cM_conflicts 32 = .ok (.iadd, 1) := by decide +kernel
theorem dM_conflicts_33 : decode cM_conflicts 33 = .ok (.iaload, 1) := by decide +kernel
theorem dM_conflicts_34 : decode cM_conflicts 34 = .ok (.ifCond .le 7, 3) := by decide +kernel
theorem dM_conflicts_37 : decode cM_conflicts 37 = .ok (.iconst 1, 1) := by decide +kernel
theorem dM_conflicts_38 : decode cM_conflicts 38 = .ok (.goto 4, 3) := by decide +kernel
theorem dM_conflicts_41 : decode cM_conflicts 41 = .ok (.iconst 0, 1) := by decide +kernel
theorem dM_conflicts_42 : decode cM_conflicts 42 = .ok (.ireturn, 1) := by decide +kernel
theorem dM_take_0 : decode cM_take 0 = .ok (.aload_n 0, 1) := by decide +kernel
theorem dM_take_1 : decode cM_take 1 = .ok (.getfield 19, 3) := by decide +kernel
theorem dM_take_4 : decode cM_take 4 = .ok (.iload_n 2, 1) := by decide +kernel
theorem dM_take_5 : decode cM_take 5 = .ok (.iconst 3, 1) := by decide +kernel
theorem dM_take_6 : decode cM_take 6 = .ok (.irem, 1) := by decide +kernel
theorem dM_take_7 : decode cM_take 7 = .ok (.baload, 1) := by decide +kernel
theorem dM_take_8 : decode cM_take 8 = .ok (.ifCond .eq 5, 3) := by decide +kernel
theorem dM_take_11 : decode cM_take 11 = .ok (.iconst 0, 1) := by decide +kernel
theorem dM_take_12 : decode cM_take 12 = .ok (.ireturn, 1) := by decide +kernel
theorem dM_take_13 : decode cM_take 13 = .ok (.aload_n 0, 1) := by decide +kernel
theorem dM_take_14 : decode cM_take 14 = .ok (.getfield 50, 3) := by decide +kernel
theorem dM_take_17 : decode cM_take 17 = .ok (.bipush 9, 2) := by decide +kernel
theorem dM_take_19 : decode cM_take 19 = .ok (.iload_n 1, 1) := by decide +kernel
theorem dM_take_20 : decode cM_take 20 = .ok (.imul, 1) := by decide +kernel
theorem dM_take_21 : decode cM_take 21 = .ok (.iload_n 2, 1) := by decide +kernel
theorem dM_take_22 : decode cM_take 22 = .ok (.iadd, 1) := by decide +kernel
theorem dM_take_23 : decode cM_take 23 = .ok (.iaload, 1) := by decide +kernel
theorem dM_take_24 : decode cM_take 24 = .ok (.iload_n 3, 1) := by decide +kernel
theorem dM_take_25 : decode cM_take 25 = .ok (.if_icmp .lt 5, 3) := by decide +kernel
theorem dM_take_28 : decode cM_take 28 = .ok (.iconst 1, 1) := by decide +kernel
theorem dM_take_29 : decode cM_take 29 = .ok (.ireturn, 1) := by decide +kernel
theorem dM_take_30 : decode cM_take 30 = .ok (.iconst 0, 1) := by decide +kernel
theorem dM_take_31 : decode cM_take 31 = .ok (.istore 4, 2) := by decide +kernel
theorem dM_take_33 : decode cM_take 33 = .ok (.iload 4, 2) := by decide +kernel
theorem dM_take_35 : decode cM_take 35 = .ok (.iconst 5, 1) := by decide +kernel
theorem dM_take_36 : decode cM_take 36 = .ok (.if_icmp .ge 50, 3) := by decide +kernel
theorem dM_take_39 : decode cM_take 39 = .ok (.aload_n 0, 1) := by decide +kernel
theorem dM_take_40 : decode cM_take 40 = .ok (.iload_n 1, 1) := by decide +kernel
theorem dM_take_41 : decode cM_take 41 = .ok (.iload 4, 2) := by decide +kernel
theorem dM_take_43 : decode cM_take 43 = .ok (.iload_n 2, 1) := by decide +kernel
theorem dM_take_44 : decode cM_take 44 = .ok (.iload_n 3, 1) := by decide +kernel
theorem dM_take_45 : decode cM_take 45 = .ok (.invokevirtual 93, 3) := by decide +kernel
theorem dM_take_48 : decode cM_take 48 = .ok (.ifCond .eq 32, 3) := by decide +kernel
theorem dM_take_51 : decode cM_take 51 = .ok (.aload_n 0, 1) := by decide +kernel
theorem dM_take_52 : decode cM_take 52 = .ok (.getfield 35, 3) := by decide +kernel
theorem dM_take_55 : decode cM_take 55 = .ok (.iload 4, 2) := by decide +kernel
theorem dM_take_57 : decode cM_take 57 = .ok (.iaload, 1) := by decide +kernel
theorem dM_take_58 : decode cM_take 58 = .ok (.iconst 1, 1) := by decide +kernel
theorem dM_take_59 : decode cM_take 59 = .ok (.if_icmp .ne 19, 3) := by decide +kernel
theorem dM_take_62 : decode cM_take 62 = .ok (.aload_n 0, 1) := by decide +kernel
theorem dM_take_63 : decode cM_take 63 = .ok (.getfield 38, 3) := by decide +kernel
theorem dM_take_66 : decode cM_take 66 = .ok (.iload 4, 2) := by decide +kernel
theorem dM_take_68 : decode cM_take 68 = .ok (.iaload, 1) := by decide +kernel
theorem dM_take_69 : decode cM_take 69 = .ok (.aload_n 0, 1) := by decide +kernel
theorem dM_take_70 : decode cM_take 70 = .ok (.getfield 38, 3) := by decide +kernel
theorem dM_take_73 : decode cM_take 73 = .ok (.iload_n 1, 1) := by decide +kernel
theorem dM_take_74 : decode cM_take 74 = .ok (.iaload, 1) := by decide +kernel
theorem dM_take_75 : decode cM_take 75 = .ok (.if_icmp .ge 5, 3) := by decide +kernel
theorem dM_take_78 : decode cM_take 78 = .ok (.iconst 0, 1) := by decide +kernel
theorem dM_take_79 : decode cM_take 79 = .ok (.ireturn, 1) := by decide +kernel
theorem dM_take_80 : decode cM_take 80 = .ok (.iinc 4 1, 3) := by decide +kernel
theorem dM_take_83 : decode cM_take 83 = .ok (.goto (-50), 3) := by decide +kernel
theorem dM_take_86 : decode cM_take 86 = .ok (.iconst 0, 1) := by decide +kernel
theorem dM_take_87 : decode cM_take 87 = .ok (.istore 4, 2) := by decide +kernel
theorem dM_take_89 : decode cM_take 89 = .ok (.iload 4, 2) := by decide +kernel
theorem dM_take_91 : decode cM_take 91 = .ok (.iconst 5, 1) := by decide +kernel
theorem dM_take_92 : decode cM_take 92 = .ok (.if_icmp .ge 27, 3) := by decide +kernel
theorem dM_take_95 : decode cM_take 95 = .ok (.aload_n 0, 1) := by decide +kernel
theorem dM_take_96 : decode cM_take 96 = .ok (.iload_n 1, 1) := by decide +kernel
theorem dM_take_97 : decode cM_take 97 = .ok (.iload 4, 2) := by decide +kernel
theorem dM_take_99 : decode cM_take 99 = .ok (.iload_n 2, 1) := by decide +kernel
theorem dM_take_100 : decode cM_take 100 = .ok (.iload_n 3, 1) := by decide +kernel
theorem dM_take_101 : decode cM_take 101 = .ok (.invokevirtual 93, 3) := by decide +kernel
theorem dM_take_104 : decode cM_take 104 = .ok (.ifCond .eq 9, 3) := by decide +kernel
theorem dM_take_107 : decode cM_take 107 = .ok (.aload_n 0, 1) := by decide +kernel
theorem dM_take_108 : decode cM_take 108 = .ok (.iload 4, 2) := by decide +kernel
theorem dM_take_110 : decode cM_take 110 = .ok (.invokevirtual 97, 3) := by decide +kernel
theorem dM_take_113 : decode cM_take 113 = .ok (.iinc 4 1, 3) := by decide +kernel
theorem dM_take_116 : decode cM_take 116 = .ok (.goto (-27), 3) := by decide +kernel
theorem dM_take_119 : decode cM_take 119 = .ok (.aload_n 0, 1) := by decide +kernel
theorem dM_take_120 : decode cM_take 120 = .ok (.getfield 50, 3) := by decide +kernel
theorem dM_take_123 : decode cM_take 123 = .ok (.bipush 9, 2) := by decide +kernel
theorem dM_take_125 : decode cM_take 125 = .ok (.iload_n 1, 1) := by decide +kernel
theorem dM_take_126 : decode cM_take 126 = .ok (.imul, 1) := by decide +kernel
theorem dM_take_127 : decode cM_take 127 = .ok (.iload_n 2, 1) := by decide +kernel
theorem dM_take_128 : decode cM_take 128 = .ok (.iadd, 1) := by decide +kernel
theorem dM_take_129 : decode cM_take 129 = .ok (.iload_n 3, 1) := by decide +kernel
theorem dM_take_130 : decode cM_take 130 = .ok (.iastore, 1) := by decide +kernel
theorem dM_take_131 : decode cM_take 131 = .ok (.iconst 1, 1) := by decide +kernel
theorem dM_take_132 : decode cM_take 132 = .ok (.ireturn, 1) := by decide +kernel
theorem dM_drop_0 : decode cM_drop 0 = .ok (.aload_n 0, 1) := by decide +kernel
theorem dM_drop_1 : decode cM_drop 1 = .ok (.iload_n 1, 1) := by decide +kernel
theorem dM_drop_2 : decode cM_drop 2 = .ok (.invokevirtual 86, 3) := by decide +kernel
theorem dM_drop_5 : decode cM_drop 5 = .ok (.aload_n 0, 1) := by decide +kernel
theorem dM_drop_6 : decode cM_drop 6 = .ok (.getfield 35, 3) := by decide +kernel
theorem dM_drop_9 : decode cM_drop 9 = .ok (.iload_n 1, 1) := by decide +kernel
theorem dM_drop_10 : decode cM_drop 10 = .ok (.iconst 5, 1) := by decide +kernel
theorem dM_drop_11 : decode cM_drop 11 = .ok (.iastore, 1) := by decide +kernel
theorem dM_drop_12 : decode cM_drop 12 = .ok (.return_, 1) := by decide +kernel
theorem dM_read_0 : decode cM_read 0 = .ok (.aload_n 0, 1) := by decide +kernel
theorem dM_read_1 : decode cM_read 1 = .ok (.iload_n 1, 1) := by decide +kernel
theorem dM_read_2 : decode cM_read 2 = .ok (.invokevirtual 100, 3) := by decide +kernel
theorem dM_read_5 : decode cM_read 5 = .ok (.ifCond .eq 22, 3) := by decide +kernel
theorem dM_read_8 : decode cM_read 8 = .ok (.iload_n 2, 1) := by decide +kernel
theorem dM_read_9 : decode cM_read 9 = .ok (.bipush 9, 2) := by decide +kernel
theorem dM_read_11 : decode cM_read 11 = .ok (.invokestatic 75, 3) := by decide +kernel
theorem dM_read_14 : decode cM_read 14 = .ok (.ifCond .eq 13, 3) := by decide +kernel
theorem dM_read_17 : decode cM_read 17 = .ok (.aload_n 0, 1) := by decide +kernel
theorem dM_read_18 : decode cM_read 18 = .ok (.iload_n 1, 1) := by decide +kernel
theorem dM_read_19 : decode cM_read 19 = .ok (.iload_n 2, 1) := by decide +kernel
theorem dM_read_20 : decode cM_read 20 = .ok (.iconst 1, 1) := by decide +kernel
theorem dM_read_21 : decode cM_read 21 = .ok (.invokevirtual 104, 3) := by decide +kernel
theorem dM_read_24 : decode cM_read 24 = .ok (.ifCond .ne 7, 3) := by decide +kernel
theorem dM_read_27 : decode cM_read 27 = .ok (.ldc2_w 108, 3) := by decide +kernel
theorem dM_read_30 : decode cM_read 30 = .ok (.lreturn, 1) := by decide +kernel
theorem dM_read_31 : decode cM_read 31 = .ok (.aload_n 0, 1) := by decide +kernel
theorem dM_read_32 : decode cM_read 32 = .ok (.getfield 53, 3) := by decide +kernel
theorem dM_read_35 : decode cM_read 35 = .ok (.bipush 9, 2) := by decide +kernel
theorem dM_read_37 : decode cM_read 37 = .ok (.iload_n 1, 1) := by decide +kernel
theorem dM_read_38 : decode cM_read 38 = .ok (.imul, 1) := by decide +kernel
theorem dM_read_39 : decode cM_read 39 = .ok (.iload_n 2, 1) := by decide +kernel
theorem dM_read_40 : decode cM_read 40 = .ok (.iadd, 1) := by decide +kernel
theorem dM_read_41 : decode cM_read 41 = .ok (.baload, 1) := by decide +kernel
theorem dM_read_42 : decode cM_read 42 = .ok (.ifCond .eq 16, 3) := by decide +kernel
theorem dM_read_45 : decode cM_read 45 = .ok (.aload_n 0, 1) := by decide +kernel
theorem dM_read_46 : decode cM_read 46 = .ok (.getfield 56, 3) := by decide +kernel
theorem dM_read_49 : decode cM_read 49 = .ok (.bipush 9, 2) := by decide +kernel
theorem dM_read_51 : decode cM_read 51 = .ok (.iload_n 1, 1) := by decide +kernel
theorem dM_read_52 : decode cM_read 52 = .ok (.imul, 1) := by decide +kernel
theorem dM_read_53 : decode cM_read 53 = .ok (.iload_n 2, 1) := by decide +kernel
theorem dM_read_54 : decode cM_read 54 = .ok (.iadd, 1) := by decide +kernel
theorem dM_read_55 : decode cM_read 55 = .ok (.iaload, 1) := by decide +kernel
theorem dM_read_56 : decode cM_read 56 = .ok (.i2l, 1) := by decide +kernel
theorem dM_read_57 : decode cM_read 57 = .ok (.lreturn, 1) := by decide +kernel
theorem dM_read_58 : decode cM_read 58 = .ok (.aload_n 0, 1) := by decide +kernel
theorem dM_read_59 : decode cM_read 59 = .ok (.iload_n 2, 1) := by decide +kernel
theorem dM_read_60 : decode cM_read 60 = .ok (.iconst 0, 1) := by decide +kernel
theorem dM_read_61 : decode cM_read 61 = .ok (.invokevirtual 110, 3) := by decide +kernel
theorem dM_read_64 : decode cM_read 64 = .ok (.istore_n 3, 1) := by decide +kernel
theorem dM_read_65 : decode cM_read 65 = .ok (.iload_n 3, 1) := by decide +kernel
theorem dM_read_66 : decode cM_read 66 = .ok (.ifCond .ge 7, 3) := by decide +kernel
theorem dM_read_69 : decode cM_read 69 = .ok (.lconst 0, 1) := by decide +kernel
theorem dM_read_70 : decode cM_read 70 = .ok (.goto 10, 3) := by decide +kernel
theorem dM_read_73 : decode cM_read 73 = .ok (.aload_n 0, 1) := by decide +kernel
theorem dM_read_74 : decode cM_read 74 = .ok (.getfield 32, 3) := by decide +kernel
theorem dM_read_77 : decode cM_read 77 = .ok (.iload_n 3, 1) := by decide +kernel
theorem dM_read_78 : decode cM_read 78 = .ok (.iaload, 1) := by decide +kernel
theorem dM_read_79 : decode cM_read 79 = .ok (.i2l, 1) := by decide +kernel
theorem dM_read_80 : decode cM_read 80 = .ok (.lreturn, 1) := by decide +kernel
theorem dM_write_0 : decode cM_write 0 = .ok (.aload_n 0, 1) := by decide +kernel
theorem dM_write_1 : decode cM_write 1 = .ok (.iload_n 1, 1) := by decide +kernel
theorem dM_write_2 : decode cM_write 2 = .ok (.invokevirtual 100, 3) := by decide +kernel
theorem dM_write_5 : decode cM_write 5 = .ok (.ifCond .eq 22, 3) := by decide +kernel
theorem dM_write_8 : decode cM_write 8 = .ok (.iload_n 2, 1) := by decide +kernel
theorem dM_write_9 : decode cM_write 9 = .ok (.bipush 9, 2) := by decide +kernel
theorem dM_write_11 : decode cM_write 11 = .ok (.invokestatic 75, 3) := by decide +kernel
theorem dM_write_14 : decode cM_write 14 = .ok (.ifCond .eq 13, 3) := by decide +kernel
theorem dM_write_17 : decode cM_write 17 = .ok (.aload_n 0, 1) := by decide +kernel
theorem dM_write_18 : decode cM_write 18 = .ok (.iload_n 1, 1) := by decide +kernel
theorem dM_write_19 : decode cM_write 19 = .ok (.iload_n 2, 1) := by decide +kernel
theorem dM_write_20 : decode cM_write 20 = .ok (.iconst 2, 1) := by decide +kernel
theorem dM_write_21 : decode cM_write 21 = .ok (.invokevirtual 104, 3) := by decide +kernel
theorem dM_write_24 : decode cM_write 24 = .ok (.ifCond .ne 5, 3) := by decide +kernel
theorem dM_write_27 : decode cM_write 27 = .ok (.iconst 0, 1) := by decide +kernel
theorem dM_write_28 : decode cM_write 28 = .ok (.ireturn, 1) := by decide +kernel
theorem dM_write_29 : decode cM_write 29 = .ok (.aload_n 0, 1) := by decide +kernel
theorem dM_write_30 : decode cM_write 30 = .ok (.getfield 53, 3) := by decide +kernel
theorem dM_write_33 : decode cM_write 33 = .ok (.bipush 9, 2) := by decide +kernel
theorem dM_write_35 : decode cM_write 35 = .ok (.iload_n 1, 1) := by decide +kernel
theorem dM_write_36 : decode cM_write 36 = .ok (.imul, 1) := by decide +kernel
theorem dM_write_37 : decode cM_write 37 = .ok (.iload_n 2, 1) := by decide +kernel
theorem dM_write_38 : decode cM_write 38 = .ok (.iadd, 1) := by decide +kernel
theorem dM_write_39 : decode cM_write 39 = .ok (.iconst 1, 1) := by decide +kernel
theorem dM_write_40 : decode cM_write 40 = .ok (.bastore, 1) := by decide +kernel
theorem dM_write_41 : decode cM_write 41 = .ok (.aload_n 0, 1) := by decide +kernel
theorem dM_write_42 : decode cM_write 42 = .ok (.getfield 56, 3) := by decide +kernel
theorem dM_write_45 : decode cM_write 45 = .ok (.bipush 9, 2) := by decide +kernel
theorem dM_write_47 : decode cM_write 47 = .ok (.iload_n 1, 1) := by decide +kernel
theorem dM_write_48 : decode cM_write 48 = .ok (.imul, 1) := by decide +kernel
theorem dM_write_49 : decode cM_write 49 = .ok (.iload_n 2, 1) := by decide +kernel
theorem dM_write_50 : decode cM_write 50 = .ok (.iadd, 1) := by decide +kernel
theorem dM_write_51 : decode cM_write 51 = .ok (.iload_n 3, 1) := by decide +kernel
theorem dM_write_52 : decode cM_write 52 = .ok (.iastore, 1) := by decide +kernel
theorem dM_write_53 : decode cM_write 53 = .ok (.iconst 1, 1) := by decide +kernel
theorem dM_write_54 : decode cM_write 54 = .ok (.ireturn, 1) := by decide +kernel
theorem dM_abort_0 : decode cM_abort 0 = .ok (.aload_n 0, 1) := by decide +kernel
theorem dM_abort_1 : decode cM_abort 1 = .ok (.iload_n 1, 1) := by decide +kernel
theorem dM_abort_2 : decode cM_abort 2 = .ok (.invokevirtual 100, 3) := by decide +kernel
theorem dM_abort_5 : decode cM_abort 5 = .ok (.ifCond .ne 5, 3) := by decide +kernel
theorem dM_abort_8 : decode cM_abort 8 = .ok (.iconst 0, 1) := by decide +kernel
theorem dM_abort_9 : decode cM_abort 9 = .ok (.ireturn, 1) := by decide +kernel
theorem dM_abort_10 : decode cM_abort 10 = .ok (.aload_n 0, 1) := by decide +kernel
theorem dM_abort_11 : decode cM_abort 11 = .ok (.iload_n 1, 1) := by decide +kernel
theorem dM_abort_12 : decode cM_abort 12 = .ok (.invokevirtual 97, 3) := by decide +kernel
theorem dM_abort_15 : decode cM_abort 15 = .ok (.iconst 1, 1) := by decide +kernel
theorem dM_abort_16 : decode cM_abort 16 = .ok (.ireturn, 1) := by decide +kernel
theorem dM_send_0 : decode cM_send 0 = .ok (.bipush 15, 2) := by decide +kernel
theorem dM_send_2 : decode cM_send 2 = .ok (.iload_n 1, 1) := by decide +kernel
theorem dM_send_3 : decode cM_send 3 = .ok (.imul, 1) := by decide +kernel
theorem dM_send_4 : decode cM_send 4 = .ok (.iconst 3, 1) := by decide +kernel
theorem dM_send_5 : decode cM_send 5 = .ok (.iload_n 2, 1) := by decide +kernel
theorem dM_send_6 : decode cM_send 6 = .ok (.imul, 1) := by decide +kernel
theorem dM_send_7 : decode cM_send 7 = .ok (.iadd, 1) := by decide +kernel
theorem dM_send_8 : decode cM_send 8 = .ok (.iload_n 3, 1) := by decide +kernel
theorem dM_send_9 : decode cM_send 9 = .ok (.iadd, 1) := by decide +kernel
theorem dM_send_10 : decode cM_send 10 = .ok (.istore 5, 2) := by decide +kernel
theorem dM_send_12 : decode cM_send 12 = .ok (.aload_n 0, 1) := by decide +kernel
theorem dM_send_13 : decode cM_send 13 = .ok (.getfield 65, 3) := by decide +kernel
theorem dM_send_16 : decode cM_send 16 = .ok (.iload 5, 2) := by decide +kernel
theorem dM_send_18 : decode cM_send 18 = .ok (.aload_n 0, 1) := by decide +kernel
theorem dM_send_19 : decode cM_send 19 = .ok (.getfield 114, 3) := by decide +kernel
theorem dM_send_22 : decode cM_send 22 = .ok (.iconst 1, 1) := by decide +kernel
theorem dM_send_23 : decode cM_send 23 = .ok (.iadd, 1) := by decide +kernel
theorem dM_send_24 : decode cM_send 24 = .ok (.aload_n 0, 1) := by decide +kernel
theorem dM_send_25 : decode cM_send 25 = .ok (.getfield 16, 3) := by decide +kernel
theorem dM_send_28 : decode cM_send 28 = .ok (.iload_n 3, 1) := by decide +kernel
theorem dM_send_29 : decode cM_send 29 = .ok (.iaload, 1) := by decide +kernel
theorem dM_send_30 : decode cM_send 30 = .ok (.iadd, 1) := by decide +kernel
theorem dM_send_31 : decode cM_send 31 = .ok (.aload_n 0, 1) := by decide +kernel
theorem dM_send_32 : decode cM_send 32 = .ok (.getfield 16, 3) := by decide +kernel
theorem dM_send_35 : decode cM_send 35 = .ok (.iload 4, 2) := by decide +kernel
theorem dM_send_37 : decode cM_send 37 = .ok (.iaload, 1) := by decide +kernel
theorem dM_send_38 : decode cM_send 38 = .ok (.iadd, 1) := by decide +kernel
theorem dM_send_39 : decode cM_send 39 = .ok (.iastore, 1) := by decide +kernel
theorem dM_send_40 : decode cM_send 40 = .ok (.aload_n 0, 1) := by decide +kernel
theorem dM_send_41 : decode cM_send 41 = .ok (.dup, 1) := by decide +kernel
theorem dM_send_42 : decode cM_send 42 = .ok (.getfield 117, 3) := by decide +kernel
theorem dM_send_45 : decode cM_send 45 = .ok (.iconst 1, 1) := by decide +kernel
theorem dM_send_46 : decode cM_send 46 = .ok (.iadd, 1) := by decide +kernel
theorem dM_send_47 : decode cM_send 47 = .ok (.putfield 117, 3) := by decide +kernel
theorem dM_send_50 : decode cM_send 50 = .ok (.aload_n 0, 1) := by decide +kernel
theorem dM_send_51 : decode cM_send 51 = .ok (.getfield 68, 3) := by decide +kernel
theorem dM_send_54 : decode cM_send 54 = .ok (.iload 5, 2) := by decide +kernel
theorem dM_send_56 : decode cM_send 56 = .ok (.aload_n 0, 1) := by decide +kernel
theorem dM_send_57 : decode cM_send 57 = .ok (.getfield 117, 3) := by decide +kernel
theorem dM_send_60 : decode cM_send 60 = .ok (.iastore, 1) := by decide +kernel
theorem dM_send_61 : decode cM_send 61 = .ok (.return_, 1) := by decide +kernel
theorem dM_sendAll_0 : decode cM_sendAll 0 = .ok (.iload_n 3, 1) := by decide +kernel
theorem dM_sendAll_1 : decode cM_sendAll 1 = .ok (.iconst 1, 1) := by decide +kernel
theorem dM_sendAll_2 : decode cM_sendAll 2 = .ok (.iadd, 1) := by decide +kernel
theorem dM_sendAll_3 : decode cM_sendAll 3 = .ok (.istore 4, 2) := by decide +kernel
theorem dM_sendAll_5 : decode cM_sendAll 5 = .ok (.iload 4, 2) := by decide +kernel
theorem dM_sendAll_7 : decode cM_sendAll 7 = .ok (.iconst 3, 1) := by decide +kernel
theorem dM_sendAll_8 : decode cM_sendAll 8 = .ok (.if_icmp .ge 28, 3) := by decide +kernel
theorem dM_sendAll_11 : decode cM_sendAll 11 = .ok (.aload_n 0, 1) := by decide +kernel
theorem dM_sendAll_12 : decode cM_sendAll 12 = .ok (.iload_n 2, 1) := by decide +kernel
theorem dM_sendAll_13 : decode cM_sendAll 13 = .ok (.iload 4, 2) := by decide +kernel
theorem dM_sendAll_15 : decode cM_sendAll 15 = .ok (.invokevirtual 79, 3) := by decide +kernel
theorem dM_sendAll_18 : decode cM_sendAll 18 = .ok (.ifCond .eq 12, 3) := by decide +kernel
theorem dM_sendAll_21 : decode cM_sendAll 21 = .ok (.aload_n 0, 1) := by decide +kernel
theorem dM_sendAll_22 : decode cM_sendAll 22 = .ok (.iload_n 1, 1) := by decide +kernel
theorem dM_sendAll_23 : decode cM_sendAll 23 = .ok (.iload_n 2, 1) := by decide +kernel
theorem dM_sendAll_24 : decode cM_sendAll 24 = .ok (.iload 4, 2) := by decide +kernel
theorem dM_sendAll_26 : decode cM_sendAll 26 = .ok (.iload_n 3, 1) := by decide +kernel
theorem dM_sendAll_27 : decode cM_sendAll 27 = .ok (.invokevirtual 120, 3) := by decide +kernel
theorem dM_sendAll_30 : decode cM_sendAll 30 = .ok (.iinc 4 1, 3) := by decide +kernel
theorem dM_sendAll_33 : decode cM_sendAll 33 = .ok (.goto (-28), 3) := by decide +kernel
theorem dM_sendAll_36 : decode cM_sendAll 36 = .ok (.return_, 1) := by decide +kernel
theorem dM_commit_0 : decode cM_commit 0 = .ok (.aload_n 0, 1) := by decide +kernel
theorem dM_commit_1 : decode cM_commit 1 = .ok (.iload_n 1, 1) := by decide +kernel
theorem dM_commit_2 : decode cM_commit 2 = .ok (.invokevirtual 100, 3) := by decide +kernel
theorem dM_commit_5 : decode cM_commit 5 = .ok (.ifCond .eq 25, 3) := by decide +kernel
theorem dM_commit_8 : decode cM_commit 8 = .ok (.aload_n 0, 1) := by decide +kernel
theorem dM_commit_9 : decode cM_commit 9 = .ok (.iload_n 1, 1) := by decide +kernel
theorem dM_commit_10 : decode cM_commit 10 = .ok (.invokevirtual 82, 3) := by decide +kernel
theorem dM_commit_13 : decode cM_commit 13 = .ok (.iconst 3, 1) := by decide +kernel
theorem dM_commit_14 : decode cM_commit 14 = .ok (.if_icmp .eq 16, 3) := by decide +kernel
theorem dM_commit_17 : decode cM_commit 17 = .ok (.aload_n 0, 1) := by decide +kernel
theorem dM_commit_18 : decode cM_commit 18 = .ok (.getfield 19, 3) := by decide +kernel
theorem dM_commit_21 : decode cM_commit 21 = .ok (.aload_n 0, 1) := by decide +kernel
theorem dM_commit_22 : decode cM_commit 22 = .ok (.iload_n 1, 1) := by decide +kernel
theorem dM_commit_23 : decode cM_commit 23 = .ok (.invokevirtual 82, 3) := by decide +kernel
theorem dM_commit_26 : decode cM_commit 26 = .ok (.baload, 1) := by decide +kernel
theorem dM_commit_27 : decode cM_commit 27 = .ok (.ifCond .eq 5, 3) := by decide +kernel
theorem dM_commit_30 : decode cM_commit 30 = .ok (.iconst 0, 1) := by decide +kernel
theorem dM_commit_31 : decode cM_commit 31 = .ok (.ireturn, 1) := by decide +kernel
theorem dM_commit_32 : decode cM_commit 32 = .ok (.aload_n 0, 1) := by decide +kernel
theorem dM_commit_33 : decode cM_commit 33 = .ok (.iload_n 1, 1) := by decide +kernel
theorem dM_commit_34 : decode cM_commit 34 = .ok (.invokevirtual 82, 3) := by decide +kernel
theorem dM_commit_37 : decode cM_commit 37 = .ok (.istore_n 2, 1) := by decide +kernel
theorem dM_commit_38 : decode cM_commit 38 = .ok (.aload_n 0, 1) := by decide +kernel
theorem dM_commit_39 : decode cM_commit 39 = .ok (.getfield 35, 3) := by decide +kernel
theorem dM_commit_42 : decode cM_commit 42 = .ok (.iload_n 1, 1) := by decide +kernel
theorem dM_commit_43 : decode cM_commit 43 = .ok (.iconst 2, 1) := by decide +kernel
theorem dM_commit_44 : decode cM_commit 44 = .ok (.iastore, 1) := by decide +kernel
theorem dM_commit_45 : decode cM_commit 45 = .ok (.aload_n 0, 1) := by decide +kernel
theorem dM_commit_46 : decode cM_commit 46 = .ok (.getfield 44, 3) := by decide +kernel
theorem dM_commit_49 : decode cM_commit 49 = .ok (.iload_n 1, 1) := by decide +kernel
theorem dM_commit_50 : decode cM_commit 50 = .ok (.aload_n 0, 1) := by decide +kernel
theorem dM_commit_51 : decode cM_commit 51 = .ok (.getfield 114, 3) := by decide +kernel
theorem dM_commit_54 : decode cM_commit 54 = .ok (.aload_n 0, 1) := by decide +kernel
theorem dM_commit_55 : decode cM_commit 55 = .ok (.getfield 13, 3) := by decide +kernel
theorem dM_commit_58 : decode cM_commit 58 = .ok (.iload_n 2, 1) := by decide +kernel
theorem dM_commit_59 : decode cM_commit 59 = .ok (.iaload, 1) := by decide +kernel
theorem dM_commit_60 : decode cM_commit 60 = .ok (.iadd, 1) := by decide +kernel
theorem dM_commit_61 : decode cM_commit 61 = .ok (.iconst 1, 1) := by decide +kernel
theorem dM_commit_62 : decode cM_commit 62 = .ok (.iadd, 1) := by decide +kernel
theorem dM_commit_63 : decode cM_commit 63 = .ok (.iastore, 1) := by decide +kernel
theorem dM_commit_64 : decode cM_commit 64 = .ok (.iconst 0, 1) := by decide +kernel
theorem dM_commit_65 : decode cM_commit 65 = .ok (.istore_n 3, 1) := by decide +kernel
theorem dM_commit_66 : decode cM_commit 66 = .ok (.iload_n 3, 1) := by decide +kernel
theorem dM_commit_67 : decode cM_commit 67 = .ok (.iconst 3, 1) := by decide +kernel
theorem dM_commit_68 : decode cM_commit 68 = .ok (.if_icmp .ge 20, 3) := by decide +kernel
theorem dM_commit_71 : decode cM_commit 71 = .ok (.aload_n 0, 1) := by decide +kernel
theorem dM_commit_72 : decode cM_commit 72 = .ok (.getfield 59, 3) := by decide +kernel
theorem dM_commit_75 : decode cM_commit 75 = .ok (.iconst 3, 1) := by decide +kernel
theorem dM_commit_76 : decode cM_commit 76 = .ok (.iload_n 1, 1) := by decide +kernel
theorem dM_commit_77 : decode cM_commit 77 = .ok (.imul, 1) := by decide +kernel
theorem dM_commit_78 : decode cM_commit 78 = .ok (.iload_n 3, 1) := by decide +kernel
theorem dM_commit_79 : decode cM_commit 79 = .ok (.iadd, 1) := by decide +kernel
theorem dM_commit_80 : decode cM_commit 80 = .ok (.iconst 0, 1) := by decide +kernel
theorem dM_commit_81 : decode cM_commit 81 = .ok (.bastore, 1) := by decide +kernel
theorem dM_commit_82 : decode cM_commit 82 = .ok (.iinc 3 1, 3) := by decide +kernel
theorem dM_commit_85 : decode cM_commit 85 = .ok (.goto (-19), 3) := by decide +kernel
theorem dM_commit_88 : decode cM_commit 88 = .ok (.aload_n 0, 1) := by decide +kernel
theorem dM_commit_89 : decode cM_commit 89 = .ok (.iconst 0, 1) := by decide +kernel
theorem dM_commit_90 : decode cM_commit 90 = .ok (.iload_n 1, 1) := by decide +kernel
theorem dM_commit_91 : decode cM_commit 91 = .ok (.iload_n 2, 1) := by decide +kernel
theorem dM_commit_92 : decode cM_commit 92 = .ok (.invokevirtual 124, 3) := by decide +kernel
theorem dM_commit_95 : decode cM_commit 95 = .ok (.aload_n 0, 1) := by decide +kernel
theorem dM_commit_96 : decode cM_commit 96 = .ok (.iload_n 1, 1) := by decide +kernel
theorem dM_commit_97 : decode cM_commit 97 = .ok (.invokevirtual 128, 3) := by decide +kernel
theorem dM_commit_100 : decode cM_commit 100 = .ok (.iconst 1, 1) := by decide +kernel
theorem dM_commit_101 : decode cM_commit 101 = .ok (.ireturn, 1) := by decide +kernel
theorem dM_stampIfAll_0 : decode cM_stampIfAll 0 = .ok (.aload_n 0, 1) := by decide +kernel
theorem dM_stampIfAll_1 : decode cM_stampIfAll 1 = .ok (.iload_n 1, 1) := by decide +kernel
theorem dM_stampIfAll_2 : decode cM_stampIfAll 2 = .ok (.invokevirtual 82, 3) := by decide +kernel
theorem dM_stampIfAll_5 : decode cM_stampIfAll 5 = .ok (.istore_n 2, 1) := by decide +kernel
theorem dM_stampIfAll_6 : decode cM_stampIfAll 6 = .ok (.aload_n 0, 1) := by decide +kernel
theorem dM_stampIfAll_7 : decode cM_stampIfAll 7 = .ok (.getfield 44, 3) := by decide +kernel
theorem dM_stampIfAll_10 : decode cM_stampIfAll 10 = .ok (.iload_n 1, 1) := by decide +kernel
theorem dM_stampIfAll_11 : decode cM_stampIfAll 11 = .ok (.iaload, 1) := by decide +kernel
theorem dM_stampIfAll_12 : decode cM_stampIfAll 12 = .ok (.aload_n 0, 1) := by decide +kernel
theorem dM_stampIfAll_13 : decode cM_stampIfAll 13 = .ok (.getfield 23, 3) := by decide +kernel
theorem dM_stampIfAll_16 : decode cM_stampIfAll 16 = .ok (.iload_n 2, 1) := by decide +kernel
theorem dM_stampIfAll_17 : decode cM_stampIfAll 17 = .ok (.iaload, 1) := by decide +kernel
theorem dM_stampIfAll_18 : decode cM_stampIfAll 18 = .ok (.iconst 1, 1) := by decide +kernel
theorem dM_stampIfAll_19 : decode cM_stampIfAll 19 = .ok (.iadd, 1) := by decide +kernel
theorem dM_stampIfAll_20 : decode cM_stampIfAll 20 = .ok (.if_icmp .le 12, 3) := by decide +kernel
theorem dM_stampIfAll_23 : decode cM_stampIfAll 23 = .ok (.aload_n 0, 1) := by decide +kernel
theorem dM_stampIfAll_24 : decode cM_stampIfAll 24 = .ok (.getfield 44, 3) := by decide +kernel
theorem dM_stampIfAll_27 : decode cM_stampIfAll 27 = .ok (.iload_n 1, 1) := by decide +kernel
theorem dM_stampIfAll_28 : decode cM_stampIfAll 28 = .ok (.iaload, 1) := by decide +kernel
theorem dM_stampIfAll_29 : decode cM_stampIfAll 29 = .ok (.goto 11, 3) := by decide +kernel
theorem dM_stampIfAll_32 : decode cM_stampIfAll 32 = .ok (.aload_n 0, 1) := by decide +kernel
theorem dM_stampIfAll_33 : decode cM_stampIfAll 33 = .ok (.getfield 23, 3) := by decide +kernel
theorem dM_stampIfAll_36 : decode cM_stampIfAll 36 = .ok (.iload_n 2, 1) := by decide +kernel
theorem dM_stampIfAll_37 : decode cM_stampIfAll 37 = .ok (.iaload, 1) := by decide +kernel
theorem dM_stampIfAll_38 : decode cM_stampIfAll 38 = .ok (.iconst 1, 1) := by decide +kernel
theorem dM_stampIfAll_39 : decode cM_stampIfAll 39 = .ok (.iadd, 1) := by decide +kernel
theorem dM_stampIfAll_40 : decode cM_stampIfAll 40 = .ok (.istore_n 3, 1) := by decide +kernel
theorem dM_stampIfAll_41 : decode cM_stampIfAll 41 = .ok (.iload_n 2, 1) := by decide +kernel
theorem dM_stampIfAll_42 : decode cM_stampIfAll 42 = .ok (.iconst 1, 1) := by decide +kernel
theorem dM_stampIfAll_43 : decode cM_stampIfAll 43 = .ok (.iadd, 1) := by decide +kernel
theorem dM_stampIfAll_44 : decode cM_stampIfAll 44 = .ok (.istore 4, 2) := by decide +kernel
theorem dM_stampIfAll_46 : decode cM_stampIfAll 46 = .ok (.iload 4, 2) := by decide +kernel
theorem dM_stampIfAll_48 : decode cM_stampIfAll 48 = .ok (.iconst 3, 1) := by decide +kernel
theorem dM_stampIfAll_49 : decode cM_stampIfAll 49 = .ok (.if_icmp .ge 90, 3) := by decide +kernel
theorem dM_stampIfAll_52 : decode cM_stampIfAll 52 = .ok (.aload_n 0, 1) := by decide +kernel
theorem dM_stampIfAll_53 : decode cM_stampIfAll 53 = .ok (.getfield 65, 3) := by decide +kernel
theorem dM_stampIfAll_56 : decode cM_stampIfAll 56 = .ok (.iconst 3, 1) := by decide +kernel
theorem dM_stampIfAll_57 : decode cM_stampIfAll 57 = .ok (.iload_n 1, 1) := by decide +kernel
theorem dM_stampIfAll_58 : decode cM_stampIfAll 58 = .ok (.imul, 1) := by decide +kernel
theorem dM_stampIfAll_59 : decode cM_stampIfAll 59 = .ok (.iload 4, 2) := by decide +kernel
theorem dM_stampIfAll_61 : decode cM_stampIfAll 61 = .ok (.iadd, 1) := by decide +kernel
theorem dM_stampIfAll_62 : decode cM_stampIfAll 62 = .ok (.iaload, 1) := by decide +kernel
theorem dM_stampIfAll_63 : decode cM_stampIfAll 63 = .ok (.ifCond .gt 20, 3) := by decide +kernel
theorem dM_stampIfAll_66 : decode cM_stampIfAll 66 = .ok (.aload_n 0, 1) := by decide +kernel
theorem dM_stampIfAll_67 : decode cM_stampIfAll 67 = .ok (.getfield 65, 3) := by decide +kernel
theorem dM_stampIfAll_70 : decode cM_stampIfAll 70 = .ok (.bipush 15, 2) := by decide +kernel
theorem dM_stampIfAll_72 : decode cM_stampIfAll 72 = .ok (.iconst 3, 1) := by decide +kernel
theorem dM_stampIfAll_73 : decode cM_stampIfAll 73 = .ok (.iload_n 1, 1) := by decide +kernel
theorem dM_stampIfAll_74 : decode cM_stampIfAll 74 = .ok (.imul, 1) := by decide +kernel
theorem dM_stampIfAll_75 : decode cM_stampIfAll 75 = .ok (.iadd, 1) := by decide +kernel
theorem dM_stampIfAll_76 : decode cM_stampIfAll 76 = .ok (.iload 4, 2) := by decide +kernel
theorem dM_stampIfAll_78 : decode cM_stampIfAll 78 = .ok (.iadd, 1) := by decide +kernel
theorem dM_stampIfAll_79 : decode cM_stampIfAll 79 = .ok (.iaload, 1) := by decide +kernel
theorem dM_stampIfAll_80 : decode cM_stampIfAll 80 = .ok (.ifCond .le 7, 3) := by decide +kernel
theorem dM_stampIfAll_83 : decode cM_stampIfAll 83 = .ok (.iconst 1, 1) := by decide +kernel
theorem dM_stampIfAll_84 : decode cM_stampIfAll 84 = .ok (.goto 4, 3) := by decide +kernel
theorem dM_stampIfAll_87 : decode cM_stampIfAll 87 = .ok (.iconst 0, 1) := by decide +kernel
theorem dM_stampIfAll_88 : decode cM_stampIfAll 88 = .ok (.istore 5, 2) := by decide +kernel
theorem dM_stampIfAll_90 : decode cM_stampIfAll 90 = .ok (.iload 5, 2) := by decide +kernel
theorem dM_stampIfAll_92 : decode cM_stampIfAll 92 = .ok (.ifCond .eq 4, 3) := by decide +kernel
theorem dM_stampIfAll_95 : decode cM_stampIfAll 95 = .ok (.return_, 1) := by decide +kernel
theorem dM_stampIfAll_96 : decode cM_stampIfAll 96 = .ok (.aload_n 0, 1) := by decide +kernel
theorem dM_stampIfAll_97 : decode cM_stampIfAll 97 = .ok (.iload_n 1, 1) := by decide +kernel
theorem dM_stampIfAll_98 : decode cM_stampIfAll 98 = .ok (.iload 4, 2) := by decide +kernel
theorem dM_stampIfAll_100 : decode cM_stampIfAll 100 = .ok (.invokevirtual 79, 3) := by decide +kernel
theorem dM_stampIfAll_103 : decode cM_stampIfAll 103 = .ok (.ifCond .eq 30, 3) := by decide +kernel
theorem dM_stampIfAll_106 : decode cM_stampIfAll 106 = .ok (.aload_n 0, 1) := by decide +kernel
theorem dM_stampIfAll_107 : decode cM_stampIfAll 107 = .ok (.getfield 62, 3) := by decide +kernel
theorem dM_stampIfAll_110 : decode cM_stampIfAll 110 = .ok (.iconst 3, 1) := by decide +kernel
theorem dM_stampIfAll_111 : decode cM_stampIfAll 111 = .ok (.iload_n 1, 1) := by decide +kernel
theorem dM_stampIfAll_112 : decode cM_stampIfAll 112 = .ok (.imul, 1) := by decide +kernel
theorem dM_stampIfAll_113 : decode cM_stampIfAll 113 = .ok (.iload 4, 2) := by decide +kernel
theorem dM_stampIfAll_115 : decode cM_stampIfAll 115 = .ok (.iadd, 1) := by decide +kernel
theorem dM_stampIfAll_116 : decode cM_stampIfAll 116 = .ok (.iaload, 1) := by decide +kernel
theorem dM_stampIfAll_117 : decode cM_stampIfAll 117 = .ok (.iload_n 3, 1) := by decide +kernel
theorem dM_stampIfAll_118 : decode cM_stampIfAll 118 = .ok (.if_icmp .le 15, 3) := by decide +kernel
theorem dM_stampIfAll_121 : decode cM_stampIfAll 121 = .ok (.aload_n 0, 1) := by decide +kernel
theorem dM_stampIfAll_122 : decode cM_stampIfAll 122 = .ok (.getfield 62, 3) := by decide +kernel
theorem dM_stampIfAll_125 : decode cM_stampIfAll 125 = .ok (.iconst 3, 1) := by decide +kernel
theorem dM_stampIfAll_126 : decode cM_stampIfAll 126 = .ok (.iload_n 1, 1) := by decide +kernel
theorem dM_stampIfAll_127 : decode cM_stampIfAll 127 = .ok (.imul, 1) := by decide +kernel
theorem dM_stampIfAll_128 : decode cM_stampIfAll 128 = .ok (.iload 4, 2) := by decide +kernel
theorem dM_stampIfAll_130 : decode cM_stampIfAll 130 = .ok (.iadd, 1) := by decide +kernel
theorem dM_stampIfAll_131 : decode cM_stampIfAll 131 = .ok (.iaload, 1) := by decide +kernel
theorem dM_stampIfAll_132 : decode cM_stampIfAll 132 = .ok (.istore_n 3, 1) := by decide +kernel
theorem dM_stampIfAll_133 : decode cM_stampIfAll 133 = .ok (.iinc 4 1, 3) := by decide +kernel
theorem dM_stampIfAll_136 : decode cM_stampIfAll 136 = .ok (.goto (-90), 3) := by decide +kernel
theorem dM_stampIfAll_139 : decode cM_stampIfAll 139 = .ok (.aload_n 0, 1) := by decide +kernel
theorem dM_stampIfAll_140 : decode cM_stampIfAll 140 = .ok (.getfield 41, 3) := by decide +kernel
theorem dM_stampIfAll_143 : decode cM_stampIfAll 143 = .ok (.iload_n 1, 1) := by decide +kernel
theorem dM_stampIfAll_144 : decode cM_stampIfAll 144 = .ok (.iload_n 3, 1) := by decide +kernel
theorem dM_stampIfAll_145 : decode cM_stampIfAll 145 = .ok (.iastore, 1) := by decide +kernel
theorem dM_stampIfAll_146 : decode cM_stampIfAll 146 = .ok (.aload_n 0, 1) := by decide +kernel
theorem dM_stampIfAll_147 : decode cM_stampIfAll 147 = .ok (.iload_n 1, 1) := by decide +kernel
theorem dM_stampIfAll_148 : decode cM_stampIfAll 148 = .ok (.iload_n 2, 1) := by decide +kernel
theorem dM_stampIfAll_149 : decode cM_stampIfAll 149 = .ok (.iload_n 3, 1) := by decide +kernel
theorem dM_stampIfAll_150 : decode cM_stampIfAll 150 = .ok (.invokevirtual 131, 3) := by decide +kernel
theorem dM_stampIfAll_153 : decode cM_stampIfAll 153 = .ok (.aload_n 0, 1) := by decide +kernel
theorem dM_stampIfAll_154 : decode cM_stampIfAll 154 = .ok (.getfield 35, 3) := by decide +kernel
theorem dM_stampIfAll_157 : decode cM_stampIfAll 157 = .ok (.iload_n 1, 1) := by decide +kernel
theorem dM_stampIfAll_158 : decode cM_stampIfAll 158 = .ok (.iconst 3, 1) := by decide +kernel
theorem dM_stampIfAll_159 : decode cM_stampIfAll 159 = .ok (.iastore, 1) := by decide +kernel
theorem dM_stampIfAll_160 : decode cM_stampIfAll 160 = .ok (.return_, 1) := by decide +kernel
theorem dM_put_0 : decode cM_put 0 = .ok (.aload_n 0, 1) := by decide +kernel
theorem dM_put_1 : decode cM_put 1 = .ok (.getfield 59, 3) := by decide +kernel
theorem dM_put_4 : decode cM_put 4 = .ok (.iconst 3, 1) := by decide +kernel
theorem dM_put_5 : decode cM_put 5 = .ok (.iload_n 1, 1) := by decide +kernel
theorem dM_put_6 : decode cM_put 6 = .ok (.imul, 1) := by decide +kernel
theorem dM_put_7 : decode cM_put 7 = .ok (.iload_n 2, 1) := by decide +kernel
theorem dM_put_8 : decode cM_put 8 = .ok (.iadd, 1) := by decide +kernel
theorem dM_put_9 : decode cM_put 9 = .ok (.iconst 1, 1) := by decide +kernel
theorem dM_put_10 : decode cM_put 10 = .ok (.bastore, 1) := by decide +kernel
theorem dM_put_11 : decode cM_put 11 = .ok (.aload_n 0, 1) := by decide +kernel
theorem dM_put_12 : decode cM_put 12 = .ok (.getfield 62, 3) := by decide +kernel
theorem dM_put_15 : decode cM_put 15 = .ok (.iconst 3, 1) := by decide +kernel
theorem dM_put_16 : decode cM_put 16 = .ok (.iload_n 1, 1) := by decide +kernel
theorem dM_put_17 : decode cM_put 17 = .ok (.imul, 1) := by decide +kernel
theorem dM_put_18 : decode cM_put 18 = .ok (.iload_n 2, 1) := by decide +kernel
theorem dM_put_19 : decode cM_put 19 = .ok (.iadd, 1) := by decide +kernel
theorem dM_put_20 : decode cM_put 20 = .ok (.iload_n 3, 1) := by decide +kernel
theorem dM_put_21 : decode cM_put 21 = .ok (.iastore, 1) := by decide +kernel
theorem dM_put_22 : decode cM_put 22 = .ok (.aload_n 0, 1) := by decide +kernel
theorem dM_put_23 : decode cM_put 23 = .ok (.getfield 23, 3) := by decide +kernel
theorem dM_put_26 : decode cM_put 26 = .ok (.iload_n 2, 1) := by decide +kernel
theorem dM_put_27 : decode cM_put 27 = .ok (.iload_n 3, 1) := by decide +kernel
theorem dM_put_28 : decode cM_put 28 = .ok (.iastore, 1) := by decide +kernel
theorem dM_put_29 : decode cM_put 29 = .ok (.return_, 1) := by decide +kernel
theorem dM_deal_0 : decode cM_deal 0 = .ok (.iload_n 1, 1) := by decide +kernel
theorem dM_deal_1 : decode cM_deal 1 = .ok (.bipush 15, 2) := by decide +kernel
theorem dM_deal_3 : decode cM_deal 3 = .ok (.idiv, 1) := by decide +kernel
theorem dM_deal_4 : decode cM_deal 4 = .ok (.istore_n 2, 1) := by decide +kernel
theorem dM_deal_5 : decode cM_deal 5 = .ok (.iload_n 1, 1) := by decide +kernel
theorem dM_deal_6 : decode cM_deal 6 = .ok (.bipush 15, 2) := by decide +kernel
theorem dM_deal_8 : decode cM_deal 8 = .ok (.irem, 1) := by decide +kernel
theorem dM_deal_9 : decode cM_deal 9 = .ok (.iconst 3, 1) := by decide +kernel
theorem dM_deal_10 : decode cM_deal 10 = .ok (.idiv, 1) := by decide +kernel
theorem dM_deal_11 : decode cM_deal 11 = .ok (.istore_n 3, 1) := by decide +kernel
theorem dM_deal_12 : decode cM_deal 12 = .ok (.iload_n 1, 1) := by decide +kernel
theorem dM_deal_13 : decode cM_deal 13 = .ok (.iconst 3, 1) := by decide +kernel
theorem dM_deal_14 : decode cM_deal 14 = .ok (.irem, 1) := by decide +kernel
theorem dM_deal_15 : decode cM_deal 15 = .ok (.istore 4, 2) := by decide +kernel
theorem dM_deal_17 : decode cM_deal 17 = .ok (.aload_n 0, 1) := by decide +kernel
theorem dM_deal_18 : decode cM_deal 18 = .ok (.getfield 65, 3) := by decide +kernel
theorem dM_deal_21 : decode cM_deal 21 = .ok (.iload_n 1, 1) := by decide +kernel
theorem dM_deal_22 : decode cM_deal 22 = .ok (.iconst 0, 1) := by decide +kernel
theorem dM_deal_23 : decode cM_deal 23 = .ok (.iastore, 1) := by decide +kernel
theorem dM_deal_24 : decode cM_deal 24 = .ok (.iload_n 2, 1) := by decide +kernel
theorem dM_deal_25 : decode cM_deal 25 = .ok (.ifCond .ne 82, 3) := by decide +kernel
theorem dM_deal_28 : decode cM_deal 28 = .ok (.aload_n 0, 1) := by decide +kernel
theorem dM_deal_29 : decode cM_deal 29 = .ok (.getfield 114, 3) := by decide +kernel
theorem dM_deal_32 : decode cM_deal 32 = .ok (.aload_n 0, 1) := by decide +kernel
theorem dM_deal_33 : decode cM_deal 33 = .ok (.getfield 13, 3) := by decide +kernel
theorem dM_deal_36 : decode cM_deal 36 = .ok (.iload 4, 2) := by decide +kernel
theorem dM_deal_38 : decode cM_deal 38 = .ok (.iaload, 1) := by decide +kernel
theorem dM_deal_39 : decode cM_deal 39 = .ok (.iadd, 1) := by decide +kernel
theorem dM_deal_40 : decode cM_deal 40 = .ok (.aload_n 0, 1) := by decide +kernel
theorem dM_deal_41 : decode cM_deal 41 = .ok (.getfield 23, 3) := by decide +kernel
theorem dM_deal_44 : decode cM_deal 44 = .ok (.iload 4, 2) := by decide +kernel
theorem dM_deal_46 : decode cM_deal 46 = .ok (.iaload, 1) := by decide +kernel
theorem dM_deal_47 : decode cM_deal 47 = .ok (.iconst 1, 1) := by decide +kernel
theorem dM_deal_48 : decode cM_deal 48 = .ok (.iadd, 1) := by decide +kernel
theorem dM_deal_49 : decode cM_deal 49 = .ok (.if_icmp .le 18, 3) := by decide +kernel
theorem dM_deal_52 : decode cM_deal 52 = .ok (.aload_n 0, 1) := by decide +kernel
theorem dM_deal_53 : decode cM_deal 53 = .ok (.getfield 114, 3) := by decide +kernel
theorem dM_deal_56 : decode cM_deal 56 = .ok (.aload_n 0, 1) := by decide +kernel
theorem dM_deal_57 : decode cM_deal 57 = .ok (.getfield 13, 3) := by decide +kernel
theorem dM_deal_60 : decode cM_deal 60 = .ok (.iload 4, 2) := by decide +kernel
theorem dM_deal_62 : decode cM_deal 62 = .ok (.iaload, 1) := by decide +kernel
theorem dM_deal_63 : decode cM_deal 63 = .ok (.iadd, 1) := by decide +kernel
theorem dM_deal_64 : decode cM_deal 64 = .ok (.goto 12, 3) := by decide +kernel
theorem dM_deal_67 : decode cM_deal 67 = .ok (.aload_n 0, 1) := by decide +kernel
theorem dM_deal_68 : decode cM_deal 68 = .ok (.getfield 23, 3) := by decide +kernel
theorem dM_deal_71 : decode cM_deal 71 = .ok (.iload 4, 2) := by decide +kernel
theorem dM_deal_73 : decode cM_deal 73 = .ok (.iaload, 1) := by decide +kernel
theorem dM_deal_74 : decode cM_deal 74 = .ok (.iconst 1, 1) := by decide +kernel
theorem dM_deal_75 : decode cM_deal 75 = .ok (.iadd, 1) := by decide +kernel
theorem dM_deal_76 : decode cM_deal 76 = .ok (.istore 5, 2) := by decide +kernel
theorem dM_deal_78 : decode cM_deal 78 = .ok (.aload_n 0, 1) := by decide +kernel
theorem dM_deal_79 : decode cM_deal 79 = .ok (.iload_n 3, 1) := by decide +kernel
theorem dM_deal_80 : decode cM_deal 80 = .ok (.iload 4, 2) := by decide +kernel
theorem dM_deal_82 : decode cM_deal 82 = .ok (.iload 5, 2) := by decide +kernel
theorem dM_deal_84 : decode cM_deal 84 = .ok (.invokevirtual 131, 3) := by decide +kernel
theorem dM_deal_87 : decode cM_deal 87 = .ok (.aload_n 0, 1) := by decide +kernel
theorem dM_deal_88 : decode cM_deal 88 = .ok (.iload_n 3, 1) := by decide +kernel
theorem dM_deal_89 : decode cM_deal 89 = .ok (.invokevirtual 82, 3) := by decide +kernel
theorem dM_deal_92 : decode cM_deal 92 = .ok (.istore 6, 2) := by decide +kernel
theorem dM_deal_94 : decode cM_deal 94 = .ok (.aload_n 0, 1) := by decide +kernel
theorem dM_deal_95 : decode cM_deal 95 = .ok (.iconst 1, 1) := by decide +kernel
theorem dM_deal_96 : decode cM_deal 96 = .ok (.iload_n 3, 1) := by decide +kernel
theorem dM_deal_97 : decode cM_deal 97 = .ok (.iload 4, 2) := by decide +kernel
theorem dM_deal_99 : decode cM_deal 99 = .ok (.iload 6, 2) := by decide +kernel
theorem dM_deal_101 : decode cM_deal 101 = .ok (.invokevirtual 120, 3) := by decide +kernel
theorem dM_deal_104 : decode cM_deal 104 = .ok (.goto 23, 3) := by decide +kernel
theorem dM_deal_107 : decode cM_deal 107 = .ok (.iload_n 2, 1) := by decide +kernel
theorem dM_deal_108 : decode cM_deal 108 = .ok (.iconst 1, 1) := by decide +kernel
theorem dM_deal_109 : decode cM_deal 109 = .ok (.if_icmp .ne 11, 3) := by decide +kernel
theorem dM_deal_112 : decode cM_deal 112 = .ok (.aload_n 0, 1) := by decide +kernel
theorem dM_deal_113 : decode cM_deal 113 = .ok (.iload_n 3, 1) := by decide +kernel
theorem dM_deal_114 : decode cM_deal 114 = .ok (.invokevirtual 128, 3) := by decide +kernel
theorem dM_deal_117 : decode cM_deal 117 = .ok (.goto 10, 3) := by decide +kernel
theorem dM_deal_120 : decode cM_deal 120 = .ok (.aload_n 0, 1) := by decide +kernel
theorem dM_deal_121 : decode cM_deal 121 = .ok (.iload_n 3, 1) := by decide +kernel
theorem dM_deal_122 : decode cM_deal 122 = .ok (.iload 4, 2) := by decide +kernel
theorem dM_deal_124 : decode cM_deal 124 = .ok (.invokevirtual 134, 3) := by decide +kernel
theorem dM_deal_127 : decode cM_deal 127 = .ok (.return_, 1) := by decide +kernel
theorem dM_finish_0 : decode cM_finish 0 = .ok (.iload_n 2, 1) := by decide +kernel
theorem dM_finish_1 : decode cM_finish 1 = .ok (.istore_n 3, 1) := by decide +kernel
theorem dM_finish_2 : decode cM_finish 2 = .ok (.iload_n 3, 1) := by decide +kernel
theorem dM_finish_3 : decode cM_finish 3 = .ok (.bipush 9, 2) := by decide +kernel
theorem dM_finish_5 : decode cM_finish 5 = .ok (.if_icmp .ge 102, 3) := by decide +kernel
theorem dM_finish_8 : decode cM_finish 8 = .ok (.aload_n 0, 1) := by decide +kernel
theorem dM_finish_9 : decode cM_finish 9 = .ok (.getfield 53, 3) := by decide +kernel
theorem dM_finish_12 : decode cM_finish 12 = .ok (.bipush 9, 2) := by decide +kernel
theorem dM_finish_14 : decode cM_finish 14 = .ok (.iload_n 1, 1) := by decide +kernel
theorem dM_finish_15 : decode cM_finish 15 = .ok (.imul, 1) := by decide +kernel
theorem dM_finish_16 : decode cM_finish 16 = .ok (.iload_n 3, 1) := by decide +kernel
theorem dM_finish_17 : decode cM_finish 17 = .ok (.iadd, 1) := by decide +kernel
theorem dM_finish_18 : decode cM_finish 18 = .ok (.baload, 1) := by decide +kernel
theorem dM_finish_19 : decode cM_finish 19 = .ok (.ifCond .eq 58, 3) := by decide +kernel
theorem dM_finish_22 : decode cM_finish 22 = .ok (.aload_n 0, 1) := by decide +kernel
theorem dM_finish_23 : decode cM_finish 23 = .ok (.getfield 26, 3) := by decide +kernel
theorem dM_finish_26 : decode cM_finish 26 = .ok (.aload_n 0, 1) := by decide +kernel
theorem dM_finish_27 : decode cM_finish 27 = .ok (.getfield 138, 3) := by decide +kernel
theorem dM_finish_30 : decode cM_finish 30 = .ok (.iload_n 3, 1) := by decide +kernel
theorem dM_finish_31 : decode cM_finish 31 = .ok (.iastore, 1) := by decide +kernel
theorem dM_finish_32 : decode cM_finish 32 = .ok (.aload_n 0, 1) := by decide +kernel
theorem dM_finish_33 : decode cM_finish 33 = .ok (.getfield 29, 3) := by decide +kernel
theorem dM_finish_36 : decode cM_finish 36 = .ok (.aload_n 0, 1) := by decide +kernel
theorem dM_finish_37 : decode cM_finish 37 = .ok (.getfield 138, 3) := by decide +kernel
theorem dM_finish_40 : decode cM_finish 40 = .ok (.aload_n 0, 1) := by decide +kernel
theorem dM_finish_41 : decode cM_finish 41 = .ok (.getfield 41, 3) := by decide +kernel
theorem dM_finish_44 : decode cM_finish 44 = .ok (.iload_n 1, 1) := by decide +kernel
theorem dM_finish_45 : decode cM_finish 45 = .ok (.iaload, 1) := by decide +kernel
theorem dM_finish_46 : decode cM_finish 46 = .ok (.iastore, 1) := by decide +kernel
theorem dM_finish_47 : decode cM_finish 47 = .ok (.aload_n 0, 1) := by decide +kernel
theorem dM_finish_48 : decode cM_finish 48 = .ok (.getfield 32, 3) := by decide +kernel
theorem dM_finish_51 : decode cM_finish 51 = .ok (.aload_n 0, 1) := by decide +kernel
theorem dM_finish_52 : decode cM_finish 52 = .ok (.getfield 138, 3) := by decide +kernel
theorem dM_finish_55 : decode cM_finish 55 = .ok (.aload_n 0, 1) := by decide +kernel
theorem dM_finish_56 : decode cM_finish 56 = .ok (.getfield 56, 3) := by decide +kernel
theorem dM_finish_59 : decode cM_finish 59 = .ok (.bipush 9, 2) := by decide +kernel
theorem dM_finish_61 : decode cM_finish 61 = .ok (.iload_n 1, 1) := by decide +kernel
theorem dM_finish_62 : decode cM_finish 62 = .ok (.imul, 1) := by decide +kernel
theorem dM_finish_63 : decode cM_finish 63 = .ok (.iload_n 3, 1) := by decide +kernel
theorem dM_finish_64 : decode cM_finish 64 = .ok (.iadd, 1) := by decide +kernel
theorem dM_finish_65 : decode cM_finish 65 = .ok (.iaload, 1) := by decide +kernel
theorem dM_finish_66 : decode cM_finish 66 = .ok (.iastore, 1) := by decide +kernel
theorem dM_finish_67 : decode cM_finish 67 = .ok (.aload_n 0, 1) := by decide +kernel
theorem dM_finish_68 : decode cM_finish 68 = .ok (.dup, 1) := by decide +kernel
theorem dM_finish_69 : decode cM_finish 69 = .ok (.getfield 138, 3) := by decide +kernel
theorem dM_finish_72 : decode cM_finish 72 = .ok (.iconst 1, 1) := by decide +kernel
theorem dM_finish_73 : decode cM_finish 73 = .ok (.iadd, 1) := by decide +kernel
theorem dM_finish_74 : decode cM_finish 74 = .ok (.putfield 138, 3) := by decide +kernel
theorem dM_finish_77 : decode cM_finish 77 = .ok (.aload_n 0, 1) := by decide +kernel
theorem dM_finish_78 : decode cM_finish 78 = .ok (.getfield 50, 3) := by decide +kernel
theorem dM_finish_81 : decode cM_finish 81 = .ok (.bipush 9, 2) := by decide +kernel
theorem dM_finish_83 : decode cM_finish 83 = .ok (.iload_n 1, 1) := by decide +kernel
theorem dM_finish_84 : decode cM_finish 84 = .ok (.imul, 1) := by decide +kernel
theorem dM_finish_85 : decode cM_finish 85 = .ok (.iload_n 3, 1) := by decide +kernel
theorem dM_finish_86 : decode cM_finish 86 = .ok (.iadd, 1) := by decide +kernel
theorem dM_finish_87 : decode cM_finish 87 = .ok (.iconst 0, 1) := by decide +kernel
theorem dM_finish_88 : decode cM_finish 88 = .ok (.iastore, 1) := by decide +kernel
theorem dM_finish_89 : decode cM_finish 89 = .ok (.aload_n 0, 1) := by decide +kernel
theorem dM_finish_90 : decode cM_finish 90 = .ok (.getfield 53, 3) := by decide +kernel
theorem dM_finish_93 : decode cM_finish 93 = .ok (.bipush 9, 2) := by decide +kernel
theorem dM_finish_95 : decode cM_finish 95 = .ok (.iload_n 1, 1) := by decide +kernel
theorem dM_finish_96 : decode cM_finish 96 = .ok (.imul, 1) := by decide +kernel
theorem dM_finish_97 : decode cM_finish 97 = .ok (.iload_n 3, 1) := by decide +kernel
theorem dM_finish_98 : decode cM_finish 98 = .ok (.iadd, 1) := by decide +kernel
theorem dM_finish_99 : decode cM_finish 99 = .ok (.iconst 0, 1) := by decide +kernel
theorem dM_finish_100 : decode cM_finish 100 = .ok (.bastore, 1) := by decide +kernel
theorem dM_finish_101 : decode cM_finish 101 = .ok (.iinc 3 3, 3) := by decide +kernel
theorem dM_finish_104 : decode cM_finish 104 = .ok (.goto (-102), 3) := by decide +kernel
theorem dM_finish_107 : decode cM_finish 107 = .ok (.aload_n 0, 1) := by decide +kernel
theorem dM_finish_108 : decode cM_finish 108 = .ok (.getfield 59, 3) := by decide +kernel
theorem dM_finish_111 : decode cM_finish 111 = .ok (.iconst 3, 1) := by decide +kernel
theorem dM_finish_112 : decode cM_finish 112 = .ok (.iload_n 1, 1) := by decide +kernel
theorem dM_finish_113 : decode cM_finish 113 = .ok (.imul, 1) := by decide +kernel
theorem dM_finish_114 : decode cM_finish 114 = .ok (.iload_n 2, 1) := by decide +kernel
theorem dM_finish_115 : decode cM_finish 115 = .ok (.iadd, 1) := by decide +kernel
theorem dM_finish_116 : decode cM_finish 116 = .ok (.iconst 0, 1) := by decide +kernel
theorem dM_finish_117 : decode cM_finish 117 = .ok (.bastore, 1) := by decide +kernel
theorem dM_finish_118 : decode cM_finish 118 = .ok (.aload_n 0, 1) := by decide +kernel
theorem dM_finish_119 : decode cM_finish 119 = .ok (.iload_n 2, 1) := by decide +kernel
theorem dM_finish_120 : decode cM_finish 120 = .ok (.aload_n 0, 1) := by decide +kernel
theorem dM_finish_121 : decode cM_finish 121 = .ok (.getfield 41, 3) := by decide +kernel
theorem dM_finish_124 : decode cM_finish 124 = .ok (.iload_n 1, 1) := by decide +kernel
theorem dM_finish_125 : decode cM_finish 125 = .ok (.iaload, 1) := by decide +kernel
theorem dM_finish_126 : decode cM_finish 126 = .ok (.invokevirtual 141, 3) := by decide +kernel
theorem dM_finish_129 : decode cM_finish 129 = .ok (.return_, 1) := by decide +kernel
theorem dM_next_0 : decode cM_next 0 = .ok (.iconst (-1), 1) := by decide +kernel
theorem dM_next_1 : decode cM_next 1 = .ok (.istore_n 1, 1) := by decide +kernel
theorem dM_next_2 : decode cM_next 2 = .ok (.iconst 0, 1) := by decide +kernel
theorem dM_next_3 : decode cM_next 3 = .ok (.istore_n 2, 1) := by decide +kernel
theorem dM_next_4 : decode cM_next 4 = .ok (.iload_n 2, 1) := by decide +kernel
theorem dM_next_5 : decode cM_next 5 = .ok (.bipush 45, 2) := by decide +kernel
theorem dM_next_7 : decode cM_next 7 = .ok (.if_icmp .ge 140, 3) := by decide +kernel
theorem dM_next_10 : decode cM_next 10 = .ok (.iload_n 2, 1) := by decide +kernel
theorem dM_next_11 : decode cM_next 11 = .ok (.bipush 15, 2) := by decide +kernel
theorem dM_next_13 : decode cM_next 13 = .ok (.idiv, 1) := by decide +kernel
theorem dM_next_14 : decode cM_next 14 = .ok (.iconst 1, 1) := by decide +kernel
theorem dM_next_15 : decode cM_next 15 = .ok (.if_icmp .ne 16, 3) := by decide +kernel
theorem dM_next_18 : decode cM_next 18 = .ok (.aload_n 0, 1) := by decide +kernel
theorem dM_next_19 : decode cM_next 19 = .ok (.iload_n 2, 1) := by decide +kernel
theorem dM_next_20 : decode cM_next 20 = .ok (.bipush 15, 2) := by decide +kernel
theorem dM_next_22 : decode cM_next 22 = .ok (.irem, 1) := by decide +kernel
theorem dM_next_23 : decode cM_next 23 = .ok (.iconst 3, 1) := by decide +kernel
theorem dM_next_24 : decode cM_next 24 = .ok (.idiv, 1) := by decide +kernel
theorem dM_next_25 : decode cM_next 25 = .ok (.invokevirtual 82, 3) := by decide +kernel
theorem dM_next_28 : decode cM_next 28 = .ok (.goto 6, 3) := by decide +kernel
theorem dM_next_31 : decode cM_next 31 = .ok (.iload_n 2, 1) := by decide +kernel
theorem dM_next_32 : decode cM_next 32 = .ok (.iconst 3, 1) := by decide +kernel
theorem dM_next_33 : decode cM_next 33 = .ok (.irem, 1) := by decide +kernel
theorem dM_next_34 : decode cM_next 34 = .ok (.istore_n 3, 1) := by decide +kernel
theorem dM_next_35 : decode cM_next 35 = .ok (.aload_n 0, 1) := by decide +kernel
theorem dM_next_36 : decode cM_next 36 = .ok (.getfield 65, 3) := by decide +kernel
theorem dM_next_39 : decode cM_next 39 = .ok (.iload_n 2, 1) := by decide +kernel
theorem dM_next_40 : decode cM_next 40 = .ok (.iaload, 1) := by decide +kernel
theorem dM_next_41 : decode cM_next 41 = .ok (.ifCond .le 29, 3) := by decide +kernel
theorem dM_next_44 : decode cM_next 44 = .ok (.aload_n 0, 1) := by decide +kernel
theorem dM_next_45 : decode cM_next 45 = .ok (.getfield 65, 3) := by decide +kernel
theorem dM_next_48 : decode cM_next 48 = .ok (.iload_n 2, 1) := by decide +kernel
theorem dM_next_49 : decode cM_next 49 = .ok (.iaload, 1) := by decide +kernel
theorem dM_next_50 : decode cM_next 50 = .ok (.aload_n 0, 1) := by decide +kernel
theorem dM_next_51 : decode cM_next 51 = .ok (.getfield 114, 3) := by decide +kernel
theorem dM_next_54 : decode cM_next 54 = .ok (.if_icmp .gt 16, 3) := by decide +kernel
theorem dM_next_57 : decode cM_next 57 = .ok (.aload_n 0, 1) := by decide +kernel
theorem dM_next_58 : decode cM_next 58 = .ok (.getfield 19, 3) := by decide +kernel
theorem dM_next_61 : decode cM_next 61 = .ok (.iload_n 3, 1) := by decide +kernel
theorem dM_next_62 : decode cM_next 62 = .ok (.baload, 1) := by decide +kernel
theorem dM_next_63 : decode cM_next 63 = .ok (.ifCond .ne 7, 3) := by decide +kernel
theorem dM_next_66 : decode cM_next 66 = .ok (.iconst 1, 1) := by decide +kernel
theorem dM_next_67 : decode cM_next 67 = .ok (.goto 4, 3) := by decide +kernel
theorem dM_next_70 : decode cM_next 70 = .ok (.iconst 0, 1) := by decide +kernel
theorem dM_next_71 : decode cM_next 71 = .ok (.istore 4, 2) := by decide +kernel
theorem dM_next_73 : decode cM_next 73 = .ok (.iload_n 1, 1) := by decide +kernel
theorem dM_next_74 : decode cM_next 74 = .ok (.ifCond .lt 48, 3) := by decide +kernel
theorem dM_next_77 : decode cM_next 77 = .ok (.aload_n 0, 1) := by decide +kernel
theorem dM_next_78 : decode cM_next 78 = .ok (.getfield 65, 3) := by decide +kernel
theorem dM_next_81 : decode cM_next 81 = .ok (.iload_n 2, 1) := by decide +kernel
theorem dM_next_82 : decode cM_next 82 = .ok (.iaload, 1) := by decide +kernel
theorem dM_next_83 : decode cM_next 83 = .ok (.aload_n 0, 1) := by decide +kernel
theorem dM_next_84 : decode cM_next 84 = .ok (.getfield 65, 3) := by decide +kernel
theorem dM_next_87 : decode cM_next 87 = .ok (.iload_n 1, 1) := by decide +kernel
theorem dM_next_88 : decode cM_next 88 = .ok (.iaload, 1) := by decide +kernel
theorem dM_next_89 : decode cM_next 89 = .ok (.if_icmp .lt 33, 3) := by decide +kernel
theorem dM_next_92 : decode cM_next 92 = .ok (.aload_n 0, 1) := by decide +kernel
theorem dM_next_93 : decode cM_next 93 = .ok (.getfield 65, 3) := by decide +kernel
theorem dM_next_96 : decode cM_next 96 = .ok (.iload_n 2, 1) := by decide +kernel
theorem dM_next_97 : decode cM_next 97 = .ok (.iaload, 1) := by decide +kernel
theorem dM_next_98 : decode cM_next 98 = .ok (.aload_n 0, 1) := by decide +kernel
theorem dM_next_99 : decode cM_next 99 = .ok (.getfield 65, 3) := by decide +kernel
theorem dM_next_102 : decode cM_next 102 = .ok (.iload_n 1, 1) := by decide +kernel
theorem dM_next_103 : decode cM_next 103 = .ok (.iaload, 1) := by decide +kernel
theorem dM_next_104 : decode cM_next 104 = .ok (.if_icmp .ne 22, 3) := by decide +kernel
theorem dM_next_107 : decode cM_next 107 = .ok (.aload_n 0, 1) := by decide +kernel
theorem dM_next_108 : decode cM_next 108 = .ok (.getfield 68, 3) := by decide +kernel
theorem dM_next_111 : decode cM_next 111 = .ok (.iload_n 2, 1) := by decide +kernel
theorem dM_next_112 : decode cM_next 112 = .ok (.iaload, 1) := by decide +kernel
theorem dM_next_113 : decode cM_next 113 = .ok (.aload_n 0, 1) := by decide +kernel
theorem dM_next_114 : decode cM_next 114 = .ok (.getfield 68, 3) := by decide +kernel
theorem dM_next_117 : decode cM_next 117 = .ok (.iload_n 1, 1) := by decide +kernel
theorem dM_next_118 : decode cM_next 118 = .ok (.iaload, 1) := by decide +kernel
theorem dM_next_119 : decode cM_next 119 = .ok (.if_icmp .ge 7, 3) := by decide +kernel
theorem dM_next_122 : decode cM_next 122 = .ok (.iconst 1, 1) := by decide +kernel
theorem dM_next_123 : decode cM_next 123 = .ok (.goto 4, 3) := by decide +kernel
theorem dM_next_126 : decode cM_next 126 = .ok (.iconst 0, 1) := by decide +kernel
theorem dM_next_127 : decode cM_next 127 = .ok (.istore 5, 2) := by decide +kernel
theorem dM_next_129 : decode cM_next 129 = .ok (.iload 4, 2) := by decide +kernel
theorem dM_next_131 : decode cM_next 131 = .ok (.ifCond .eq 10, 3) := by decide +kernel
theorem dM_next_134 : decode cM_next 134 = .ok (.iload 5, 2) := by decide +kernel
theorem dM_next_136 : decode cM_next 136 = .ok (.ifCond .eq 5, 3) := by decide +kernel
theorem dM_next_139 : decode cM_next 139 = .ok (.iload_n 2, 1) := by decide +kernel
theorem dM_next_140 : decode cM_next 140 = .ok (.istore_n 1, 1) := by decide +kernel
theorem dM_next_141 : decode cM_next 141 = .ok (.iinc 2 1, 3) := by decide +kernel
theorem dM_next_144 : decode cM_next 144 = .ok (.goto (-140), 3) := by decide +kernel
theorem dM_next_147 : decode cM_next 147 = .ok (.iload_n 1, 1) := by decide +kernel
theorem dM_next_148 : decode cM_next 148 = .ok (.ireturn, 1) := by decide +kernel
theorem dM_step_0 : decode cM_step 0 = .ok (.iload_n 1, 1) := by decide +kernel
theorem dM_step_1 : decode cM_step 1 = .ok (.sipush 501, 3) := by decide +kernel
theorem dM_step_4 : decode cM_step 4 = .ok (.invokestatic 75, 3) := by decide +kernel
theorem dM_step_7 : decode cM_step 7 = .ok (.ifCond .ne 5, 3) := by decide +kernel
theorem dM_step_10 : decode cM_step 10 = .ok (.iconst (-1), 1) := by decide +kernel
theorem dM_step_11 : decode cM_step 11 = .ok (.ireturn, 1) := by decide +kernel
theorem dM_step_12 : decode cM_step 12 = .ok (.iconst 0, 1) := by decide +kernel
theorem dM_step_13 : decode cM_step 13 = .ok (.istore_n 2, 1) := by decide +kernel
theorem dM_step_14 : decode cM_step 14 = .ok (.iconst 0, 1) := by decide +kernel
theorem dM_step_15 : decode cM_step 15 = .ok (.istore_n 3, 1) := by decide +kernel
theorem dM_step_16 : decode cM_step 16 = .ok (.iload_n 3, 1) := by decide +kernel
theorem dM_step_17 : decode cM_step 17 = .ok (.iload_n 1, 1) := by decide +kernel
theorem dM_step_18 : decode cM_step 18 = .ok (.if_icmp .ge 163, 3) := by decide +kernel
theorem dM_step_21 : decode cM_step 21 = .ok (.aload_n 0, 1) := by decide +kernel
theorem dM_step_22 : decode cM_step 22 = .ok (.dup, 1) := by decide +kernel
theorem dM_step_23 : decode cM_step 23 = .ok (.getfield 114, 3) := by decide +kernel
theorem dM_step_26 : decode cM_step 26 = .ok (.iconst 1, 1) := by decide +kernel
theorem dM_step_27 : decode cM_step 27 = .ok (.iadd, 1) := by decide +kernel
theorem dM_step_28 : decode cM_step 28 = .ok (.putfield 114, 3) := by decide +kernel
theorem dM_step_31 : decode cM_step 31 = .ok (.aload_n 0, 1) := by decide +kernel
theorem dM_step_32 : decode cM_step 32 = .ok (.invokevirtual 144, 3) := by decide +kernel
theorem dM_step_35 : decode cM_step 35 = .ok (.istore 4, 2) := by decide +kernel
theorem dM_step_37 : decode cM_step 37 = .ok (.iconst 0, 1) := by decide +kernel
theorem dM_step_38 : decode cM_step 38 = .ok (.istore 5, 2) := by decide +kernel
theorem dM_step_40 : decode cM_step 40 = .ok (.iload 5, 2) := by decide +kernel
theorem dM_step_42 : decode cM_step 42 = .ok (.bipush 45, 2) := by decide +kernel
theorem dM_step_44 : decode cM_step 44 = .ok (.if_icmp .ge 26, 3) := by decide +kernel
theorem dM_step_47 : decode cM_step 47 = .ok (.iload 4, 2) := by decide +kernel
theorem dM_step_49 : decode cM_step 49 = .ok (.ifCond .lt 21, 3) := by decide +kernel
theorem dM_step_52 : decode cM_step 52 = .ok (.aload_n 0, 1) := by decide +kernel
theorem dM_step_53 : decode cM_step 53 = .ok (.iload 4, 2) := by decide +kernel
theorem dM_step_55 : decode cM_step 55 = .ok (.invokevirtual 148, 3) := by decide +kernel
theorem dM_step_58 : decode cM_step 58 = .ok (.aload_n 0, 1) := by decide +kernel
theorem dM_step_59 : decode cM_step 59 = .ok (.invokevirtual 144, 3) := by decide +kernel
theorem dM_step_62 : decode cM_step 62 = .ok (.istore 4, 2) := by decide +kernel
theorem dM_step_64 : decode cM_step 64 = .ok (.iinc 5 1, 3) := by decide +kernel
theorem dM_step_67 : decode cM_step 67 = .ok (.goto (-27), 3) := by decide +kernel
theorem dM_step_70 : decode cM_step 70 = .ok (.iconst 0, 1) := by decide +kernel
theorem dM_step_71 : decode cM_step 71 = .ok (.istore 5, 2) := by decide +kernel
theorem dM_step_73 : decode cM_step 73 = .ok (.iload 5, 2) := by decide +kernel
theorem dM_step_75 : decode cM_step 75 = .ok (.iconst 5, 1) := by decide +kernel
theorem dM_step_76 : decode cM_step 76 = .ok (.if_icmp .ge 99, 3) := by decide +kernel
theorem dM_step_79 : decode cM_step 79 = .ok (.aload_n 0, 1) := by decide +kernel
theorem dM_step_80 : decode cM_step 80 = .ok (.iload 5, 2) := by decide +kernel
theorem dM_step_82 : decode cM_step 82 = .ok (.invokevirtual 82, 3) := by decide +kernel
theorem dM_step_85 : decode cM_step 85 = .ok (.istore 6, 2) := by decide +kernel
theorem dM_step_87 : decode cM_step 87 = .ok (.aload_n 0, 1) := by decide +kernel
theorem dM_step_88 : decode cM_step 88 = .ok (.getfield 35, 3) := by decide +kernel
theorem dM_step_91 : decode cM_step 91 = .ok (.iload 5, 2) := by decide +kernel
theorem dM_step_93 : decode cM_step 93 = .ok (.iaload, 1) := by decide +kernel
theorem dM_step_94 : decode cM_step 94 = .ok (.iconst 3, 1) := by decide +kernel
theorem dM_step_95 : decode cM_step 95 = .ok (.if_icmp .ne 74, 3) := by decide +kernel
theorem dM_step_98 : decode cM_step 98 = .ok (.aload_n 0, 1) := by decide +kernel
theorem dM_step_99 : decode cM_step 99 = .ok (.getfield 19, 3) := by decide +kernel
theorem dM_step_102 : decode cM_step 102 = .ok (.iload 6, 2) := by decide +kernel
theorem dM_step_104 : decode cM_step 104 = .ok (.baload, 1) := by decide +kernel
theorem dM_step_105 : decode cM_step 105 = .ok (.ifCond .ne 64, 3) := by decide +kernel
theorem dM_step_108 : decode cM_step 108 = .ok (.aload_n 0, 1) := by decide +kernel
theorem dM_step_109 : decode cM_step 109 = .ok (.getfield 114, 3) := by decide +kernel
theorem dM_step_112 : decode cM_step 112 = .ok (.aload_n 0, 1) := by decide +kernel
theorem dM_step_113 : decode cM_step 113 = .ok (.getfield 7, 3) := by decide +kernel
theorem dM_step_116 : decode cM_step 116 = .ok (.iload 6, 2) := by decide +kernel
theorem dM_step_118 : decode cM_step 118 = .ok (.iaload, 1) := by decide +kernel
theorem dM_step_119 : decode cM_step 119 = .ok (.isub, 1) := by decide +kernel
theorem dM_step_120 : decode cM_step 120 = .ok (.aload_n 0, 1) := by decide +kernel
theorem dM_step_121 : decode cM_step 121 = .ok (.getfield 41, 3) := by decide +kernel
theorem dM_step_124 : decode cM_step 124 = .ok (.iload 5, 2) := by decide +kernel
theorem dM_step_126 : decode cM_step 126 = .ok (.iaload, 1) := by decide +kernel
theorem dM_step_127 : decode cM_step 127 = .ok (.if_icmp .le 42, 3) := by decide +kernel
theorem dM_step_130 : decode cM_step 130 = .ok (.aload_n 0, 1) := by decide +kernel
theorem dM_step_131 : decode cM_step 131 = .ok (.getfield 35, 3) := by decide +kernel
theorem dM_step_134 : decode cM_step 134 = .ok (.iload 5, 2) := by decide +kernel
theorem dM_step_136 : decode cM_step 136 = .ok (.iconst 4, 1) := by decide +kernel
theorem dM_step_137 : decode cM_step 137 = .ok (.iastore, 1) := by decide +kernel
theorem dM_step_138 : decode cM_step 138 = .ok (.aload_n 0, 1) := by decide +kernel
theorem dM_step_139 : decode cM_step 139 = .ok (.getfield 47, 3) := by decide +kernel
theorem dM_step_142 : decode cM_step 142 = .ok (.iload 5, 2) := by decide +kernel
theorem dM_step_144 : decode cM_step 144 = .ok (.aload_n 0, 1) := by decide +kernel
theorem dM_step_145 : decode cM_step 145 = .ok (.getfield 114, 3) := by decide +kernel
theorem dM_step_148 : decode cM_step 148 = .ok (.iastore, 1) := by decide +kernel
theorem dM_step_149 : decode cM_step 149 = .ok (.aload_n 0, 1) := by decide +kernel
theorem dM_step_150 : decode cM_step 150 = .ok (.iconst 2, 1) := by decide +kernel
theorem dM_step_151 : decode cM_step 151 = .ok (.iload 5, 2) := by decide +kernel
theorem dM_step_153 : decode cM_step 153 = .ok (.iload 6, 2) := by decide +kernel
theorem dM_step_155 : decode cM_step 155 = .ok (.invokevirtual 124, 3) := by decide +kernel
theorem dM_step_158 : decode cM_step 158 = .ok (.aload_n 0, 1) := by decide +kernel
theorem dM_step_159 : decode cM_step 159 = .ok (.iload 5, 2) := by decide +kernel
theorem dM_step_161 : decode cM_step 161 = .ok (.iload 6, 2) := by decide +kernel
theorem dM_step_163 : decode cM_step 163 = .ok (.invokevirtual 134, 3) := by decide +kernel
theorem dM_step_166 : decode cM_step 166 = .ok (.iinc 2 1, 3) := by decide +kernel
theorem dM_step_169 : decode cM_step 169 = .ok (.iinc 5 1, 3) := by decide +kernel
theorem dM_step_172 : decode cM_step 172 = .ok (.goto (-99), 3) := by decide +kernel
theorem dM_step_175 : decode cM_step 175 = .ok (.iinc 3 1, 3) := by decide +kernel
theorem dM_step_178 : decode cM_step 178 = .ok (.goto (-162), 3) := by decide +kernel
theorem dM_step_181 : decode cM_step 181 = .ok (.iload_n 2, 1) := by decide +kernel
theorem dM_step_182 : decode cM_step 182 = .ok (.ireturn, 1) := by decide +kernel
theorem dM_find_0 : decode cM_find 0 = .ok (.iload_n 2, 1) := by decide +kernel
theorem dM_find_1 : decode cM_find 1 = .ok (.iconst 4, 1) := by decide +kernel
theorem dM_find_2 : decode cM_find 2 = .ok (.invokestatic 75, 3) := by decide +kernel
theorem dM_find_5 : decode cM_find 5 = .ok (.ifCond .ne 6, 3) := by decide +kernel
theorem dM_find_8 : decode cM_find 8 = .ok (.bipush (-2), 2) := by decide +kernel
theorem dM_find_10 : decode cM_find 10 = .ok (.ireturn, 1) := by decide +kernel
theorem dM_find_11 : decode cM_find 11 = .ok (.iload_n 2, 1) := by decide +kernel
theorem dM_find_12 : decode cM_find 12 = .ok (.istore_n 3, 1) := by decide +kernel
theorem dM_find_13 : decode cM_find 13 = .ok (.aload_n 0, 1) := by decide +kernel
theorem dM_find_14 : decode cM_find 14 = .ok (.getfield 138, 3) := by decide +kernel
theorem dM_find_17 : decode cM_find 17 = .ok (.iconst 1, 1) := by decide +kernel
theorem dM_find_18 : decode cM_find 18 = .ok (.isub, 1) := by decide +kernel
theorem dM_find_19 : decode cM_find 19 = .ok (.istore 4, 2) := by decide +kernel
theorem dM_find_21 : decode cM_find 21 = .ok (.iload 4, 2) := by decide +kernel
theorem dM_find_23 : decode cM_find 23 = .ok (.ifCond .lt 30, 3) := by decide +kernel
theorem dM_find_26 : decode cM_find 26 = .ok (.aload_n 0, 1) := by decide +kernel
theorem dM_find_27 : decode cM_find 27 = .ok (.getfield 26, 3) := by decide +kernel
theorem dM_find_30 : decode cM_find 30 = .ok (.iload 4, 2) := by decide +kernel
theorem dM_find_32 : decode cM_find 32 = .ok (.iaload, 1) := by decide +kernel
theorem dM_find_33 : decode cM_find 33 = .ok (.iload_n 1, 1) := by decide +kernel
theorem dM_find_34 : decode cM_find 34 = .ok (.if_icmp .ne 13, 3) := by decide +kernel
theorem dM_find_37 : decode cM_find 37 = .ok (.iload_n 3, 1) := by decide +kernel
theorem dM_find_38 : decode cM_find 38 = .ok (.ifCond .ne 6, 3) := by decide +kernel
theorem dM_find_41 : decode cM_find 41 = .ok (.iload 4, 2) := by decide +kernel
theorem dM_find_43 : decode cM_find 43 = .ok (.ireturn, 1) := by decide +kernel
theorem dM_find_44 : decode cM_find 44 = .ok (.iinc 3 (-1), 3) := by decide +kernel
theorem dM_find_47 : decode cM_find 47 = .ok (.iinc 4 (-1), 3) := by decide +kernel
theorem dM_find_50 : decode cM_find 50 = .ok (.goto (-29), 3) := by decide +kernel
theorem dM_find_53 : decode cM_find 53 = .ok (.iload_n 3, 1) := by decide +kernel
theorem dM_find_54 : decode cM_find 54 = .ok (.ifCond .ne 7, 3) := by decide +kernel
theorem dM_find_57 : decode cM_find 57 = .ok (.iconst (-1), 1) := by decide +kernel
theorem dM_find_58 : decode cM_find 58 = .ok (.goto 5, 3) := by decide +kernel
theorem dM_find_61 : decode cM_find 61 = .ok (.bipush (-2), 2) := by decide +kernel
theorem dM_find_63 : decode cM_find 63 = .ok (.ireturn, 1) := by decide +kernel
theorem dM_version_0 : decode cM_version 0 = .ok (.iload_n 1, 1) := by decide +kernel
theorem dM_version_1 : decode cM_version 1 = .ok (.bipush 9, 2) := by decide +kernel
theorem dM_version_3 : decode cM_version 3 = .ok (.invokestatic 75, 3) := by decide +kernel
theorem dM_version_6 : decode cM_version 6 = .ok (.ifCond .eq 12, 3) := by decide +kernel
theorem dM_version_9 : decode cM_version 9 = .ok (.aload_n 0, 1) := by decide +kernel
theorem dM_version_10 : decode cM_version 10 = .ok (.iload_n 1, 1) := by decide +kernel
theorem dM_version_11 : decode cM_version 11 = .ok (.iload_n 2, 1) := by decide +kernel
theorem dM_version_12 : decode cM_version 12 = .ok (.invokevirtual 110, 3) := by decide +kernel
theorem dM_version_15 : decode cM_version 15 = .ok (.goto 5, 3) := by decide +kernel
theorem dM_version_18 : decode cM_version 18 = .ok (.bipush (-2), 2) := by decide +kernel
theorem dM_version_20 : decode cM_version 20 = .ok (.istore_n 3, 1) := by decide +kernel
theorem dM_version_21 : decode cM_version 21 = .ok (.iload_n 3, 1) := by decide +kernel
theorem dM_version_22 : decode cM_version 22 = .ok (.ifCond .lt 12, 3) := by decide +kernel
theorem dM_version_25 : decode cM_version 25 = .ok (.aload_n 0, 1) := by decide +kernel
theorem dM_version_26 : decode cM_version 26 = .ok (.getfield 29, 3) := by decide +kernel
theorem dM_version_29 : decode cM_version 29 = .ok (.iload_n 3, 1) := by decide +kernel
theorem dM_version_30 : decode cM_version 30 = .ok (.iaload, 1) := by decide +kernel
theorem dM_version_31 : decode cM_version 31 = .ok (.goto 13, 3) := by decide +kernel
theorem dM_version_34 : decode cM_version 34 = .ok (.iload_n 3, 1) := by decide +kernel
theorem dM_version_35 : decode cM_version 35 = .ok (.iconst (-1), 1) := by decide +kernel
theorem dM_version_36 : decode cM_version 36 = .ok (.if_icmp .ne 7, 3) := by decide +kernel
theorem dM_version_39 : decode cM_version 39 = .ok (.iconst 0, 1) := by decide +kernel
theorem dM_version_40 : decode cM_version 40 = .ok (.goto 4, 3) := by decide +kernel
theorem dM_version_43 : decode cM_version 43 = .ok (.iconst (-1), 1) := by decide +kernel
theorem dM_version_44 : decode cM_version 44 = .ok (.ireturn, 1) := by decide +kernel
theorem dM_readAt_0 : decode cM_readAt 0 = .ok (.iload_n 1, 1) := by decide +kernel
theorem dM_readAt_1 : decode cM_readAt 1 = .ok (.bipush 9, 2) := by decide +kernel
theorem dM_readAt_3 : decode cM_readAt 3 = .ok (.invokestatic 75, 3) := by decide +kernel
theorem dM_readAt_6 : decode cM_readAt 6 = .ok (.ifCond .eq 25, 3) := by decide +kernel
theorem dM_readAt_9 : decode cM_readAt 9 = .ok (.aload_n 0, 1) := by decide +kernel
theorem dM_readAt_10 : decode cM_readAt 10 = .ok (.getfield 19, 3) := by decide +kernel
theorem dM_readAt_13 : decode cM_readAt 13 = .ok (.iload_n 1, 1) := by decide +kernel
theorem dM_readAt_14 : decode cM_readAt 14 = .ok (.iconst 3, 1) := by decide +kernel
theorem dM_readAt_15 : decode cM_readAt 15 = .ok (.irem, 1) := by decide +kernel
theorem dM_readAt_16 : decode cM_readAt 16 = .ok (.baload, 1) := by decide +kernel
theorem dM_readAt_17 : decode cM_readAt 17 = .ok (.ifCond .ne 14, 3) := by decide +kernel
theorem dM_readAt_20 : decode cM_readAt 20 = .ok (.iload_n 2, 1) := by decide +kernel
theorem dM_readAt_21 : decode cM_readAt 21 = .ok (.aload_n 0, 1) := by decide +kernel
theorem dM_readAt_22 : decode cM_readAt 22 = .ok (.iload_n 1, 1) := by decide +kernel
theorem dM_readAt_23 : decode cM_readAt 23 = .ok (.iconst 3, 1) := by decide +kernel
theorem dM_readAt_24 : decode cM_readAt 24 = .ok (.irem, 1) := by decide +kernel
theorem dM_readAt_25 : decode cM_readAt 25 = .ok (.invokevirtual 151, 3) := by decide +kernel
theorem dM_readAt_28 : decode cM_readAt 28 = .ok (.if_icmp .le 7, 3) := by decide +kernel
theorem dM_readAt_31 : decode cM_readAt 31 = .ok (.ldc2_w 108, 3) := by decide +kernel
theorem dM_readAt_34 : decode cM_readAt 34 = .ok (.lreturn, 1) := by decide +kernel
theorem dM_readAt_35 : decode cM_readAt 35 = .ok (.aload_n 0, 1) := by decide +kernel
theorem dM_readAt_36 : decode cM_readAt 36 = .ok (.iload_n 1, 1) := by decide +kernel
theorem dM_readAt_37 : decode cM_readAt 37 = .ok (.iconst 3, 1) := by decide +kernel
theorem dM_readAt_38 : decode cM_readAt 38 = .ok (.irem, 1) := by decide +kernel
theorem dM_readAt_39 : decode cM_readAt 39 = .ok (.iload_n 2, 1) := by decide +kernel
theorem dM_readAt_40 : decode cM_readAt 40 = .ok (.invokevirtual 141, 3) := by decide +kernel
theorem dM_readAt_43 : decode cM_readAt 43 = .ok (.iconst 0, 1) := by decide +kernel
theorem dM_readAt_44 : decode cM_readAt 44 = .ok (.istore_n 3, 1) := by decide +kernel
theorem dM_readAt_45 : decode cM_readAt 45 = .ok (.iload_n 3, 1) := by decide +kernel
theorem dM_readAt_46 : decode cM_readAt 46 = .ok (.iconst 4, 1) := by decide +kernel
theorem dM_readAt_47 : decode cM_readAt 47 = .ok (.if_icmp .ge 54, 3) := by decide +kernel
theorem dM_readAt_50 : decode cM_readAt 50 = .ok (.aload_n 0, 1) := by decide +kernel
theorem dM_readAt_51 : decode cM_readAt 51 = .ok (.iload_n 1, 1) := by decide +kernel
theorem dM_readAt_52 : decode cM_readAt 52 = .ok (.iload_n 3, 1) := by decide +kernel
theorem dM_readAt_53 : decode cM_readAt 53 = .ok (.invokevirtual 110, 3) := by decide +kernel
theorem dM_readAt_56 : decode cM_readAt 56 = .ok (.istore 4, 2) := by decide +kernel
theorem dM_readAt_58 : decode cM_readAt 58 = .ok (.iload 4, 2) := by decide +kernel
theorem dM_readAt_60 : decode cM_readAt 60 = .ok (.ifCond .lt 23, 3) := by decide +kernel
theorem dM_readAt_63 : decode cM_readAt 63 = .ok (.aload_n 0, 1) := by decide +kernel
theorem dM_readAt_64 : decode cM_readAt 64 = .ok (.getfield 29, 3) := by decide +kernel
theorem dM_readAt_67 : decode cM_readAt 67 = .ok (.iload 4, 2) := by decide +kernel
theorem dM_readAt_69 : decode cM_readAt 69 = .ok (.iaload, 1) := by decide +kernel
theorem dM_readAt_70 : decode cM_readAt 70 = .ok (.iload_n 2, 1) := by decide +kernel
theorem dM_readAt_71 : decode cM_readAt 71 = .ok (.if_icmp .gt 12, 3) := by decide +kernel
theorem dM_readAt_74 : decode cM_readAt 74 = .ok (.aload_n 0, 1) := by decide +kernel
theorem dM_readAt_75 : decode cM_readAt 75 = .ok (.getfield 32, 3) := by decide +kernel
theorem dM_readAt_78 : decode cM_readAt 78 = .ok (.iload 4, 2) := by decide +kernel
theorem dM_readAt_80 : decode cM_readAt 80 = .ok (.iaload, 1) := by decide +kernel
theorem dM_readAt_81 : decode cM_readAt 81 = .ok (.i2l, 1) := by decide +kernel
theorem dM_readAt_82 : decode cM_readAt 82 = .ok (.lreturn, 1) := by decide +kernel
theorem dM_readAt_83 : decode cM_readAt 83 = .ok (.iload 4, 2) := by decide +kernel
theorem dM_readAt_85 : decode cM_readAt 85 = .ok (.iconst (-1), 1) := by decide +kernel
theorem dM_readAt_86 : decode cM_readAt 86 = .ok (.if_icmp .ne 9, 3) := by decide +kernel
theorem dM_readAt_89 : decode cM_readAt 89 = .ok (.iload_n 2, 1) := by decide +kernel
theorem dM_readAt_90 : decode cM_readAt 90 = .ok (.ifCond .lt 5, 3) := by decide +kernel
theorem dM_readAt_93 : decode cM_readAt 93 = .ok (.lconst 0, 1) := by decide +kernel
theorem dM_readAt_94 : decode cM_readAt 94 = .ok (.lreturn, 1) := by decide +kernel
theorem dM_readAt_95 : decode cM_readAt 95 = .ok (.iinc 3 1, 3) := by decide +kernel
theorem dM_readAt_98 : decode cM_readAt 98 = .ok (.goto (-53), 3) := by decide +kernel
theorem dM_readAt_101 : decode cM_readAt 101 = .ok (.ldc2_w 154, 3) := by decide +kernel
theorem dM_readAt_104 : decode cM_readAt 104 = .ok (.lreturn, 1) := by decide +kernel
theorem dM_now_0 : decode cM_now 0 = .ok (.aload_n 0, 1) := by decide +kernel
theorem dM_now_1 : decode cM_now 1 = .ok (.getfield 114, 3) := by decide +kernel
theorem dM_now_4 : decode cM_now 4 = .ok (.ireturn, 1) := by decide +kernel
theorem dM_state_0 : decode cM_state 0 = .ok (.iload_n 1, 1) := by decide +kernel
theorem dM_state_1 : decode cM_state 1 = .ok (.iconst 5, 1) := by decide +kernel
theorem dM_state_2 : decode cM_state 2 = .ok (.invokestatic 75, 3) := by decide +kernel
theorem dM_state_5 : decode cM_state 5 = .ok (.ifCond .eq 12, 3) := by decide +kernel
theorem dM_state_8 : decode cM_state 8 = .ok (.aload_n 0, 1) := by decide +kernel
theorem dM_state_9 : decode cM_state 9 = .ok (.getfield 35, 3) := by decide +kernel
theorem dM_state_12 : decode cM_state 12 = .ok (.iload_n 1, 1) := by decide +kernel
theorem dM_state_13 : decode cM_state 13 = .ok (.iaload, 1) := by decide +kernel
theorem dM_state_14 : decode cM_state 14 = .ok (.goto 4, 3) := by decide +kernel
theorem dM_state_17 : decode cM_state 17 = .ok (.iconst (-1), 1) := by decide +kernel
theorem dM_state_18 : decode cM_state 18 = .ok (.ireturn, 1) := by decide +kernel
theorem dM_stamp_0 : decode cM_stamp 0 = .ok (.iload_n 1, 1) := by decide +kernel
theorem dM_stamp_1 : decode cM_stamp 1 = .ok (.iconst 5, 1) := by decide +kernel
theorem dM_stamp_2 : decode cM_stamp 2 = .ok (.invokestatic 75, 3) := by decide +kernel
theorem dM_stamp_5 : decode cM_stamp 5 = .ok (.ifCond .eq 32, 3) := by decide +kernel
theorem dM_stamp_8 : decode cM_stamp 8 = .ok (.aload_n 0, 1) := by decide +kernel
theorem dM_stamp_9 : decode cM_stamp 9 = .ok (.getfield 35, 3) := by decide +kernel
theorem dM_stamp_12 : decode cM_stamp 12 = .ok (.iload_n 1, 1) := by decide +kernel
theorem dM_stamp_13 : decode cM_stamp 13 = .ok (.iaload, 1) := by decide +kernel
theorem dM_stamp_14 : decode cM_stamp 14 = .ok (.iconst 3, 1) := by decide +kernel
theorem dM_stamp_15 : decode cM_stamp 15 = .ok (.if_icmp .eq 13, 3) := by decide +kernel
theorem dM_stamp_18 : decode cM_stamp 18 = .ok (.aload_n 0, 1) := by decide +kernel
theorem dM_stamp_19 : decode cM_stamp 19 = .ok (.getfield 35, 3) := by decide +kernel
theorem dM_stamp_22 : decode cM_stamp 22 = .ok (.iload_n 1, 1) := by decide +kernel
theorem dM_stamp_23 : decode cM_stamp 23 = .ok (.iaload, 1) := by decide +kernel
theorem dM_stamp_24 : decode cM_stamp 24 = .ok (.iconst 4, 1) := by decide +kernel
theorem dM_stamp_25 : decode cM_stamp 25 = .ok (.if_icmp .ne 12, 3) := by decide +kernel
theorem dM_stamp_28 : decode cM_stamp 28 = .ok (.aload_n 0, 1) := by decide +kernel
theorem dM_stamp_29 : decode cM_stamp 29 = .ok (.getfield 41, 3) := by decide +kernel
theorem dM_stamp_32 : decode cM_stamp 32 = .ok (.iload_n 1, 1) := by decide +kernel
theorem dM_stamp_33 : decode cM_stamp 33 = .ok (.iaload, 1) := by decide +kernel
theorem dM_stamp_34 : decode cM_stamp 34 = .ok (.goto 4, 3) := by decide +kernel
theorem dM_stamp_37 : decode cM_stamp 37 = .ok (.iconst (-1), 1) := by decide +kernel
theorem dM_stamp_38 : decode cM_stamp 38 = .ok (.ireturn, 1) := by decide +kernel
theorem dM_end_0 : decode cM_end 0 = .ok (.iload_n 1, 1) := by decide +kernel
theorem dM_end_1 : decode cM_end 1 = .ok (.iconst 5, 1) := by decide +kernel
theorem dM_end_2 : decode cM_end 2 = .ok (.invokestatic 75, 3) := by decide +kernel
theorem dM_end_5 : decode cM_end 5 = .ok (.ifCond .eq 22, 3) := by decide +kernel
theorem dM_end_8 : decode cM_end 8 = .ok (.aload_n 0, 1) := by decide +kernel
theorem dM_end_9 : decode cM_end 9 = .ok (.getfield 35, 3) := by decide +kernel
theorem dM_end_12 : decode cM_end 12 = .ok (.iload_n 1, 1) := by decide +kernel
theorem dM_end_13 : decode cM_end 13 = .ok (.iaload, 1) := by decide +kernel
theorem dM_end_14 : decode cM_end 14 = .ok (.iconst 4, 1) := by decide +kernel
theorem dM_end_15 : decode cM_end 15 = .ok (.if_icmp .ne 12, 3) := by decide +kernel
theorem dM_end_18 : decode cM_end 18 = .ok (.aload_n 0, 1) := by decide +kernel
theorem dM_end_19 : decode cM_end 19 = .ok (.getfield 47, 3) := by decide +kernel
theorem dM_end_22 : decode cM_end 22 = .ok (.iload_n 1, 1) := by decide +kernel
theorem dM_end_23 : decode cM_end 23 = .ok (.iaload, 1) := by decide +kernel
theorem dM_end_24 : decode cM_end 24 = .ok (.goto 4, 3) := by decide +kernel
theorem dM_end_27 : decode cM_end 27 = .ok (.iconst (-1), 1) := by decide +kernel
theorem dM_end_28 : decode cM_end 28 = .ok (.ireturn, 1) := by decide +kernel
theorem dM_marks_0 : decode cM_marks 0 = .ok (.iconst 0, 1) := by decide +kernel
theorem dM_marks_1 : decode cM_marks 1 = .ok (.istore_n 2, 1) := by decide +kernel
theorem dM_marks_2 : decode cM_marks 2 = .ok (.iconst 0, 1) := by decide +kernel
theorem dM_marks_3 : decode cM_marks 3 = .ok (.istore_n 3, 1) := by decide +kernel
theorem dM_marks_4 : decode cM_marks 4 = .ok (.iconst 0, 1) := by decide +kernel
theorem dM_marks_5 : decode cM_marks 5 = .ok (.istore 4, 2) := by decide +kernel
theorem dM_marks_7 : decode cM_marks 7 = .ok (.iload 4, 2) := by decide +kernel
theorem dM_marks_9 : decode cM_marks 9 = .ok (.iconst 5, 1) := by decide +kernel
theorem dM_marks_10 : decode cM_marks 10 = .ok (.if_icmp .ge 69, 3) := by decide +kernel
theorem dM_marks_13 : decode cM_marks 13 = .ok (.iload_n 1, 1) := by decide +kernel
theorem dM_marks_14 : decode cM_marks 14 = .ok (.iconst 3, 1) := by decide +kernel
theorem dM_marks_15 : decode cM_marks 15 = .ok (.invokestatic 75, 3) := by decide +kernel
theorem dM_marks_18 : decode cM_marks 18 = .ok (.ifCond .eq 61, 3) := by decide +kernel
theorem dM_marks_21 : decode cM_marks 21 = .ok (.aload_n 0, 1) := by decide +kernel
theorem dM_marks_22 : decode cM_marks 22 = .ok (.getfield 59, 3) := by decide +kernel
theorem dM_marks_25 : decode cM_marks 25 = .ok (.iconst 3, 1) := by decide +kernel
theorem dM_marks_26 : decode cM_marks 26 = .ok (.iload 4, 2) := by decide +kernel
theorem dM_marks_28 : decode cM_marks 28 = .ok (.imul, 1) := by decide +kernel
theorem dM_marks_29 : decode cM_marks 29 = .ok (.iload_n 1, 1) := by decide +kernel
theorem dM_marks_30 : decode cM_marks 30 = .ok (.iadd, 1) := by decide +kernel
theorem dM_marks_31 : decode cM_marks 31 = .ok (.baload, 1) := by decide +kernel
theorem dM_marks_32 : decode cM_marks 32 = .ok (.ifCond .eq 41, 3) := by decide +kernel
theorem dM_marks_35 : decode cM_marks 35 = .ok (.iload_n 2, 1) := by decide +kernel
theorem dM_marks_36 : decode cM_marks 36 = .ok (.ifCond .eq 18, 3) := by decide +kernel
theorem dM_marks_39 : decode cM_marks 39 = .ok (.aload_n 0, 1) := by decide +kernel
theorem dM_marks_40 : decode cM_marks 40 = .ok (.getfield 62, 3) := by decide +kernel
theorem dM_marks_43 : decode cM_marks 43 = .ok (.iconst 3, 1) := by decide +kernel
theorem dM_marks_44 : decode cM_marks 44 = .ok (.iload 4, 2) := by decide +kernel
theorem dM_marks_46 : decode cM_marks 46 = .ok (.imul, 1) := by decide +kernel
theorem dM_marks_47 : decode cM_marks 47 = .ok (.iload_n 1, 1) := by decide +kernel
theorem dM_marks_48 : decode cM_marks 48 = .ok (.iadd, 1) := by decide +kernel
theorem dM_marks_49 : decode cM_marks 49 = .ok (.iaload, 1) := by decide +kernel
theorem dM_marks_50 : decode cM_marks 50 = .ok (.iload_n 3, 1) := by decide +kernel
theorem dM_marks_51 : decode cM_marks 51 = .ok (.if_icmp .ge 17, 3) := by decide +kernel
theorem dM_marks_54 : decode cM_marks 54 = .ok (.aload_n 0, 1) := by decide +kernel
theorem dM_marks_55 : decode cM_marks 55 = .ok (.getfield 62, 3) := by decide +kernel
theorem dM_marks_58 : decode cM_marks 58 = .ok (.iconst 3, 1) := by decide +kernel
theorem dM_marks_59 : decode cM_marks 59 = .ok (.iload 4, 2) := by decide +kernel
theorem dM_marks_61 : decode cM_marks 61 = .ok (.imul, 1) := by decide +kernel
theorem dM_marks_62 : decode cM_marks 62 = .ok (.iload_n 1, 1) := by decide +kernel
theorem dM_marks_63 : decode cM_marks 63 = .ok (.iadd, 1) := by decide +kernel
theorem dM_marks_64 : decode cM_marks 64 = .ok (.iaload, 1) := by decide +kernel
theorem dM_marks_65 : decode cM_marks 65 = .ok (.goto 4, 3) := by decide +kernel
theorem dM_marks_68 : decode cM_marks 68 = .ok (.iload_n 3, 1) := by decide +kernel
theorem dM_marks_69 : decode cM_marks 69 = .ok (.istore_n 3, 1) := by decide +kernel
theorem dM_marks_70 : decode cM_marks 70 = .ok (.iinc 2 1, 3) := by decide +kernel
theorem dM_marks_73 : decode cM_marks 73 = .ok (.iinc 4 1, 3) := by decide +kernel
theorem dM_marks_76 : decode cM_marks 76 = .ok (.goto (-69), 3) := by decide +kernel
theorem dM_marks_79 : decode cM_marks 79 = .ok (.iload_n 2, 1) := by decide +kernel
theorem dM_marks_80 : decode cM_marks 80 = .ok (.bipush 8, 2) := by decide +kernel
theorem dM_marks_82 : decode cM_marks 82 = .ok (.iload_n 3, 1) := by decide +kernel
theorem dM_marks_83 : decode cM_marks 83 = .ok (.imul, 1) := by decide +kernel
theorem dM_marks_84 : decode cM_marks 84 = .ok (.iadd, 1) := by decide +kernel
theorem dM_marks_85 : decode cM_marks 85 = .ok (.ireturn, 1) := by decide +kernel
theorem dM_safe_0 : decode cM_safe 0 = .ok (.iload_n 1, 1) := by decide +kernel
theorem dM_safe_1 : decode cM_safe 1 = .ok (.iconst 3, 1) := by decide +kernel
theorem dM_safe_2 : decode cM_safe 2 = .ok (.invokestatic 75, 3) := by decide +kernel
theorem dM_safe_5 : decode cM_safe 5 = .ok (.ifCond .eq 12, 3) := by decide +kernel
theorem dM_safe_8 : decode cM_safe 8 = .ok (.aload_n 0, 1) := by decide +kernel
theorem dM_safe_9 : decode cM_safe 9 = .ok (.getfield 19, 3) := by decide +kernel
theorem dM_safe_12 : decode cM_safe 12 = .ok (.iload_n 1, 1) := by decide +kernel
theorem dM_safe_13 : decode cM_safe 13 = .ok (.baload, 1) := by decide +kernel
theorem dM_safe_14 : decode cM_safe 14 = .ok (.ifCond .eq 5, 3) := by decide +kernel
theorem dM_safe_17 : decode cM_safe 17 = .ok (.iconst (-1), 1) := by decide +kernel
theorem dM_safe_18 : decode cM_safe 18 = .ok (.ireturn, 1) := by decide +kernel
theorem dM_safe_19 : decode cM_safe 19 = .ok (.aload_n 0, 1) := by decide +kernel
theorem dM_safe_20 : decode cM_safe 20 = .ok (.getfield 114, 3) := by decide +kernel
theorem dM_safe_23 : decode cM_safe 23 = .ok (.aload_n 0, 1) := by decide +kernel
theorem dM_safe_24 : decode cM_safe 24 = .ok (.getfield 13, 3) := by decide +kernel
theorem dM_safe_27 : decode cM_safe 27 = .ok (.iload_n 1, 1) := by decide +kernel
theorem dM_safe_28 : decode cM_safe 28 = .ok (.iaload, 1) := by decide +kernel
theorem dM_safe_29 : decode cM_safe 29 = .ok (.iadd, 1) := by decide +kernel
theorem dM_safe_30 : decode cM_safe 30 = .ok (.istore_n 2, 1) := by decide +kernel
theorem dM_safe_31 : decode cM_safe 31 = .ok (.iconst 0, 1) := by decide +kernel
theorem dM_safe_32 : decode cM_safe 32 = .ok (.istore_n 3, 1) := by decide +kernel
theorem dM_safe_33 : decode cM_safe 33 = .ok (.iload_n 3, 1) := by decide +kernel
theorem dM_safe_34 : decode cM_safe 34 = .ok (.iconst 5, 1) := by decide +kernel
theorem dM_safe_35 : decode cM_safe 35 = .ok (.if_icmp .ge 49, 3) := by decide +kernel
theorem dM_safe_38 : decode cM_safe 38 = .ok (.aload_n 0, 1) := by decide +kernel
theorem dM_safe_39 : decode cM_safe 39 = .ok (.getfield 59, 3) := by decide +kernel
theorem dM_safe_42 : decode cM_safe 42 = .ok (.iconst 3, 1) := by decide +kernel
theorem dM_safe_43 : decode cM_safe 43 = .ok (.iload_n 3, 1) := by decide +kernel
theorem dM_safe_44 : decode cM_safe 44 = .ok (.imul, 1) := by decide +kernel
theorem dM_safe_45 : decode cM_safe 45 = .ok (.iload_n 1, 1) := by decide +kernel
theorem dM_safe_46 : decode cM_safe 46 = .ok (.iadd, 1) := by decide +kernel
theorem dM_safe_47 : decode cM_safe 47 = .ok (.baload, 1) := by decide +kernel
theorem dM_safe_48 : decode cM_safe 48 = .ok (.ifCond .eq 30, 3) := by decide +kernel
theorem dM_safe_51 : decode cM_safe 51 = .ok (.aload_n 0, 1) := by decide +kernel
theorem dM_safe_52 : decode cM_safe 52 = .ok (.getfield 62, 3) := by decide +kernel
theorem dM_safe_55 : decode cM_safe 55 = .ok (.iconst 3, 1) := by decide +kernel
theorem dM_safe_56 : decode cM_safe 56 = .ok (.iload_n 3, 1) := by decide +kernel
theorem dM_safe_57 : decode cM_safe 57 = .ok (.imul, 1) := by decide +kernel
theorem dM_safe_58 : decode cM_safe 58 = .ok (.iload_n 1, 1) := by decide +kernel
theorem dM_safe_59 : decode cM_safe 59 = .ok (.iadd, 1) := by decide +kernel
theorem dM_safe_60 : decode cM_safe 60 = .ok (.iaload, 1) := by decide +kernel
theorem dM_safe_61 : decode cM_safe 61 = .ok (.iload_n 2, 1) := by decide +kernel
theorem dM_safe_62 : decode cM_safe 62 = .ok (.if_icmp .gt 16, 3) := by decide +kernel
theorem dM_safe_65 : decode cM_safe 65 = .ok (.aload_n 0, 1) := by decide +kernel
theorem dM_safe_66 : decode cM_safe 66 = .ok (.getfield 62, 3) := by decide +kernel
theorem dM_safe_69 : decode cM_safe 69 = .ok (.iconst 3, 1) := by decide +kernel
theorem dM_safe_70 : decode cM_safe 70 = .ok (.iload_n 3, 1) := by decide +kernel
theorem dM_safe_71 : decode cM_safe 71 = .ok (.imul, 1) := by decide +kernel
theorem dM_safe_72 : decode cM_safe 72 = .ok (.iload_n 1, 1) := by decide +kernel
theorem dM_safe_73 : decode cM_safe 73 = .ok (.iadd, 1) := by decide +kernel
theorem dM_safe_74 : decode cM_safe 74 = .ok (.iaload, 1) := by decide +kernel
theorem dM_safe_75 : decode cM_safe 75 = .ok (.iconst 1, 1) := by decide +kernel
theorem dM_safe_76 : decode cM_safe 76 = .ok (.isub, 1) := by decide +kernel
theorem dM_safe_77 : decode cM_safe 77 = .ok (.istore_n 2, 1) := by decide +kernel
theorem dM_safe_78 : decode cM_safe 78 = .ok (.iinc 3 1, 3) := by decide +kernel
theorem dM_safe_81 : decode cM_safe 81 = .ok (.goto (-48), 3) := by decide +kernel
theorem dM_safe_84 : decode cM_safe 84 = .ok (.iload_n 2, 1) := by decide +kernel
theorem dM_safe_85 : decode cM_safe 85 = .ok (.ireturn, 1) := by decide +kernel
theorem dM_bound_0 : decode cM_bound 0 = .ok (.iload_n 1, 1) := by decide +kernel
theorem dM_bound_1 : decode cM_bound 1 = .ok (.iconst 3, 1) := by decide +kernel
theorem dM_bound_2 : decode cM_bound 2 = .ok (.invokestatic 75, 3) := by decide +kernel
theorem dM_bound_5 : decode cM_bound 5 = .ok (.ifCond .eq 12, 3) := by decide +kernel
theorem dM_bound_8 : decode cM_bound 8 = .ok (.aload_n 0, 1) := by decide +kernel
theorem dM_bound_9 : decode cM_bound 9 = .ok (.getfield 23, 3) := by decide +kernel
theorem dM_bound_12 : decode cM_bound 12 = .ok (.iload_n 1, 1) := by decide +kernel
theorem dM_bound_13 : decode cM_bound 13 = .ok (.iaload, 1) := by decide +kernel
theorem dM_bound_14 : decode cM_bound 14 = .ok (.goto 4, 3) := by decide +kernel
theorem dM_bound_17 : decode cM_bound 17 = .ok (.iconst (-1), 1) := by decide +kernel
theorem dM_bound_18 : decode cM_bound 18 = .ok (.ireturn, 1) := by decide +kernel
theorem dM_holders_0 : decode cM_holders 0 = .ok (.iconst 0, 1) := by decide +kernel
theorem dM_holders_1 : decode cM_holders 1 = .ok (.istore_n 2, 1) := by decide +kernel
theorem dM_holders_2 : decode cM_holders 2 = .ok (.iconst 0, 1) := by decide +kernel
theorem dM_holders_3 : decode cM_holders 3 = .ok (.istore_n 3, 1) := by decide +kernel
theorem dM_holders_4 : decode cM_holders 4 = .ok (.iload_n 3, 1) := by decide +kernel
theorem dM_holders_5 : decode cM_holders 5 = .ok (.iconst 5, 1) := by decide +kernel
theorem dM_holders_6 : decode cM_holders 6 = .ok (.if_icmp .ge 66, 3) := by decide +kernel
theorem dM_holders_9 : decode cM_holders 9 = .ok (.iload_n 1, 1) := by decide +kernel
theorem dM_holders_10 : decode cM_holders 10 = .ok (.bipush 9, 2) := by decide +kernel
theorem dM_holders_12 : decode cM_holders 12 = .ok (.invokestatic 75, 3) := by decide +kernel
theorem dM_holders_15 : decode cM_holders 15 = .ok (.ifCond .eq 57, 3) := by decide +kernel
theorem dM_holders_18 : decode cM_holders 18 = .ok (.iload_n 2, 1) := by decide +kernel
theorem dM_holders_19 : decode cM_holders 19 = .ok (.aload_n 0, 1) := by decide +kernel
theorem dM_holders_20 : decode cM_holders 20 = .ok (.getfield 50, 3) := by decide +kernel
theorem dM_holders_23 : decode cM_holders 23 = .ok (.bipush 9, 2) := by decide +kernel
theorem dM_holders_25 : decode cM_holders 25 = .ok (.iload_n 3, 1) := by decide +kernel
theorem dM_holders_26 : decode cM_holders 26 = .ok (.imul, 1) := by decide +kernel
theorem dM_holders_27 : decode cM_holders 27 = .ok (.iload_n 1, 1) := by decide +kernel
theorem dM_holders_28 : decode cM_holders 28 = .ok (.iadd, 1) := by decide +kernel
theorem dM_holders_29 : decode cM_holders 29 = .ok (.iaload, 1) := by decide +kernel
theorem dM_holders_30 : decode cM_holders 30 = .ok (.ifCond .le 9, 3) := by decide +kernel
theorem dM_holders_33 : decode cM_holders 33 = .ok (.iconst 1, 1) := by decide +kernel
theorem dM_holders_34 : decode cM_holders 34 = .ok (.iload_n 3, 1) := by decide +kernel
theorem dM_holders_35 : decode cM_holders 35 = .ok (.ishl, 1) := by decide +kernel
theorem dM_holders_36 : decode cM_holders 36 = .ok (.goto 4, 3) := by decide +kernel
theorem dM_holders_39 : decode cM_holders 39 = .ok (.iconst 0, 1) := by decide +kernel
theorem dM_holders_40 : decode cM_holders 40 = .ok (.iadd, 1) := by decide +kernel
theorem dM_holders_41 : decode cM_holders 41 = .ok (.istore_n 2, 1) := by decide +kernel
theorem dM_holders_42 : decode cM_holders 42 = .ok (.iload_n 2, 1) := by decide +kernel
theorem dM_holders_43 : decode cM_holders 43 = .ok (.aload_n 0, 1) := by decide +kernel
theorem dM_holders_44 : decode cM_holders 44 = .ok (.getfield 50, 3) := by decide +kernel
theorem dM_holders_47 : decode cM_holders 47 = .ok (.bipush 9, 2) := by decide +kernel
theorem dM_holders_49 : decode cM_holders 49 = .ok (.iload_n 3, 1) := by decide +kernel
theorem dM_holders_50 : decode cM_holders 50 = .ok (.imul, 1) := by decide +kernel
theorem dM_holders_51 : decode cM_holders 51 = .ok (.iload_n 1, 1) := by decide +kernel
theorem dM_holders_52 : decode cM_holders 52 = .ok (.iadd, 1) := by decide +kernel
theorem dM_holders_53 : decode cM_holders 53 = .ok (.iaload, 1) := by decide +kernel
theorem dM_holders_54 : decode cM_holders 54 = .ok (.iconst 2, 1) := by decide +kernel
theorem dM_holders_55 : decode cM_holders 55 = .ok (.if_icmp .ne 8, 3) := by decide +kernel
theorem dM_holders_58 : decode cM_holders 58 = .ok (.bipush 32, 2) := by decide +kernel
theorem dM_holders_60 : decode cM_holders 60 = .ok (.goto 4, 3) := by decide +kernel
theorem dM_holders_63 : decode cM_holders 63 = .ok (.iconst 0, 1) := by decide +kernel
theorem dM_holders_64 : decode cM_holders 64 = .ok (.iadd, 1) := by decide +kernel
theorem dM_holders_65 : decode cM_holders 65 = .ok (.istore_n 2, 1) := by decide +kernel
theorem dM_holders_66 : decode cM_holders 66 = .ok (.iinc 3 1, 3) := by decide +kernel
theorem dM_holders_69 : decode cM_holders 69 = .ok (.goto (-65), 3) := by decide +kernel
theorem dM_holders_72 : decode cM_holders 72 = .ok (.iload_n 2, 1) := by decide +kernel
theorem dM_holders_73 : decode cM_holders 73 = .ok (.ireturn, 1) := by decide +kernel
theorem dM_messages_0 : decode cM_messages 0 = .ok (.iconst 0, 1) := by decide +kernel
theorem dM_messages_1 : decode cM_messages 1 = .ok (.istore_n 1, 1) := by decide +kernel
theorem dM_messages_2 : decode cM_messages 2 = .ok (.iconst 0, 1) := by decide +kernel
theorem dM_messages_3 : decode cM_messages 3 = .ok (.istore_n 2, 1) := by decide +kernel
theorem dM_messages_4 : decode cM_messages 4 = .ok (.iload_n 2, 1) := by decide +kernel
theorem dM_messages_5 : decode cM_messages 5 = .ok (.bipush 45, 2) := by decide +kernel
theorem dM_messages_7 : decode cM_messages 7 = .ok (.if_icmp .ge 26, 3) := by decide +kernel
theorem dM_messages_10 : decode cM_messages 10 = .ok (.iload_n 1, 1) := by decide +kernel
theorem dM_messages_11 : decode cM_messages 11 = .ok (.aload_n 0, 1) := by decide +kernel
theorem dM_messages_12 : decode cM_messages 12 = .ok (.getfield 65, 3) := by decide +kernel
theorem dM_messages_15 : decode cM_messages 15 = .ok (.iload_n 2, 1) := by decide +kernel
theorem dM_messages_16 : decode cM_messages 16 = .ok (.iaload, 1) := by decide +kernel
theorem dM_messages_17 : decode cM_messages 17 = .ok (.ifCond .le 7, 3) := by decide +kernel
theorem dM_messages_20 : decode cM_messages 20 = .ok (.iconst 1, 1) := by decide +kernel
theorem dM_messages_21 : decode cM_messages 21 = .ok (.goto 4, 3) := by decide +kernel
theorem dM_messages_24 : decode cM_messages 24 = .ok (.iconst 0, 1) := by decide +kernel
theorem dM_messages_25 : decode cM_messages 25 = .ok (.iadd, 1) := by decide +kernel
theorem dM_messages_26 : decode cM_messages 26 = .ok (.istore_n 1, 1) := by decide +kernel
theorem dM_messages_27 : decode cM_messages 27 = .ok (.iinc 2 1, 3) := by decide +kernel
theorem dM_messages_30 : decode cM_messages 30 = .ok (.goto (-26), 3) := by decide +kernel
theorem dM_messages_33 : decode cM_messages 33 = .ok (.iload_n 1, 1) := by decide +kernel
theorem dM_messages_34 : decode cM_messages 34 = .ok (.ireturn, 1) := by decide +kernel

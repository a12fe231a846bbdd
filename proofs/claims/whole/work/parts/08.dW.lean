theorem dW_init_0 : decode cW_init 0 = .ok (.aload_n 0, 1) := by decide +kernel
theorem dW_init_1 : decode cW_init 1 = .ok (.invokespecial 1, 3) := by decide +kernel
theorem dW_init_4 : decode cW_init 4 = .ok (.aload_n 0, 1) := by decide +kernel
theorem dW_init_5 : decode cW_init 5 = .ok (.iconst 3, 1) := by decide +kernel
theorem dW_init_6 : decode cW_init 6 = .ok (.anewarray 9, 3) := by decide +kernel
theorem dW_init_9 : decode cW_init 9 = .ok (.putfield 11, 3) := by decide +kernel
theorem dW_init_12 : decode cW_init 12 = .ok (.aload_n 0, 1) := by decide +kernel
theorem dW_init_13 : decode cW_init 13 = .ok (.bipush 9, 2) := by decide +kernel
theorem dW_init_15 : decode cW_init 15 = .ok (.anewarray 15, 3) := by decide +kernel
theorem dW_init_18 : decode cW_init 18 = .ok (.putfield 17, 3) := by decide +kernel
theorem dW_init_21 : decode cW_init 21 = .ok (.aload_n 0, 1) := by decide +kernel
theorem dW_init_22 : decode cW_init 22 = .ok (.iconst 5, 1) := by decide +kernel
theorem dW_init_23 : decode cW_init 23 = .ok (.anewarray 21, 3) := by decide +kernel
theorem dW_init_26 : decode cW_init 26 = .ok (.putfield 23, 3) := by decide +kernel
theorem dW_init_29 : decode cW_init 29 = .ok (.aload_n 0, 1) := by decide +kernel
theorem dW_init_30 : decode cW_init 30 = .ok (.bipush 15, 2) := by decide +kernel
theorem dW_init_32 : decode cW_init 32 = .ok (.anewarray 27, 3) := by decide +kernel
theorem dW_init_35 : decode cW_init 35 = .ok (.putfield 29, 3) := by decide +kernel
theorem dW_init_38 : decode cW_init 38 = .ok (.aload_n 0, 1) := by decide +kernel
theorem dW_init_39 : decode cW_init 39 = .ok (.iconst 0, 1) := by decide +kernel
theorem dW_init_40 : decode cW_init 40 = .ok (.putfield 33, 3) := by decide +kernel
theorem dW_init_43 : decode cW_init 43 = .ok (.aload_n 0, 1) := by decide +kernel
theorem dW_init_44 : decode cW_init 44 = .ok (.iconst 0, 1) := by decide +kernel
theorem dW_init_45 : decode cW_init 45 = .ok (.putfield 37, 3) := by decide +kernel
theorem dW_init_48 : decode cW_init 48 = .ok (.aload_n 0, 1) := by decide +kernel
theorem dW_init_49 : decode cW_init 49 = .ok (.iconst 0, 1) := by decide +kernel
theorem dW_init_50 : decode cW_init 50 = .ok (.putfield 40, 3) := by decide +kernel
theorem dW_init_53 : decode cW_init 53 = .ok (.aload_n 0, 1) := by decide +kernel
theorem dW_init_54 : decode cW_init 54 = .ok (.iconst 0, 1) := by decide +kernel
theorem dW_init_55 : decode cW_init 55 = .ok (.putfield 43, 3) := by decide +kernel
theorem dW_init_58 : decode cW_init 58 = .ok (.aload_n 0, 1) := by decide +kernel
theorem dW_init_59 : decode cW_init 59 = .ok (.iconst 0, 1) := by decide +kernel
theorem dW_init_60 : decode cW_init 60 = .ok (.iload_n 1, 1) := by decide +kernel
theorem dW_init_61 : decode cW_init 61 = .ok (.bipush 20, 2) := by decide +kernel
theorem dW_init_63 : decode cW_init 63 = .ok (.invokestatic 46, 3) := by decide +kernel
theorem dW_init_66 : decode cW_init 66 = .ok (.invokestatic 52, 3) := by decide +kernel
theorem dW_init_69 : decode cW_init 69 = .ok (.putfield 55, 3) := by decide +kernel
theorem dW_init_72 : decode cW_init 72 = .ok (.iconst 0, 1) := by decide +kernel
theorem dW_init_73 : decode cW_init 73 = .ok (.istore_n 2, 1) := by decide +kernel
theorem dW_init_74 : decode cW_init 74 = .ok (.iload_n 2, 1) := by decide +kernel
theorem dW_init_75 : decode cW_init 75 = .ok (.iconst 3, 1) := by decide +kernel
theorem dW_init_76 : decode cW_init 76 = .ok (.if_icmp .ge 26, 3) := by decide +kernel
theorem dW_init_79 : decode cW_init 79 = .ok (.aload_n 0, 1) := by decide +kernel
theorem dW_init_80 : decode cW_init 80 = .ok (.getfield 11, 3) := by decide +kernel
theorem dW_init_83 : decode cW_init 83 = .ok (.iload_n 2, 1) := by decide +kernel
theorem dW_init_84 : decode cW_init 84 = .ok (.new 9, 3) := by decide +kernel
theorem dW_init_87 : decode cW_init 87 = .ok (.dup, 1) := by decide +kernel
theorem dW_init_88 : decode cW_init 88 = .ok (.aload_n 0, 1) := by decide +kernel
theorem dW_init_89 : decode cW_init 89 = .ok (.getfield 55, 3) := by decide +kernel
theorem dW_init_92 : decode cW_init 92 = .ok (.invokespecial 58, 3) := by decide +kernel
theorem dW_init_95 : decode cW_init 95 = .ok (.aastore, 1) := by decide +kernel
theorem dW_init_96 : decode cW_init 96 = .ok (.iinc 2 1, 3) := by decide +kernel
theorem dW_init_99 : decode cW_init 99 = .ok (.goto (-25), 3) := by decide +kernel
theorem dW_init_102 : decode cW_init 102 = .ok (.iconst 0, 1) := by decide +kernel
theorem dW_init_103 : decode cW_init 103 = .ok (.istore_n 2, 1) := by decide +kernel
theorem dW_init_104 : decode cW_init 104 = .ok (.iload_n 2, 1) := by decide +kernel
theorem dW_init_105 : decode cW_init 105 = .ok (.bipush 9, 2) := by decide +kernel
theorem dW_init_107 : decode cW_init 107 = .ok (.if_icmp .ge 22, 3) := by decide +kernel
theorem dW_init_110 : decode cW_init 110 = .ok (.aload_n 0, 1) := by decide +kernel
theorem dW_init_111 : decode cW_init 111 = .ok (.getfield 17, 3) := by decide +kernel
theorem dW_init_114 : decode cW_init 114 = .ok (.iload_n 2, 1) := by decide +kernel
theorem dW_init_115 : decode cW_init 115 = .ok (.new 15, 3) := by decide +kernel
theorem dW_init_118 : decode cW_init 118 = .ok (.dup, 1) := by decide +kernel
theorem dW_init_119 : decode cW_init 119 = .ok (.invokespecial 61, 3) := by decide +kernel
theorem dW_init_122 : decode cW_init 122 = .ok (.aastore, 1) := by decide +kernel
theorem dW_init_123 : decode cW_init 123 = .ok (.iinc 2 1, 3) := by decide +kernel
theorem dW_init_126 : decode cW_init 126 = .ok (.goto (-22), 3) := by decide +kernel
theorem dW_init_129 : decode cW_init 129 = .ok (.iconst 0, 1) := by decide +kernel
theorem dW_init_130 : decode cW_init 130 = .ok (.istore_n 2, 1) := by decide +kernel
theorem dW_init_131 : decode cW_init 131 = .ok (.iload_n 2, 1) := by decide +kernel
theorem dW_init_132 : decode cW_init 132 = .ok (.iconst 5, 1) := by decide +kernel
theorem dW_init_133 : decode cW_init 133 = .ok (.if_icmp .ge 54, 3) := by decide +kernel
theorem dW_init_136 : decode cW_init 136 = .ok (.aload_n 0, 1) := by decide +kernel
theorem dW_init_137 : decode cW_init 137 = .ok (.getfield 23, 3) := by decide +kernel
theorem dW_init_140 : decode cW_init 140 = .ok (.iload_n 2, 1) := by decide +kernel
theorem dW_init_141 : decode cW_init 141 = .ok (.new 21, 3) := by decide +kernel
theorem dW_init_144 : decode cW_init 144 = .ok (.dup, 1) := by decide +kernel
theorem dW_init_145 : decode cW_init 145 = .ok (.invokespecial 62, 3) := by decide +kernel
theorem dW_init_148 : decode cW_init 148 = .ok (.aastore, 1) := by decide +kernel
theorem dW_init_149 : decode cW_init 149 = .ok (.iconst 0, 1) := by decide +kernel
theorem dW_init_150 : decode cW_init 150 = .ok (.istore_n 3, 1) := by decide +kernel
theorem dW_init_151 : decode cW_init 151 = .ok (.iload_n 3, 1) := by decide +kernel
theorem dW_init_152 : decode cW_init 152 = .ok (.iconst 3, 1) := by decide +kernel
theorem dW_init_153 : decode cW_init 153 = .ok (.if_icmp .ge 28, 3) := by decide +kernel
theorem dW_init_156 : decode cW_init 156 = .ok (.aload_n 0, 1) := by decide +kernel
theorem dW_init_157 : decode cW_init 157 = .ok (.getfield 29, 3) := by decide +kernel
theorem dW_init_160 : decode cW_init 160 = .ok (.iload_n 2, 1) := by decide +kernel
theorem dW_init_161 : decode cW_init 161 = .ok (.iconst 3, 1) := by decide +kernel
theorem dW_init_162 : decode cW_init 162 = .ok (.imul, 1) := by decide +kernel
theorem dW_init_163 : decode cW_init 163 = .ok (.iload_n 3, 1) := by decide +kernel
theorem dW_init_164 : decode cW_init 164 = .ok (.iadd, 1) := by decide +kernel
theorem dW_init_165 : decode cW_init 165 = .ok (.new 27, 3) := by decide +kernel
theorem dW_init_168 : decode cW_init 168 = .ok (.dup, 1) := by decide +kernel
theorem dW_init_169 : decode cW_init 169 = .ok (.iload_n 2, 1) := by decide +kernel
theorem dW_init_170 : decode cW_init 170 = .ok (.iload_n 3, 1) := by decide +kernel
theorem dW_init_171 : decode cW_init 171 = .ok (.invokespecial 63, 3) := by decide +kernel
theorem dW_init_174 : decode cW_init 174 = .ok (.aastore, 1) := by decide +kernel
theorem dW_init_175 : decode cW_init 175 = .ok (.iinc 3 1, 3) := by decide +kernel
theorem dW_init_178 : decode cW_init 178 = .ok (.goto (-27), 3) := by decide +kernel
theorem dW_init_181 : decode cW_init 181 = .ok (.iinc 2 1, 3) := by decide +kernel
theorem dW_init_184 : decode cW_init 184 = .ok (.goto (-53), 3) := by decide +kernel
theorem dW_init_187 : decode cW_init 187 = .ok (.return_, 1) := by decide +kernel
theorem dW_clock_0 : decode cW_clock 0 = .ok (.iload_n 1, 1) := by decide +kernel
theorem dW_clock_1 : decode cW_clock 1 = .ok (.invokestatic 66, 3) := by decide +kernel
theorem dW_clock_4 : decode cW_clock 4 = .ok (.ifCond .eq 19, 3) := by decide +kernel
theorem dW_clock_7 : decode cW_clock 7 = .ok (.aload_n 0, 1) := by decide +kernel
theorem dW_clock_8 : decode cW_clock 8 = .ok (.iload_n 2, 1) := by decide +kernel
theorem dW_clock_9 : decode cW_clock 9 = .ok (.invokevirtual 70, 3) := by decide +kernel
theorem dW_clock_12 : decode cW_clock 12 = .ok (.ifCond .eq 11, 3) := by decide +kernel
theorem dW_clock_15 : decode cW_clock 15 = .ok (.aload_n 0, 1) := by decide +kernel
theorem dW_clock_16 : decode cW_clock 16 = .ok (.iload_n 3, 1) := by decide +kernel
theorem dW_clock_17 : decode cW_clock 17 = .ok (.invokevirtual 70, 3) := by decide +kernel
theorem dW_clock_20 : decode cW_clock 20 = .ok (.ifCond .ne 5, 3) := by decide +kernel
theorem dW_clock_23 : decode cW_clock 23 = .ok (.iconst 0, 1) := by decide +kernel
theorem dW_clock_24 : decode cW_clock 24 = .ok (.ireturn, 1) := by decide +kernel
theorem dW_clock_25 : decode cW_clock 25 = .ok (.aload_n 0, 1) := by decide +kernel
theorem dW_clock_26 : decode cW_clock 26 = .ok (.getfield 11, 3) := by decide +kernel
theorem dW_clock_29 : decode cW_clock 29 = .ok (.iload_n 1, 1) := by decide +kernel
theorem dW_clock_30 : decode cW_clock 30 = .ok (.aaload, 1) := by decide +kernel
theorem dW_clock_31 : decode cW_clock 31 = .ok (.iload_n 2, 1) := by decide +kernel
theorem dW_clock_32 : decode cW_clock 32 = .ok (.putfield 73, 3) := by decide +kernel
theorem dW_clock_35 : decode cW_clock 35 = .ok (.aload_n 0, 1) := by decide +kernel
theorem dW_clock_36 : decode cW_clock 36 = .ok (.getfield 11, 3) := by decide +kernel
theorem dW_clock_39 : decode cW_clock 39 = .ok (.iload_n 1, 1) := by decide +kernel
theorem dW_clock_40 : decode cW_clock 40 = .ok (.aaload, 1) := by decide +kernel
theorem dW_clock_41 : decode cW_clock 41 = .ok (.iload_n 3, 1) := by decide +kernel
theorem dW_clock_42 : decode cW_clock 42 = .ok (.putfield 76, 3) := by decide +kernel
theorem dW_clock_45 : decode cW_clock 45 = .ok (.iconst 1, 1) := by decide +kernel
theorem dW_clock_46 : decode cW_clock 46 = .ok (.ireturn, 1) := by decide +kernel
theorem dW_delay_0 : decode cW_delay 0 = .ok (.iload_n 1, 1) := by decide +kernel
theorem dW_delay_1 : decode cW_delay 1 = .ok (.invokestatic 66, 3) := by decide +kernel
theorem dW_delay_4 : decode cW_delay 4 = .ok (.ifCond .eq 13, 3) := by decide +kernel
theorem dW_delay_7 : decode cW_delay 7 = .ok (.iload_n 2, 1) := by decide +kernel
theorem dW_delay_8 : decode cW_delay 8 = .ok (.ifCond .lt 9, 3) := by decide +kernel
theorem dW_delay_11 : decode cW_delay 11 = .ok (.iload_n 2, 1) := by decide +kernel
theorem dW_delay_12 : decode cW_delay 12 = .ok (.bipush 9, 2) := by decide +kernel
theorem dW_delay_14 : decode cW_delay 14 = .ok (.if_icmp .le 5, 3) := by decide +kernel
theorem dW_delay_17 : decode cW_delay 17 = .ok (.iconst 0, 1) := by decide +kernel
theorem dW_delay_18 : decode cW_delay 18 = .ok (.ireturn, 1) := by decide +kernel
theorem dW_delay_19 : decode cW_delay 19 = .ok (.aload_n 0, 1) := by decide +kernel
theorem dW_delay_20 : decode cW_delay 20 = .ok (.getfield 11, 3) := by decide +kernel
theorem dW_delay_23 : decode cW_delay 23 = .ok (.iload_n 1, 1) := by decide +kernel
theorem dW_delay_24 : decode cW_delay 24 = .ok (.aaload, 1) := by decide +kernel
theorem dW_delay_25 : decode cW_delay 25 = .ok (.iload_n 2, 1) := by decide +kernel
theorem dW_delay_26 : decode cW_delay 26 = .ok (.putfield 79, 3) := by decide +kernel
theorem dW_delay_29 : decode cW_delay 29 = .ok (.iconst 1, 1) := by decide +kernel
theorem dW_delay_30 : decode cW_delay 30 = .ok (.ireturn, 1) := by decide +kernel
theorem dW_power_0 : decode cW_power 0 = .ok (.iload_n 1, 1) := by decide +kernel
theorem dW_power_1 : decode cW_power 1 = .ok (.invokestatic 66, 3) := by decide +kernel
theorem dW_power_4 : decode cW_power 4 = .ok (.ifCond .eq 16, 3) := by decide +kernel
theorem dW_power_7 : decode cW_power 7 = .ok (.aload_n 0, 1) := by decide +kernel
theorem dW_power_8 : decode cW_power 8 = .ok (.getfield 11, 3) := by decide +kernel
theorem dW_power_11 : decode cW_power 11 = .ok (.iload_n 1, 1) := by decide +kernel
theorem dW_power_12 : decode cW_power 12 = .ok (.aaload, 1) := by decide +kernel
theorem dW_power_13 : decode cW_power 13 = .ok (.getfield 82, 3) := by decide +kernel
theorem dW_power_16 : decode cW_power 16 = .ok (.iload_n 2, 1) := by decide +kernel
theorem dW_power_17 : decode cW_power 17 = .ok (.if_icmp .ne 5, 3) := by decide +kernel
theorem dW_power_20 : decode cW_power 20 = .ok (.iconst 0, 1) := by decide +kernel
theorem dW_power_21 : decode cW_power 21 = .ok (.ireturn, 1) := by decide +kernel
theorem dW_power_22 : decode cW_power 22 = .ok (.aload_n 0, 1) := by decide +kernel
theorem dW_power_23 : decode cW_power 23 = .ok (.getfield 11, 3) := by decide +kernel
theorem dW_power_26 : decode cW_power 26 = .ok (.iload_n 1, 1) := by decide +kernel
theorem dW_power_27 : decode cW_power 27 = .ok (.aaload, 1) := by decide +kernel
theorem dW_power_28 : decode cW_power 28 = .ok (.iload_n 2, 1) := by decide +kernel
theorem dW_power_29 : decode cW_power 29 = .ok (.putfield 82, 3) := by decide +kernel
theorem dW_power_32 : decode cW_power 32 = .ok (.iconst 1, 1) := by decide +kernel
theorem dW_power_33 : decode cW_power 33 = .ok (.ireturn, 1) := by decide +kernel
theorem dW_begin_0 : decode cW_begin 0 = .ok (.iload_n 1, 1) := by decide +kernel
theorem dW_begin_1 : decode cW_begin 1 = .ok (.invokestatic 86, 3) := by decide +kernel
theorem dW_begin_4 : decode cW_begin 4 = .ok (.ifCond .eq 15, 3) := by decide +kernel
theorem dW_begin_7 : decode cW_begin 7 = .ok (.aload_n 0, 1) := by decide +kernel
theorem dW_begin_8 : decode cW_begin 8 = .ok (.getfield 23, 3) := by decide +kernel
theorem dW_begin_11 : decode cW_begin 11 = .ok (.iload_n 1, 1) := by decide +kernel
theorem dW_begin_12 : decode cW_begin 12 = .ok (.aaload, 1) := by decide +kernel
theorem dW_begin_13 : decode cW_begin 13 = .ok (.invokestatic 89, 3) := by decide +kernel
theorem dW_begin_16 : decode cW_begin 16 = .ok (.ifCond .ne 5, 3) := by decide +kernel
theorem dW_begin_19 : decode cW_begin 19 = .ok (.iconst 0, 1) := by decide +kernel
theorem dW_begin_20 : decode cW_begin 20 = .ok (.ireturn, 1) := by decide +kernel
theorem dW_begin_21 : decode cW_begin 21 = .ok (.aload_n 0, 1) := by decide +kernel
theorem dW_begin_22 : decode cW_begin 22 = .ok (.getfield 23, 3) := by decide +kernel
theorem dW_begin_25 : decode cW_begin 25 = .ok (.iload_n 1, 1) := by decide +kernel
theorem dW_begin_26 : decode cW_begin 26 = .ok (.aaload, 1) := by decide +kernel
theorem dW_begin_27 : decode cW_begin 27 = .ok (.iconst 1, 1) := by decide +kernel
theorem dW_begin_28 : decode cW_begin 28 = .ok (.putfield 93, 3) := by decide +kernel
theorem dW_begin_31 : decode cW_begin 31 = .ok (.aload_n 0, 1) := by decide +kernel
theorem dW_begin_32 : decode cW_begin 32 = .ok (.getfield 23, 3) := by decide +kernel
theorem dW_begin_35 : decode cW_begin 35 = .ok (.iload_n 1, 1) := by decide +kernel
theorem dW_begin_36 : decode cW_begin 36 = .ok (.aaload, 1) := by decide +kernel
theorem dW_begin_37 : decode cW_begin 37 = .ok (.aload_n 0, 1) := by decide +kernel
theorem dW_begin_38 : decode cW_begin 38 = .ok (.getfield 37, 3) := by decide +kernel
theorem dW_begin_41 : decode cW_begin 41 = .ok (.putfield 96, 3) := by decide +kernel
theorem dW_begin_44 : decode cW_begin 44 = .ok (.aload_n 0, 1) := by decide +kernel
theorem dW_begin_45 : decode cW_begin 45 = .ok (.dup, 1) := by decide +kernel
theorem dW_begin_46 : decode cW_begin 46 = .ok (.getfield 37, 3) := by decide +kernel
theorem dW_begin_49 : decode cW_begin 49 = .ok (.iconst 1, 1) := by decide +kernel
theorem dW_begin_50 : decode cW_begin 50 = .ok (.iadd, 1) := by decide +kernel
theorem dW_begin_51 : decode cW_begin 51 = .ok (.putfield 37, 3) := by decide +kernel
theorem dW_begin_54 : decode cW_begin 54 = .ok (.iconst 1, 1) := by decide +kernel
theorem dW_begin_55 : decode cW_begin 55 = .ok (.ireturn, 1) := by decide +kernel
theorem dW_read_0 : decode cW_read 0 = .ok (.aload_n 0, 1) := by decide +kernel
theorem dW_read_1 : decode cW_read 1 = .ok (.iload_n 1, 1) := by decide +kernel
theorem dW_read_2 : decode cW_read 2 = .ok (.invokevirtual 99, 3) := by decide +kernel
theorem dW_read_5 : decode cW_read 5 = .ok (.ifCond .eq 25, 3) := by decide +kernel
theorem dW_read_8 : decode cW_read 8 = .ok (.iload_n 2, 1) := by decide +kernel
theorem dW_read_9 : decode cW_read 9 = .ok (.invokestatic 102, 3) := by decide +kernel
theorem dW_read_12 : decode cW_read 12 = .ok (.ifCond .eq 18, 3) := by decide +kernel
theorem dW_read_15 : decode cW_read 15 = .ok (.aload_n 0, 1) := by decide +kernel
theorem dW_read_16 : decode cW_read 16 = .ok (.aload_n 0, 1) := by decide +kernel
theorem dW_read_17 : decode cW_read 17 = .ok (.getfield 23, 3) := by decide +kernel
theorem dW_read_20 : decode cW_read 20 = .ok (.iload_n 1, 1) := by decide +kernel
theorem dW_read_21 : decode cW_read 21 = .ok (.aaload, 1) := by decide +kernel
theorem dW_read_22 : decode cW_read 22 = .ok (.iload_n 2, 1) := by decide +kernel
theorem dW_read_23 : decode cW_read 23 = .ok (.iconst 1, 1) := by decide +kernel
theorem dW_read_24 : decode cW_read 24 = .ok (.invokevirtual 105, 3) := by decide +kernel
theorem dW_read_27 : decode cW_read 27 = .ok (.ifCond .ne 7, 3) := by decide +kernel
theorem dW_read_30 : decode cW_read 30 = .ok (.ldc2_w 109, 3) := by decide +kernel
theorem dW_read_33 : decode cW_read 33 = .ok (.lreturn, 1) := by decide +kernel
theorem dW_read_34 : decode cW_read 34 = .ok (.aload_n 0, 1) := by decide +kernel
theorem dW_read_35 : decode cW_read 35 = .ok (.getfield 23, 3) := by decide +kernel
theorem dW_read_38 : decode cW_read 38 = .ok (.iload_n 1, 1) := by decide +kernel
theorem dW_read_39 : decode cW_read 39 = .ok (.aaload, 1) := by decide +kernel
theorem dW_read_40 : decode cW_read 40 = .ok (.getfield 111, 3) := by decide +kernel
theorem dW_read_43 : decode cW_read 43 = .ok (.iload_n 2, 1) := by decide +kernel
theorem dW_read_44 : decode cW_read 44 = .ok (.iaload, 1) := by decide +kernel
theorem dW_read_45 : decode cW_read 45 = .ok (.iconst 2, 1) := by decide +kernel
theorem dW_read_46 : decode cW_read 46 = .ok (.if_icmp .ne 16, 3) := by decide +kernel
theorem dW_read_49 : decode cW_read 49 = .ok (.aload_n 0, 1) := by decide +kernel
theorem dW_read_50 : decode cW_read 50 = .ok (.getfield 23, 3) := by decide +kernel
theorem dW_read_53 : decode cW_read 53 = .ok (.iload_n 1, 1) := by decide +kernel
theorem dW_read_54 : decode cW_read 54 = .ok (.aaload, 1) := by decide +kernel
theorem dW_read_55 : decode cW_read 55 = .ok (.getfield 115, 3) := by decide +kernel
theorem dW_read_58 : decode cW_read 58 = .ok (.iload_n 2, 1) := by decide +kernel
theorem dW_read_59 : decode cW_read 59 = .ok (.iaload, 1) := by decide +kernel
theorem dW_read_60 : decode cW_read 60 = .ok (.i2l, 1) := by decide +kernel
theorem dW_read_61 : decode cW_read 61 = .ok (.lreturn, 1) := by decide +kernel
theorem dW_read_62 : decode cW_read 62 = .ok (.aload_n 0, 1) := by decide +kernel
theorem dW_read_63 : decode cW_read 63 = .ok (.getfield 17, 3) := by decide +kernel
theorem dW_read_66 : decode cW_read 66 = .ok (.iload_n 2, 1) := by decide +kernel
theorem dW_read_67 : decode cW_read 67 = .ok (.aaload, 1) := by decide +kernel
theorem dW_read_68 : decode cW_read 68 = .ok (.getfield 118, 3) := by decide +kernel
theorem dW_read_71 : decode cW_read 71 = .ok (.iconst 0, 1) := by decide +kernel
theorem dW_read_72 : decode cW_read 72 = .ok (.iaload, 1) := by decide +kernel
theorem dW_read_73 : decode cW_read 73 = .ok (.i2l, 1) := by decide +kernel
theorem dW_read_74 : decode cW_read 74 = .ok (.lreturn, 1) := by decide +kernel
theorem dW_write_0 : decode cW_write 0 = .ok (.aload_n 0, 1) := by decide +kernel
theorem dW_write_1 : decode cW_write 1 = .ok (.iload_n 1, 1) := by decide +kernel
theorem dW_write_2 : decode cW_write 2 = .ok (.invokevirtual 99, 3) := by decide +kernel
theorem dW_write_5 : decode cW_write 5 = .ok (.ifCond .eq 25, 3) := by decide +kernel
theorem dW_write_8 : decode cW_write 8 = .ok (.iload_n 2, 1) := by decide +kernel
theorem dW_write_9 : decode cW_write 9 = .ok (.invokestatic 102, 3) := by decide +kernel
theorem dW_write_12 : decode cW_write 12 = .ok (.ifCond .eq 18, 3) := by decide +kernel
theorem dW_write_15 : decode cW_write 15 = .ok (.aload_n 0, 1) := by decide +kernel
theorem dW_write_16 : decode cW_write 16 = .ok (.aload_n 0, 1) := by decide +kernel
theorem dW_write_17 : decode cW_write 17 = .ok (.getfield 23, 3) := by decide +kernel
theorem dW_write_20 : decode cW_write 20 = .ok (.iload_n 1, 1) := by decide +kernel
theorem dW_write_21 : decode cW_write 21 = .ok (.aaload, 1) := by decide +kernel
theorem dW_write_22 : decode cW_write 22 = .ok (.iload_n 2, 1) := by decide +kernel
theorem dW_write_23 : decode cW_write 23 = .ok (.iconst 2, 1) := by decide +kernel
theorem dW_write_24 : decode cW_write 24 = .ok (.invokevirtual 105, 3) := by decide +kernel
theorem dW_write_27 : decode cW_write 27 = .ok (.ifCond .ne 5, 3) := by decide +kernel
theorem dW_write_30 : decode cW_write 30 = .ok (.iconst 0, 1) := by decide +kernel
theorem dW_write_31 : decode cW_write 31 = .ok (.ireturn, 1) := by decide +kernel
theorem dW_write_32 : decode cW_write 32 = .ok (.aload_n 0, 1) := by decide +kernel
theorem dW_write_33 : decode cW_write 33 = .ok (.getfield 23, 3) := by decide +kernel
theorem dW_write_36 : decode cW_write 36 = .ok (.iload_n 1, 1) := by decide +kernel
theorem dW_write_37 : decode cW_write 37 = .ok (.aaload, 1) := by decide +kernel
theorem dW_write_38 : decode cW_write 38 = .ok (.getfield 115, 3) := by decide +kernel
theorem dW_write_41 : decode cW_write 41 = .ok (.iload_n 2, 1) := by decide +kernel
theorem dW_write_42 : decode cW_write 42 = .ok (.iload_n 3, 1) := by decide +kernel
theorem dW_write_43 : decode cW_write 43 = .ok (.iastore, 1) := by decide +kernel
theorem dW_write_44 : decode cW_write 44 = .ok (.iconst 1, 1) := by decide +kernel
theorem dW_write_45 : decode cW_write 45 = .ok (.ireturn, 1) := by decide +kernel
theorem dW_commit_0 : decode cW_commit 0 = .ok (.aload_n 0, 1) := by decide +kernel
theorem dW_commit_1 : decode cW_commit 1 = .ok (.iload_n 1, 1) := by decide +kernel
theorem dW_commit_2 : decode cW_commit 2 = .ok (.invokevirtual 99, 3) := by decide +kernel
theorem dW_commit_5 : decode cW_commit 5 = .ok (.ifCond .ne 5, 3) := by decide +kernel
theorem dW_commit_8 : decode cW_commit 8 = .ok (.iconst 0, 1) := by decide +kernel
theorem dW_commit_9 : decode cW_commit 9 = .ok (.ireturn, 1) := by decide +kernel
theorem dW_commit_10 : decode cW_commit 10 = .ok (.aload_n 0, 1) := by decide +kernel
theorem dW_commit_11 : decode cW_commit 11 = .ok (.getfield 23, 3) := by decide +kernel
theorem dW_commit_14 : decode cW_commit 14 = .ok (.iload_n 1, 1) := by decide +kernel
theorem dW_commit_15 : decode cW_commit 15 = .ok (.aaload, 1) := by decide +kernel
theorem dW_commit_16 : decode cW_commit 16 = .ok (.invokevirtual 121, 3) := by decide +kernel
theorem dW_commit_19 : decode cW_commit 19 = .ok (.istore_n 2, 1) := by decide +kernel
theorem dW_commit_20 : decode cW_commit 20 = .ok (.iload_n 2, 1) := by decide +kernel
theorem dW_commit_21 : decode cW_commit 21 = .ok (.iconst (-1), 1) := by decide +kernel
theorem dW_commit_22 : decode cW_commit 22 = .ok (.if_icmp .eq 15, 3) := by decide +kernel
theorem dW_commit_25 : decode cW_commit 25 = .ok (.aload_n 0, 1) := by decide +kernel
theorem dW_commit_26 : decode cW_commit 26 = .ok (.getfield 11, 3) := by decide +kernel
theorem dW_commit_29 : decode cW_commit 29 = .ok (.iload_n 2, 1) := by decide +kernel
theorem dW_commit_30 : decode cW_commit 30 = .ok (.aaload, 1) := by decide +kernel
theorem dW_commit_31 : decode cW_commit 31 = .ok (.getfield 82, 3) := by decide +kernel
theorem dW_commit_34 : decode cW_commit 34 = .ok (.ifCond .ne 5, 3) := by decide +kernel
theorem dW_commit_37 : decode cW_commit 37 = .ok (.iconst 0, 1) := by decide +kernel
theorem dW_commit_38 : decode cW_commit 38 = .ok (.ireturn, 1) := by decide +kernel
theorem dW_commit_39 : decode cW_commit 39 = .ok (.aload_n 0, 1) := by decide +kernel
theorem dW_commit_40 : decode cW_commit 40 = .ok (.getfield 23, 3) := by decide +kernel
theorem dW_commit_43 : decode cW_commit 43 = .ok (.iload_n 1, 1) := by decide +kernel
theorem dW_commit_44 : decode cW_commit 44 = .ok (.aaload, 1) := by decide +kernel
theorem dW_commit_45 : decode cW_commit 45 = .ok (.iload_n 2, 1) := by decide +kernel
theorem dW_commit_46 : decode cW_commit 46 = .ok (.putfield 125, 3) := by decide +kernel
theorem dW_commit_49 : decode cW_commit 49 = .ok (.aload_n 0, 1) := by decide +kernel
theorem dW_commit_50 : decode cW_commit 50 = .ok (.iload_n 1, 1) := by decide +kernel
theorem dW_commit_51 : decode cW_commit 51 = .ok (.invokevirtual 128, 3) := by decide +kernel
theorem dW_commit_54 : decode cW_commit 54 = .ok (.iconst 1, 1) := by decide +kernel
theorem dW_commit_55 : decode cW_commit 55 = .ok (.ireturn, 1) := by decide +kernel
theorem dW_abort_0 : decode cW_abort 0 = .ok (.aload_n 0, 1) := by decide +kernel
theorem dW_abort_1 : decode cW_abort 1 = .ok (.iload_n 1, 1) := by decide +kernel
theorem dW_abort_2 : decode cW_abort 2 = .ok (.invokevirtual 99, 3) := by decide +kernel
theorem dW_abort_5 : decode cW_abort 5 = .ok (.ifCond .ne 5, 3) := by decide +kernel
theorem dW_abort_8 : decode cW_abort 8 = .ok (.iconst 0, 1) := by decide +kernel
theorem dW_abort_9 : decode cW_abort 9 = .ok (.ireturn, 1) := by decide +kernel
theorem dW_abort_10 : decode cW_abort 10 = .ok (.aload_n 0, 1) := by decide +kernel
theorem dW_abort_11 : decode cW_abort 11 = .ok (.getfield 23, 3) := by decide +kernel
theorem dW_abort_14 : decode cW_abort 14 = .ok (.iload_n 1, 1) := by decide +kernel
theorem dW_abort_15 : decode cW_abort 15 = .ok (.aaload, 1) := by decide +kernel
theorem dW_abort_16 : decode cW_abort 16 = .ok (.invokevirtual 131, 3) := by decide +kernel
theorem dW_abort_19 : decode cW_abort 19 = .ok (.iconst 1, 1) := by decide +kernel
theorem dW_abort_20 : decode cW_abort 20 = .ok (.ireturn, 1) := by decide +kernel
theorem dW_readAt_0 : decode cW_readAt 0 = .ok (.iload_n 1, 1) := by decide +kernel
theorem dW_readAt_1 : decode cW_readAt 1 = .ok (.invokestatic 102, 3) := by decide +kernel
theorem dW_readAt_4 : decode cW_readAt 4 = .ok (.ifCond .eq 30, 3) := by decide +kernel
theorem dW_readAt_7 : decode cW_readAt 7 = .ok (.aload_n 0, 1) := by decide +kernel
theorem dW_readAt_8 : decode cW_readAt 8 = .ok (.getfield 11, 3) := by decide +kernel
theorem dW_readAt_11 : decode cW_readAt 11 = .ok (.iload_n 1, 1) := by decide +kernel
theorem dW_readAt_12 : decode cW_readAt 12 = .ok (.invokestatic 134, 3) := by decide +kernel
theorem dW_readAt_15 : decode cW_readAt 15 = .ok (.aaload, 1) := by decide +kernel
theorem dW_readAt_16 : decode cW_readAt 16 = .ok (.getfield 82, 3) := by decide +kernel
theorem dW_readAt_19 : decode cW_readAt 19 = .ok (.ifCond .eq 15, 3) := by decide +kernel
theorem dW_readAt_22 : decode cW_readAt 22 = .ok (.iload_n 2, 1) := by decide +kernel
theorem dW_readAt_23 : decode cW_readAt 23 = .ok (.aload_n 0, 1) := by decide +kernel
theorem dW_readAt_24 : decode cW_readAt 24 = .ok (.iload_n 1, 1) := by decide +kernel
theorem dW_readAt_25 : decode cW_readAt 25 = .ok (.invokestatic 134, 3) := by decide +kernel
theorem dW_readAt_28 : decode cW_readAt 28 = .ok (.invokevirtual 138, 3) := by decide +kernel
theorem dW_readAt_31 : decode cW_readAt 31 = .ok (.if_icmp .le 7, 3) := by decide +kernel
theorem dW_readAt_34 : decode cW_readAt 34 = .ok (.ldc2_w 109, 3) := by decide +kernel
theorem dW_readAt_37 : decode cW_readAt 37 = .ok (.lreturn, 1) := by decide +kernel
theorem dW_readAt_38 : decode cW_readAt 38 = .ok (.aload_n 0, 1) := by decide +kernel
theorem dW_readAt_39 : decode cW_readAt 39 = .ok (.getfield 11, 3) := by decide +kernel
theorem dW_readAt_42 : decode cW_readAt 42 = .ok (.iload_n 1, 1) := by decide +kernel
theorem dW_readAt_43 : decode cW_readAt 43 = .ok (.invokestatic 134, 3) := by decide +kernel
theorem dW_readAt_46 : decode cW_readAt 46 = .ok (.aaload, 1) := by decide +kernel
theorem dW_readAt_47 : decode cW_readAt 47 = .ok (.iload_n 2, 1) := by decide +kernel
theorem dW_readAt_48 : decode cW_readAt 48 = .ok (.invokevirtual 141, 3) := by decide +kernel
theorem dW_readAt_51 : decode cW_readAt 51 = .ok (.aload_n 0, 1) := by decide +kernel
theorem dW_readAt_52 : decode cW_readAt 52 = .ok (.getfield 17, 3) := by decide +kernel
theorem dW_readAt_55 : decode cW_readAt 55 = .ok (.iload_n 1, 1) := by decide +kernel
theorem dW_readAt_56 : decode cW_readAt 56 = .ok (.aaload, 1) := by decide +kernel
theorem dW_readAt_57 : decode cW_readAt 57 = .ok (.iload_n 2, 1) := by decide +kernel
theorem dW_readAt_58 : decode cW_readAt 58 = .ok (.invokevirtual 144, 3) := by decide +kernel
theorem dW_readAt_61 : decode cW_readAt 61 = .ok (.lreturn, 1) := by decide +kernel
theorem dW_step_0 : decode cW_step 0 = .ok (.iload_n 1, 1) := by decide +kernel
theorem dW_step_1 : decode cW_step 1 = .ok (.ifCond .lt 10, 3) := by decide +kernel
theorem dW_step_4 : decode cW_step 4 = .ok (.iload_n 1, 1) := by decide +kernel
theorem dW_step_5 : decode cW_step 5 = .ok (.sipush 500, 3) := by decide +kernel
theorem dW_step_8 : decode cW_step 8 = .ok (.if_icmp .le 5, 3) := by decide +kernel
theorem dW_step_11 : decode cW_step 11 = .ok (.iconst (-1), 1) := by decide +kernel
theorem dW_step_12 : decode cW_step 12 = .ok (.ireturn, 1) := by decide +kernel
theorem dW_step_13 : decode cW_step 13 = .ok (.iconst 0, 1) := by decide +kernel
theorem dW_step_14 : decode cW_step 14 = .ok (.istore_n 2, 1) := by decide +kernel
theorem dW_step_15 : decode cW_step 15 = .ok (.iconst 0, 1) := by decide +kernel
theorem dW_step_16 : decode cW_step 16 = .ok (.istore_n 3, 1) := by decide +kernel
theorem dW_step_17 : decode cW_step 17 = .ok (.iload_n 3, 1) := by decide +kernel
theorem dW_step_18 : decode cW_step 18 = .ok (.iload_n 1, 1) := by decide +kernel
theorem dW_step_19 : decode cW_step 19 = .ok (.if_icmp .ge 30, 3) := by decide +kernel
theorem dW_step_22 : decode cW_step 22 = .ok (.aload_n 0, 1) := by decide +kernel
theorem dW_step_23 : decode cW_step 23 = .ok (.dup, 1) := by decide +kernel
theorem dW_step_24 : decode cW_step 24 = .ok (.getfield 33, 3) := by decide +kernel
theorem dW_step_27 : decode cW_step 27 = .ok (.iconst 1, 1) := by decide +kernel
theorem dW_step_28 : decode cW_step 28 = .ok (.iadd, 1) := by decide +kernel
theorem dW_step_29 : decode cW_step 29 = .ok (.putfield 33, 3) := by decide +kernel
theorem dW_step_32 : decode cW_step 32 = .ok (.aload_n 0, 1) := by decide +kernel
theorem dW_step_33 : decode cW_step 33 = .ok (.invokevirtual 148, 3) := by decide +kernel
theorem dW_step_36 : decode cW_step 36 = .ok (.iload_n 2, 1) := by decide +kernel
theorem dW_step_37 : decode cW_step 37 = .ok (.aload_n 0, 1) := by decide +kernel
theorem dW_step_38 : decode cW_step 38 = .ok (.invokevirtual 151, 3) := by decide +kernel
theorem dW_step_41 : decode cW_step 41 = .ok (.iadd, 1) := by decide +kernel
theorem dW_step_42 : decode cW_step 42 = .ok (.istore_n 2, 1) := by decide +kernel
theorem dW_step_43 : decode cW_step 43 = .ok (.iinc 3 1, 3) := by decide +kernel
theorem dW_step_46 : decode cW_step 46 = .ok (.goto (-29), 3) := by decide +kernel
theorem dW_step_49 : decode cW_step 49 = .ok (.iload_n 2, 1) := by decide +kernel
theorem dW_step_50 : decode cW_step 50 = .ok (.ireturn, 1) := by decide +kernel
theorem dW_now_0 : decode cW_now 0 = .ok (.aload_n 0, 1) := by decide +kernel
theorem dW_now_1 : decode cW_now 1 = .ok (.getfield 33, 3) := by decide +kernel
theorem dW_now_4 : decode cW_now 4 = .ok (.ireturn, 1) := by decide +kernel
theorem dW_state_0 : decode cW_state 0 = .ok (.iload_n 1, 1) := by decide +kernel
theorem dW_state_1 : decode cW_state 1 = .ok (.invokestatic 86, 3) := by decide +kernel
theorem dW_state_4 : decode cW_state 4 = .ok (.ifCond .eq 15, 3) := by decide +kernel
theorem dW_state_7 : decode cW_state 7 = .ok (.aload_n 0, 1) := by decide +kernel
theorem dW_state_8 : decode cW_state 8 = .ok (.getfield 23, 3) := by decide +kernel
theorem dW_state_11 : decode cW_state 11 = .ok (.iload_n 1, 1) := by decide +kernel
theorem dW_state_12 : decode cW_state 12 = .ok (.aaload, 1) := by decide +kernel
theorem dW_state_13 : decode cW_state 13 = .ok (.getfield 93, 3) := by decide +kernel
theorem dW_state_16 : decode cW_state 16 = .ok (.goto 4, 3) := by decide +kernel
theorem dW_state_19 : decode cW_state 19 = .ok (.iconst (-1), 1) := by decide +kernel
theorem dW_state_20 : decode cW_state 20 = .ok (.ireturn, 1) := by decide +kernel
theorem dW_stamp_0 : decode cW_stamp 0 = .ok (.aload_n 0, 1) := by decide +kernel
theorem dW_stamp_1 : decode cW_stamp 1 = .ok (.iload_n 1, 1) := by decide +kernel
theorem dW_stamp_2 : decode cW_stamp 2 = .ok (.invokevirtual 154, 3) := by decide +kernel
theorem dW_stamp_5 : decode cW_stamp 5 = .ok (.istore_n 2, 1) := by decide +kernel
theorem dW_stamp_6 : decode cW_stamp 6 = .ok (.iload_n 2, 1) := by decide +kernel
theorem dW_stamp_7 : decode cW_stamp 7 = .ok (.iconst 3, 1) := by decide +kernel
theorem dW_stamp_8 : decode cW_stamp 8 = .ok (.if_icmp .eq 8, 3) := by decide +kernel
theorem dW_stamp_11 : decode cW_stamp 11 = .ok (.iload_n 2, 1) := by decide +kernel
theorem dW_stamp_12 : decode cW_stamp 12 = .ok (.iconst 4, 1) := by decide +kernel
theorem dW_stamp_13 : decode cW_stamp 13 = .ok (.if_icmp .ne 15, 3) := by decide +kernel
theorem dW_stamp_16 : decode cW_stamp 16 = .ok (.aload_n 0, 1) := by decide +kernel
theorem dW_stamp_17 : decode cW_stamp 17 = .ok (.getfield 23, 3) := by decide +kernel
theorem dW_stamp_20 : decode cW_stamp 20 = .ok (.iload_n 1, 1) := by decide +kernel
theorem dW_stamp_21 : decode cW_stamp 21 = .ok (.aaload, 1) := by decide +kernel
theorem dW_stamp_22 : decode cW_stamp 22 = .ok (.getfield 156, 3) := by decide +kernel
theorem dW_stamp_25 : decode cW_stamp 25 = .ok (.goto 4, 3) := by decide +kernel
theorem dW_stamp_28 : decode cW_stamp 28 = .ok (.iconst (-1), 1) := by decide +kernel
theorem dW_stamp_29 : decode cW_stamp 29 = .ok (.ireturn, 1) := by decide +kernel
theorem dW_end_0 : decode cW_end 0 = .ok (.aload_n 0, 1) := by decide +kernel
theorem dW_end_1 : decode cW_end 1 = .ok (.iload_n 1, 1) := by decide +kernel
theorem dW_end_2 : decode cW_end 2 = .ok (.invokevirtual 154, 3) := by decide +kernel
theorem dW_end_5 : decode cW_end 5 = .ok (.iconst 4, 1) := by decide +kernel
theorem dW_end_6 : decode cW_end 6 = .ok (.if_icmp .ne 15, 3) := by decide +kernel
theorem dW_end_9 : decode cW_end 9 = .ok (.aload_n 0, 1) := by decide +kernel
theorem dW_end_10 : decode cW_end 10 = .ok (.getfield 23, 3) := by decide +kernel
theorem dW_end_13 : decode cW_end 13 = .ok (.iload_n 1, 1) := by decide +kernel
theorem dW_end_14 : decode cW_end 14 = .ok (.aaload, 1) := by decide +kernel
theorem dW_end_15 : decode cW_end 15 = .ok (.getfield 159, 3) := by decide +kernel
theorem dW_end_18 : decode cW_end 18 = .ok (.goto 4, 3) := by decide +kernel
theorem dW_end_21 : decode cW_end 21 = .ok (.iconst (-1), 1) := by decide +kernel
theorem dW_end_22 : decode cW_end 22 = .ok (.ireturn, 1) := by decide +kernel
theorem dW_marks_0 : decode cW_marks 0 = .ok (.iload_n 1, 1) := by decide +kernel
theorem dW_marks_1 : decode cW_marks 1 = .ok (.invokestatic 66, 3) := by decide +kernel
theorem dW_marks_4 : decode cW_marks 4 = .ok (.ifCond .ne 5, 3) := by decide +kernel
theorem dW_marks_7 : decode cW_marks 7 = .ok (.iconst 0, 1) := by decide +kernel
theorem dW_marks_8 : decode cW_marks 8 = .ok (.ireturn, 1) := by decide +kernel
theorem dW_marks_9 : decode cW_marks 9 = .ok (.iconst 0, 1) := by decide +kernel
theorem dW_marks_10 : decode cW_marks 10 = .ok (.istore_n 2, 1) := by decide +kernel
theorem dW_marks_11 : decode cW_marks 11 = .ok (.iconst 0, 1) := by decide +kernel
theorem dW_marks_12 : decode cW_marks 12 = .ok (.istore_n 3, 1) := by decide +kernel
theorem dW_marks_13 : decode cW_marks 13 = .ok (.iload_n 3, 1) := by decide +kernel
theorem dW_marks_14 : decode cW_marks 14 = .ok (.iconst 5, 1) := by decide +kernel
theorem dW_marks_15 : decode cW_marks 15 = .ok (.if_icmp .ge 26, 3) := by decide +kernel
theorem dW_marks_18 : decode cW_marks 18 = .ok (.aload_n 0, 1) := by decide +kernel
theorem dW_marks_19 : decode cW_marks 19 = .ok (.getfield 23, 3) := by decide +kernel
theorem dW_marks_22 : decode cW_marks 22 = .ok (.iload_n 3, 1) := by decide +kernel
theorem dW_marks_23 : decode cW_marks 23 = .ok (.aaload, 1) := by decide +kernel
theorem dW_marks_24 : decode cW_marks 24 = .ok (.getfield 162, 3) := by decide +kernel
theorem dW_marks_27 : decode cW_marks 27 = .ok (.iload_n 1, 1) := by decide +kernel
theorem dW_marks_28 : decode cW_marks 28 = .ok (.iaload, 1) := by decide +kernel
theorem dW_marks_29 : decode cW_marks 29 = .ok (.ifCond .eq 6, 3) := by decide +kernel
theorem dW_marks_32 : decode cW_marks 32 = .ok (.iinc 2 1, 3) := by decide +kernel
theorem dW_marks_35 : decode cW_marks 35 = .ok (.iinc 3 1, 3) := by decide +kernel
theorem dW_marks_38 : decode cW_marks 38 = .ok (.goto (-25), 3) := by decide +kernel
theorem dW_marks_41 : decode cW_marks 41 = .ok (.iload_n 2, 1) := by decide +kernel
theorem dW_marks_42 : decode cW_marks 42 = .ok (.ifCond .ne 7, 3) := by decide +kernel
theorem dW_marks_45 : decode cW_marks 45 = .ok (.iconst 0, 1) := by decide +kernel
theorem dW_marks_46 : decode cW_marks 46 = .ok (.goto 13, 3) := by decide +kernel
theorem dW_marks_49 : decode cW_marks 49 = .ok (.iload_n 2, 1) := by decide +kernel
theorem dW_marks_50 : decode cW_marks 50 = .ok (.bipush 8, 2) := by decide +kernel
theorem dW_marks_52 : decode cW_marks 52 = .ok (.aload_n 0, 1) := by decide +kernel
theorem dW_marks_53 : decode cW_marks 53 = .ok (.iload_n 1, 1) := by decide +kernel
theorem dW_marks_54 : decode cW_marks 54 = .ok (.invokevirtual 165, 3) := by decide +kernel
theorem dW_marks_57 : decode cW_marks 57 = .ok (.imul, 1) := by decide +kernel
theorem dW_marks_58 : decode cW_marks 58 = .ok (.iadd, 1) := by decide +kernel
theorem dW_marks_59 : decode cW_marks 59 = .ok (.ireturn, 1) := by decide +kernel
theorem dW_safe_0 : decode cW_safe 0 = .ok (.iload_n 1, 1) := by decide +kernel
theorem dW_safe_1 : decode cW_safe 1 = .ok (.invokestatic 66, 3) := by decide +kernel
theorem dW_safe_4 : decode cW_safe 4 = .ok (.ifCond .eq 23, 3) := by decide +kernel
theorem dW_safe_7 : decode cW_safe 7 = .ok (.aload_n 0, 1) := by decide +kernel
theorem dW_safe_8 : decode cW_safe 8 = .ok (.getfield 11, 3) := by decide +kernel
theorem dW_safe_11 : decode cW_safe 11 = .ok (.iload_n 1, 1) := by decide +kernel
theorem dW_safe_12 : decode cW_safe 12 = .ok (.aaload, 1) := by decide +kernel
theorem dW_safe_13 : decode cW_safe 13 = .ok (.getfield 82, 3) := by decide +kernel
theorem dW_safe_16 : decode cW_safe 16 = .ok (.ifCond .eq 11, 3) := by decide +kernel
theorem dW_safe_19 : decode cW_safe 19 = .ok (.aload_n 0, 1) := by decide +kernel
theorem dW_safe_20 : decode cW_safe 20 = .ok (.iload_n 1, 1) := by decide +kernel
theorem dW_safe_21 : decode cW_safe 21 = .ok (.invokevirtual 138, 3) := by decide +kernel
theorem dW_safe_24 : decode cW_safe 24 = .ok (.goto 4, 3) := by decide +kernel
theorem dW_safe_27 : decode cW_safe 27 = .ok (.iconst (-1), 1) := by decide +kernel
theorem dW_safe_28 : decode cW_safe 28 = .ok (.ireturn, 1) := by decide +kernel
theorem dW_bound_0 : decode cW_bound 0 = .ok (.iload_n 1, 1) := by decide +kernel
theorem dW_bound_1 : decode cW_bound 1 = .ok (.invokestatic 66, 3) := by decide +kernel
theorem dW_bound_4 : decode cW_bound 4 = .ok (.ifCond .eq 15, 3) := by decide +kernel
theorem dW_bound_7 : decode cW_bound 7 = .ok (.aload_n 0, 1) := by decide +kernel
theorem dW_bound_8 : decode cW_bound 8 = .ok (.getfield 11, 3) := by decide +kernel
theorem dW_bound_11 : decode cW_bound 11 = .ok (.iload_n 1, 1) := by decide +kernel
theorem dW_bound_12 : decode cW_bound 12 = .ok (.aaload, 1) := by decide +kernel
theorem dW_bound_13 : decode cW_bound 13 = .ok (.getfield 168, 3) := by decide +kernel
theorem dW_bound_16 : decode cW_bound 16 = .ok (.goto 4, 3) := by decide +kernel
theorem dW_bound_19 : decode cW_bound 19 = .ok (.iconst (-1), 1) := by decide +kernel
theorem dW_bound_20 : decode cW_bound 20 = .ok (.ireturn, 1) := by decide +kernel
theorem dW_holders_0 : decode cW_holders 0 = .ok (.iload_n 1, 1) := by decide +kernel
theorem dW_holders_1 : decode cW_holders 1 = .ok (.invokestatic 102, 3) := by decide +kernel
theorem dW_holders_4 : decode cW_holders 4 = .ok (.ifCond .ne 5, 3) := by decide +kernel
theorem dW_holders_7 : decode cW_holders 7 = .ok (.iconst 0, 1) := by decide +kernel
theorem dW_holders_8 : decode cW_holders 8 = .ok (.ireturn, 1) := by decide +kernel
theorem dW_holders_9 : decode cW_holders 9 = .ok (.iconst 0, 1) := by decide +kernel
theorem dW_holders_10 : decode cW_holders 10 = .ok (.istore_n 2, 1) := by decide +kernel
theorem dW_holders_11 : decode cW_holders 11 = .ok (.iconst 0, 1) := by decide +kernel
theorem dW_holders_12 : decode cW_holders 12 = .ok (.istore_n 3, 1) := by decide +kernel
theorem dW_holders_13 : decode cW_holders 13 = .ok (.iload_n 3, 1) := by decide +kernel
theorem dW_holders_14 : decode cW_holders 14 = .ok (.iconst 5, 1) := by decide +kernel
theorem dW_holders_15 : decode cW_holders 15 = .ok (.if_icmp .ge 49, 3) := by decide +kernel
theorem dW_holders_18 : decode cW_holders 18 = .ok (.aload_n 0, 1) := by decide +kernel
theorem dW_holders_19 : decode cW_holders 19 = .ok (.getfield 23, 3) := by decide +kernel
theorem dW_holders_22 : decode cW_holders 22 = .ok (.iload_n 3, 1) := by decide +kernel
theorem dW_holders_23 : decode cW_holders 23 = .ok (.aaload, 1) := by decide +kernel
theorem dW_holders_24 : decode cW_holders 24 = .ok (.getfield 111, 3) := by decide +kernel
theorem dW_holders_27 : decode cW_holders 27 = .ok (.iload_n 1, 1) := by decide +kernel
theorem dW_holders_28 : decode cW_holders 28 = .ok (.iaload, 1) := by decide +kernel
theorem dW_holders_29 : decode cW_holders 29 = .ok (.ifCond .eq 9, 3) := by decide +kernel
theorem dW_holders_32 : decode cW_holders 32 = .ok (.iload_n 2, 1) := by decide +kernel
theorem dW_holders_33 : decode cW_holders 33 = .ok (.iconst 1, 1) := by decide +kernel
theorem dW_holders_34 : decode cW_holders 34 = .ok (.iload_n 3, 1) := by decide +kernel
theorem dW_holders_35 : decode cW_holders 35 = .ok (.ishl, 1) := by decide +kernel
theorem dW_holders_36 : decode cW_holders 36 = .ok (.ior, 1) := by decide +kernel
theorem dW_holders_37 : decode cW_holders 37 = .ok (.istore_n 2, 1) := by decide +kernel
theorem dW_holders_38 : decode cW_holders 38 = .ok (.aload_n 0, 1) := by decide +kernel
theorem dW_holders_39 : decode cW_holders 39 = .ok (.getfield 23, 3) := by decide +kernel
theorem dW_holders_42 : decode cW_holders 42 = .ok (.iload_n 3, 1) := by decide +kernel
theorem dW_holders_43 : decode cW_holders 43 = .ok (.aaload, 1) := by decide +kernel
theorem dW_holders_44 : decode cW_holders 44 = .ok (.getfield 111, 3) := by decide +kernel
theorem dW_holders_47 : decode cW_holders 47 = .ok (.iload_n 1, 1) := by decide +kernel
theorem dW_holders_48 : decode cW_holders 48 = .ok (.iaload, 1) := by decide +kernel
theorem dW_holders_49 : decode cW_holders 49 = .ok (.iconst 2, 1) := by decide +kernel
theorem dW_holders_50 : decode cW_holders 50 = .ok (.if_icmp .ne 8, 3) := by decide +kernel
theorem dW_holders_53 : decode cW_holders 53 = .ok (.iload_n 2, 1) := by decide +kernel
theorem dW_holders_54 : decode cW_holders 54 = .ok (.bipush 32, 2) := by decide +kernel
theorem dW_holders_56 : decode cW_holders 56 = .ok (.ior, 1) := by decide +kernel
theorem dW_holders_57 : decode cW_holders 57 = .ok (.istore_n 2, 1) := by decide +kernel
theorem dW_holders_58 : decode cW_holders 58 = .ok (.iinc 3 1, 3) := by decide +kernel
theorem dW_holders_61 : decode cW_holders 61 = .ok (.goto (-48), 3) := by decide +kernel
theorem dW_holders_64 : decode cW_holders 64 = .ok (.iload_n 2, 1) := by decide +kernel
theorem dW_holders_65 : decode cW_holders 65 = .ok (.ireturn, 1) := by decide +kernel
theorem dW_version_0 : decode cW_version 0 = .ok (.iload_n 1, 1) := by decide +kernel
theorem dW_version_1 : decode cW_version 1 = .ok (.invokestatic 102, 3) := by decide +kernel
theorem dW_version_4 : decode cW_version 4 = .ok (.ifCond .eq 20, 3) := by decide +kernel
theorem dW_version_7 : decode cW_version 7 = .ok (.iload_n 2, 1) := by decide +kernel
theorem dW_version_8 : decode cW_version 8 = .ok (.ifCond .lt 16, 3) := by decide +kernel
theorem dW_version_11 : decode cW_version 11 = .ok (.iload_n 2, 1) := by decide +kernel
theorem dW_version_12 : decode cW_version 12 = .ok (.aload_n 0, 1) := by decide +kernel
theorem dW_version_13 : decode cW_version 13 = .ok (.getfield 17, 3) := by decide +kernel
theorem dW_version_16 : decode cW_version 16 = .ok (.iload_n 1, 1) := by decide +kernel
theorem dW_version_17 : decode cW_version 17 = .ok (.aaload, 1) := by decide +kernel
theorem dW_version_18 : decode cW_version 18 = .ok (.getfield 171, 3) := by decide +kernel
theorem dW_version_21 : decode cW_version 21 = .ok (.if_icmp .lt 5, 3) := by decide +kernel
theorem dW_version_24 : decode cW_version 24 = .ok (.iconst (-1), 1) := by decide +kernel
theorem dW_version_25 : decode cW_version 25 = .ok (.ireturn, 1) := by decide +kernel
theorem dW_version_26 : decode cW_version 26 = .ok (.aload_n 0, 1) := by decide +kernel
theorem dW_version_27 : decode cW_version 27 = .ok (.getfield 17, 3) := by decide +kernel
theorem dW_version_30 : decode cW_version 30 = .ok (.iload_n 1, 1) := by decide +kernel
theorem dW_version_31 : decode cW_version 31 = .ok (.aaload, 1) := by decide +kernel
theorem dW_version_32 : decode cW_version 32 = .ok (.getfield 174, 3) := by decide +kernel
theorem dW_version_35 : decode cW_version 35 = .ok (.iload_n 2, 1) := by decide +kernel
theorem dW_version_36 : decode cW_version 36 = .ok (.iaload, 1) := by decide +kernel
theorem dW_version_37 : decode cW_version 37 = .ok (.ireturn, 1) := by decide +kernel
theorem dW_messages_0 : decode cW_messages 0 = .ok (.aload_n 0, 1) := by decide +kernel
theorem dW_messages_1 : decode cW_messages 1 = .ok (.getfield 43, 3) := by decide +kernel
theorem dW_messages_4 : decode cW_messages 4 = .ok (.ireturn, 1) := by decide +kernel
theorem dW_isSite_0 : decode cW_isSite 0 = .ok (.iload_n 0, 1) := by decide +kernel
theorem dW_isSite_1 : decode cW_isSite 1 = .ok (.ifCond .lt 12, 3) := by decide +kernel
theorem dW_isSite_4 : decode cW_isSite 4 = .ok (.iload_n 0, 1) := by decide +kernel
theorem dW_isSite_5 : decode cW_isSite 5 = .ok (.iconst 3, 1) := by decide +kernel
theorem dW_isSite_6 : decode cW_isSite 6 = .ok (.if_icmp .ge 7, 3) := by decide +kernel
theorem dW_isSite_9 : decode cW_isSite 9 = .ok (.iconst 1, 1) := by decide +kernel
theorem dW_isSite_10 : decode cW_isSite 10 = .ok (.goto 4, 3) := by decide +kernel
theorem dW_isSite_13 : decode cW_isSite 13 = .ok (.iconst 0, 1) := by decide +kernel
theorem dW_isSite_14 : decode cW_isSite 14 = .ok (.ireturn, 1) := by decide +kernel
theorem dW_isKey_0 : decode cW_isKey 0 = .ok (.iload_n 0, 1) := by decide +kernel
theorem dW_isKey_1 : decode cW_isKey 1 = .ok (.ifCond .lt 13, 3) := by decide +kernel
theorem dW_isKey_4 : decode cW_isKey 4 = .ok (.iload_n 0, 1) := by decide +kernel
theorem dW_isKey_5 : decode cW_isKey 5 = .ok (.bipush 9, 2) := by decide +kernel
theorem dW_isKey_7 : decode cW_isKey 7 = .ok (.if_icmp .ge 7, 3) := by decide +kernel
theorem dW_isKey_10 : decode cW_isKey 10 = .ok (.iconst 1, 1) := by decide +kernel
theorem dW_isKey_11 : decode cW_isKey 11 = .ok (.goto 4, 3) := by decide +kernel
theorem dW_isKey_14 : decode cW_isKey 14 = .ok (.iconst 0, 1) := by decide +kernel
theorem dW_isKey_15 : decode cW_isKey 15 = .ok (.ireturn, 1) := by decide +kernel
theorem dW_isTransaction_0 : decode cW_isTransaction 0 = .ok (.iload_n 0, 1) := by decide +kernel
theorem dW_isTransaction_1 : decode cW_isTransaction 1 = .ok (.ifCond .lt 12, 3) := by decide +kernel
theorem dW_isTransaction_4 : decode cW_isTransaction 4 = .ok (.iload_n 0, 1) := by decide +kernel
theorem dW_isTransaction_5 : decode cW_isTransaction 5 = .ok (.iconst 5, 1) := by decide +kernel
theorem dW_isTransaction_6 : decode cW_isTransaction 6 = .ok (.if_icmp .ge 7, 3) := by decide +kernel
theorem dW_isTransaction_9 : decode cW_isTransaction 9 = .ok (.iconst 1, 1) := by decide +kernel
theorem dW_isTransaction_10 : decode cW_isTransaction 10 = .ok (.goto 4, 3) := by decide +kernel
theorem dW_isTransaction_13 : decode cW_isTransaction 13 = .ok (.iconst 0, 1) := by decide +kernel
theorem dW_isTransaction_14 : decode cW_isTransaction 14 = .ok (.ireturn, 1) := by decide +kernel
theorem dW_siteOf_0 : decode cW_siteOf 0 = .ok (.iload_n 0, 1) := by decide +kernel
theorem dW_siteOf_1 : decode cW_siteOf 1 = .ok (.iconst 3, 1) := by decide +kernel
theorem dW_siteOf_2 : decode cW_siteOf 2 = .ok (.irem, 1) := by decide +kernel
theorem dW_siteOf_3 : decode cW_siteOf 3 = .ok (.ireturn, 1) := by decide +kernel
theorem dW_canBegin_0 : decode cW_canBegin 0 = .ok (.aload_n 0, 1) := by decide +kernel
theorem dW_canBegin_1 : decode cW_canBegin 1 = .ok (.getfield 93, 3) := by decide +kernel
theorem dW_canBegin_4 : decode cW_canBegin 4 = .ok (.iconst 4, 1) := by decide +kernel
theorem dW_canBegin_5 : decode cW_canBegin 5 = .ok (.if_icmp .ne 15, 3) := by decide +kernel
theorem dW_canBegin_8 : decode cW_canBegin 8 = .ok (.aload_n 0, 1) := by decide +kernel
theorem dW_canBegin_9 : decode cW_canBegin 9 = .ok (.invokevirtual 121, 3) := by decide +kernel
theorem dW_canBegin_12 : decode cW_canBegin 12 = .ok (.iconst (-1), 1) := by decide +kernel
theorem dW_canBegin_13 : decode cW_canBegin 13 = .ok (.if_icmp .ne 7, 3) := by decide +kernel
theorem dW_canBegin_16 : decode cW_canBegin 16 = .ok (.iconst 1, 1) := by decide +kernel
theorem dW_canBegin_17 : decode cW_canBegin 17 = .ok (.goto 4, 3) := by decide +kernel
theorem dW_canBegin_20 : decode cW_canBegin 20 = .ok (.iconst 0, 1) := by decide +kernel
theorem dW_canBegin_21 : decode cW_canBegin 21 = .ok (.istore_n 1, 1) := by decide +kernel
theorem dW_canBegin_22 : decode cW_canBegin 22 = .ok (.aload_n 0, 1) := by decide +kernel
theorem dW_canBegin_23 : decode cW_canBegin 23 = .ok (.getfield 93, 3) := by decide +kernel
theorem dW_canBegin_26 : decode cW_canBegin 26 = .ok (.ifCond .eq 15, 3) := by decide +kernel
theorem dW_canBegin_29 : decode cW_canBegin 29 = .ok (.aload_n 0, 1) := by decide +kernel
theorem dW_canBegin_30 : decode cW_canBegin 30 = .ok (.getfield 93, 3) := by decide +kernel
theorem dW_canBegin_33 : decode cW_canBegin 33 = .ok (.iconst 5, 1) := by decide +kernel
theorem dW_canBegin_34 : decode cW_canBegin 34 = .ok (.if_icmp .eq 7, 3) := by decide +kernel
theorem dW_canBegin_37 : decode cW_canBegin 37 = .ok (.iload_n 1, 1) := by decide +kernel
theorem dW_canBegin_38 : decode cW_canBegin 38 = .ok (.ifCond .eq 7, 3) := by decide +kernel
theorem dW_canBegin_41 : decode cW_canBegin 41 = .ok (.iconst 1, 1) := by decide +kernel
theorem dW_canBegin_42 : decode cW_canBegin 42 = .ok (.goto 4, 3) := by decide +kernel
theorem dW_canBegin_45 : decode cW_canBegin 45 = .ok (.iconst 0, 1) := by decide +kernel
theorem dW_canBegin_46 : decode cW_canBegin 46 = .ok (.ireturn, 1) := by decide +kernel
theorem dW_isError_0 : decode cW_isError 0 = .ok (.iload_n 1, 1) := by decide +kernel
theorem dW_isError_1 : decode cW_isError 1 = .ok (.ifCond .lt 15, 3) := by decide +kernel
theorem dW_isError_4 : decode cW_isError 4 = .ok (.iload_n 1, 1) := by decide +kernel
theorem dW_isError_5 : decode cW_isError 5 = .ok (.aload_n 0, 1) := by decide +kernel
theorem dW_isError_6 : decode cW_isError 6 = .ok (.getfield 55, 3) := by decide +kernel
theorem dW_isError_9 : decode cW_isError 9 = .ok (.if_icmp .gt 7, 3) := by decide +kernel
theorem dW_isError_12 : decode cW_isError 12 = .ok (.iconst 1, 1) := by decide +kernel
theorem dW_isError_13 : decode cW_isError 13 = .ok (.goto 4, 3) := by decide +kernel
theorem dW_isError_16 : decode cW_isError 16 = .ok (.iconst 0, 1) := by decide +kernel
theorem dW_isError_17 : decode cW_isError 17 = .ok (.ireturn, 1) := by decide +kernel
theorem dW_isActive_0 : decode cW_isActive 0 = .ok (.iload_n 1, 1) := by decide +kernel
theorem dW_isActive_1 : decode cW_isActive 1 = .ok (.invokestatic 86, 3) := by decide +kernel
theorem dW_isActive_4 : decode cW_isActive 4 = .ok (.ifCond .eq 20, 3) := by decide +kernel
theorem dW_isActive_7 : decode cW_isActive 7 = .ok (.aload_n 0, 1) := by decide +kernel
theorem dW_isActive_8 : decode cW_isActive 8 = .ok (.getfield 23, 3) := by decide +kernel
theorem dW_isActive_11 : decode cW_isActive 11 = .ok (.iload_n 1, 1) := by decide +kernel
theorem dW_isActive_12 : decode cW_isActive 12 = .ok (.aaload, 1) := by decide +kernel
theorem dW_isActive_13 : decode cW_isActive 13 = .ok (.getfield 93, 3) := by decide +kernel
theorem dW_isActive_16 : decode cW_isActive 16 = .ok (.iconst 1, 1) := by decide +kernel
theorem dW_isActive_17 : decode cW_isActive 17 = .ok (.if_icmp .ne 7, 3) := by decide +kernel
theorem dW_isActive_20 : decode cW_isActive 20 = .ok (.iconst 1, 1) := by decide +kernel
theorem dW_isActive_21 : decode cW_isActive 21 = .ok (.goto 4, 3) := by decide +kernel
theorem dW_isActive_24 : decode cW_isActive 24 = .ok (.iconst 0, 1) := by decide +kernel
theorem dW_isActive_25 : decode cW_isActive 25 = .ok (.ireturn, 1) := by decide +kernel
theorem dW_latest_0 : decode cW_latest 0 = .ok (.aload_n 0, 1) := by decide +kernel
theorem dW_latest_1 : decode cW_latest 1 = .ok (.getfield 33, 3) := by decide +kernel
theorem dW_latest_4 : decode cW_latest 4 = .ok (.aload_n 0, 1) := by decide +kernel
theorem dW_latest_5 : decode cW_latest 5 = .ok (.getfield 11, 3) := by decide +kernel
theorem dW_latest_8 : decode cW_latest 8 = .ok (.iload_n 1, 1) := by decide +kernel
theorem dW_latest_9 : decode cW_latest 9 = .ok (.aaload, 1) := by decide +kernel
theorem dW_latest_10 : decode cW_latest 10 = .ok (.getfield 76, 3) := by decide +kernel
theorem dW_latest_13 : decode cW_latest 13 = .ok (.iadd, 1) := by decide +kernel
theorem dW_latest_14 : decode cW_latest 14 = .ok (.ireturn, 1) := by decide +kernel
theorem dW_earliest_0 : decode cW_earliest 0 = .ok (.aload_n 0, 1) := by decide +kernel
theorem dW_earliest_1 : decode cW_earliest 1 = .ok (.getfield 33, 3) := by decide +kernel
theorem dW_earliest_4 : decode cW_earliest 4 = .ok (.aload_n 0, 1) := by decide +kernel
theorem dW_earliest_5 : decode cW_earliest 5 = .ok (.getfield 11, 3) := by decide +kernel
theorem dW_earliest_8 : decode cW_earliest 8 = .ok (.iload_n 1, 1) := by decide +kernel
theorem dW_earliest_9 : decode cW_earliest 9 = .ok (.aaload, 1) := by decide +kernel
theorem dW_earliest_10 : decode cW_earliest 10 = .ok (.getfield 73, 3) := by decide +kernel
theorem dW_earliest_13 : decode cW_earliest 13 = .ok (.isub, 1) := by decide +kernel
theorem dW_earliest_14 : decode cW_earliest 14 = .ok (.ireturn, 1) := by decide +kernel
theorem dW_leastMark_0 : decode cW_leastMark 0 = .ok (.ldc 179, 2) := by decide +kernel
theorem dW_leastMark_2 : decode cW_leastMark 2 = .ok (.istore_n 2, 1) := by decide +kernel
theorem dW_leastMark_3 : decode cW_leastMark 3 = .ok (.iconst 0, 1) := by decide +kernel
theorem dW_leastMark_4 : decode cW_leastMark 4 = .ok (.istore_n 3, 1) := by decide +kernel
theorem dW_leastMark_5 : decode cW_leastMark 5 = .ok (.iload_n 3, 1) := by decide +kernel
theorem dW_leastMark_6 : decode cW_leastMark 6 = .ok (.iconst 5, 1) := by decide +kernel
theorem dW_leastMark_7 : decode cW_leastMark 7 = .ok (.if_icmp .ge 39, 3) := by decide +kernel
theorem dW_leastMark_10 : decode cW_leastMark 10 = .ok (.aload_n 0, 1) := by decide +kernel
theorem dW_leastMark_11 : decode cW_leastMark 11 = .ok (.getfield 23, 3) := by decide +kernel
theorem dW_leastMark_14 : decode cW_leastMark 14 = .ok (.iload_n 3, 1) := by decide +kernel
theorem dW_leastMark_15 : decode cW_leastMark 15 = .ok (.aaload, 1) := by decide +kernel
theorem dW_leastMark_16 : decode cW_leastMark 16 = .ok (.getfield 162, 3) := by decide +kernel
theorem dW_leastMark_19 : decode cW_leastMark 19 = .ok (.iload_n 1, 1) := by decide +kernel
theorem dW_leastMark_20 : decode cW_leastMark 20 = .ok (.iaload, 1) := by decide +kernel
theorem dW_leastMark_21 : decode cW_leastMark 21 = .ok (.ifCond .eq 19, 3) := by decide +kernel
theorem dW_leastMark_24 : decode cW_leastMark 24 = .ok (.iload_n 2, 1) := by decide +kernel
theorem dW_leastMark_25 : decode cW_leastMark 25 = .ok (.aload_n 0, 1) := by decide +kernel
theorem dW_leastMark_26 : decode cW_leastMark 26 = .ok (.getfield 23, 3) := by decide +kernel
theorem dW_leastMark_29 : decode cW_leastMark 29 = .ok (.iload_n 3, 1) := by decide +kernel
theorem dW_leastMark_30 : decode cW_leastMark 30 = .ok (.aaload, 1) := by decide +kernel
theorem dW_leastMark_31 : decode cW_leastMark 31 = .ok (.getfield 162, 3) := by decide +kernel
theorem dW_leastMark_34 : decode cW_leastMark 34 = .ok (.iload_n 1, 1) := by decide +kernel
theorem dW_leastMark_35 : decode cW_leastMark 35 = .ok (.iaload, 1) := by decide +kernel
theorem dW_leastMark_36 : decode cW_leastMark 36 = .ok (.invokestatic 46, 3) := by decide +kernel
theorem dW_leastMark_39 : decode cW_leastMark 39 = .ok (.istore_n 2, 1) := by decide +kernel
theorem dW_leastMark_40 : decode cW_leastMark 40 = .ok (.iinc 3 1, 3) := by decide +kernel
theorem dW_leastMark_43 : decode cW_leastMark 43 = .ok (.goto (-38), 3) := by decide +kernel
theorem dW_leastMark_46 : decode cW_leastMark 46 = .ok (.iload_n 2, 1) := by decide +kernel
theorem dW_leastMark_47 : decode cW_leastMark 47 = .ok (.ireturn, 1) := by decide +kernel
theorem dW_greatestReadyTime_0 : decode cW_greatestReadyTime 0 = .ok (.aload_n 0, 1) := by decide +kernel
theorem dW_greatestReadyTime_1 : decode cW_greatestReadyTime 1 = .ok (.iload_n 1, 1) := by decide +kernel
theorem dW_greatestReadyTime_2 : decode cW_greatestReadyTime 2 = .ok (.invokevirtual 180, 3) := by decide +kernel
theorem dW_greatestReadyTime_5 : decode cW_greatestReadyTime 5 = .ok (.aload_n 0, 1) := by decide +kernel
theorem dW_greatestReadyTime_6 : decode cW_greatestReadyTime 6 = .ok (.iload_n 1, 1) := by decide +kernel
theorem dW_greatestReadyTime_7 : decode cW_greatestReadyTime 7 = .ok (.invokevirtual 165, 3) := by decide +kernel
theorem dW_greatestReadyTime_10 : decode cW_greatestReadyTime 10 = .ok (.iconst 1, 1) := by decide +kernel
theorem dW_greatestReadyTime_11 : decode cW_greatestReadyTime 11 = .ok (.isub, 1) := by decide +kernel
theorem dW_greatestReadyTime_12 : decode cW_greatestReadyTime 12 = .ok (.invokestatic 46, 3) := by decide +kernel
theorem dW_greatestReadyTime_15 : decode cW_greatestReadyTime 15 = .ok (.ireturn, 1) := by decide +kernel
theorem dW_lock_0 : decode cW_lock 0 = .ok (.aload_n 0, 1) := by decide +kernel
theorem dW_lock_1 : decode cW_lock 1 = .ok (.getfield 11, 3) := by decide +kernel
theorem dW_lock_4 : decode cW_lock 4 = .ok (.iload_n 2, 1) := by decide +kernel
theorem dW_lock_5 : decode cW_lock 5 = .ok (.invokestatic 134, 3) := by decide +kernel
theorem dW_lock_8 : decode cW_lock 8 = .ok (.aaload, 1) := by decide +kernel
theorem dW_lock_9 : decode cW_lock 9 = .ok (.getfield 82, 3) := by decide +kernel
theorem dW_lock_12 : decode cW_lock 12 = .ok (.ifCond .ne 5, 3) := by decide +kernel
theorem dW_lock_15 : decode cW_lock 15 = .ok (.iconst 0, 1) := by decide +kernel
theorem dW_lock_16 : decode cW_lock 16 = .ok (.ireturn, 1) := by decide +kernel
theorem dW_lock_17 : decode cW_lock 17 = .ok (.aload_n 1, 1) := by decide +kernel
theorem dW_lock_18 : decode cW_lock 18 = .ok (.getfield 111, 3) := by decide +kernel
theorem dW_lock_21 : decode cW_lock 21 = .ok (.iload_n 2, 1) := by decide +kernel
theorem dW_lock_22 : decode cW_lock 22 = .ok (.iaload, 1) := by decide +kernel
theorem dW_lock_23 : decode cW_lock 23 = .ok (.iload_n 3, 1) := by decide +kernel
theorem dW_lock_24 : decode cW_lock 24 = .ok (.if_icmp .lt 5, 3) := by decide +kernel
theorem dW_lock_27 : decode cW_lock 27 = .ok (.iconst 1, 1) := by decide +kernel
theorem dW_lock_28 : decode cW_lock 28 = .ok (.ireturn, 1) := by decide +kernel
theorem dW_lock_29 : decode cW_lock 29 = .ok (.iconst 0, 1) := by decide +kernel
theorem dW_lock_30 : decode cW_lock 30 = .ok (.istore 4, 2) := by decide +kernel
theorem dW_lock_32 : decode cW_lock 32 = .ok (.iload 4, 2) := by decide +kernel
theorem dW_lock_34 : decode cW_lock 34 = .ok (.iconst 5, 1) := by decide +kernel
theorem dW_lock_35 : decode cW_lock 35 = .ok (.if_icmp .ge 41, 3) := by decide +kernel
theorem dW_lock_38 : decode cW_lock 38 = .ok (.aload_n 0, 1) := by decide +kernel
theorem dW_lock_39 : decode cW_lock 39 = .ok (.getfield 23, 3) := by decide +kernel
theorem dW_lock_42 : decode cW_lock 42 = .ok (.iload 4, 2) := by decide +kernel
theorem dW_lock_44 : decode cW_lock 44 = .ok (.aaload, 1) := by decide +kernel
theorem dW_lock_45 : decode cW_lock 45 = .ok (.aload_n 1, 1) := by decide +kernel
theorem dW_lock_46 : decode cW_lock 46 = .ok (.iload_n 2, 1) := by decide +kernel
theorem dW_lock_47 : decode cW_lock 47 = .ok (.iload_n 3, 1) := by decide +kernel
theorem dW_lock_48 : decode cW_lock 48 = .ok (.invokestatic 183, 3) := by decide +kernel
theorem dW_lock_51 : decode cW_lock 51 = .ok (.ifCond .eq 19, 3) := by decide +kernel
theorem dW_lock_54 : decode cW_lock 54 = .ok (.aload_n 1, 1) := by decide +kernel
theorem dW_lock_55 : decode cW_lock 55 = .ok (.aload_n 0, 1) := by decide +kernel
theorem dW_lock_56 : decode cW_lock 56 = .ok (.getfield 23, 3) := by decide +kernel
theorem dW_lock_59 : decode cW_lock 59 = .ok (.iload 4, 2) := by decide +kernel
theorem dW_lock_61 : decode cW_lock 61 = .ok (.aaload, 1) := by decide +kernel
theorem dW_lock_62 : decode cW_lock 62 = .ok (.invokestatic 187, 3) := by decide +kernel
theorem dW_lock_65 : decode cW_lock 65 = .ok (.ifCond .ne 5, 3) := by decide +kernel
theorem dW_lock_68 : decode cW_lock 68 = .ok (.iconst 0, 1) := by decide +kernel
theorem dW_lock_69 : decode cW_lock 69 = .ok (.ireturn, 1) := by decide +kernel
theorem dW_lock_70 : decode cW_lock 70 = .ok (.iinc 4 1, 3) := by decide +kernel
theorem dW_lock_73 : decode cW_lock 73 = .ok (.goto (-41), 3) := by decide +kernel
theorem dW_lock_76 : decode cW_lock 76 = .ok (.iconst 0, 1) := by decide +kernel
theorem dW_lock_77 : decode cW_lock 77 = .ok (.istore 4, 2) := by decide +kernel
theorem dW_lock_79 : decode cW_lock 79 = .ok (.iload 4, 2) := by decide +kernel
theorem dW_lock_81 : decode cW_lock 81 = .ok (.iconst 5, 1) := by decide +kernel
theorem dW_lock_82 : decode cW_lock 82 = .ok (.if_icmp .ge 35, 3) := by decide +kernel
theorem dW_lock_85 : decode cW_lock 85 = .ok (.aload_n 0, 1) := by decide +kernel
theorem dW_lock_86 : decode cW_lock 86 = .ok (.getfield 23, 3) := by decide +kernel
theorem dW_lock_89 : decode cW_lock 89 = .ok (.iload 4, 2) := by decide +kernel
theorem dW_lock_91 : decode cW_lock 91 = .ok (.aaload, 1) := by decide +kernel
theorem dW_lock_92 : decode cW_lock 92 = .ok (.aload_n 1, 1) := by decide +kernel
theorem dW_lock_93 : decode cW_lock 93 = .ok (.iload_n 2, 1) := by decide +kernel
theorem dW_lock_94 : decode cW_lock 94 = .ok (.iload_n 3, 1) := by decide +kernel
theorem dW_lock_95 : decode cW_lock 95 = .ok (.invokestatic 183, 3) := by decide +kernel
theorem dW_lock_98 : decode cW_lock 98 = .ok (.ifCond .eq 13, 3) := by decide +kernel
theorem dW_lock_101 : decode cW_lock 101 = .ok (.aload_n 0, 1) := by decide +kernel
theorem dW_lock_102 : decode cW_lock 102 = .ok (.getfield 23, 3) := by decide +kernel
theorem dW_lock_105 : decode cW_lock 105 = .ok (.iload 4, 2) := by decide +kernel
theorem dW_lock_107 : decode cW_lock 107 = .ok (.aaload, 1) := by decide +kernel
theorem dW_lock_108 : decode cW_lock 108 = .ok (.invokevirtual 131, 3) := by decide +kernel
theorem dW_lock_111 : decode cW_lock 111 = .ok (.iinc 4 1, 3) := by decide +kernel
theorem dW_lock_114 : decode cW_lock 114 = .ok (.goto (-35), 3) := by decide +kernel
theorem dW_lock_117 : decode cW_lock 117 = .ok (.aload_n 1, 1) := by decide +kernel
theorem dW_lock_118 : decode cW_lock 118 = .ok (.getfield 111, 3) := by decide +kernel
theorem dW_lock_121 : decode cW_lock 121 = .ok (.iload_n 2, 1) := by decide +kernel
theorem dW_lock_122 : decode cW_lock 122 = .ok (.iload_n 3, 1) := by decide +kernel
theorem dW_lock_123 : decode cW_lock 123 = .ok (.iastore, 1) := by decide +kernel
theorem dW_lock_124 : decode cW_lock 124 = .ok (.iconst 1, 1) := by decide +kernel
theorem dW_lock_125 : decode cW_lock 125 = .ok (.ireturn, 1) := by decide +kernel
theorem dW_conflicts_0 : decode cW_conflicts 0 = .ok (.aload_n 0, 1) := by decide +kernel
theorem dW_conflicts_1 : decode cW_conflicts 1 = .ok (.aload_n 1, 1) := by decide +kernel
theorem dW_conflicts_2 : decode cW_conflicts 2 = .ok (.if_acmp .eq 12, 3) := by decide +kernel
theorem dW_conflicts_5 : decode cW_conflicts 5 = .ok (.aload_n 0, 1) := by decide +kernel
theorem dW_conflicts_6 : decode cW_conflicts 6 = .ok (.getfield 111, 3) := by decide +kernel
theorem dW_conflicts_9 : decode cW_conflicts 9 = .ok (.iload_n 2, 1) := by decide +kernel
theorem dW_conflicts_10 : decode cW_conflicts 10 = .ok (.iaload, 1) := by decide +kernel
theorem dW_conflicts_11 : decode cW_conflicts 11 = .ok (.ifCond .ne 5, 3) := by decide +kernel
theorem dW_conflicts_14 : decode cW_conflicts 14 = .ok (.iconst 0, 1) := by decide +kernel
theorem dW_conflicts_15 : decode cW_conflicts 15 = .ok (.ireturn, 1) := by decide +kernel
theorem dW_conflicts_16 : decode cW_conflicts 16 = .ok (.iload_n 3, 1) := by decide +kernel
theorem dW_conflicts_17 : decode cW_conflicts 17 = .ok (.iconst 2, 1) := by decide +kernel
theorem dW_conflicts_18 : decode cW_conflicts 18 = .ok (.if_icmp .eq 13, 3) := by decide +kernel
theorem dW_conflicts_21 : decode cW_conflicts 21 = .ok (.aload_n 0, 1) := by decide +kernel
theorem dW_conflicts_22 : decode cW_conflicts 22 = .ok (.getfield 111, 3) := by decide +kernel
theorem dW_conflicts_25 : decode cW_conflicts 25 = .ok (.iload_n 2, 1) := by decide +kernel
theorem dW_conflicts_26 : decode cW_conflicts 26 = .ok (.iaload, 1) := by decide +kernel
theorem dW_conflicts_27 : decode cW_conflicts 27 = .ok (.iconst 2, 1) := by decide +kernel
theorem dW_conflicts_28 : decode cW_conflicts 28 = .ok (.if_icmp .ne 7, 3) := by decide +kernel
theorem dW_conflicts_31 : decode cW_conflicts 31 = .ok (.iconst 1, 1) := by decide +kernel
theorem dW_conflicts_32 : decode cW_conflicts 32 = .ok (.goto 4, 3) := by decide +kernel
theorem dW_conflicts_35 : decode cW_conflicts 35 = .ok (.iconst 0, 1) := by decide +kernel
theorem dW_conflicts_36 : decode cW_conflicts 36 = .ok (.ireturn, 1) := by decide +kernel
theorem dW_canPushAside_0 : decode cW_canPushAside 0 = .ok (.aload_n 1, 1) := by decide +kernel
theorem dW_canPushAside_1 : decode cW_canPushAside 1 = .ok (.getfield 93, 3) := by decide +kernel
theorem dW_canPushAside_4 : decode cW_canPushAside 4 = .ok (.iconst 1, 1) := by decide +kernel
theorem dW_canPushAside_5 : decode cW_canPushAside 5 = .ok (.if_icmp .ne 18, 3) := by decide +kernel
theorem dW_canPushAside_8 : decode cW_canPushAside 8 = .ok (.aload_n 1, 1) := by decide +kernel
theorem dW_canPushAside_9 : decode cW_canPushAside 9 = .ok (.getfield 96, 3) := by decide +kernel
theorem dW_canPushAside_12 : decode cW_canPushAside 12 = .ok (.aload_n 0, 1) := by decide +kernel
theorem dW_canPushAside_13 : decode cW_canPushAside 13 = .ok (.getfield 96, 3) := by decide +kernel
theorem dW_canPushAside_16 : decode cW_canPushAside 16 = .ok (.if_icmp .le 7, 3) := by decide +kernel
theorem dW_canPushAside_19 : decode cW_canPushAside 19 = .ok (.iconst 1, 1) := by decide +kernel
theorem dW_canPushAside_20 : decode cW_canPushAside 20 = .ok (.goto 4, 3) := by decide +kernel
theorem dW_canPushAside_23 : decode cW_canPushAside 23 = .ok (.iconst 0, 1) := by decide +kernel
theorem dW_canPushAside_24 : decode cW_canPushAside 24 = .ok (.ireturn, 1) := by decide +kernel
theorem dW_prepare_0 : decode cW_prepare 0 = .ok (.aload_n 0, 1) := by decide +kernel
theorem dW_prepare_1 : decode cW_prepare 1 = .ok (.getfield 23, 3) := by decide +kernel
theorem dW_prepare_4 : decode cW_prepare 4 = .ok (.iload_n 1, 1) := by decide +kernel
theorem dW_prepare_5 : decode cW_prepare 5 = .ok (.aaload, 1) := by decide +kernel
theorem dW_prepare_6 : decode cW_prepare 6 = .ok (.astore_n 2, 1) := by decide +kernel
theorem dW_prepare_7 : decode cW_prepare 7 = .ok (.aload_n 2, 1) := by decide +kernel
theorem dW_prepare_8 : decode cW_prepare 8 = .ok (.iconst 2, 1) := by decide +kernel
theorem dW_prepare_9 : decode cW_prepare 9 = .ok (.putfield 93, 3) := by decide +kernel
theorem dW_prepare_12 : decode cW_prepare 12 = .ok (.aload_n 2, 1) := by decide +kernel
theorem dW_prepare_13 : decode cW_prepare 13 = .ok (.aload_n 0, 1) := by decide +kernel
theorem dW_prepare_14 : decode cW_prepare 14 = .ok (.aload_n 2, 1) := by decide +kernel
theorem dW_prepare_15 : decode cW_prepare 15 = .ok (.getfield 125, 3) := by decide +kernel
theorem dW_prepare_18 : decode cW_prepare 18 = .ok (.invokevirtual 180, 3) := by decide +kernel
theorem dW_prepare_21 : decode cW_prepare 21 = .ok (.iconst 1, 1) := by decide +kernel
theorem dW_prepare_22 : decode cW_prepare 22 = .ok (.iadd, 1) := by decide +kernel
theorem dW_prepare_23 : decode cW_prepare 23 = .ok (.putfield 191, 3) := by decide +kernel
theorem dW_prepare_26 : decode cW_prepare 26 = .ok (.aload_n 2, 1) := by decide +kernel
theorem dW_prepare_27 : decode cW_prepare 27 = .ok (.aload_n 0, 1) := by decide +kernel
theorem dW_prepare_28 : decode cW_prepare 28 = .ok (.iconst 1, 1) := by decide +kernel
theorem dW_prepare_29 : decode cW_prepare 29 = .ok (.iload_n 1, 1) := by decide +kernel
theorem dW_prepare_30 : decode cW_prepare 30 = .ok (.invokevirtual 194, 3) := by decide +kernel
theorem dW_prepare_33 : decode cW_prepare 33 = .ok (.putfield 197, 3) := by decide +kernel
theorem dW_prepare_36 : decode cW_prepare 36 = .ok (.aload_n 2, 1) := by decide +kernel
theorem dW_prepare_37 : decode cW_prepare 37 = .ok (.getfield 197, 3) := by decide +kernel
theorem dW_prepare_40 : decode cW_prepare 40 = .ok (.ifCond .ne 8, 3) := by decide +kernel
theorem dW_prepare_43 : decode cW_prepare 43 = .ok (.aload_n 0, 1) := by decide +kernel
theorem dW_prepare_44 : decode cW_prepare 44 = .ok (.aload_n 2, 1) := by decide +kernel
theorem dW_prepare_45 : decode cW_prepare 45 = .ok (.invokevirtual 200, 3) := by decide +kernel
theorem dW_prepare_48 : decode cW_prepare 48 = .ok (.return_, 1) := by decide +kernel
theorem dW_sendToOthers_0 : decode cW_sendToOthers 0 = .ok (.aload_n 0, 1) := by decide +kernel
theorem dW_sendToOthers_1 : decode cW_sendToOthers 1 = .ok (.getfield 23, 3) := by decide +kernel
theorem dW_sendToOthers_4 : decode cW_sendToOthers 4 = .ok (.iload_n 2, 1) := by decide +kernel
theorem dW_sendToOthers_5 : decode cW_sendToOthers 5 = .ok (.aaload, 1) := by decide +kernel
theorem dW_sendToOthers_6 : decode cW_sendToOthers 6 = .ok (.astore_n 3, 1) := by decide +kernel
theorem dW_sendToOthers_7 : decode cW_sendToOthers 7 = .ok (.iconst 0, 1) := by decide +kernel
theorem dW_sendToOthers_8 : decode cW_sendToOthers 8 = .ok (.istore 4, 2) := by decide +kernel
theorem dW_sendToOthers_10 : decode cW_sendToOthers 10 = .ok (.iconst 0, 1) := by decide +kernel
theorem dW_sendToOthers_11 : decode cW_sendToOthers 11 = .ok (.istore 5, 2) := by decide +kernel
theorem dW_sendToOthers_13 : decode cW_sendToOthers 13 = .ok (.iload 5, 2) := by decide +kernel
theorem dW_sendToOthers_15 : decode cW_sendToOthers 15 = .ok (.iconst 3, 1) := by decide +kernel
theorem dW_sendToOthers_16 : decode cW_sendToOthers 16 = .ok (.if_icmp .ge 38, 3) := by decide +kernel
theorem dW_sendToOthers_19 : decode cW_sendToOthers 19 = .ok (.iload 5, 2) := by decide +kernel
theorem dW_sendToOthers_21 : decode cW_sendToOthers 21 = .ok (.aload_n 3, 1) := by decide +kernel
theorem dW_sendToOthers_22 : decode cW_sendToOthers 22 = .ok (.getfield 125, 3) := by decide +kernel
theorem dW_sendToOthers_25 : decode cW_sendToOthers 25 = .ok (.if_icmp .eq 23, 3) := by decide +kernel
theorem dW_sendToOthers_28 : decode cW_sendToOthers 28 = .ok (.aload_n 3, 1) := by decide +kernel
theorem dW_sendToOthers_29 : decode cW_sendToOthers 29 = .ok (.iload 5, 2) := by decide +kernel
theorem dW_sendToOthers_31 : decode cW_sendToOthers 31 = .ok (.invokevirtual 204, 3) := by decide +kernel
theorem dW_sendToOthers_34 : decode cW_sendToOthers 34 = .ok (.ifCond .eq 14, 3) := by decide +kernel
theorem dW_sendToOthers_37 : decode cW_sendToOthers 37 = .ok (.aload_n 0, 1) := by decide +kernel
theorem dW_sendToOthers_38 : decode cW_sendToOthers 38 = .ok (.iload_n 1, 1) := by decide +kernel
theorem dW_sendToOthers_39 : decode cW_sendToOthers 39 = .ok (.iload_n 2, 1) := by decide +kernel
theorem dW_sendToOthers_40 : decode cW_sendToOthers 40 = .ok (.iload 5, 2) := by decide +kernel
theorem dW_sendToOthers_42 : decode cW_sendToOthers 42 = .ok (.invokevirtual 207, 3) := by decide +kernel
theorem dW_sendToOthers_45 : decode cW_sendToOthers 45 = .ok (.iinc 4 1, 3) := by decide +kernel
theorem dW_sendToOthers_48 : decode cW_sendToOthers 48 = .ok (.iinc 5 1, 3) := by decide +kernel
theorem dW_sendToOthers_51 : decode cW_sendToOthers 51 = .ok (.goto (-38), 3) := by decide +kernel
theorem dW_sendToOthers_54 : decode cW_sendToOthers 54 = .ok (.iload 4, 2) := by decide +kernel
theorem dW_sendToOthers_56 : decode cW_sendToOthers 56 = .ok (.ireturn, 1) := by decide +kernel
theorem dW_send_0 : decode cW_send 0 = .ok (.aload_n 0, 1) := by decide +kernel
theorem dW_send_1 : decode cW_send 1 = .ok (.getfield 23, 3) := by decide +kernel
theorem dW_send_4 : decode cW_send 4 = .ok (.iload_n 2, 1) := by decide +kernel
theorem dW_send_5 : decode cW_send 5 = .ok (.aaload, 1) := by decide +kernel
theorem dW_send_6 : decode cW_send 6 = .ok (.getfield 125, 3) := by decide +kernel
theorem dW_send_9 : decode cW_send 9 = .ok (.istore 4, 2) := by decide +kernel
theorem dW_send_11 : decode cW_send 11 = .ok (.aload_n 0, 1) := by decide +kernel
theorem dW_send_12 : decode cW_send 12 = .ok (.getfield 29, 3) := by decide +kernel
theorem dW_send_15 : decode cW_send 15 = .ok (.iload_n 2, 1) := by decide +kernel
theorem dW_send_16 : decode cW_send 16 = .ok (.iconst 3, 1) := by decide +kernel
theorem dW_send_17 : decode cW_send 17 = .ok (.imul, 1) := by decide +kernel
theorem dW_send_18 : decode cW_send 18 = .ok (.iload_n 3, 1) := by decide +kernel
theorem dW_send_19 : decode cW_send 19 = .ok (.iadd, 1) := by decide +kernel
theorem dW_send_20 : decode cW_send 20 = .ok (.aaload, 1) := by decide +kernel
theorem dW_send_21 : decode cW_send 21 = .ok (.astore 5, 2) := by decide +kernel
theorem dW_send_23 : decode cW_send 23 = .ok (.aload 5, 2) := by decide +kernel
theorem dW_send_25 : decode cW_send 25 = .ok (.iload_n 1, 1) := by decide +kernel
theorem dW_send_26 : decode cW_send 26 = .ok (.putfield 211, 3) := by decide +kernel
theorem dW_send_29 : decode cW_send 29 = .ok (.aload 5, 2) := by decide +kernel
theorem dW_send_31 : decode cW_send 31 = .ok (.iload_n 1, 1) := by decide +kernel
theorem dW_send_32 : decode cW_send 32 = .ok (.iconst 2, 1) := by decide +kernel
theorem dW_send_33 : decode cW_send 33 = .ok (.if_icmp .ne 8, 3) := by decide +kernel
theorem dW_send_36 : decode cW_send 36 = .ok (.iload 4, 2) := by decide +kernel
theorem dW_send_38 : decode cW_send 38 = .ok (.goto 4, 3) := by decide +kernel
theorem dW_send_41 : decode cW_send 41 = .ok (.iload_n 3, 1) := by decide +kernel
theorem dW_send_42 : decode cW_send 42 = .ok (.putfield 214, 3) := by decide +kernel
theorem dW_send_45 : decode cW_send 45 = .ok (.aload 5, 2) := by decide +kernel
theorem dW_send_47 : decode cW_send 47 = .ok (.aload_n 0, 1) := by decide +kernel
theorem dW_send_48 : decode cW_send 48 = .ok (.getfield 33, 3) := by decide +kernel
theorem dW_send_51 : decode cW_send 51 = .ok (.iconst 1, 1) := by decide +kernel
theorem dW_send_52 : decode cW_send 52 = .ok (.iadd, 1) := by decide +kernel
theorem dW_send_53 : decode cW_send 53 = .ok (.aload_n 0, 1) := by decide +kernel
theorem dW_send_54 : decode cW_send 54 = .ok (.getfield 11, 3) := by decide +kernel
theorem dW_send_57 : decode cW_send 57 = .ok (.iload 4, 2) := by decide +kernel
theorem dW_send_59 : decode cW_send 59 = .ok (.aaload, 1) := by decide +kernel
theorem dW_send_60 : decode cW_send 60 = .ok (.getfield 79, 3) := by decide +kernel
theorem dW_send_63 : decode cW_send 63 = .ok (.iadd, 1) := by decide +kernel
theorem dW_send_64 : decode cW_send 64 = .ok (.aload_n 0, 1) := by decide +kernel
theorem dW_send_65 : decode cW_send 65 = .ok (.getfield 11, 3) := by decide +kernel
theorem dW_send_68 : decode cW_send 68 = .ok (.iload_n 3, 1) := by decide +kernel
theorem dW_send_69 : decode cW_send 69 = .ok (.aaload, 1) := by decide +kernel
theorem dW_send_70 : decode cW_send 70 = .ok (.getfield 79, 3) := by decide +kernel
theorem dW_send_73 : decode cW_send 73 = .ok (.iadd, 1) := by decide +kernel
theorem dW_send_74 : decode cW_send 74 = .ok (.putfield 217, 3) := by decide +kernel
theorem dW_send_77 : decode cW_send 77 = .ok (.aload 5, 2) := by decide +kernel
theorem dW_send_79 : decode cW_send 79 = .ok (.aload_n 0, 1) := by decide +kernel
theorem dW_send_80 : decode cW_send 80 = .ok (.getfield 40, 3) := by decide +kernel
theorem dW_send_83 : decode cW_send 83 = .ok (.putfield 220, 3) := by decide +kernel
theorem dW_send_86 : decode cW_send 86 = .ok (.aload_n 0, 1) := by decide +kernel
theorem dW_send_87 : decode cW_send 87 = .ok (.dup, 1) := by decide +kernel
theorem dW_send_88 : decode cW_send 88 = .ok (.getfield 40, 3) := by decide +kernel
theorem dW_send_91 : decode cW_send 91 = .ok (.iconst 1, 1) := by decide +kernel
theorem dW_send_92 : decode cW_send 92 = .ok (.iadd, 1) := by decide +kernel
theorem dW_send_93 : decode cW_send 93 = .ok (.putfield 40, 3) := by decide +kernel
theorem dW_send_96 : decode cW_send 96 = .ok (.aload_n 0, 1) := by decide +kernel
theorem dW_send_97 : decode cW_send 97 = .ok (.dup, 1) := by decide +kernel
theorem dW_send_98 : decode cW_send 98 = .ok (.getfield 43, 3) := by decide +kernel
theorem dW_send_101 : decode cW_send 101 = .ok (.iconst 1, 1) := by decide +kernel
theorem dW_send_102 : decode cW_send 102 = .ok (.iadd, 1) := by decide +kernel
theorem dW_send_103 : decode cW_send 103 = .ok (.putfield 43, 3) := by decide +kernel
theorem dW_send_106 : decode cW_send 106 = .ok (.return_, 1) := by decide +kernel
theorem dW_deliverMessages_0 : decode cW_deliverMessages 0 = .ok (.iconst 0, 1) := by decide +kernel
theorem dW_deliverMessages_1 : decode cW_deliverMessages 1 = .ok (.istore_n 1, 1) := by decide +kernel
theorem dW_deliverMessages_2 : decode cW_deliverMessages 2 = .ok (.iload_n 1, 1) := by decide +kernel
theorem dW_deliverMessages_3 : decode cW_deliverMessages 3 = .ok (.aload_n 0, 1) := by decide +kernel
theorem dW_deliverMessages_4 : decode cW_deliverMessages 4 = .ok (.getfield 29, 3) := by decide +kernel
theorem dW_deliverMessages_7 : decode cW_deliverMessages 7 = .ok (.arraylength, 1) := by decide +kernel
theorem dW_deliverMessages_8 : decode cW_deliverMessages 8 = .ok (.if_icmp .ge 31, 3) := by decide +kernel
theorem dW_deliverMessages_11 : decode cW_deliverMessages 11 = .ok (.aload_n 0, 1) := by decide +kernel
theorem dW_deliverMessages_12 : decode cW_deliverMessages 12 = .ok (.getfield 43, 3) := by decide +kernel
theorem dW_deliverMessages_15 : decode cW_deliverMessages 15 = .ok (.ifCond .le 24, 3) := by decide +kernel
theorem dW_deliverMessages_18 : decode cW_deliverMessages 18 = .ok (.aload_n 0, 1) := by decide +kernel
theorem dW_deliverMessages_19 : decode cW_deliverMessages 19 = .ok (.invokevirtual 223, 3) := by decide +kernel
theorem dW_deliverMessages_22 : decode cW_deliverMessages 22 = .ok (.astore_n 2, 1) := by decide +kernel
theorem dW_deliverMessages_23 : decode cW_deliverMessages 23 = .ok (.aload_n 2, 1) := by decide +kernel
theorem dW_deliverMessages_24 : decode cW_deliverMessages 24 = .ok (.ifnonnull 4, 3) := by decide +kernel
theorem dW_deliverMessages_27 : decode cW_deliverMessages 27 = .ok (.return_, 1) := by decide +kernel
theorem dW_deliverMessages_28 : decode cW_deliverMessages 28 = .ok (.aload_n 0, 1) := by decide +kernel
theorem dW_deliverMessages_29 : decode cW_deliverMessages 29 = .ok (.aload_n 2, 1) := by decide +kernel
theorem dW_deliverMessages_30 : decode cW_deliverMessages 30 = .ok (.invokevirtual 227, 3) := by decide +kernel
theorem dW_deliverMessages_33 : decode cW_deliverMessages 33 = .ok (.iinc 1 1, 3) := by decide +kernel
theorem dW_deliverMessages_36 : decode cW_deliverMessages 36 = .ok (.goto (-34), 3) := by decide +kernel
theorem dW_deliverMessages_39 : decode cW_deliverMessages 39 = .ok (.return_, 1) := by decide +kernel
theorem dW_firstDue_0 : decode cW_firstDue 0 = .ok (.aconst_null, 1) := by decide +kernel
theorem dW_firstDue_1 : decode cW_firstDue 1 = .ok (.astore_n 1, 1) := by decide +kernel
theorem dW_firstDue_2 : decode cW_firstDue 2 = .ok (.iconst 0, 1) := by decide +kernel
theorem dW_firstDue_3 : decode cW_firstDue 3 = .ok (.istore_n 2, 1) := by decide +kernel
theorem dW_firstDue_4 : decode cW_firstDue 4 = .ok (.iload_n 2, 1) := by decide +kernel
theorem dW_firstDue_5 : decode cW_firstDue 5 = .ok (.aload_n 0, 1) := by decide +kernel
theorem dW_firstDue_6 : decode cW_firstDue 6 = .ok (.getfield 29, 3) := by decide +kernel
theorem dW_firstDue_9 : decode cW_firstDue 9 = .ok (.arraylength, 1) := by decide +kernel
theorem dW_firstDue_10 : decode cW_firstDue 10 = .ok (.if_icmp .ge 46, 3) := by decide +kernel
theorem dW_firstDue_13 : decode cW_firstDue 13 = .ok (.aload_n 0, 1) := by decide +kernel
theorem dW_firstDue_14 : decode cW_firstDue 14 = .ok (.aload_n 0, 1) := by decide +kernel
theorem dW_firstDue_15 : decode cW_firstDue 15 = .ok (.getfield 29, 3) := by decide +kernel
theorem dW_firstDue_18 : decode cW_firstDue 18 = .ok (.iload_n 2, 1) := by decide +kernel
theorem dW_firstDue_19 : decode cW_firstDue 19 = .ok (.aaload, 1) := by decide +kernel
theorem dW_firstDue_20 : decode cW_firstDue 20 = .ok (.invokevirtual 231, 3) := by decide +kernel
theorem dW_firstDue_23 : decode cW_firstDue 23 = .ok (.ifCond .eq 27, 3) := by decide +kernel
theorem dW_firstDue_26 : decode cW_firstDue 26 = .ok (.aload_n 1, 1) := by decide +kernel
theorem dW_firstDue_27 : decode cW_firstDue 27 = .ok (.ifnull 16, 3) := by decide +kernel
theorem dW_firstDue_30 : decode cW_firstDue 30 = .ok (.aload_n 0, 1) := by decide +kernel
theorem dW_firstDue_31 : decode cW_firstDue 31 = .ok (.getfield 29, 3) := by decide +kernel
theorem dW_firstDue_34 : decode cW_firstDue 34 = .ok (.iload_n 2, 1) := by decide +kernel
theorem dW_firstDue_35 : decode cW_firstDue 35 = .ok (.aaload, 1) := by decide +kernel
theorem dW_firstDue_36 : decode cW_firstDue 36 = .ok (.aload_n 1, 1) := by decide +kernel
theorem dW_firstDue_37 : decode cW_firstDue 37 = .ok (.invokevirtual 235, 3) := by decide +kernel
theorem dW_firstDue_40 : decode cW_firstDue 40 = .ok (.ifCond .eq 10, 3) := by decide +kernel
theorem dW_firstDue_43 : decode cW_firstDue 43 = .ok (.aload_n 0, 1) := by decide +kernel
theorem dW_firstDue_44 : decode cW_firstDue 44 = .ok (.getfield 29, 3) := by decide +kernel
theorem dW_firstDue_47 : decode cW_firstDue 47 = .ok (.iload_n 2, 1) := by decide +kernel
theorem dW_firstDue_48 : decode cW_firstDue 48 = .ok (.aaload, 1) := by decide +kernel
theorem dW_firstDue_49 : decode cW_firstDue 49 = .ok (.astore_n 1, 1) := by decide +kernel
theorem dW_firstDue_50 : decode cW_firstDue 50 = .ok (.iinc 2 1, 3) := by decide +kernel
theorem dW_firstDue_53 : decode cW_firstDue 53 = .ok (.goto (-49), 3) := by decide +kernel
theorem dW_firstDue_56 : decode cW_firstDue 56 = .ok (.aload_n 1, 1) := by decide +kernel
theorem dW_firstDue_57 : decode cW_firstDue 57 = .ok (.areturn, 1) := by decide +kernel
theorem dW_isDue_0 : decode cW_isDue 0 = .ok (.aload_n 1, 1) := by decide +kernel
theorem dW_isDue_1 : decode cW_isDue 1 = .ok (.getfield 211, 3) := by decide +kernel
theorem dW_isDue_4 : decode cW_isDue 4 = .ok (.ifCond .eq 33, 3) := by decide +kernel
theorem dW_isDue_7 : decode cW_isDue 7 = .ok (.aload_n 1, 1) := by decide +kernel
theorem dW_isDue_8 : decode cW_isDue 8 = .ok (.getfield 217, 3) := by decide +kernel
theorem dW_isDue_11 : decode cW_isDue 11 = .ok (.aload_n 0, 1) := by decide +kernel
theorem dW_isDue_12 : decode cW_isDue 12 = .ok (.getfield 33, 3) := by decide +kernel
theorem dW_isDue_15 : decode cW_isDue 15 = .ok (.if_icmp .gt 22, 3) := by decide +kernel
theorem dW_isDue_18 : decode cW_isDue 18 = .ok (.aload_n 0, 1) := by decide +kernel
theorem dW_isDue_19 : decode cW_isDue 19 = .ok (.getfield 11, 3) := by decide +kernel
theorem dW_isDue_22 : decode cW_isDue 22 = .ok (.aload_n 1, 1) := by decide +kernel
theorem dW_isDue_23 : decode cW_isDue 23 = .ok (.getfield 214, 3) := by decide +kernel
theorem dW_isDue_26 : decode cW_isDue 26 = .ok (.aaload, 1) := by decide +kernel
theorem dW_isDue_27 : decode cW_isDue 27 = .ok (.getfield 82, 3) := by decide +kernel
theorem dW_isDue_30 : decode cW_isDue 30 = .ok (.ifCond .eq 7, 3) := by decide +kernel
theorem dW_isDue_33 : decode cW_isDue 33 = .ok (.iconst 1, 1) := by decide +kernel
theorem dW_isDue_34 : decode cW_isDue 34 = .ok (.goto 4, 3) := by decide +kernel
theorem dW_isDue_37 : decode cW_isDue 37 = .ok (.iconst 0, 1) := by decide +kernel
theorem dW_isDue_38 : decode cW_isDue 38 = .ok (.ireturn, 1) := by decide +kernel
theorem dW_dealWith_0 : decode cW_dealWith 0 = .ok (.aload_n 1, 1) := by decide +kernel
theorem dW_dealWith_1 : decode cW_dealWith 1 = .ok (.getfield 211, 3) := by decide +kernel
theorem dW_dealWith_4 : decode cW_dealWith 4 = .ok (.istore_n 2, 1) := by decide +kernel
theorem dW_dealWith_5 : decode cW_dealWith 5 = .ok (.aload_n 1, 1) := by decide +kernel
theorem dW_dealWith_6 : decode cW_dealWith 6 = .ok (.iconst 0, 1) := by decide +kernel
theorem dW_dealWith_7 : decode cW_dealWith 7 = .ok (.putfield 211, 3) := by decide +kernel
theorem dW_dealWith_10 : decode cW_dealWith 10 = .ok (.aload_n 0, 1) := by decide +kernel
theorem dW_dealWith_11 : decode cW_dealWith 11 = .ok (.dup, 1) := by decide +kernel
theorem dW_dealWith_12 : decode cW_dealWith 12 = .ok (.getfield 43, 3) := by decide +kernel
theorem dW_dealWith_15 : decode cW_dealWith 15 = .ok (.iconst 1, 1) := by decide +kernel
theorem dW_dealWith_16 : decode cW_dealWith 16 = .ok (.isub, 1) := by decide +kernel
theorem dW_dealWith_17 : decode cW_dealWith 17 = .ok (.putfield 43, 3) := by decide +kernel
theorem dW_dealWith_20 : decode cW_dealWith 20 = .ok (.iload_n 2, 1) := by decide +kernel
theorem dW_dealWith_21 : decode cW_dealWith 21 = .ok (.iconst 1, 1) := by decide +kernel
theorem dW_dealWith_22 : decode cW_dealWith 22 = .ok (.if_icmp .ne 18, 3) := by decide +kernel
theorem dW_dealWith_25 : decode cW_dealWith 25 = .ok (.aload_n 0, 1) := by decide +kernel
theorem dW_dealWith_26 : decode cW_dealWith 26 = .ok (.aload_n 1, 1) := by decide +kernel
theorem dW_dealWith_27 : decode cW_dealWith 27 = .ok (.getfield 238, 3) := by decide +kernel
theorem dW_dealWith_30 : decode cW_dealWith 30 = .ok (.aload_n 1, 1) := by decide +kernel
theorem dW_dealWith_31 : decode cW_dealWith 31 = .ok (.getfield 241, 3) := by decide +kernel
theorem dW_dealWith_34 : decode cW_dealWith 34 = .ok (.invokevirtual 244, 3) := by decide +kernel
theorem dW_dealWith_37 : decode cW_dealWith 37 = .ok (.goto 41, 3) := by decide +kernel
theorem dW_dealWith_40 : decode cW_dealWith 40 = .ok (.iload_n 2, 1) := by decide +kernel
theorem dW_dealWith_41 : decode cW_dealWith 41 = .ok (.iconst 2, 1) := by decide +kernel
theorem dW_dealWith_42 : decode cW_dealWith 42 = .ok (.if_icmp .ne 19, 3) := by decide +kernel
theorem dW_dealWith_45 : decode cW_dealWith 45 = .ok (.aload_n 0, 1) := by decide +kernel
theorem dW_dealWith_46 : decode cW_dealWith 46 = .ok (.aload_n 0, 1) := by decide +kernel
theorem dW_dealWith_47 : decode cW_dealWith 47 = .ok (.getfield 23, 3) := by decide +kernel
theorem dW_dealWith_50 : decode cW_dealWith 50 = .ok (.aload_n 1, 1) := by decide +kernel
theorem dW_dealWith_51 : decode cW_dealWith 51 = .ok (.getfield 238, 3) := by decide +kernel
theorem dW_dealWith_54 : decode cW_dealWith 54 = .ok (.aaload, 1) := by decide +kernel
theorem dW_dealWith_55 : decode cW_dealWith 55 = .ok (.invokevirtual 247, 3) := by decide +kernel
theorem dW_dealWith_58 : decode cW_dealWith 58 = .ok (.goto 20, 3) := by decide +kernel
theorem dW_dealWith_61 : decode cW_dealWith 61 = .ok (.aload_n 0, 1) := by decide +kernel
theorem dW_dealWith_62 : decode cW_dealWith 62 = .ok (.aload_n 0, 1) := by decide +kernel
theorem dW_dealWith_63 : decode cW_dealWith 63 = .ok (.getfield 23, 3) := by decide +kernel
theorem dW_dealWith_66 : decode cW_dealWith 66 = .ok (.aload_n 1, 1) := by decide +kernel
theorem dW_dealWith_67 : decode cW_dealWith 67 = .ok (.getfield 238, 3) := by decide +kernel
theorem dW_dealWith_70 : decode cW_dealWith 70 = .ok (.aaload, 1) := by decide +kernel
theorem dW_dealWith_71 : decode cW_dealWith 71 = .ok (.aload_n 1, 1) := by decide +kernel
theorem dW_dealWith_72 : decode cW_dealWith 72 = .ok (.getfield 241, 3) := by decide +kernel
theorem dW_dealWith_75 : decode cW_dealWith 75 = .ok (.invokevirtual 250, 3) := by decide +kernel
theorem dW_dealWith_78 : decode cW_dealWith 78 = .ok (.return_, 1) := by decide +kernel
theorem dW_takePrepare_0 : decode cW_takePrepare 0 = .ok (.aload_n 0, 1) := by decide +kernel
theorem dW_takePrepare_1 : decode cW_takePrepare 1 = .ok (.iload_n 2, 1) := by decide +kernel
theorem dW_takePrepare_2 : decode cW_takePrepare 2 = .ok (.invokevirtual 180, 3) := by decide +kernel
theorem dW_takePrepare_5 : decode cW_takePrepare 5 = .ok (.aload_n 0, 1) := by decide +kernel
theorem dW_takePrepare_6 : decode cW_takePrepare 6 = .ok (.getfield 11, 3) := by decide +kernel
theorem dW_takePrepare_9 : decode cW_takePrepare 9 = .ok (.iload_n 2, 1) := by decide +kernel
theorem dW_takePrepare_10 : decode cW_takePrepare 10 = .ok (.aaload, 1) := by decide +kernel
theorem dW_takePrepare_11 : decode cW_takePrepare 11 = .ok (.getfield 168, 3) := by decide +kernel
theorem dW_takePrepare_14 : decode cW_takePrepare 14 = .ok (.iconst 1, 1) := by decide +kernel
theorem dW_takePrepare_15 : decode cW_takePrepare 15 = .ok (.iadd, 1) := by decide +kernel
theorem dW_takePrepare_16 : decode cW_takePrepare 16 = .ok (.invokestatic 52, 3) := by decide +kernel
theorem dW_takePrepare_19 : decode cW_takePrepare 19 = .ok (.istore_n 3, 1) := by decide +kernel
theorem dW_takePrepare_20 : decode cW_takePrepare 20 = .ok (.aload_n 0, 1) := by decide +kernel
theorem dW_takePrepare_21 : decode cW_takePrepare 21 = .ok (.getfield 23, 3) := by decide +kernel
theorem dW_takePrepare_24 : decode cW_takePrepare 24 = .ok (.iload_n 1, 1) := by decide +kernel
theorem dW_takePrepare_25 : decode cW_takePrepare 25 = .ok (.aaload, 1) := by decide +kernel
theorem dW_takePrepare_26 : decode cW_takePrepare 26 = .ok (.getfield 162, 3) := by decide +kernel
theorem dW_takePrepare_29 : decode cW_takePrepare 29 = .ok (.iload_n 2, 1) := by decide +kernel
theorem dW_takePrepare_30 : decode cW_takePrepare 30 = .ok (.iload_n 3, 1) := by decide +kernel
theorem dW_takePrepare_31 : decode cW_takePrepare 31 = .ok (.iastore, 1) := by decide +kernel
theorem dW_takePrepare_32 : decode cW_takePrepare 32 = .ok (.aload_n 0, 1) := by decide +kernel
theorem dW_takePrepare_33 : decode cW_takePrepare 33 = .ok (.getfield 11, 3) := by decide +kernel
theorem dW_takePrepare_36 : decode cW_takePrepare 36 = .ok (.iload_n 2, 1) := by decide +kernel
theorem dW_takePrepare_37 : decode cW_takePrepare 37 = .ok (.aaload, 1) := by decide +kernel
theorem dW_takePrepare_38 : decode cW_takePrepare 38 = .ok (.iload_n 3, 1) := by decide +kernel
theorem dW_takePrepare_39 : decode cW_takePrepare 39 = .ok (.putfield 168, 3) := by decide +kernel
theorem dW_takePrepare_42 : decode cW_takePrepare 42 = .ok (.aload_n 0, 1) := by decide +kernel
theorem dW_takePrepare_43 : decode cW_takePrepare 43 = .ok (.iconst 2, 1) := by decide +kernel
theorem dW_takePrepare_44 : decode cW_takePrepare 44 = .ok (.iload_n 1, 1) := by decide +kernel
theorem dW_takePrepare_45 : decode cW_takePrepare 45 = .ok (.iload_n 2, 1) := by decide +kernel
theorem dW_takePrepare_46 : decode cW_takePrepare 46 = .ok (.invokevirtual 207, 3) := by decide +kernel
theorem dW_takePrepare_49 : decode cW_takePrepare 49 = .ok (.return_, 1) := by decide +kernel
theorem dW_takePrepared_0 : decode cW_takePrepared 0 = .ok (.aload_n 1, 1) := by decide +kernel
theorem dW_takePrepared_1 : decode cW_takePrepared 1 = .ok (.dup, 1) := by decide +kernel
theorem dW_takePrepared_2 : decode cW_takePrepared 2 = .ok (.getfield 197, 3) := by decide +kernel
theorem dW_takePrepared_5 : decode cW_takePrepared 5 = .ok (.iconst 1, 1) := by decide +kernel
theorem dW_takePrepared_6 : decode cW_takePrepared 6 = .ok (.isub, 1) := by decide +kernel
theorem dW_takePrepared_7 : decode cW_takePrepared 7 = .ok (.putfield 197, 3) := by decide +kernel
theorem dW_takePrepared_10 : decode cW_takePrepared 10 = .ok (.aload_n 1, 1) := by decide +kernel
theorem dW_takePrepared_11 : decode cW_takePrepared 11 = .ok (.getfield 197, 3) := by decide +kernel
theorem dW_takePrepared_14 : decode cW_takePrepared 14 = .ok (.ifCond .ne 8, 3) := by decide +kernel
theorem dW_takePrepared_17 : decode cW_takePrepared 17 = .ok (.aload_n 0, 1) := by decide +kernel
theorem dW_takePrepared_18 : decode cW_takePrepared 18 = .ok (.aload_n 1, 1) := by decide +kernel
theorem dW_takePrepared_19 : decode cW_takePrepared 19 = .ok (.invokevirtual 200, 3) := by decide +kernel
theorem dW_takePrepared_22 : decode cW_takePrepared 22 = .ok (.return_, 1) := by decide +kernel
theorem dW_chooseStamp_0 : decode cW_chooseStamp 0 = .ok (.aload_n 0, 1) := by decide +kernel
theorem dW_chooseStamp_1 : decode cW_chooseStamp 1 = .ok (.getfield 11, 3) := by decide +kernel
theorem dW_chooseStamp_4 : decode cW_chooseStamp 4 = .ok (.aload_n 1, 1) := by decide +kernel
theorem dW_chooseStamp_5 : decode cW_chooseStamp 5 = .ok (.getfield 125, 3) := by decide +kernel
theorem dW_chooseStamp_8 : decode cW_chooseStamp 8 = .ok (.aaload, 1) := by decide +kernel
theorem dW_chooseStamp_9 : decode cW_chooseStamp 9 = .ok (.astore_n 2, 1) := by decide +kernel
theorem dW_chooseStamp_10 : decode cW_chooseStamp 10 = .ok (.aload_n 1, 1) := by decide +kernel
theorem dW_chooseStamp_11 : decode cW_chooseStamp 11 = .ok (.aload_n 1, 1) := by decide +kernel
theorem dW_chooseStamp_12 : decode cW_chooseStamp 12 = .ok (.getfield 191, 3) := by decide +kernel
theorem dW_chooseStamp_15 : decode cW_chooseStamp 15 = .ok (.aload_n 1, 1) := by decide +kernel
theorem dW_chooseStamp_16 : decode cW_chooseStamp 16 = .ok (.invokevirtual 254, 3) := by decide +kernel
theorem dW_chooseStamp_19 : decode cW_chooseStamp 19 = .ok (.invokestatic 52, 3) := by decide +kernel
theorem dW_chooseStamp_22 : decode cW_chooseStamp 22 = .ok (.aload_n 2, 1) := by decide +kernel
theorem dW_chooseStamp_23 : decode cW_chooseStamp 23 = .ok (.getfield 168, 3) := by decide +kernel
theorem dW_chooseStamp_26 : decode cW_chooseStamp 26 = .ok (.iconst 1, 1) := by decide +kernel
theorem dW_chooseStamp_27 : decode cW_chooseStamp 27 = .ok (.iadd, 1) := by decide +kernel
theorem dW_chooseStamp_28 : decode cW_chooseStamp 28 = .ok (.invokestatic 52, 3) := by decide +kernel
theorem dW_chooseStamp_31 : decode cW_chooseStamp 31 = .ok (.putfield 156, 3) := by decide +kernel
theorem dW_chooseStamp_34 : decode cW_chooseStamp 34 = .ok (.aload_n 1, 1) := by decide +kernel
theorem dW_chooseStamp_35 : decode cW_chooseStamp 35 = .ok (.getfield 162, 3) := by decide +kernel
theorem dW_chooseStamp_38 : decode cW_chooseStamp 38 = .ok (.aload_n 1, 1) := by decide +kernel
theorem dW_chooseStamp_39 : decode cW_chooseStamp 39 = .ok (.getfield 125, 3) := by decide +kernel
theorem dW_chooseStamp_42 : decode cW_chooseStamp 42 = .ok (.aload_n 1, 1) := by decide +kernel
theorem dW_chooseStamp_43 : decode cW_chooseStamp 43 = .ok (.getfield 156, 3) := by decide +kernel
theorem dW_chooseStamp_46 : decode cW_chooseStamp 46 = .ok (.iastore, 1) := by decide +kernel
theorem dW_chooseStamp_47 : decode cW_chooseStamp 47 = .ok (.aload_n 2, 1) := by decide +kernel
theorem dW_chooseStamp_48 : decode cW_chooseStamp 48 = .ok (.aload_n 1, 1) := by decide +kernel
theorem dW_chooseStamp_49 : decode cW_chooseStamp 49 = .ok (.getfield 156, 3) := by decide +kernel
theorem dW_chooseStamp_52 : decode cW_chooseStamp 52 = .ok (.putfield 168, 3) := by decide +kernel
theorem dW_chooseStamp_55 : decode cW_chooseStamp 55 = .ok (.aload_n 1, 1) := by decide +kernel
theorem dW_chooseStamp_56 : decode cW_chooseStamp 56 = .ok (.iconst 3, 1) := by decide +kernel
theorem dW_chooseStamp_57 : decode cW_chooseStamp 57 = .ok (.putfield 93, 3) := by decide +kernel
theorem dW_chooseStamp_60 : decode cW_chooseStamp 60 = .ok (.return_, 1) := by decide +kernel
theorem dW_endWaiting_0 : decode cW_endWaiting 0 = .ok (.iconst 0, 1) := by decide +kernel
theorem dW_endWaiting_1 : decode cW_endWaiting 1 = .ok (.istore_n 1, 1) := by decide +kernel
theorem dW_endWaiting_2 : decode cW_endWaiting 2 = .ok (.iconst 0, 1) := by decide +kernel
theorem dW_endWaiting_3 : decode cW_endWaiting 3 = .ok (.istore_n 2, 1) := by decide +kernel
theorem dW_endWaiting_4 : decode cW_endWaiting 4 = .ok (.iload_n 2, 1) := by decide +kernel
theorem dW_endWaiting_5 : decode cW_endWaiting 5 = .ok (.iconst 5, 1) := by decide +kernel
theorem dW_endWaiting_6 : decode cW_endWaiting 6 = .ok (.if_icmp .ge 30, 3) := by decide +kernel
theorem dW_endWaiting_9 : decode cW_endWaiting 9 = .ok (.aload_n 0, 1) := by decide +kernel
theorem dW_endWaiting_10 : decode cW_endWaiting 10 = .ok (.aload_n 0, 1) := by decide +kernel
theorem dW_endWaiting_11 : decode cW_endWaiting 11 = .ok (.getfield 23, 3) := by decide +kernel
theorem dW_endWaiting_14 : decode cW_endWaiting 14 = .ok (.iload_n 2, 1) := by decide +kernel
theorem dW_endWaiting_15 : decode cW_endWaiting 15 = .ok (.aaload, 1) := by decide +kernel
theorem dW_endWaiting_16 : decode cW_endWaiting 16 = .ok (.invokevirtual 257, 3) := by decide +kernel
theorem dW_endWaiting_19 : decode cW_endWaiting 19 = .ok (.ifCond .eq 11, 3) := by decide +kernel
theorem dW_endWaiting_22 : decode cW_endWaiting 22 = .ok (.aload_n 0, 1) := by decide +kernel
theorem dW_endWaiting_23 : decode cW_endWaiting 23 = .ok (.iload_n 2, 1) := by decide +kernel
theorem dW_endWaiting_24 : decode cW_endWaiting 24 = .ok (.invokevirtual 260, 3) := by decide +kernel
theorem dW_endWaiting_27 : decode cW_endWaiting 27 = .ok (.iinc 1 1, 3) := by decide +kernel
theorem dW_endWaiting_30 : decode cW_endWaiting 30 = .ok (.iinc 2 1, 3) := by decide +kernel
theorem dW_endWaiting_33 : decode cW_endWaiting 33 = .ok (.goto (-29), 3) := by decide +kernel
theorem dW_endWaiting_36 : decode cW_endWaiting 36 = .ok (.iload_n 1, 1) := by decide +kernel
theorem dW_endWaiting_37 : decode cW_endWaiting 37 = .ok (.ireturn, 1) := by decide +kernel
theorem dW_mayEnd_0 : decode cW_mayEnd 0 = .ok (.aload_n 1, 1) := by decide +kernel
theorem dW_mayEnd_1 : decode cW_mayEnd 1 = .ok (.getfield 93, 3) := by decide +kernel
theorem dW_mayEnd_4 : decode cW_mayEnd 4 = .ok (.iconst 3, 1) := by decide +kernel
theorem dW_mayEnd_5 : decode cW_mayEnd 5 = .ok (.if_icmp .ne 37, 3) := by decide +kernel
theorem dW_mayEnd_8 : decode cW_mayEnd 8 = .ok (.aload_n 0, 1) := by decide +kernel
theorem dW_mayEnd_9 : decode cW_mayEnd 9 = .ok (.getfield 11, 3) := by decide +kernel
theorem dW_mayEnd_12 : decode cW_mayEnd 12 = .ok (.aload_n 1, 1) := by decide +kernel
theorem dW_mayEnd_13 : decode cW_mayEnd 13 = .ok (.getfield 125, 3) := by decide +kernel
theorem dW_mayEnd_16 : decode cW_mayEnd 16 = .ok (.aaload, 1) := by decide +kernel
theorem dW_mayEnd_17 : decode cW_mayEnd 17 = .ok (.getfield 82, 3) := by decide +kernel
theorem dW_mayEnd_20 : decode cW_mayEnd 20 = .ok (.ifCond .eq 22, 3) := by decide +kernel
theorem dW_mayEnd_23 : decode cW_mayEnd 23 = .ok (.aload_n 0, 1) := by decide +kernel
theorem dW_mayEnd_24 : decode cW_mayEnd 24 = .ok (.aload_n 1, 1) := by decide +kernel
theorem dW_mayEnd_25 : decode cW_mayEnd 25 = .ok (.getfield 125, 3) := by decide +kernel
theorem dW_mayEnd_28 : decode cW_mayEnd 28 = .ok (.invokevirtual 263, 3) := by decide +kernel
theorem dW_mayEnd_31 : decode cW_mayEnd 31 = .ok (.aload_n 1, 1) := by decide +kernel
theorem dW_mayEnd_32 : decode cW_mayEnd 32 = .ok (.getfield 156, 3) := by decide +kernel
theorem dW_mayEnd_35 : decode cW_mayEnd 35 = .ok (.if_icmp .le 7, 3) := by decide +kernel
theorem dW_mayEnd_38 : decode cW_mayEnd 38 = .ok (.iconst 1, 1) := by decide +kernel
theorem dW_mayEnd_39 : decode cW_mayEnd 39 = .ok (.goto 4, 3) := by decide +kernel
theorem dW_mayEnd_42 : decode cW_mayEnd 42 = .ok (.iconst 0, 1) := by decide +kernel
theorem dW_mayEnd_43 : decode cW_mayEnd 43 = .ok (.ireturn, 1) := by decide +kernel
theorem dW_endOne_0 : decode cW_endOne 0 = .ok (.aload_n 0, 1) := by decide +kernel
theorem dW_endOne_1 : decode cW_endOne 1 = .ok (.getfield 23, 3) := by decide +kernel
theorem dW_endOne_4 : decode cW_endOne 4 = .ok (.iload_n 1, 1) := by decide +kernel
theorem dW_endOne_5 : decode cW_endOne 5 = .ok (.aaload, 1) := by decide +kernel
theorem dW_endOne_6 : decode cW_endOne 6 = .ok (.astore_n 2, 1) := by decide +kernel
theorem dW_endOne_7 : decode cW_endOne 7 = .ok (.aload_n 2, 1) := by decide +kernel
theorem dW_endOne_8 : decode cW_endOne 8 = .ok (.iconst 4, 1) := by decide +kernel
theorem dW_endOne_9 : decode cW_endOne 9 = .ok (.putfield 93, 3) := by decide +kernel
theorem dW_endOne_12 : decode cW_endOne 12 = .ok (.aload_n 2, 1) := by decide +kernel
theorem dW_endOne_13 : decode cW_endOne 13 = .ok (.aload_n 0, 1) := by decide +kernel
theorem dW_endOne_14 : decode cW_endOne 14 = .ok (.getfield 33, 3) := by decide +kernel
theorem dW_endOne_17 : decode cW_endOne 17 = .ok (.putfield 159, 3) := by decide +kernel
theorem dW_endOne_20 : decode cW_endOne 20 = .ok (.aload_n 0, 1) := by decide +kernel
theorem dW_endOne_21 : decode cW_endOne 21 = .ok (.aload_n 2, 1) := by decide +kernel
theorem dW_endOne_22 : decode cW_endOne 22 = .ok (.aload_n 2, 1) := by decide +kernel
theorem dW_endOne_23 : decode cW_endOne 23 = .ok (.getfield 125, 3) := by decide +kernel
theorem dW_endOne_26 : decode cW_endOne 26 = .ok (.invokevirtual 250, 3) := by decide +kernel
theorem dW_endOne_29 : decode cW_endOne 29 = .ok (.aload_n 0, 1) := by decide +kernel
theorem dW_endOne_30 : decode cW_endOne 30 = .ok (.iconst 3, 1) := by decide +kernel
theorem dW_endOne_31 : decode cW_endOne 31 = .ok (.iload_n 1, 1) := by decide +kernel
theorem dW_endOne_32 : decode cW_endOne 32 = .ok (.invokevirtual 194, 3) := by decide +kernel
theorem dW_endOne_35 : decode cW_endOne 35 = .ok (.pop, 1) := by decide +kernel
theorem dW_endOne_36 : decode cW_endOne 36 = .ok (.return_, 1) := by decide +kernel
theorem dW_finishAt_0 : decode cW_finishAt 0 = .ok (.iload_n 2, 1) := by decide +kernel
theorem dW_finishAt_1 : decode cW_finishAt 1 = .ok (.istore_n 3, 1) := by decide +kernel
theorem dW_finishAt_2 : decode cW_finishAt 2 = .ok (.iload_n 3, 1) := by decide +kernel
theorem dW_finishAt_3 : decode cW_finishAt 3 = .ok (.bipush 9, 2) := by decide +kernel
theorem dW_finishAt_5 : decode cW_finishAt 5 = .ok (.if_icmp .ge 38, 3) := by decide +kernel
theorem dW_finishAt_8 : decode cW_finishAt 8 = .ok (.aload_n 1, 1) := by decide +kernel
theorem dW_finishAt_9 : decode cW_finishAt 9 = .ok (.getfield 111, 3) := by decide +kernel
theorem dW_finishAt_12 : decode cW_finishAt 12 = .ok (.iload_n 3, 1) := by decide +kernel
theorem dW_finishAt_13 : decode cW_finishAt 13 = .ok (.iaload, 1) := by decide +kernel
theorem dW_finishAt_14 : decode cW_finishAt 14 = .ok (.iconst 2, 1) := by decide +kernel
theorem dW_finishAt_15 : decode cW_finishAt 15 = .ok (.if_icmp .ne 22, 3) := by decide +kernel
theorem dW_finishAt_18 : decode cW_finishAt 18 = .ok (.aload_n 0, 1) := by decide +kernel
theorem dW_finishAt_19 : decode cW_finishAt 19 = .ok (.getfield 17, 3) := by decide +kernel
theorem dW_finishAt_22 : decode cW_finishAt 22 = .ok (.iload_n 3, 1) := by decide +kernel
theorem dW_finishAt_23 : decode cW_finishAt 23 = .ok (.aaload, 1) := by decide +kernel
theorem dW_finishAt_24 : decode cW_finishAt 24 = .ok (.aload_n 1, 1) := by decide +kernel
theorem dW_finishAt_25 : decode cW_finishAt 25 = .ok (.getfield 115, 3) := by decide +kernel
theorem dW_finishAt_28 : decode cW_finishAt 28 = .ok (.iload_n 3, 1) := by decide +kernel
theorem dW_finishAt_29 : decode cW_finishAt 29 = .ok (.iaload, 1) := by decide +kernel
theorem dW_finishAt_30 : decode cW_finishAt 30 = .ok (.aload_n 1, 1) := by decide +kernel
theorem dW_finishAt_31 : decode cW_finishAt 31 = .ok (.getfield 156, 3) := by decide +kernel
theorem dW_finishAt_34 : decode cW_finishAt 34 = .ok (.invokevirtual 266, 3) := by decide +kernel
theorem dW_finishAt_37 : decode cW_finishAt 37 = .ok (.iinc 3 3, 3) := by decide +kernel
theorem dW_finishAt_40 : decode cW_finishAt 40 = .ok (.goto (-38), 3) := by decide +kernel
theorem dW_finishAt_43 : decode cW_finishAt 43 = .ok (.aload_n 1, 1) := by decide +kernel
theorem dW_finishAt_44 : decode cW_finishAt 44 = .ok (.iload_n 2, 1) := by decide +kernel
theorem dW_finishAt_45 : decode cW_finishAt 45 = .ok (.invokevirtual 269, 3) := by decide +kernel
theorem dW_finishAt_48 : decode cW_finishAt 48 = .ok (.aload_n 1, 1) := by decide +kernel
theorem dW_finishAt_49 : decode cW_finishAt 49 = .ok (.getfield 162, 3) := by decide +kernel
theorem dW_finishAt_52 : decode cW_finishAt 52 = .ok (.iload_n 2, 1) := by decide +kernel
theorem dW_finishAt_53 : decode cW_finishAt 53 = .ok (.iconst 0, 1) := by decide +kernel
theorem dW_finishAt_54 : decode cW_finishAt 54 = .ok (.iastore, 1) := by decide +kernel
theorem dW_finishAt_55 : decode cW_finishAt 55 = .ok (.aload_n 0, 1) := by decide +kernel
theorem dW_finishAt_56 : decode cW_finishAt 56 = .ok (.getfield 11, 3) := by decide +kernel
theorem dW_finishAt_59 : decode cW_finishAt 59 = .ok (.iload_n 2, 1) := by decide +kernel
theorem dW_finishAt_60 : decode cW_finishAt 60 = .ok (.aaload, 1) := by decide +kernel
theorem dW_finishAt_61 : decode cW_finishAt 61 = .ok (.aload_n 1, 1) := by decide +kernel
theorem dW_finishAt_62 : decode cW_finishAt 62 = .ok (.getfield 156, 3) := by decide +kernel
theorem dW_finishAt_65 : decode cW_finishAt 65 = .ok (.invokevirtual 141, 3) := by decide +kernel
theorem dW_finishAt_68 : decode cW_finishAt 68 = .ok (.return_, 1) := by decide +kernel

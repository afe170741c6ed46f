theorem d_LW_block_0 : decode b_LW_block 0 = .ok (.aload_n 1, 1) := by decide +kernel
theorem d_LW_block_1 : decode b_LW_block 1 = .ok (.iconst 0, 1) := by decide +kernel
theorem d_LW_block_2 : decode b_LW_block 2 = .ok (.aload_n 0, 1) := by decide +kernel
theorem d_LW_block_3 : decode b_LW_block 3 = .ok (.invokevirtual 7, 3) := by decide +kernel
theorem d_LW_block_6 : decode b_LW_block 6 = .ok (.i2l, 1) := by decide +kernel
theorem d_LW_block_7 : decode b_LW_block 7 = .ok (.lastore, 1) := by decide +kernel
theorem d_LW_block_8 : decode b_LW_block 8 = .ok (.goto 6, 3) := by decide +kernel
theorem d_LW_block_11 : decode b_LW_block 11 = .ok (.astore_n 2, 1) := by decide +kernel
theorem d_LW_block_12 : decode b_LW_block 12 = .ok (.iconst 1, 1) := by decide +kernel
theorem d_LW_block_13 : decode b_LW_block 13 = .ok (.ireturn, 1) := by decide +kernel
theorem d_LW_block_14 : decode b_LW_block 14 = .ok (.iconst 0, 1) := by decide +kernel
theorem d_LW_block_15 : decode b_LW_block 15 = .ok (.ireturn, 1) := by decide +kernel
theorem d_LW_pass_0 : decode b_LW_pass 0 = .ok (.aload 5, 2) := by decide +kernel
theorem d_LW_pass_2 : decode b_LW_pass 2 = .ok (.iconst 0, 1) := by decide +kernel
theorem d_LW_pass_3 : decode b_LW_pass 3 = .ok (.aload_n 0, 1) := by decide +kernel
theorem d_LW_pass_4 : decode b_LW_pass 4 = .ok (.iload_n 1, 1) := by decide +kernel
theorem d_LW_pass_5 : decode b_LW_pass 5 = .ok (.iload_n 2, 1) := by decide +kernel
theorem d_LW_pass_6 : decode b_LW_pass 6 = .ok (.lload_n 3, 1) := by decide +kernel
theorem d_LW_pass_7 : decode b_LW_pass 7 = .ok (.invokevirtual 15, 3) := by decide +kernel
theorem d_LW_pass_10 : decode b_LW_pass 10 = .ok (.i2l, 1) := by decide +kernel
theorem d_LW_pass_11 : decode b_LW_pass 11 = .ok (.lastore, 1) := by decide +kernel
theorem d_LW_pass_12 : decode b_LW_pass 12 = .ok (.goto 11, 3) := by decide +kernel
theorem d_LW_pass_15 : decode b_LW_pass 15 = .ok (.astore 6, 2) := by decide +kernel
theorem d_LW_pass_17 : decode b_LW_pass 17 = .ok (.iconst 1, 1) := by decide +kernel
theorem d_LW_pass_18 : decode b_LW_pass 18 = .ok (.ireturn, 1) := by decide +kernel
theorem d_LW_pass_19 : decode b_LW_pass 19 = .ok (.astore 6, 2) := by decide +kernel
theorem d_LW_pass_21 : decode b_LW_pass 21 = .ok (.iconst 2, 1) := by decide +kernel
theorem d_LW_pass_22 : decode b_LW_pass 22 = .ok (.ireturn, 1) := by decide +kernel
theorem d_LW_pass_23 : decode b_LW_pass 23 = .ok (.iconst 0, 1) := by decide +kernel
theorem d_LW_pass_24 : decode b_LW_pass 24 = .ok (.ireturn, 1) := by decide +kernel
theorem d_LW_step_0 : decode b_LW_step 0 = .ok (.aload 4, 2) := by decide +kernel
theorem d_LW_step_2 : decode b_LW_step 2 = .ok (.iconst 0, 1) := by decide +kernel
theorem d_LW_step_3 : decode b_LW_step 3 = .ok (.aload_n 0, 1) := by decide +kernel
theorem d_LW_step_4 : decode b_LW_step 4 = .ok (.iload_n 1, 1) := by decide +kernel
theorem d_LW_step_5 : decode b_LW_step 5 = .ok (.iload_n 2, 1) := by decide +kernel
theorem d_LW_step_6 : decode b_LW_step 6 = .ok (.iload_n 3, 1) := by decide +kernel
theorem d_LW_step_7 : decode b_LW_step 7 = .ok (.invokevirtual 21, 3) := by decide +kernel
theorem d_LW_step_10 : decode b_LW_step 10 = .ok (.i2l, 1) := by decide +kernel
theorem d_LW_step_11 : decode b_LW_step 11 = .ok (.lastore, 1) := by decide +kernel
theorem d_LW_step_12 : decode b_LW_step 12 = .ok (.goto 11, 3) := by decide +kernel
theorem d_LW_step_15 : decode b_LW_step 15 = .ok (.astore 5, 2) := by decide +kernel
theorem d_LW_step_17 : decode b_LW_step 17 = .ok (.iconst 1, 1) := by decide +kernel
theorem d_LW_step_18 : decode b_LW_step 18 = .ok (.ireturn, 1) := by decide +kernel
theorem d_LW_step_19 : decode b_LW_step 19 = .ok (.astore 5, 2) := by decide +kernel
theorem d_LW_step_21 : decode b_LW_step 21 = .ok (.iconst 2, 1) := by decide +kernel
theorem d_LW_step_22 : decode b_LW_step 22 = .ok (.ireturn, 1) := by decide +kernel
theorem d_LW_step_23 : decode b_LW_step 23 = .ok (.iconst 0, 1) := by decide +kernel
theorem d_LW_step_24 : decode b_LW_step 24 = .ok (.ireturn, 1) := by decide +kernel
theorem d_LW_gain_0 : decode b_LW_gain 0 = .ok (.aload_n 3, 1) := by decide +kernel
theorem d_LW_gain_1 : decode b_LW_gain 1 = .ok (.iconst 0, 1) := by decide +kernel
theorem d_LW_gain_2 : decode b_LW_gain 2 = .ok (.aload_n 0, 1) := by decide +kernel
theorem d_LW_gain_3 : decode b_LW_gain 3 = .ok (.iload_n 1, 1) := by decide +kernel
theorem d_LW_gain_4 : decode b_LW_gain 4 = .ok (.iload_n 2, 1) := by decide +kernel
theorem d_LW_gain_5 : decode b_LW_gain 5 = .ok (.invokevirtual 27, 3) := by decide +kernel
theorem d_LW_gain_8 : decode b_LW_gain 8 = .ok (.lastore, 1) := by decide +kernel
theorem d_LW_gain_9 : decode b_LW_gain 9 = .ok (.goto 11, 3) := by decide +kernel
theorem d_LW_gain_12 : decode b_LW_gain 12 = .ok (.astore 4, 2) := by decide +kernel
theorem d_LW_gain_14 : decode b_LW_gain 14 = .ok (.iconst 1, 1) := by decide +kernel
theorem d_LW_gain_15 : decode b_LW_gain 15 = .ok (.ireturn, 1) := by decide +kernel
theorem d_LW_gain_16 : decode b_LW_gain 16 = .ok (.astore 4, 2) := by decide +kernel
theorem d_LW_gain_18 : decode b_LW_gain 18 = .ok (.iconst 2, 1) := by decide +kernel
theorem d_LW_gain_19 : decode b_LW_gain 19 = .ok (.ireturn, 1) := by decide +kernel
theorem d_LW_gain_20 : decode b_LW_gain 20 = .ok (.iconst 0, 1) := by decide +kernel
theorem d_LW_gain_21 : decode b_LW_gain 21 = .ok (.ireturn, 1) := by decide +kernel
theorem d_LW_layer_0 : decode b_LW_layer 0 = .ok (.aload_n 2, 1) := by decide +kernel
theorem d_LW_layer_1 : decode b_LW_layer 1 = .ok (.iconst 0, 1) := by decide +kernel
theorem d_LW_layer_2 : decode b_LW_layer 2 = .ok (.aload_n 0, 1) := by decide +kernel
theorem d_LW_layer_3 : decode b_LW_layer 3 = .ok (.iload_n 1, 1) := by decide +kernel
theorem d_LW_layer_4 : decode b_LW_layer 4 = .ok (.invokevirtual 31, 3) := by decide +kernel
theorem d_LW_layer_7 : decode b_LW_layer 7 = .ok (.i2l, 1) := by decide +kernel
theorem d_LW_layer_8 : decode b_LW_layer 8 = .ok (.lastore, 1) := by decide +kernel
theorem d_LW_layer_9 : decode b_LW_layer 9 = .ok (.goto 9, 3) := by decide +kernel
theorem d_LW_layer_12 : decode b_LW_layer 12 = .ok (.astore_n 3, 1) := by decide +kernel
theorem d_LW_layer_13 : decode b_LW_layer 13 = .ok (.iconst 1, 1) := by decide +kernel
theorem d_LW_layer_14 : decode b_LW_layer 14 = .ok (.ireturn, 1) := by decide +kernel
theorem d_LW_layer_15 : decode b_LW_layer 15 = .ok (.astore_n 3, 1) := by decide +kernel
theorem d_LW_layer_16 : decode b_LW_layer 16 = .ok (.iconst 2, 1) := by decide +kernel
theorem d_LW_layer_17 : decode b_LW_layer 17 = .ok (.ireturn, 1) := by decide +kernel
theorem d_LW_layer_18 : decode b_LW_layer 18 = .ok (.iconst 0, 1) := by decide +kernel
theorem d_LW_layer_19 : decode b_LW_layer 19 = .ok (.ireturn, 1) := by decide +kernel
theorem d_LW_cut_0 : decode b_LW_cut 0 = .ok (.aload_n 3, 1) := by decide +kernel
theorem d_LW_cut_1 : decode b_LW_cut 1 = .ok (.iconst 0, 1) := by decide +kernel
theorem d_LW_cut_2 : decode b_LW_cut 2 = .ok (.aload_n 0, 1) := by decide +kernel
theorem d_LW_cut_3 : decode b_LW_cut 3 = .ok (.iload_n 1, 1) := by decide +kernel
theorem d_LW_cut_4 : decode b_LW_cut 4 = .ok (.iload_n 2, 1) := by decide +kernel
theorem d_LW_cut_5 : decode b_LW_cut 5 = .ok (.invokevirtual 35, 3) := by decide +kernel
theorem d_LW_cut_8 : decode b_LW_cut 8 = .ok (.i2l, 1) := by decide +kernel
theorem d_LW_cut_9 : decode b_LW_cut 9 = .ok (.lastore, 1) := by decide +kernel
theorem d_LW_cut_10 : decode b_LW_cut 10 = .ok (.goto 11, 3) := by decide +kernel
theorem d_LW_cut_13 : decode b_LW_cut 13 = .ok (.astore 4, 2) := by decide +kernel
theorem d_LW_cut_15 : decode b_LW_cut 15 = .ok (.iconst 1, 1) := by decide +kernel
theorem d_LW_cut_16 : decode b_LW_cut 16 = .ok (.ireturn, 1) := by decide +kernel
theorem d_LW_cut_17 : decode b_LW_cut 17 = .ok (.astore 4, 2) := by decide +kernel
theorem d_LW_cut_19 : decode b_LW_cut 19 = .ok (.iconst 2, 1) := by decide +kernel
theorem d_LW_cut_20 : decode b_LW_cut 20 = .ok (.ireturn, 1) := by decide +kernel
theorem d_LW_cut_21 : decode b_LW_cut 21 = .ok (.iconst 0, 1) := by decide +kernel
theorem d_LW_cut_22 : decode b_LW_cut 22 = .ok (.ireturn, 1) := by decide +kernel
theorem d_LW_total_0 : decode b_LW_total 0 = .ok (.aload_n 2, 1) := by decide +kernel
theorem d_LW_total_1 : decode b_LW_total 1 = .ok (.iconst 0, 1) := by decide +kernel
theorem d_LW_total_2 : decode b_LW_total 2 = .ok (.aload_n 0, 1) := by decide +kernel
theorem d_LW_total_3 : decode b_LW_total 3 = .ok (.iload_n 1, 1) := by decide +kernel
theorem d_LW_total_4 : decode b_LW_total 4 = .ok (.invokevirtual 39, 3) := by decide +kernel
theorem d_LW_total_7 : decode b_LW_total 7 = .ok (.i2l, 1) := by decide +kernel
theorem d_LW_total_8 : decode b_LW_total 8 = .ok (.lastore, 1) := by decide +kernel
theorem d_LW_total_9 : decode b_LW_total 9 = .ok (.goto 6, 3) := by decide +kernel
theorem d_LW_total_12 : decode b_LW_total 12 = .ok (.astore_n 3, 1) := by decide +kernel
theorem d_LW_total_13 : decode b_LW_total 13 = .ok (.iconst 1, 1) := by decide +kernel
theorem d_LW_total_14 : decode b_LW_total 14 = .ok (.ireturn, 1) := by decide +kernel
theorem d_LW_total_15 : decode b_LW_total 15 = .ok (.iconst 0, 1) := by decide +kernel
theorem d_LW_total_16 : decode b_LW_total 16 = .ok (.ireturn, 1) := by decide +kernel
theorem d_LW_threshold_0 : decode b_LW_threshold 0 = .ok (.aload_n 3, 1) := by decide +kernel
theorem d_LW_threshold_1 : decode b_LW_threshold 1 = .ok (.iconst 0, 1) := by decide +kernel
theorem d_LW_threshold_2 : decode b_LW_threshold 2 = .ok (.aload_n 0, 1) := by decide +kernel
theorem d_LW_threshold_3 : decode b_LW_threshold 3 = .ok (.iload_n 1, 1) := by decide +kernel
theorem d_LW_threshold_4 : decode b_LW_threshold 4 = .ok (.iload_n 2, 1) := by decide +kernel
theorem d_LW_threshold_5 : decode b_LW_threshold 5 = .ok (.invokevirtual 42, 3) := by decide +kernel
theorem d_LW_threshold_8 : decode b_LW_threshold 8 = .ok (.lastore, 1) := by decide +kernel
theorem d_LW_threshold_9 : decode b_LW_threshold 9 = .ok (.goto 11, 3) := by decide +kernel
theorem d_LW_threshold_12 : decode b_LW_threshold 12 = .ok (.astore 4, 2) := by decide +kernel
theorem d_LW_threshold_14 : decode b_LW_threshold 14 = .ok (.iconst 1, 1) := by decide +kernel
theorem d_LW_threshold_15 : decode b_LW_threshold 15 = .ok (.ireturn, 1) := by decide +kernel
theorem d_LW_threshold_16 : decode b_LW_threshold 16 = .ok (.astore 4, 2) := by decide +kernel
theorem d_LW_threshold_18 : decode b_LW_threshold 18 = .ok (.iconst 2, 1) := by decide +kernel
theorem d_LW_threshold_19 : decode b_LW_threshold 19 = .ok (.ireturn, 1) := by decide +kernel
theorem d_LW_threshold_20 : decode b_LW_threshold 20 = .ok (.iconst 0, 1) := by decide +kernel
theorem d_LW_threshold_21 : decode b_LW_threshold 21 = .ok (.ireturn, 1) := by decide +kernel
theorem d_LW_law_0 : decode b_LW_law 0 = .ok (.new 8, 3) := by decide +kernel
theorem d_LW_law_3 : decode b_LW_law 3 = .ok (.dup, 1) := by decide +kernel
theorem d_LW_law_4 : decode b_LW_law 4 = .ok (.invokespecial 45, 3) := by decide +kernel
theorem d_LW_law_7 : decode b_LW_law 7 = .ok (.astore_n 1, 1) := by decide +kernel
theorem d_LW_law_8 : decode b_LW_law 8 = .ok (.new 46, 3) := by decide +kernel
theorem d_LW_law_11 : decode b_LW_law 11 = .ok (.dup, 1) := by decide +kernel
theorem d_LW_law_12 : decode b_LW_law 12 = .ok (.invokespecial 48, 3) := by decide +kernel
theorem d_LW_law_15 : decode b_LW_law 15 = .ok (.astore_n 2, 1) := by decide +kernel
theorem d_LW_law_16 : decode b_LW_law 16 = .ok (.iconst 1, 1) := by decide +kernel
theorem d_LW_law_17 : decode b_LW_law 17 = .ok (.newarray .long, 2) := by decide +kernel
theorem d_LW_law_19 : decode b_LW_law 19 = .ok (.astore_n 3, 1) := by decide +kernel
theorem d_LW_law_20 : decode b_LW_law 20 = .ok (.iconst 0, 1) := by decide +kernel
theorem d_LW_law_21 : decode b_LW_law 21 = .ok (.istore 4, 2) := by decide +kernel
theorem d_LW_law_23 : decode b_LW_law 23 = .ok (.iload 4, 2) := by decide +kernel
theorem d_LW_law_25 : decode b_LW_law 25 = .ok (.aload_n 0, 1) := by decide +kernel
theorem d_LW_law_26 : decode b_LW_law 26 = .ok (.arraylength, 1) := by decide +kernel
theorem d_LW_law_27 : decode b_LW_law 27 = .ok (.iconst 5, 1) := by decide +kernel
theorem d_LW_law_28 : decode b_LW_law 28 = .ok (.isub, 1) := by decide +kernel
theorem d_LW_law_29 : decode b_LW_law 29 = .ok (.if_icmp .gt 643, 3) := by decide +kernel
theorem d_LW_law_32 : decode b_LW_law 32 = .ok (.aload_n 0, 1) := by decide +kernel
theorem d_LW_law_33 : decode b_LW_law 33 = .ok (.iload 4, 2) := by decide +kernel
theorem d_LW_law_35 : decode b_LW_law 35 = .ok (.iaload, 1) := by decide +kernel
theorem d_LW_law_36 : decode b_LW_law 36 = .ok (.bipush 15, 2) := by decide +kernel
theorem d_LW_law_38 : decode b_LW_law 38 = .ok (.iand, 1) := by decide +kernel
theorem d_LW_law_39 : decode b_LW_law 39 = .ok (.tableswitch 627 0 9 #[53, 64, 108, 220, 300, 367, 423, 436, 504, 560], 53) := by decide +kernel
theorem d_LW_law_92 : decode b_LW_law 92 = .ok (.aload_n 1, 1) := by decide +kernel
theorem d_LW_law_93 : decode b_LW_law 93 = .ok (.invokevirtual 49, 3) := by decide +kernel
theorem d_LW_law_96 : decode b_LW_law 96 = .ok (.aload_n 2, 1) := by decide +kernel
theorem d_LW_law_97 : decode b_LW_law 97 = .ok (.invokevirtual 52, 3) := by decide +kernel
theorem d_LW_law_100 : decode b_LW_law 100 = .ok (.goto 566, 3) := by decide +kernel
theorem d_LW_law_103 : decode b_LW_law 103 = .ok (.aload_n 1, 1) := by decide +kernel
theorem d_LW_law_104 : decode b_LW_law 104 = .ok (.aload_n 3, 1) := by decide +kernel
theorem d_LW_law_105 : decode b_LW_law 105 = .ok (.invokestatic 53, 3) := by decide +kernel
theorem d_LW_law_108 : decode b_LW_law 108 = .ok (.istore 5, 2) := by decide +kernel
theorem d_LW_law_110 : decode b_LW_law 110 = .ok (.aload_n 2, 1) := by decide +kernel
theorem d_LW_law_111 : decode b_LW_law 111 = .ok (.invokevirtual 58, 3) := by decide +kernel
theorem d_LW_law_114 : decode b_LW_law 114 = .ok (.istore 6, 2) := by decide +kernel
theorem d_LW_law_116 : decode b_LW_law 116 = .ok (.aload_n 2, 1) := by decide +kernel
theorem d_LW_law_117 : decode b_LW_law 117 = .ok (.invokevirtual 59, 3) := by decide +kernel
theorem d_LW_law_120 : decode b_LW_law 120 = .ok (.iload 5, 2) := by decide +kernel
theorem d_LW_law_122 : decode b_LW_law 122 = .ok (.if_icmp .eq 5, 3) := by decide +kernel
theorem d_LW_law_125 : decode b_LW_law 125 = .ok (.iconst 0, 1) := by decide +kernel
theorem d_LW_law_126 : decode b_LW_law 126 = .ok (.ireturn, 1) := by decide +kernel
theorem d_LW_law_127 : decode b_LW_law 127 = .ok (.iload 5, 2) := by decide +kernel
theorem d_LW_law_129 : decode b_LW_law 129 = .ok (.ifCond .ne 15, 3) := by decide +kernel
theorem d_LW_law_132 : decode b_LW_law 132 = .ok (.aload_n 3, 1) := by decide +kernel
theorem d_LW_law_133 : decode b_LW_law 133 = .ok (.iconst 0, 1) := by decide +kernel
theorem d_LW_law_134 : decode b_LW_law 134 = .ok (.laload, 1) := by decide +kernel
theorem d_LW_law_135 : decode b_LW_law 135 = .ok (.iload 6, 2) := by decide +kernel
theorem d_LW_law_137 : decode b_LW_law 137 = .ok (.i2l, 1) := by decide +kernel
theorem d_LW_law_138 : decode b_LW_law 138 = .ok (.lcmp, 1) := by decide +kernel
theorem d_LW_law_139 : decode b_LW_law 139 = .ok (.ifCond .eq 5, 3) := by decide +kernel
theorem d_LW_law_142 : decode b_LW_law 142 = .ok (.iconst 0, 1) := by decide +kernel
theorem d_LW_law_143 : decode b_LW_law 143 = .ok (.ireturn, 1) := by decide +kernel
theorem d_LW_law_144 : decode b_LW_law 144 = .ok (.goto 522, 3) := by decide +kernel
theorem d_LW_law_147 : decode b_LW_law 147 = .ok (.aload_n 1, 1) := by decide +kernel
theorem d_LW_law_148 : decode b_LW_law 148 = .ok (.aload_n 0, 1) := by decide +kernel
theorem d_LW_law_149 : decode b_LW_law 149 = .ok (.iload 4, 2) := by decide +kernel
theorem d_LW_law_151 : decode b_LW_law 151 = .ok (.iconst 1, 1) := by decide +kernel
theorem d_LW_law_152 : decode b_LW_law 152 = .ok (.iadd, 1) := by decide +kernel
theorem d_LW_law_153 : decode b_LW_law 153 = .ok (.iaload, 1) := by decide +kernel
theorem d_LW_law_154 : decode b_LW_law 154 = .ok (.aload_n 0, 1) := by decide +kernel
theorem d_LW_law_155 : decode b_LW_law 155 = .ok (.iload 4, 2) := by decide +kernel
theorem d_LW_law_157 : decode b_LW_law 157 = .ok (.iconst 2, 1) := by decide +kernel
theorem d_LW_law_158 : decode b_LW_law 158 = .ok (.iadd, 1) := by decide +kernel
theorem d_LW_law_159 : decode b_LW_law 159 = .ok (.iaload, 1) := by decide +kernel
theorem d_LW_law_160 : decode b_LW_law 160 = .ok (.aload_n 0, 1) := by decide +kernel
theorem d_LW_law_161 : decode b_LW_law 161 = .ok (.iload 4, 2) := by decide +kernel
theorem d_LW_law_163 : decode b_LW_law 163 = .ok (.iconst 3, 1) := by decide +kernel
theorem d_LW_law_164 : decode b_LW_law 164 = .ok (.iadd, 1) := by decide +kernel
theorem d_LW_law_165 : decode b_LW_law 165 = .ok (.iaload, 1) := by decide +kernel
theorem d_LW_law_166 : decode b_LW_law 166 = .ok (.i2l, 1) := by decide +kernel
theorem d_LW_law_167 : decode b_LW_law 167 = .ok (.bipush 32, 2) := by decide +kernel
theorem d_LW_law_169 : decode b_LW_law 169 = .ok (.lshl, 1) := by decide +kernel
theorem d_LW_law_170 : decode b_LW_law 170 = .ok (.aload_n 0, 1) := by decide +kernel
theorem d_LW_law_171 : decode b_LW_law 171 = .ok (.iload 4, 2) := by decide +kernel
theorem d_LW_law_173 : decode b_LW_law 173 = .ok (.iconst 4, 1) := by decide +kernel
theorem d_LW_law_174 : decode b_LW_law 174 = .ok (.iadd, 1) := by decide +kernel
theorem d_LW_law_175 : decode b_LW_law 175 = .ok (.iaload, 1) := by decide +kernel
theorem d_LW_law_176 : decode b_LW_law 176 = .ok (.i2l, 1) := by decide +kernel
theorem d_LW_law_177 : decode b_LW_law 177 = .ok (.ldc2_w 62, 3) := by decide +kernel
theorem d_LW_law_180 : decode b_LW_law 180 = .ok (.land, 1) := by decide +kernel
theorem d_LW_law_181 : decode b_LW_law 181 = .ok (.lor, 1) := by decide +kernel
theorem d_LW_law_182 : decode b_LW_law 182 = .ok (.aload_n 3, 1) := by decide +kernel
theorem d_LW_law_183 : decode b_LW_law 183 = .ok (.invokestatic 64, 3) := by decide +kernel
theorem d_LW_law_186 : decode b_LW_law 186 = .ok (.istore 5, 2) := by decide +kernel
theorem d_LW_law_188 : decode b_LW_law 188 = .ok (.aload_n 2, 1) := by decide +kernel
theorem d_LW_law_189 : decode b_LW_law 189 = .ok (.aload_n 0, 1) := by decide +kernel
theorem d_LW_law_190 : decode b_LW_law 190 = .ok (.iload 4, 2) := by decide +kernel
theorem d_LW_law_192 : decode b_LW_law 192 = .ok (.iconst 1, 1) := by decide +kernel
theorem d_LW_law_193 : decode b_LW_law 193 = .ok (.iadd, 1) := by decide +kernel
theorem d_LW_law_194 : decode b_LW_law 194 = .ok (.iaload, 1) := by decide +kernel
theorem d_LW_law_195 : decode b_LW_law 195 = .ok (.aload_n 0, 1) := by decide +kernel
theorem d_LW_law_196 : decode b_LW_law 196 = .ok (.iload 4, 2) := by decide +kernel
theorem d_LW_law_198 : decode b_LW_law 198 = .ok (.iconst 2, 1) := by decide +kernel
theorem d_LW_law_199 : decode b_LW_law 199 = .ok (.iadd, 1) := by decide +kernel
theorem d_LW_law_200 : decode b_LW_law 200 = .ok (.iaload, 1) := by decide +kernel
theorem d_LW_law_201 : decode b_LW_law 201 = .ok (.aload_n 0, 1) := by decide +kernel
theorem d_LW_law_202 : decode b_LW_law 202 = .ok (.iload 4, 2) := by decide +kernel
theorem d_LW_law_204 : decode b_LW_law 204 = .ok (.iconst 3, 1) := by decide +kernel
theorem d_LW_law_205 : decode b_LW_law 205 = .ok (.iadd, 1) := by decide +kernel
theorem d_LW_law_206 : decode b_LW_law 206 = .ok (.iaload, 1) := by decide +kernel
theorem d_LW_law_207 : decode b_LW_law 207 = .ok (.i2l, 1) := by decide +kernel
theorem d_LW_law_208 : decode b_LW_law 208 = .ok (.bipush 32, 2) := by decide +kernel
theorem d_LW_law_210 : decode b_LW_law 210 = .ok (.lshl, 1) := by decide +kernel
theorem d_LW_law_211 : decode b_LW_law 211 = .ok (.aload_n 0, 1) := by decide +kernel
theorem d_LW_law_212 : decode b_LW_law 212 = .ok (.iload 4, 2) := by decide +kernel
theorem d_LW_law_214 : decode b_LW_law 214 = .ok (.iconst 4, 1) := by decide +kernel
theorem d_LW_law_215 : decode b_LW_law 215 = .ok (.iadd, 1) := by decide +kernel
theorem d_LW_law_216 : decode b_LW_law 216 = .ok (.iaload, 1) := by decide +kernel
theorem d_LW_law_217 : decode b_LW_law 217 = .ok (.i2l, 1) := by decide +kernel
theorem d_LW_law_218 : decode b_LW_law 218 = .ok (.ldc2_w 62, 3) := by decide +kernel
theorem d_LW_law_221 : decode b_LW_law 221 = .ok (.land, 1) := by decide +kernel
theorem d_LW_law_222 : decode b_LW_law 222 = .ok (.lor, 1) := by decide +kernel
theorem d_LW_law_223 : decode b_LW_law 223 = .ok (.invokevirtual 67, 3) := by decide +kernel
theorem d_LW_law_226 : decode b_LW_law 226 = .ok (.istore 6, 2) := by decide +kernel
theorem d_LW_law_228 : decode b_LW_law 228 = .ok (.aload_n 2, 1) := by decide +kernel
theorem d_LW_law_229 : decode b_LW_law 229 = .ok (.invokevirtual 59, 3) := by decide +kernel
theorem d_LW_law_232 : decode b_LW_law 232 = .ok (.iload 5, 2) := by decide +kernel
theorem d_LW_law_234 : decode b_LW_law 234 = .ok (.if_icmp .eq 5, 3) := by decide +kernel
theorem d_LW_law_237 : decode b_LW_law 237 = .ok (.iconst 0, 1) := by decide +kernel
theorem d_LW_law_238 : decode b_LW_law 238 = .ok (.ireturn, 1) := by decide +kernel
theorem d_LW_law_239 : decode b_LW_law 239 = .ok (.iload 5, 2) := by decide +kernel
theorem d_LW_law_241 : decode b_LW_law 241 = .ok (.ifCond .ne 15, 3) := by decide +kernel
theorem d_LW_law_244 : decode b_LW_law 244 = .ok (.aload_n 3, 1) := by decide +kernel
theorem d_LW_law_245 : decode b_LW_law 245 = .ok (.iconst 0, 1) := by decide +kernel
theorem d_LW_law_246 : decode b_LW_law 246 = .ok (.laload, 1) := by decide +kernel
theorem d_LW_law_247 : decode b_LW_law 247 = .ok (.iload 6, 2) := by decide +kernel
theorem d_LW_law_249 : decode b_LW_law 249 = .ok (.i2l, 1) := by decide +kernel
theorem d_LW_law_250 : decode b_LW_law 250 = .ok (.lcmp, 1) := by decide +kernel
theorem d_LW_law_251 : decode b_LW_law 251 = .ok (.ifCond .eq 5, 3) := by decide +kernel
theorem d_LW_law_254 : decode b_LW_law 254 = .ok (.iconst 0, 1) := by decide +kernel
theorem d_LW_law_255 : decode b_LW_law 255 = .ok (.ireturn, 1) := by decide +kernel
theorem d_LW_law_256 : decode b_LW_law 256 = .ok (.goto 410, 3) := by decide +kernel
theorem d_LW_law_259 : decode b_LW_law 259 = .ok (.aload_n 1, 1) := by decide +kernel
theorem d_LW_law_260 : decode b_LW_law 260 = .ok (.aload_n 0, 1) := by decide +kernel
theorem d_LW_law_261 : decode b_LW_law 261 = .ok (.iload 4, 2) := by decide +kernel
theorem d_LW_law_263 : decode b_LW_law 263 = .ok (.iconst 1, 1) := by decide +kernel
theorem d_LW_law_264 : decode b_LW_law 264 = .ok (.iadd, 1) := by decide +kernel
theorem d_LW_law_265 : decode b_LW_law 265 = .ok (.iaload, 1) := by decide +kernel
theorem d_LW_law_266 : decode b_LW_law 266 = .ok (.aload_n 0, 1) := by decide +kernel
theorem d_LW_law_267 : decode b_LW_law 267 = .ok (.iload 4, 2) := by decide +kernel
theorem d_LW_law_269 : decode b_LW_law 269 = .ok (.iconst 2, 1) := by decide +kernel
theorem d_LW_law_270 : decode b_LW_law 270 = .ok (.iadd, 1) := by decide +kernel
theorem d_LW_law_271 : decode b_LW_law 271 = .ok (.iaload, 1) := by decide +kernel
theorem d_LW_law_272 : decode b_LW_law 272 = .ok (.aload_n 0, 1) := by decide +kernel
theorem d_LW_law_273 : decode b_LW_law 273 = .ok (.iload 4, 2) := by decide +kernel
theorem d_LW_law_275 : decode b_LW_law 275 = .ok (.iconst 3, 1) := by decide +kernel
theorem d_LW_law_276 : decode b_LW_law 276 = .ok (.iadd, 1) := by decide +kernel
theorem d_LW_law_277 : decode b_LW_law 277 = .ok (.iaload, 1) := by decide +kernel
theorem d_LW_law_278 : decode b_LW_law 278 = .ok (.aload_n 3, 1) := by decide +kernel
theorem d_LW_law_279 : decode b_LW_law 279 = .ok (.invokestatic 68, 3) := by decide +kernel
theorem d_LW_law_282 : decode b_LW_law 282 = .ok (.istore 5, 2) := by decide +kernel
theorem d_LW_law_284 : decode b_LW_law 284 = .ok (.aload_n 2, 1) := by decide +kernel
theorem d_LW_law_285 : decode b_LW_law 285 = .ok (.aload_n 0, 1) := by decide +kernel
theorem d_LW_law_286 : decode b_LW_law 286 = .ok (.iload 4, 2) := by decide +kernel
theorem d_LW_law_288 : decode b_LW_law 288 = .ok (.iconst 1, 1) := by decide +kernel
theorem d_LW_law_289 : decode b_LW_law 289 = .ok (.iadd, 1) := by decide +kernel
theorem d_LW_law_290 : decode b_LW_law 290 = .ok (.iaload, 1) := by decide +kernel
theorem d_LW_law_291 : decode b_LW_law 291 = .ok (.aload_n 0, 1) := by decide +kernel
theorem d_LW_law_292 : decode b_LW_law 292 = .ok (.iload 4, 2) := by decide +kernel
theorem d_LW_law_294 : decode b_LW_law 294 = .ok (.iconst 2, 1) := by decide +kernel
theorem d_LW_law_295 : decode b_LW_law 295 = .ok (.iadd, 1) := by decide +kernel
theorem d_LW_law_296 : decode b_LW_law 296 = .ok (.iaload, 1) := by decide +kernel
theorem d_LW_law_297 : decode b_LW_law 297 = .ok (.aload_n 0, 1) := by decide +kernel
theorem d_LW_law_298 : decode b_LW_law 298 = .ok (.iload 4, 2) := by decide +kernel
theorem d_LW_law_300 : decode b_LW_law 300 = .ok (.iconst 3, 1) := by decide +kernel
theorem d_LW_law_301 : decode b_LW_law 301 = .ok (.iadd, 1) := by decide +kernel
theorem d_LW_law_302 : decode b_LW_law 302 = .ok (.iaload, 1) := by decide +kernel
theorem d_LW_law_303 : decode b_LW_law 303 = .ok (.invokevirtual 71, 3) := by decide +kernel
theorem d_LW_law_306 : decode b_LW_law 306 = .ok (.istore 6, 2) := by decide +kernel
theorem d_LW_law_308 : decode b_LW_law 308 = .ok (.aload_n 2, 1) := by decide +kernel
theorem d_LW_law_309 : decode b_LW_law 309 = .ok (.invokevirtual 59, 3) := by decide +kernel
theorem d_LW_law_312 : decode b_LW_law 312 = .ok (.iload 5, 2) := by decide +kernel
theorem d_LW_law_314 : decode b_LW_law 314 = .ok (.if_icmp .eq 5, 3) := by decide +kernel
theorem d_LW_law_317 : decode b_LW_law 317 = .ok (.iconst 0, 1) := by decide +kernel
theorem d_LW_law_318 : decode b_LW_law 318 = .ok (.ireturn, 1) := by decide +kernel
theorem d_LW_law_319 : decode b_LW_law 319 = .ok (.iload 5, 2) := by decide +kernel
theorem d_LW_law_321 : decode b_LW_law 321 = .ok (.ifCond .ne 15, 3) := by decide +kernel
theorem d_LW_law_324 : decode b_LW_law 324 = .ok (.aload_n 3, 1) := by decide +kernel
theorem d_LW_law_325 : decode b_LW_law 325 = .ok (.iconst 0, 1) := by decide +kernel
theorem d_LW_law_326 : decode b_LW_law 326 = .ok (.laload, 1) := by decide +kernel
theorem d_LW_law_327 : decode b_LW_law 327 = .ok (.iload 6, 2) := by decide +kernel
theorem d_LW_law_329 : decode b_LW_law 329 = .ok (.i2l, 1) := by decide +kernel
theorem d_LW_law_330 : decode b_LW_law 330 = .ok (.lcmp, 1) := by decide +kernel
theorem d_LW_law_331 : decode b_LW_law 331 = .ok (.ifCond .eq 5, 3) := by decide +kernel
theorem d_LW_law_334 : decode b_LW_law 334 = .ok (.iconst 0, 1) := by decide +kernel
theorem d_LW_law_335 : decode b_LW_law 335 = .ok (.ireturn, 1) := by decide +kernel
theorem d_LW_law_336 : decode b_LW_law 336 = .ok (.goto 330, 3) := by decide +kernel
theorem d_LW_law_339 : decode b_LW_law 339 = .ok (.aload_n 1, 1) := by decide +kernel
theorem d_LW_law_340 : decode b_LW_law 340 = .ok (.aload_n 0, 1) := by decide +kernel
theorem d_LW_law_341 : decode b_LW_law 341 = .ok (.iload 4, 2) := by decide +kernel
theorem d_LW_law_343 : decode b_LW_law 343 = .ok (.iconst 1, 1) := by decide +kernel
theorem d_LW_law_344 : decode b_LW_law 344 = .ok (.iadd, 1) := by decide +kernel
theorem d_LW_law_345 : decode b_LW_law 345 = .ok (.iaload, 1) := by decide +kernel
theorem d_LW_law_346 : decode b_LW_law 346 = .ok (.aload_n 0, 1) := by decide +kernel
theorem d_LW_law_347 : decode b_LW_law 347 = .ok (.iload 4, 2) := by decide +kernel
theorem d_LW_law_349 : decode b_LW_law 349 = .ok (.iconst 2, 1) := by decide +kernel
theorem d_LW_law_350 : decode b_LW_law 350 = .ok (.iadd, 1) := by decide +kernel
theorem d_LW_law_351 : decode b_LW_law 351 = .ok (.iaload, 1) := by decide +kernel
theorem d_LW_law_352 : decode b_LW_law 352 = .ok (.aload_n 3, 1) := by decide +kernel
theorem d_LW_law_353 : decode b_LW_law 353 = .ok (.invokestatic 72, 3) := by decide +kernel
theorem d_LW_law_356 : decode b_LW_law 356 = .ok (.istore 5, 2) := by decide +kernel
theorem d_LW_law_358 : decode b_LW_law 358 = .ok (.aload_n 2, 1) := by decide +kernel
theorem d_LW_law_359 : decode b_LW_law 359 = .ok (.aload_n 0, 1) := by decide +kernel
theorem d_LW_law_360 : decode b_LW_law 360 = .ok (.iload 4, 2) := by decide +kernel
theorem d_LW_law_362 : decode b_LW_law 362 = .ok (.iconst 1, 1) := by decide +kernel
theorem d_LW_law_363 : decode b_LW_law 363 = .ok (.iadd, 1) := by decide +kernel
theorem d_LW_law_364 : decode b_LW_law 364 = .ok (.iaload, 1) := by decide +kernel
theorem d_LW_law_365 : decode b_LW_law 365 = .ok (.aload_n 0, 1) := by decide +kernel
theorem d_LW_law_366 : decode b_LW_law 366 = .ok (.iload 4, 2) := by decide +kernel
theorem d_LW_law_368 : decode b_LW_law 368 = .ok (.iconst 2, 1) := by decide +kernel
theorem d_LW_law_369 : decode b_LW_law 369 = .ok (.iadd, 1) := by decide +kernel
theorem d_LW_law_370 : decode b_LW_law 370 = .ok (.iaload, 1) := by decide +kernel
theorem d_LW_law_371 : decode b_LW_law 371 = .ok (.invokevirtual 75, 3) := by decide +kernel
theorem d_LW_law_374 : decode b_LW_law 374 = .ok (.lstore 6, 2) := by decide +kernel
theorem d_LW_law_376 : decode b_LW_law 376 = .ok (.aload_n 2, 1) := by decide +kernel
theorem d_LW_law_377 : decode b_LW_law 377 = .ok (.invokevirtual 59, 3) := by decide +kernel
theorem d_LW_law_380 : decode b_LW_law 380 = .ok (.iload 5, 2) := by decide +kernel
theorem d_LW_law_382 : decode b_LW_law 382 = .ok (.if_icmp .eq 5, 3) := by decide +kernel
theorem d_LW_law_385 : decode b_LW_law 385 = .ok (.iconst 0, 1) := by decide +kernel
theorem d_LW_law_386 : decode b_LW_law 386 = .ok (.ireturn, 1) := by decide +kernel
theorem d_LW_law_387 : decode b_LW_law 387 = .ok (.iload 5, 2) := by decide +kernel
theorem d_LW_law_389 : decode b_LW_law 389 = .ok (.ifCond .ne 14, 3) := by decide +kernel
theorem d_LW_law_392 : decode b_LW_law 392 = .ok (.aload_n 3, 1) := by decide +kernel
theorem d_LW_law_393 : decode b_LW_law 393 = .ok (.iconst 0, 1) := by decide +kernel
theorem d_LW_law_394 : decode b_LW_law 394 = .ok (.laload, 1) := by decide +kernel
theorem d_LW_law_395 : decode b_LW_law 395 = .ok (.lload 6, 2) := by decide +kernel
theorem d_LW_law_397 : decode b_LW_law 397 = .ok (.lcmp, 1) := by decide +kernel
theorem d_LW_law_398 : decode b_LW_law 398 = .ok (.ifCond .eq 5, 3) := by decide +kernel
theorem d_LW_law_401 : decode b_LW_law 401 = .ok (.iconst 0, 1) := by decide +kernel
theorem d_LW_law_402 : decode b_LW_law 402 = .ok (.ireturn, 1) := by decide +kernel
theorem d_LW_law_403 : decode b_LW_law 403 = .ok (.goto 263, 3) := by decide +kernel
theorem d_LW_law_406 : decode b_LW_law 406 = .ok (.aload_n 1, 1) := by decide +kernel
theorem d_LW_law_407 : decode b_LW_law 407 = .ok (.aload_n 0, 1) := by decide +kernel
theorem d_LW_law_408 : decode b_LW_law 408 = .ok (.iload 4, 2) := by decide +kernel
theorem d_LW_law_410 : decode b_LW_law 410 = .ok (.iconst 1, 1) := by decide +kernel
theorem d_LW_law_411 : decode b_LW_law 411 = .ok (.iadd, 1) := by decide +kernel
theorem d_LW_law_412 : decode b_LW_law 412 = .ok (.iaload, 1) := by decide +kernel
theorem d_LW_law_413 : decode b_LW_law 413 = .ok (.aload_n 3, 1) := by decide +kernel
theorem d_LW_law_414 : decode b_LW_law 414 = .ok (.invokestatic 76, 3) := by decide +kernel
theorem d_LW_law_417 : decode b_LW_law 417 = .ok (.istore 5, 2) := by decide +kernel
theorem d_LW_law_419 : decode b_LW_law 419 = .ok (.aload_n 2, 1) := by decide +kernel
theorem d_LW_law_420 : decode b_LW_law 420 = .ok (.aload_n 0, 1) := by decide +kernel
theorem d_LW_law_421 : decode b_LW_law 421 = .ok (.iload 4, 2) := by decide +kernel
theorem d_LW_law_423 : decode b_LW_law 423 = .ok (.iconst 1, 1) := by decide +kernel
theorem d_LW_law_424 : decode b_LW_law 424 = .ok (.iadd, 1) := by decide +kernel
theorem d_LW_law_425 : decode b_LW_law 425 = .ok (.iaload, 1) := by decide +kernel
theorem d_LW_law_426 : decode b_LW_law 426 = .ok (.invokevirtual 79, 3) := by decide +kernel
theorem d_LW_law_429 : decode b_LW_law 429 = .ok (.istore 6, 2) := by decide +kernel
theorem d_LW_law_431 : decode b_LW_law 431 = .ok (.aload_n 2, 1) := by decide +kernel
theorem d_LW_law_432 : decode b_LW_law 432 = .ok (.invokevirtual 59, 3) := by decide +kernel
theorem d_LW_law_435 : decode b_LW_law 435 = .ok (.iload 5, 2) := by decide +kernel
theorem d_LW_law_437 : decode b_LW_law 437 = .ok (.if_icmp .eq 5, 3) := by decide +kernel
theorem d_LW_law_440 : decode b_LW_law 440 = .ok (.iconst 0, 1) := by decide +kernel
theorem d_LW_law_441 : decode b_LW_law 441 = .ok (.ireturn, 1) := by decide +kernel
theorem d_LW_law_442 : decode b_LW_law 442 = .ok (.iload 5, 2) := by decide +kernel
theorem d_LW_law_444 : decode b_LW_law 444 = .ok (.ifCond .ne 15, 3) := by decide +kernel
theorem d_LW_law_447 : decode b_LW_law 447 = .ok (.aload_n 3, 1) := by decide +kernel
theorem d_LW_law_448 : decode b_LW_law 448 = .ok (.iconst 0, 1) := by decide +kernel
theorem d_LW_law_449 : decode b_LW_law 449 = .ok (.laload, 1) := by decide +kernel
theorem d_LW_law_450 : decode b_LW_law 450 = .ok (.iload 6, 2) := by decide +kernel
theorem d_LW_law_452 : decode b_LW_law 452 = .ok (.i2l, 1) := by decide +kernel
theorem d_LW_law_453 : decode b_LW_law 453 = .ok (.lcmp, 1) := by decide +kernel
theorem d_LW_law_454 : decode b_LW_law 454 = .ok (.ifCond .eq 5, 3) := by decide +kernel
theorem d_LW_law_457 : decode b_LW_law 457 = .ok (.iconst 0, 1) := by decide +kernel
theorem d_LW_law_458 : decode b_LW_law 458 = .ok (.ireturn, 1) := by decide +kernel
theorem d_LW_law_459 : decode b_LW_law 459 = .ok (.goto 207, 3) := by decide +kernel
theorem d_LW_law_462 : decode b_LW_law 462 = .ok (.aload_n 1, 1) := by decide +kernel
theorem d_LW_law_463 : decode b_LW_law 463 = .ok (.invokevirtual 80, 3) := by decide +kernel
theorem d_LW_law_466 : decode b_LW_law 466 = .ok (.aload_n 2, 1) := by decide +kernel
theorem d_LW_law_467 : decode b_LW_law 467 = .ok (.invokevirtual 83, 3) := by decide +kernel
theorem d_LW_law_470 : decode b_LW_law 470 = .ok (.if_icmp .eq 196, 3) := by decide +kernel
theorem d_LW_law_473 : decode b_LW_law 473 = .ok (.iconst 0, 1) := by decide +kernel
theorem d_LW_law_474 : decode b_LW_law 474 = .ok (.ireturn, 1) := by decide +kernel
theorem d_LW_law_475 : decode b_LW_law 475 = .ok (.aload_n 1, 1) := by decide +kernel
theorem d_LW_law_476 : decode b_LW_law 476 = .ok (.aload_n 0, 1) := by decide +kernel
theorem d_LW_law_477 : decode b_LW_law 477 = .ok (.iload 4, 2) := by decide +kernel
theorem d_LW_law_479 : decode b_LW_law 479 = .ok (.iconst 1, 1) := by decide +kernel
theorem d_LW_law_480 : decode b_LW_law 480 = .ok (.iadd, 1) := by decide +kernel
theorem d_LW_law_481 : decode b_LW_law 481 = .ok (.iaload, 1) := by decide +kernel
theorem d_LW_law_482 : decode b_LW_law 482 = .ok (.aload_n 0, 1) := by decide +kernel
theorem d_LW_law_483 : decode b_LW_law 483 = .ok (.iload 4, 2) := by decide +kernel
theorem d_LW_law_485 : decode b_LW_law 485 = .ok (.iconst 2, 1) := by decide +kernel
theorem d_LW_law_486 : decode b_LW_law 486 = .ok (.iadd, 1) := by decide +kernel
theorem d_LW_law_487 : decode b_LW_law 487 = .ok (.iaload, 1) := by decide +kernel
theorem d_LW_law_488 : decode b_LW_law 488 = .ok (.aload_n 3, 1) := by decide +kernel
theorem d_LW_law_489 : decode b_LW_law 489 = .ok (.invokestatic 84, 3) := by decide +kernel
theorem d_LW_law_492 : decode b_LW_law 492 = .ok (.istore 5, 2) := by decide +kernel
theorem d_LW_law_494 : decode b_LW_law 494 = .ok (.aload_n 2, 1) := by decide +kernel
theorem d_LW_law_495 : decode b_LW_law 495 = .ok (.aload_n 0, 1) := by decide +kernel
theorem d_LW_law_496 : decode b_LW_law 496 = .ok (.iload 4, 2) := by decide +kernel
theorem d_LW_law_498 : decode b_LW_law 498 = .ok (.iconst 1, 1) := by decide +kernel
theorem d_LW_law_499 : decode b_LW_law 499 = .ok (.iadd, 1) := by decide +kernel
theorem d_LW_law_500 : decode b_LW_law 500 = .ok (.iaload, 1) := by decide +kernel
theorem d_LW_law_501 : decode b_LW_law 501 = .ok (.aload_n 0, 1) := by decide +kernel
theorem d_LW_law_502 : decode b_LW_law 502 = .ok (.iload 4, 2) := by decide +kernel
theorem d_LW_law_504 : decode b_LW_law 504 = .ok (.iconst 2, 1) := by decide +kernel
theorem d_LW_law_505 : decode b_LW_law 505 = .ok (.iadd, 1) := by decide +kernel
theorem d_LW_law_506 : decode b_LW_law 506 = .ok (.iaload, 1) := by decide +kernel
theorem d_LW_law_507 : decode b_LW_law 507 = .ok (.invokevirtual 86, 3) := by decide +kernel
theorem d_LW_law_510 : decode b_LW_law 510 = .ok (.istore 6, 2) := by decide +kernel
theorem d_LW_law_512 : decode b_LW_law 512 = .ok (.aload_n 2, 1) := by decide +kernel
theorem d_LW_law_513 : decode b_LW_law 513 = .ok (.invokevirtual 59, 3) := by decide +kernel
theorem d_LW_law_516 : decode b_LW_law 516 = .ok (.iload 5, 2) := by decide +kernel
theorem d_LW_law_518 : decode b_LW_law 518 = .ok (.if_icmp .eq 5, 3) := by decide +kernel
theorem d_LW_law_521 : decode b_LW_law 521 = .ok (.iconst 0, 1) := by decide +kernel
theorem d_LW_law_522 : decode b_LW_law 522 = .ok (.ireturn, 1) := by decide +kernel
theorem d_LW_law_523 : decode b_LW_law 523 = .ok (.iload 5, 2) := by decide +kernel
theorem d_LW_law_525 : decode b_LW_law 525 = .ok (.ifCond .ne 15, 3) := by decide +kernel
theorem d_LW_law_528 : decode b_LW_law 528 = .ok (.aload_n 3, 1) := by decide +kernel
theorem d_LW_law_529 : decode b_LW_law 529 = .ok (.iconst 0, 1) := by decide +kernel
theorem d_LW_law_530 : decode b_LW_law 530 = .ok (.laload, 1) := by decide +kernel
theorem d_LW_law_531 : decode b_LW_law 531 = .ok (.iload 6, 2) := by decide +kernel
theorem d_LW_law_533 : decode b_LW_law 533 = .ok (.i2l, 1) := by decide +kernel
theorem d_LW_law_534 : decode b_LW_law 534 = .ok (.lcmp, 1) := by decide +kernel
theorem d_LW_law_535 : decode b_LW_law 535 = .ok (.ifCond .eq 5, 3) := by decide +kernel
theorem d_LW_law_538 : decode b_LW_law 538 = .ok (.iconst 0, 1) := by decide +kernel
theorem d_LW_law_539 : decode b_LW_law 539 = .ok (.ireturn, 1) := by decide +kernel
theorem d_LW_law_540 : decode b_LW_law 540 = .ok (.goto 126, 3) := by decide +kernel
theorem d_LW_law_543 : decode b_LW_law 543 = .ok (.aload_n 1, 1) := by decide +kernel
theorem d_LW_law_544 : decode b_LW_law 544 = .ok (.aload_n 0, 1) := by decide +kernel
theorem d_LW_law_545 : decode b_LW_law 545 = .ok (.iload 4, 2) := by decide +kernel
theorem d_LW_law_547 : decode b_LW_law 547 = .ok (.iconst 1, 1) := by decide +kernel
theorem d_LW_law_548 : decode b_LW_law 548 = .ok (.iadd, 1) := by decide +kernel
theorem d_LW_law_549 : decode b_LW_law 549 = .ok (.iaload, 1) := by decide +kernel
theorem d_LW_law_550 : decode b_LW_law 550 = .ok (.aload_n 3, 1) := by decide +kernel
theorem d_LW_law_551 : decode b_LW_law 551 = .ok (.invokestatic 87, 3) := by decide +kernel
theorem d_LW_law_554 : decode b_LW_law 554 = .ok (.istore 5, 2) := by decide +kernel
theorem d_LW_law_556 : decode b_LW_law 556 = .ok (.aload_n 2, 1) := by decide +kernel
theorem d_LW_law_557 : decode b_LW_law 557 = .ok (.aload_n 0, 1) := by decide +kernel
theorem d_LW_law_558 : decode b_LW_law 558 = .ok (.iload 4, 2) := by decide +kernel
theorem d_LW_law_560 : decode b_LW_law 560 = .ok (.iconst 1, 1) := by decide +kernel
theorem d_LW_law_561 : decode b_LW_law 561 = .ok (.iadd, 1) := by decide +kernel
theorem d_LW_law_562 : decode b_LW_law 562 = .ok (.iaload, 1) := by decide +kernel
theorem d_LW_law_563 : decode b_LW_law 563 = .ok (.invokevirtual 89, 3) := by decide +kernel
theorem d_LW_law_566 : decode b_LW_law 566 = .ok (.istore 6, 2) := by decide +kernel
theorem d_LW_law_568 : decode b_LW_law 568 = .ok (.aload_n 2, 1) := by decide +kernel
theorem d_LW_law_569 : decode b_LW_law 569 = .ok (.invokevirtual 59, 3) := by decide +kernel
theorem d_LW_law_572 : decode b_LW_law 572 = .ok (.iload 5, 2) := by decide +kernel
theorem d_LW_law_574 : decode b_LW_law 574 = .ok (.if_icmp .eq 5, 3) := by decide +kernel
theorem d_LW_law_577 : decode b_LW_law 577 = .ok (.iconst 0, 1) := by decide +kernel
theorem d_LW_law_578 : decode b_LW_law 578 = .ok (.ireturn, 1) := by decide +kernel
theorem d_LW_law_579 : decode b_LW_law 579 = .ok (.iload 5, 2) := by decide +kernel
theorem d_LW_law_581 : decode b_LW_law 581 = .ok (.ifCond .ne 15, 3) := by decide +kernel
theorem d_LW_law_584 : decode b_LW_law 584 = .ok (.aload_n 3, 1) := by decide +kernel
theorem d_LW_law_585 : decode b_LW_law 585 = .ok (.iconst 0, 1) := by decide +kernel
theorem d_LW_law_586 : decode b_LW_law 586 = .ok (.laload, 1) := by decide +kernel
theorem d_LW_law_587 : decode b_LW_law 587 = .ok (.iload 6, 2) := by decide +kernel
theorem d_LW_law_589 : decode b_LW_law 589 = .ok (.i2l, 1) := by decide +kernel
theorem d_LW_law_590 : decode b_LW_law 590 = .ok (.lcmp, 1) := by decide +kernel
theorem d_LW_law_591 : decode b_LW_law 591 = .ok (.ifCond .eq 5, 3) := by decide +kernel
theorem d_LW_law_594 : decode b_LW_law 594 = .ok (.iconst 0, 1) := by decide +kernel
theorem d_LW_law_595 : decode b_LW_law 595 = .ok (.ireturn, 1) := by decide +kernel
theorem d_LW_law_596 : decode b_LW_law 596 = .ok (.goto 70, 3) := by decide +kernel
theorem d_LW_law_599 : decode b_LW_law 599 = .ok (.aload_n 1, 1) := by decide +kernel
theorem d_LW_law_600 : decode b_LW_law 600 = .ok (.aload_n 0, 1) := by decide +kernel
theorem d_LW_law_601 : decode b_LW_law 601 = .ok (.iload 4, 2) := by decide +kernel
theorem d_LW_law_603 : decode b_LW_law 603 = .ok (.iconst 1, 1) := by decide +kernel
theorem d_LW_law_604 : decode b_LW_law 604 = .ok (.iadd, 1) := by decide +kernel
theorem d_LW_law_605 : decode b_LW_law 605 = .ok (.iaload, 1) := by decide +kernel
theorem d_LW_law_606 : decode b_LW_law 606 = .ok (.aload_n 0, 1) := by decide +kernel
theorem d_LW_law_607 : decode b_LW_law 607 = .ok (.iload 4, 2) := by decide +kernel
theorem d_LW_law_609 : decode b_LW_law 609 = .ok (.iconst 2, 1) := by decide +kernel
theorem d_LW_law_610 : decode b_LW_law 610 = .ok (.iadd, 1) := by decide +kernel
theorem d_LW_law_611 : decode b_LW_law 611 = .ok (.iaload, 1) := by decide +kernel
theorem d_LW_law_612 : decode b_LW_law 612 = .ok (.aload_n 3, 1) := by decide +kernel
theorem d_LW_law_613 : decode b_LW_law 613 = .ok (.invokestatic 90, 3) := by decide +kernel
theorem d_LW_law_616 : decode b_LW_law 616 = .ok (.istore 5, 2) := by decide +kernel
theorem d_LW_law_618 : decode b_LW_law 618 = .ok (.aload_n 2, 1) := by decide +kernel
theorem d_LW_law_619 : decode b_LW_law 619 = .ok (.aload_n 0, 1) := by decide +kernel
theorem d_LW_law_620 : decode b_LW_law 620 = .ok (.iload 4, 2) := by decide +kernel
theorem d_LW_law_622 : decode b_LW_law 622 = .ok (.iconst 1, 1) := by decide +kernel
theorem d_LW_law_623 : decode b_LW_law 623 = .ok (.iadd, 1) := by decide +kernel
theorem d_LW_law_624 : decode b_LW_law 624 = .ok (.iaload, 1) := by decide +kernel
theorem d_LW_law_625 : decode b_LW_law 625 = .ok (.aload_n 0, 1) := by decide +kernel
theorem d_LW_law_626 : decode b_LW_law 626 = .ok (.iload 4, 2) := by decide +kernel
theorem d_LW_law_628 : decode b_LW_law 628 = .ok (.iconst 2, 1) := by decide +kernel
theorem d_LW_law_629 : decode b_LW_law 629 = .ok (.iadd, 1) := by decide +kernel
theorem d_LW_law_630 : decode b_LW_law 630 = .ok (.iaload, 1) := by decide +kernel
theorem d_LW_law_631 : decode b_LW_law 631 = .ok (.invokevirtual 92, 3) := by decide +kernel
theorem d_LW_law_634 : decode b_LW_law 634 = .ok (.lstore 6, 2) := by decide +kernel
theorem d_LW_law_636 : decode b_LW_law 636 = .ok (.aload_n 2, 1) := by decide +kernel
theorem d_LW_law_637 : decode b_LW_law 637 = .ok (.invokevirtual 59, 3) := by decide +kernel
theorem d_LW_law_640 : decode b_LW_law 640 = .ok (.iload 5, 2) := by decide +kernel
theorem d_LW_law_642 : decode b_LW_law 642 = .ok (.if_icmp .eq 5, 3) := by decide +kernel
theorem d_LW_law_645 : decode b_LW_law 645 = .ok (.iconst 0, 1) := by decide +kernel
theorem d_LW_law_646 : decode b_LW_law 646 = .ok (.ireturn, 1) := by decide +kernel
theorem d_LW_law_647 : decode b_LW_law 647 = .ok (.iload 5, 2) := by decide +kernel
theorem d_LW_law_649 : decode b_LW_law 649 = .ok (.ifCond .ne 14, 3) := by decide +kernel
theorem d_LW_law_652 : decode b_LW_law 652 = .ok (.aload_n 3, 1) := by decide +kernel
theorem d_LW_law_653 : decode b_LW_law 653 = .ok (.iconst 0, 1) := by decide +kernel
theorem d_LW_law_654 : decode b_LW_law 654 = .ok (.laload, 1) := by decide +kernel
theorem d_LW_law_655 : decode b_LW_law 655 = .ok (.lload 6, 2) := by decide +kernel
theorem d_LW_law_657 : decode b_LW_law 657 = .ok (.lcmp, 1) := by decide +kernel
theorem d_LW_law_658 : decode b_LW_law 658 = .ok (.ifCond .eq 5, 3) := by decide +kernel
theorem d_LW_law_661 : decode b_LW_law 661 = .ok (.iconst 0, 1) := by decide +kernel
theorem d_LW_law_662 : decode b_LW_law 662 = .ok (.ireturn, 1) := by decide +kernel
theorem d_LW_law_663 : decode b_LW_law 663 = .ok (.goto 3, 3) := by decide +kernel
theorem d_LW_law_666 : decode b_LW_law 666 = .ok (.iinc 4 5, 3) := by decide +kernel
theorem d_LW_law_669 : decode b_LW_law 669 = .ok (.goto (-646), 3) := by decide +kernel
theorem d_LW_law_672 : decode b_LW_law 672 = .ok (.iconst 1, 1) := by decide +kernel
theorem d_LW_law_673 : decode b_LW_law 673 = .ok (.ireturn, 1) := by decide +kernel

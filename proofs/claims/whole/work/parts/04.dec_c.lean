theorem d_MD_init_0 : decode b_MD_init 0 = .ok (.aload_n 0, 1) := by decide +kernel
theorem d_MD_init_1 : decode b_MD_init 1 = .ok (.invokespecial 1, 3) := by decide +kernel
theorem d_MD_init_4 : decode b_MD_init 4 = .ok (.aload_n 0, 1) := by decide +kernel
theorem d_MD_init_5 : decode b_MD_init 5 = .ok (.sipush 1024, 3) := by decide +kernel
theorem d_MD_init_8 : decode b_MD_init 8 = .ok (.newarray .int, 2) := by decide +kernel
theorem d_MD_init_10 : decode b_MD_init 10 = .ok (.putfield 7, 3) := by decide +kernel
theorem d_MD_init_13 : decode b_MD_init 13 = .ok (.aload_n 0, 1) := by decide +kernel
theorem d_MD_init_14 : decode b_MD_init 14 = .ok (.sipush 1024, 3) := by decide +kernel
theorem d_MD_init_17 : decode b_MD_init 17 = .ok (.newarray .int, 2) := by decide +kernel
theorem d_MD_init_19 : decode b_MD_init 19 = .ok (.putfield 13, 3) := by decide +kernel
theorem d_MD_init_22 : decode b_MD_init 22 = .ok (.aload_n 0, 1) := by decide +kernel
theorem d_MD_init_23 : decode b_MD_init 23 = .ok (.sipush 17408, 3) := by decide +kernel
theorem d_MD_init_26 : decode b_MD_init 26 = .ok (.newarray .int, 2) := by decide +kernel
theorem d_MD_init_28 : decode b_MD_init 28 = .ok (.putfield 16, 3) := by decide +kernel
theorem d_MD_init_31 : decode b_MD_init 31 = .ok (.aload_n 0, 1) := by decide +kernel
theorem d_MD_init_32 : decode b_MD_init 32 = .ok (.sipush 17408, 3) := by decide +kernel
theorem d_MD_init_35 : decode b_MD_init 35 = .ok (.newarray .long, 2) := by decide +kernel
theorem d_MD_init_37 : decode b_MD_init 37 = .ok (.putfield 19, 3) := by decide +kernel
theorem d_MD_init_40 : decode b_MD_init 40 = .ok (.aload_n 0, 1) := by decide +kernel
theorem d_MD_init_41 : decode b_MD_init 41 = .ok (.ldc 23, 2) := by decide +kernel
theorem d_MD_init_43 : decode b_MD_init 43 = .ok (.newarray .int, 2) := by decide +kernel
theorem d_MD_init_45 : decode b_MD_init 45 = .ok (.putfield 24, 3) := by decide +kernel
theorem d_MD_init_48 : decode b_MD_init 48 = .ok (.aload_n 0, 1) := by decide +kernel
theorem d_MD_init_49 : decode b_MD_init 49 = .ok (.bipush 64, 2) := by decide +kernel
theorem d_MD_init_51 : decode b_MD_init 51 = .ok (.newarray .int, 2) := by decide +kernel
theorem d_MD_init_53 : decode b_MD_init 53 = .ok (.putfield 27, 3) := by decide +kernel
theorem d_MD_init_56 : decode b_MD_init 56 = .ok (.aload_n 0, 1) := by decide +kernel
theorem d_MD_init_57 : decode b_MD_init 57 = .ok (.bipush 64, 2) := by decide +kernel
theorem d_MD_init_59 : decode b_MD_init 59 = .ok (.newarray .long, 2) := by decide +kernel
theorem d_MD_init_61 : decode b_MD_init 61 = .ok (.putfield 30, 3) := by decide +kernel
theorem d_MD_init_64 : decode b_MD_init 64 = .ok (.aload_n 0, 1) := by decide +kernel
theorem d_MD_init_65 : decode b_MD_init 65 = .ok (.bipush 64, 2) := by decide +kernel
theorem d_MD_init_67 : decode b_MD_init 67 = .ok (.newarray .int, 2) := by decide +kernel
theorem d_MD_init_69 : decode b_MD_init 69 = .ok (.putfield 33, 3) := by decide +kernel
theorem d_MD_init_72 : decode b_MD_init 72 = .ok (.aload_n 0, 1) := by decide +kernel
theorem d_MD_init_73 : decode b_MD_init 73 = .ok (.sipush 1024, 3) := by decide +kernel
theorem d_MD_init_76 : decode b_MD_init 76 = .ok (.newarray .int, 2) := by decide +kernel
theorem d_MD_init_78 : decode b_MD_init 78 = .ok (.putfield 36, 3) := by decide +kernel
theorem d_MD_init_81 : decode b_MD_init 81 = .ok (.aload_n 0, 1) := by decide +kernel
theorem d_MD_init_82 : decode b_MD_init 82 = .ok (.sipush 1024, 3) := by decide +kernel
theorem d_MD_init_85 : decode b_MD_init 85 = .ok (.newarray .int, 2) := by decide +kernel
theorem d_MD_init_87 : decode b_MD_init 87 = .ok (.putfield 39, 3) := by decide +kernel
theorem d_MD_init_90 : decode b_MD_init 90 = .ok (.return_, 1) := by decide +kernel
theorem d_MD_thrown_0 : decode b_MD_thrown 0 = .ok (.aload_n 0, 1) := by decide +kernel
theorem d_MD_thrown_1 : decode b_MD_thrown 1 = .ok (.getfield 42, 3) := by decide +kernel
theorem d_MD_thrown_4 : decode b_MD_thrown 4 = .ok (.ireturn, 1) := by decide +kernel
theorem d_MD_clear_0 : decode b_MD_clear 0 = .ok (.aload_n 0, 1) := by decide +kernel
theorem d_MD_clear_1 : decode b_MD_clear 1 = .ok (.iconst 0, 1) := by decide +kernel
theorem d_MD_clear_2 : decode b_MD_clear 2 = .ok (.putfield 42, 3) := by decide +kernel
theorem d_MD_clear_5 : decode b_MD_clear 5 = .ok (.aload_n 0, 1) := by decide +kernel
theorem d_MD_clear_6 : decode b_MD_clear 6 = .ok (.iconst 0, 1) := by decide +kernel
theorem d_MD_clear_7 : decode b_MD_clear 7 = .ok (.putfield 46, 3) := by decide +kernel
theorem d_MD_clear_10 : decode b_MD_clear 10 = .ok (.aload_n 0, 1) := by decide +kernel
theorem d_MD_clear_11 : decode b_MD_clear 11 = .ok (.iconst 0, 1) := by decide +kernel
theorem d_MD_clear_12 : decode b_MD_clear 12 = .ok (.putfield 49, 3) := by decide +kernel
theorem d_MD_clear_15 : decode b_MD_clear 15 = .ok (.aload_n 0, 1) := by decide +kernel
theorem d_MD_clear_16 : decode b_MD_clear 16 = .ok (.iconst 0, 1) := by decide +kernel
theorem d_MD_clear_17 : decode b_MD_clear 17 = .ok (.putfield 52, 3) := by decide +kernel
theorem d_MD_clear_20 : decode b_MD_clear 20 = .ok (.aload_n 0, 1) := by decide +kernel
theorem d_MD_clear_21 : decode b_MD_clear 21 = .ok (.iconst 0, 1) := by decide +kernel
theorem d_MD_clear_22 : decode b_MD_clear 22 = .ok (.putfield 55, 3) := by decide +kernel
theorem d_MD_clear_25 : decode b_MD_clear 25 = .ok (.return_, 1) := by decide +kernel
theorem d_MD_block_0 : decode b_MD_block 0 = .ok (.aload_n 0, 1) := by decide +kernel
theorem d_MD_block_1 : decode b_MD_block 1 = .ok (.aload_n 0, 1) := by decide +kernel
theorem d_MD_block_2 : decode b_MD_block 2 = .ok (.getfield 46, 3) := by decide +kernel
theorem d_MD_block_5 : decode b_MD_block 5 = .ok (.sipush 1024, 3) := by decide +kernel
theorem d_MD_block_8 : decode b_MD_block 8 = .ok (.if_icmp .ne 7, 3) := by decide +kernel
theorem d_MD_block_11 : decode b_MD_block 11 = .ok (.iconst 1, 1) := by decide +kernel
theorem d_MD_block_12 : decode b_MD_block 12 = .ok (.goto 4, 3) := by decide +kernel
theorem d_MD_block_15 : decode b_MD_block 15 = .ok (.iconst 0, 1) := by decide +kernel
theorem d_MD_block_16 : decode b_MD_block 16 = .ok (.iconst 0, 1) := by decide +kernel
theorem d_MD_block_17 : decode b_MD_block 17 = .ok (.invokevirtual 58, 3) := by decide +kernel
theorem d_MD_block_20 : decode b_MD_block 20 = .ok (.ifCond .eq 5, 3) := by decide +kernel
theorem d_MD_block_23 : decode b_MD_block 23 = .ok (.iconst 0, 1) := by decide +kernel
theorem d_MD_block_24 : decode b_MD_block 24 = .ok (.ireturn, 1) := by decide +kernel
theorem d_MD_block_25 : decode b_MD_block 25 = .ok (.aload_n 0, 1) := by decide +kernel
theorem d_MD_block_26 : decode b_MD_block 26 = .ok (.getfield 7, 3) := by decide +kernel
theorem d_MD_block_29 : decode b_MD_block 29 = .ok (.aload_n 0, 1) := by decide +kernel
theorem d_MD_block_30 : decode b_MD_block 30 = .ok (.getfield 46, 3) := by decide +kernel
theorem d_MD_block_33 : decode b_MD_block 33 = .ok (.iconst 0, 1) := by decide +kernel
theorem d_MD_block_34 : decode b_MD_block 34 = .ok (.iastore, 1) := by decide +kernel
theorem d_MD_block_35 : decode b_MD_block 35 = .ok (.aload_n 0, 1) := by decide +kernel
theorem d_MD_block_36 : decode b_MD_block 36 = .ok (.getfield 13, 3) := by decide +kernel
theorem d_MD_block_39 : decode b_MD_block 39 = .ok (.aload_n 0, 1) := by decide +kernel
theorem d_MD_block_40 : decode b_MD_block 40 = .ok (.getfield 46, 3) := by decide +kernel
theorem d_MD_block_43 : decode b_MD_block 43 = .ok (.aload_n 0, 1) := by decide +kernel
theorem d_MD_block_44 : decode b_MD_block 44 = .ok (.getfield 52, 3) := by decide +kernel
theorem d_MD_block_47 : decode b_MD_block 47 = .ok (.iastore, 1) := by decide +kernel
theorem d_MD_block_48 : decode b_MD_block 48 = .ok (.aload_n 0, 1) := by decide +kernel
theorem d_MD_block_49 : decode b_MD_block 49 = .ok (.getfield 16, 3) := by decide +kernel
theorem d_MD_block_52 : decode b_MD_block 52 = .ok (.aload_n 0, 1) := by decide +kernel
theorem d_MD_block_53 : decode b_MD_block 53 = .ok (.getfield 52, 3) := by decide +kernel
theorem d_MD_block_56 : decode b_MD_block 56 = .ok (.iconst 0, 1) := by decide +kernel
theorem d_MD_block_57 : decode b_MD_block 57 = .ok (.iastore, 1) := by decide +kernel
theorem d_MD_block_58 : decode b_MD_block 58 = .ok (.aload_n 0, 1) := by decide +kernel
theorem d_MD_block_59 : decode b_MD_block 59 = .ok (.getfield 19, 3) := by decide +kernel
theorem d_MD_block_62 : decode b_MD_block 62 = .ok (.aload_n 0, 1) := by decide +kernel
theorem d_MD_block_63 : decode b_MD_block 63 = .ok (.getfield 52, 3) := by decide +kernel
theorem d_MD_block_66 : decode b_MD_block 66 = .ok (.lconst 0, 1) := by decide +kernel
theorem d_MD_block_67 : decode b_MD_block 67 = .ok (.lastore, 1) := by decide +kernel
theorem d_MD_block_68 : decode b_MD_block 68 = .ok (.aload_n 0, 1) := by decide +kernel
theorem d_MD_block_69 : decode b_MD_block 69 = .ok (.dup, 1) := by decide +kernel
theorem d_MD_block_70 : decode b_MD_block 70 = .ok (.getfield 52, 3) := by decide +kernel
theorem d_MD_block_73 : decode b_MD_block 73 = .ok (.iconst 1, 1) := by decide +kernel
theorem d_MD_block_74 : decode b_MD_block 74 = .ok (.iadd, 1) := by decide +kernel
theorem d_MD_block_75 : decode b_MD_block 75 = .ok (.putfield 52, 3) := by decide +kernel
theorem d_MD_block_78 : decode b_MD_block 78 = .ok (.aload_n 0, 1) := by decide +kernel
theorem d_MD_block_79 : decode b_MD_block 79 = .ok (.dup, 1) := by decide +kernel
theorem d_MD_block_80 : decode b_MD_block 80 = .ok (.getfield 46, 3) := by decide +kernel
theorem d_MD_block_83 : decode b_MD_block 83 = .ok (.iconst 1, 1) := by decide +kernel
theorem d_MD_block_84 : decode b_MD_block 84 = .ok (.iadd, 1) := by decide +kernel
theorem d_MD_block_85 : decode b_MD_block 85 = .ok (.putfield 46, 3) := by decide +kernel
theorem d_MD_block_88 : decode b_MD_block 88 = .ok (.aload_n 0, 1) := by decide +kernel
theorem d_MD_block_89 : decode b_MD_block 89 = .ok (.iconst 0, 1) := by decide +kernel
theorem d_MD_block_90 : decode b_MD_block 90 = .ok (.putfield 55, 3) := by decide +kernel
theorem d_MD_block_93 : decode b_MD_block 93 = .ok (.aload_n 0, 1) := by decide +kernel
theorem d_MD_block_94 : decode b_MD_block 94 = .ok (.getfield 46, 3) := by decide +kernel
theorem d_MD_block_97 : decode b_MD_block 97 = .ok (.iconst 1, 1) := by decide +kernel
theorem d_MD_block_98 : decode b_MD_block 98 = .ok (.isub, 1) := by decide +kernel
theorem d_MD_block_99 : decode b_MD_block 99 = .ok (.ireturn, 1) := by decide +kernel
theorem d_MD_throwing_0 : decode b_MD_throwing 0 = .ok (.aload_n 0, 1) := by decide +kernel
theorem d_MD_throwing_1 : decode b_MD_throwing 1 = .ok (.iload_n 1, 1) := by decide +kernel
theorem d_MD_throwing_2 : decode b_MD_throwing 2 = .ok (.ifCond .eq 7, 3) := by decide +kernel
theorem d_MD_throwing_5 : decode b_MD_throwing 5 = .ok (.iconst 1, 1) := by decide +kernel
theorem d_MD_throwing_6 : decode b_MD_throwing 6 = .ok (.goto 12, 3) := by decide +kernel
theorem d_MD_throwing_9 : decode b_MD_throwing 9 = .ok (.iload_n 2, 1) := by decide +kernel
theorem d_MD_throwing_10 : decode b_MD_throwing 10 = .ok (.ifCond .eq 7, 3) := by decide +kernel
theorem d_MD_throwing_13 : decode b_MD_throwing 13 = .ok (.iconst 2, 1) := by decide +kernel
theorem d_MD_throwing_14 : decode b_MD_throwing 14 = .ok (.goto 4, 3) := by decide +kernel
theorem d_MD_throwing_17 : decode b_MD_throwing 17 = .ok (.iconst 0, 1) := by decide +kernel
theorem d_MD_throwing_18 : decode b_MD_throwing 18 = .ok (.putfield 42, 3) := by decide +kernel
theorem d_MD_throwing_21 : decode b_MD_throwing 21 = .ok (.aload_n 0, 1) := by decide +kernel
theorem d_MD_throwing_22 : decode b_MD_throwing 22 = .ok (.getfield 42, 3) := by decide +kernel
theorem d_MD_throwing_25 : decode b_MD_throwing 25 = .ok (.ifCond .le 7, 3) := by decide +kernel
theorem d_MD_throwing_28 : decode b_MD_throwing 28 = .ok (.iconst 1, 1) := by decide +kernel
theorem d_MD_throwing_29 : decode b_MD_throwing 29 = .ok (.goto 4, 3) := by decide +kernel
theorem d_MD_throwing_32 : decode b_MD_throwing 32 = .ok (.iconst 0, 1) := by decide +kernel
theorem d_MD_throwing_33 : decode b_MD_throwing 33 = .ok (.ireturn, 1) := by decide +kernel
theorem d_MD_pass_0 : decode b_MD_pass 0 = .ok (.iload_n 1, 1) := by decide +kernel
theorem d_MD_pass_1 : decode b_MD_pass 1 = .ok (.iconst 0, 1) := by decide +kernel
theorem d_MD_pass_2 : decode b_MD_pass 2 = .ok (.aload_n 0, 1) := by decide +kernel
theorem d_MD_pass_3 : decode b_MD_pass 3 = .ok (.getfield 46, 3) := by decide +kernel
theorem d_MD_pass_6 : decode b_MD_pass 6 = .ok (.iconst 1, 1) := by decide +kernel
theorem d_MD_pass_7 : decode b_MD_pass 7 = .ok (.isub, 1) := by decide +kernel
theorem d_MD_pass_8 : decode b_MD_pass 8 = .ok (.invokestatic 62, 3) := by decide +kernel
theorem d_MD_pass_11 : decode b_MD_pass 11 = .ok (.ifCond .ne 23, 3) := by decide +kernel
theorem d_MD_pass_14 : decode b_MD_pass 14 = .ok (.iload_n 2, 1) := by decide +kernel
theorem d_MD_pass_15 : decode b_MD_pass 15 = .ok (.ifCond .lt 19, 3) := by decide +kernel
theorem d_MD_pass_18 : decode b_MD_pass 18 = .ok (.lload_n 3, 1) := by decide +kernel
theorem d_MD_pass_19 : decode b_MD_pass 19 = .ok (.ldc2_w 66, 3) := by decide +kernel
theorem d_MD_pass_22 : decode b_MD_pass 22 = .ok (.lcmp, 1) := by decide +kernel
theorem d_MD_pass_23 : decode b_MD_pass 23 = .ok (.ifCond .lt 11, 3) := by decide +kernel
theorem d_MD_pass_26 : decode b_MD_pass 26 = .ok (.lload_n 3, 1) := by decide +kernel
theorem d_MD_pass_27 : decode b_MD_pass 27 = .ok (.ldc2_w 68, 3) := by decide +kernel
theorem d_MD_pass_30 : decode b_MD_pass 30 = .ok (.lcmp, 1) := by decide +kernel
theorem d_MD_pass_31 : decode b_MD_pass 31 = .ok (.ifCond .le 7, 3) := by decide +kernel
theorem d_MD_pass_34 : decode b_MD_pass 34 = .ok (.iconst 1, 1) := by decide +kernel
theorem d_MD_pass_35 : decode b_MD_pass 35 = .ok (.goto 4, 3) := by decide +kernel
theorem d_MD_pass_38 : decode b_MD_pass 38 = .ok (.iconst 0, 1) := by decide +kernel
theorem d_MD_pass_39 : decode b_MD_pass 39 = .ok (.istore 5, 2) := by decide +kernel
theorem d_MD_pass_41 : decode b_MD_pass 41 = .ok (.iload 5, 2) := by decide +kernel
theorem d_MD_pass_43 : decode b_MD_pass 43 = .ok (.ifCond .eq 7, 3) := by decide +kernel
theorem d_MD_pass_46 : decode b_MD_pass 46 = .ok (.iconst 0, 1) := by decide +kernel
theorem d_MD_pass_47 : decode b_MD_pass 47 = .ok (.goto 16, 3) := by decide +kernel
theorem d_MD_pass_50 : decode b_MD_pass 50 = .ok (.aload_n 0, 1) := by decide +kernel
theorem d_MD_pass_51 : decode b_MD_pass 51 = .ok (.getfield 13, 3) := by decide +kernel
theorem d_MD_pass_54 : decode b_MD_pass 54 = .ok (.iload_n 1, 1) := by decide +kernel
theorem d_MD_pass_55 : decode b_MD_pass 55 = .ok (.iaload, 1) := by decide +kernel
theorem d_MD_pass_56 : decode b_MD_pass 56 = .ok (.aload_n 0, 1) := by decide +kernel
theorem d_MD_pass_57 : decode b_MD_pass 57 = .ok (.getfield 7, 3) := by decide +kernel
theorem d_MD_pass_60 : decode b_MD_pass 60 = .ok (.iload_n 1, 1) := by decide +kernel
theorem d_MD_pass_61 : decode b_MD_pass 61 = .ok (.iaload, 1) := by decide +kernel
theorem d_MD_pass_62 : decode b_MD_pass 62 = .ok (.iadd, 1) := by decide +kernel
theorem d_MD_pass_63 : decode b_MD_pass 63 = .ok (.istore 6, 2) := by decide +kernel
theorem d_MD_pass_65 : decode b_MD_pass 65 = .ok (.aload_n 0, 1) := by decide +kernel
theorem d_MD_pass_66 : decode b_MD_pass 66 = .ok (.iload 5, 2) := by decide +kernel
theorem d_MD_pass_68 : decode b_MD_pass 68 = .ok (.iload 5, 2) := by decide +kernel
theorem d_MD_pass_70 : decode b_MD_pass 70 = .ok (.ifCond .ne 42, 3) := by decide +kernel
theorem d_MD_pass_73 : decode b_MD_pass 73 = .ok (.aload_n 0, 1) := by decide +kernel
theorem d_MD_pass_74 : decode b_MD_pass 74 = .ok (.getfield 7, 3) := by decide +kernel
theorem d_MD_pass_77 : decode b_MD_pass 77 = .ok (.iload_n 1, 1) := by decide +kernel
theorem d_MD_pass_78 : decode b_MD_pass 78 = .ok (.iaload, 1) := by decide +kernel
theorem d_MD_pass_79 : decode b_MD_pass 79 = .ok (.bipush 120, 2) := by decide +kernel
theorem d_MD_pass_81 : decode b_MD_pass 81 = .ok (.if_icmp .eq 27, 3) := by decide +kernel
theorem d_MD_pass_84 : decode b_MD_pass 84 = .ok (.iload_n 2, 1) := by decide +kernel
theorem d_MD_pass_85 : decode b_MD_pass 85 = .ok (.ldc 70, 2) := by decide +kernel
theorem d_MD_pass_87 : decode b_MD_pass 87 = .ok (.aload_n 0, 1) := by decide +kernel
theorem d_MD_pass_88 : decode b_MD_pass 88 = .ok (.getfield 16, 3) := by decide +kernel
theorem d_MD_pass_91 : decode b_MD_pass 91 = .ok (.iload 6, 2) := by decide +kernel
theorem d_MD_pass_93 : decode b_MD_pass 93 = .ok (.iaload, 1) := by decide +kernel
theorem d_MD_pass_94 : decode b_MD_pass 94 = .ok (.isub, 1) := by decide +kernel
theorem d_MD_pass_95 : decode b_MD_pass 95 = .ok (.if_icmp .gt 13, 3) := by decide +kernel
theorem d_MD_pass_98 : decode b_MD_pass 98 = .ok (.aload_n 0, 1) := by decide +kernel
theorem d_MD_pass_99 : decode b_MD_pass 99 = .ok (.getfield 49, 3) := by decide +kernel
theorem d_MD_pass_102 : decode b_MD_pass 102 = .ok (.sipush 16384, 3) := by decide +kernel
theorem d_MD_pass_105 : decode b_MD_pass 105 = .ok (.if_icmp .ne 7, 3) := by decide +kernel
theorem d_MD_pass_108 : decode b_MD_pass 108 = .ok (.iconst 1, 1) := by decide +kernel
theorem d_MD_pass_109 : decode b_MD_pass 109 = .ok (.goto 4, 3) := by decide +kernel
theorem d_MD_pass_112 : decode b_MD_pass 112 = .ok (.iconst 0, 1) := by decide +kernel
theorem d_MD_pass_113 : decode b_MD_pass 113 = .ok (.invokevirtual 58, 3) := by decide +kernel
theorem d_MD_pass_116 : decode b_MD_pass 116 = .ok (.ifCond .eq 5, 3) := by decide +kernel
theorem d_MD_pass_119 : decode b_MD_pass 119 = .ok (.iconst 0, 1) := by decide +kernel
theorem d_MD_pass_120 : decode b_MD_pass 120 = .ok (.ireturn, 1) := by decide +kernel
theorem d_MD_pass_121 : decode b_MD_pass 121 = .ok (.aload_n 0, 1) := by decide +kernel
theorem d_MD_pass_122 : decode b_MD_pass 122 = .ok (.getfield 52, 3) := by decide +kernel
theorem d_MD_pass_125 : decode b_MD_pass 125 = .ok (.istore 7, 2) := by decide +kernel
theorem d_MD_pass_127 : decode b_MD_pass 127 = .ok (.iload 7, 2) := by decide +kernel
theorem d_MD_pass_129 : decode b_MD_pass 129 = .ok (.iload 6, 2) := by decide +kernel
theorem d_MD_pass_131 : decode b_MD_pass 131 = .ok (.iconst 1, 1) := by decide +kernel
theorem d_MD_pass_132 : decode b_MD_pass 132 = .ok (.iadd, 1) := by decide +kernel
theorem d_MD_pass_133 : decode b_MD_pass 133 = .ok (.if_icmp .le 41, 3) := by decide +kernel
theorem d_MD_pass_136 : decode b_MD_pass 136 = .ok (.aload_n 0, 1) := by decide +kernel
theorem d_MD_pass_137 : decode b_MD_pass 137 = .ok (.getfield 16, 3) := by decide +kernel
theorem d_MD_pass_140 : decode b_MD_pass 140 = .ok (.iload 7, 2) := by decide +kernel
theorem d_MD_pass_142 : decode b_MD_pass 142 = .ok (.aload_n 0, 1) := by decide +kernel
theorem d_MD_pass_143 : decode b_MD_pass 143 = .ok (.getfield 16, 3) := by decide +kernel
theorem d_MD_pass_146 : decode b_MD_pass 146 = .ok (.iload 7, 2) := by decide +kernel
theorem d_MD_pass_148 : decode b_MD_pass 148 = .ok (.iconst 1, 1) := by decide +kernel
theorem d_MD_pass_149 : decode b_MD_pass 149 = .ok (.isub, 1) := by decide +kernel
theorem d_MD_pass_150 : decode b_MD_pass 150 = .ok (.iaload, 1) := by decide +kernel
theorem d_MD_pass_151 : decode b_MD_pass 151 = .ok (.iastore, 1) := by decide +kernel
theorem d_MD_pass_152 : decode b_MD_pass 152 = .ok (.aload_n 0, 1) := by decide +kernel
theorem d_MD_pass_153 : decode b_MD_pass 153 = .ok (.getfield 19, 3) := by decide +kernel
theorem d_MD_pass_156 : decode b_MD_pass 156 = .ok (.iload 7, 2) := by decide +kernel
theorem d_MD_pass_158 : decode b_MD_pass 158 = .ok (.aload_n 0, 1) := by decide +kernel
theorem d_MD_pass_159 : decode b_MD_pass 159 = .ok (.getfield 19, 3) := by decide +kernel
theorem d_MD_pass_162 : decode b_MD_pass 162 = .ok (.iload 7, 2) := by decide +kernel
theorem d_MD_pass_164 : decode b_MD_pass 164 = .ok (.iconst 1, 1) := by decide +kernel
theorem d_MD_pass_165 : decode b_MD_pass 165 = .ok (.isub, 1) := by decide +kernel
theorem d_MD_pass_166 : decode b_MD_pass 166 = .ok (.laload, 1) := by decide +kernel
theorem d_MD_pass_167 : decode b_MD_pass 167 = .ok (.lastore, 1) := by decide +kernel
theorem d_MD_pass_168 : decode b_MD_pass 168 = .ok (.iinc 7 (-1), 3) := by decide +kernel
theorem d_MD_pass_171 : decode b_MD_pass 171 = .ok (.goto (-44), 3) := by decide +kernel
theorem d_MD_pass_174 : decode b_MD_pass 174 = .ok (.iload_n 1, 1) := by decide +kernel
theorem d_MD_pass_175 : decode b_MD_pass 175 = .ok (.iconst 1, 1) := by decide +kernel
theorem d_MD_pass_176 : decode b_MD_pass 176 = .ok (.iadd, 1) := by decide +kernel
theorem d_MD_pass_177 : decode b_MD_pass 177 = .ok (.istore 7, 2) := by decide +kernel
theorem d_MD_pass_179 : decode b_MD_pass 179 = .ok (.iload 7, 2) := by decide +kernel
theorem d_MD_pass_181 : decode b_MD_pass 181 = .ok (.aload_n 0, 1) := by decide +kernel
theorem d_MD_pass_182 : decode b_MD_pass 182 = .ok (.getfield 46, 3) := by decide +kernel
theorem d_MD_pass_185 : decode b_MD_pass 185 = .ok (.if_icmp .ge 20, 3) := by decide +kernel
theorem d_MD_pass_188 : decode b_MD_pass 188 = .ok (.aload_n 0, 1) := by decide +kernel
theorem d_MD_pass_189 : decode b_MD_pass 189 = .ok (.getfield 13, 3) := by decide +kernel
theorem d_MD_pass_192 : decode b_MD_pass 192 = .ok (.iload 7, 2) := by decide +kernel
theorem d_MD_pass_194 : decode b_MD_pass 194 = .ok (.dup2, 1) := by decide +kernel
theorem d_MD_pass_195 : decode b_MD_pass 195 = .ok (.iaload, 1) := by decide +kernel
theorem d_MD_pass_196 : decode b_MD_pass 196 = .ok (.iconst 1, 1) := by decide +kernel
theorem d_MD_pass_197 : decode b_MD_pass 197 = .ok (.iadd, 1) := by decide +kernel
theorem d_MD_pass_198 : decode b_MD_pass 198 = .ok (.iastore, 1) := by decide +kernel
theorem d_MD_pass_199 : decode b_MD_pass 199 = .ok (.iinc 7 1, 3) := by decide +kernel
theorem d_MD_pass_202 : decode b_MD_pass 202 = .ok (.goto (-23), 3) := by decide +kernel
theorem d_MD_pass_205 : decode b_MD_pass 205 = .ok (.aload_n 0, 1) := by decide +kernel
theorem d_MD_pass_206 : decode b_MD_pass 206 = .ok (.dup, 1) := by decide +kernel
theorem d_MD_pass_207 : decode b_MD_pass 207 = .ok (.getfield 52, 3) := by decide +kernel
theorem d_MD_pass_210 : decode b_MD_pass 210 = .ok (.iconst 1, 1) := by decide +kernel
theorem d_MD_pass_211 : decode b_MD_pass 211 = .ok (.iadd, 1) := by decide +kernel
theorem d_MD_pass_212 : decode b_MD_pass 212 = .ok (.putfield 52, 3) := by decide +kernel
theorem d_MD_pass_215 : decode b_MD_pass 215 = .ok (.aload_n 0, 1) := by decide +kernel
theorem d_MD_pass_216 : decode b_MD_pass 216 = .ok (.getfield 16, 3) := by decide +kernel
theorem d_MD_pass_219 : decode b_MD_pass 219 = .ok (.iload 6, 2) := by decide +kernel
theorem d_MD_pass_221 : decode b_MD_pass 221 = .ok (.iconst 1, 1) := by decide +kernel
theorem d_MD_pass_222 : decode b_MD_pass 222 = .ok (.iadd, 1) := by decide +kernel
theorem d_MD_pass_223 : decode b_MD_pass 223 = .ok (.aload_n 0, 1) := by decide +kernel
theorem d_MD_pass_224 : decode b_MD_pass 224 = .ok (.getfield 16, 3) := by decide +kernel
theorem d_MD_pass_227 : decode b_MD_pass 227 = .ok (.iload 6, 2) := by decide +kernel
theorem d_MD_pass_229 : decode b_MD_pass 229 = .ok (.iaload, 1) := by decide +kernel
theorem d_MD_pass_230 : decode b_MD_pass 230 = .ok (.iload_n 2, 1) := by decide +kernel
theorem d_MD_pass_231 : decode b_MD_pass 231 = .ok (.iadd, 1) := by decide +kernel
theorem d_MD_pass_232 : decode b_MD_pass 232 = .ok (.iastore, 1) := by decide +kernel
theorem d_MD_pass_233 : decode b_MD_pass 233 = .ok (.aload_n 0, 1) := by decide +kernel
theorem d_MD_pass_234 : decode b_MD_pass 234 = .ok (.getfield 19, 3) := by decide +kernel
theorem d_MD_pass_237 : decode b_MD_pass 237 = .ok (.iload 6, 2) := by decide +kernel
theorem d_MD_pass_239 : decode b_MD_pass 239 = .ok (.iconst 1, 1) := by decide +kernel
theorem d_MD_pass_240 : decode b_MD_pass 240 = .ok (.iadd, 1) := by decide +kernel
theorem d_MD_pass_241 : decode b_MD_pass 241 = .ok (.aload_n 0, 1) := by decide +kernel
theorem d_MD_pass_242 : decode b_MD_pass 242 = .ok (.getfield 19, 3) := by decide +kernel
theorem d_MD_pass_245 : decode b_MD_pass 245 = .ok (.iload 6, 2) := by decide +kernel
theorem d_MD_pass_247 : decode b_MD_pass 247 = .ok (.laload, 1) := by decide +kernel
theorem d_MD_pass_248 : decode b_MD_pass 248 = .ok (.lload_n 3, 1) := by decide +kernel
theorem d_MD_pass_249 : decode b_MD_pass 249 = .ok (.ladd, 1) := by decide +kernel
theorem d_MD_pass_250 : decode b_MD_pass 250 = .ok (.lastore, 1) := by decide +kernel
theorem d_MD_pass_251 : decode b_MD_pass 251 = .ok (.aload_n 0, 1) := by decide +kernel
theorem d_MD_pass_252 : decode b_MD_pass 252 = .ok (.getfield 7, 3) := by decide +kernel
theorem d_MD_pass_255 : decode b_MD_pass 255 = .ok (.iload_n 1, 1) := by decide +kernel
theorem d_MD_pass_256 : decode b_MD_pass 256 = .ok (.dup2, 1) := by decide +kernel
theorem d_MD_pass_257 : decode b_MD_pass 257 = .ok (.iaload, 1) := by decide +kernel
theorem d_MD_pass_258 : decode b_MD_pass 258 = .ok (.iconst 1, 1) := by decide +kernel
theorem d_MD_pass_259 : decode b_MD_pass 259 = .ok (.iadd, 1) := by decide +kernel
theorem d_MD_pass_260 : decode b_MD_pass 260 = .ok (.iastore, 1) := by decide +kernel
theorem d_MD_pass_261 : decode b_MD_pass 261 = .ok (.aload_n 0, 1) := by decide +kernel
theorem d_MD_pass_262 : decode b_MD_pass 262 = .ok (.dup, 1) := by decide +kernel
theorem d_MD_pass_263 : decode b_MD_pass 263 = .ok (.getfield 49, 3) := by decide +kernel
theorem d_MD_pass_266 : decode b_MD_pass 266 = .ok (.iconst 1, 1) := by decide +kernel
theorem d_MD_pass_267 : decode b_MD_pass 267 = .ok (.iadd, 1) := by decide +kernel
theorem d_MD_pass_268 : decode b_MD_pass 268 = .ok (.putfield 49, 3) := by decide +kernel
theorem d_MD_pass_271 : decode b_MD_pass 271 = .ok (.aload_n 0, 1) := by decide +kernel
theorem d_MD_pass_272 : decode b_MD_pass 272 = .ok (.iconst 0, 1) := by decide +kernel
theorem d_MD_pass_273 : decode b_MD_pass 273 = .ok (.putfield 55, 3) := by decide +kernel
theorem d_MD_pass_276 : decode b_MD_pass 276 = .ok (.aload_n 0, 1) := by decide +kernel
theorem d_MD_pass_277 : decode b_MD_pass 277 = .ok (.getfield 7, 3) := by decide +kernel
theorem d_MD_pass_280 : decode b_MD_pass 280 = .ok (.iload_n 1, 1) := by decide +kernel
theorem d_MD_pass_281 : decode b_MD_pass 281 = .ok (.iaload, 1) := by decide +kernel
theorem d_MD_pass_282 : decode b_MD_pass 282 = .ok (.ireturn, 1) := by decide +kernel
theorem d_MD_out_0 : decode b_MD_out 0 = .ok (.iload_n 0, 1) := by decide +kernel
theorem d_MD_out_1 : decode b_MD_out 1 = .ok (.iload_n 1, 1) := by decide +kernel
theorem d_MD_out_2 : decode b_MD_out 2 = .ok (.if_icmp .lt 8, 3) := by decide +kernel
theorem d_MD_out_5 : decode b_MD_out 5 = .ok (.iload_n 0, 1) := by decide +kernel
theorem d_MD_out_6 : decode b_MD_out 6 = .ok (.iload_n 2, 1) := by decide +kernel
theorem d_MD_out_7 : decode b_MD_out 7 = .ok (.if_icmp .le 7, 3) := by decide +kernel
theorem d_MD_out_10 : decode b_MD_out 10 = .ok (.iconst 1, 1) := by decide +kernel
theorem d_MD_out_11 : decode b_MD_out 11 = .ok (.goto 4, 3) := by decide +kernel
theorem d_MD_out_14 : decode b_MD_out 14 = .ok (.iconst 0, 1) := by decide +kernel
theorem d_MD_out_15 : decode b_MD_out 15 = .ok (.ireturn, 1) := by decide +kernel
theorem d_MD_step_0 : decode b_MD_step 0 = .ok (.iload_n 1, 1) := by decide +kernel
theorem d_MD_step_1 : decode b_MD_step 1 = .ok (.iconst 0, 1) := by decide +kernel
theorem d_MD_step_2 : decode b_MD_step 2 = .ok (.aload_n 0, 1) := by decide +kernel
theorem d_MD_step_3 : decode b_MD_step 3 = .ok (.getfield 46, 3) := by decide +kernel
theorem d_MD_step_6 : decode b_MD_step 6 = .ok (.iconst 1, 1) := by decide +kernel
theorem d_MD_step_7 : decode b_MD_step 7 = .ok (.isub, 1) := by decide +kernel
theorem d_MD_step_8 : decode b_MD_step 8 = .ok (.invokestatic 62, 3) := by decide +kernel
theorem d_MD_step_11 : decode b_MD_step 11 = .ok (.ifCond .ne 17, 3) := by decide +kernel
theorem d_MD_step_14 : decode b_MD_step 14 = .ok (.iload_n 2, 1) := by decide +kernel
theorem d_MD_step_15 : decode b_MD_step 15 = .ok (.iconst (-1), 1) := by decide +kernel
theorem d_MD_step_16 : decode b_MD_step 16 = .ok (.if_icmp .eq 16, 3) := by decide +kernel
theorem d_MD_step_19 : decode b_MD_step 19 = .ok (.iload_n 3, 1) := by decide +kernel
theorem d_MD_step_20 : decode b_MD_step 20 = .ok (.iconst 0, 1) := by decide +kernel
theorem d_MD_step_21 : decode b_MD_step 21 = .ok (.iconst 1, 1) := by decide +kernel
theorem d_MD_step_22 : decode b_MD_step 22 = .ok (.invokestatic 62, 3) := by decide +kernel
theorem d_MD_step_25 : decode b_MD_step 25 = .ok (.ifCond .eq 7, 3) := by decide +kernel
theorem d_MD_step_28 : decode b_MD_step 28 = .ok (.iconst 1, 1) := by decide +kernel
theorem d_MD_step_29 : decode b_MD_step 29 = .ok (.goto 4, 3) := by decide +kernel
theorem d_MD_step_32 : decode b_MD_step 32 = .ok (.iconst 0, 1) := by decide +kernel
theorem d_MD_step_33 : decode b_MD_step 33 = .ok (.istore 4, 2) := by decide +kernel
theorem d_MD_step_35 : decode b_MD_step 35 = .ok (.iload 4, 2) := by decide +kernel
theorem d_MD_step_37 : decode b_MD_step 37 = .ok (.ifCond .ne 8, 3) := by decide +kernel
theorem d_MD_step_40 : decode b_MD_step 40 = .ok (.iload_n 2, 1) := by decide +kernel
theorem d_MD_step_41 : decode b_MD_step 41 = .ok (.iconst (-1), 1) := by decide +kernel
theorem d_MD_step_42 : decode b_MD_step 42 = .ok (.if_icmp .ne 7, 3) := by decide +kernel
theorem d_MD_step_45 : decode b_MD_step 45 = .ok (.iconst 0, 1) := by decide +kernel
theorem d_MD_step_46 : decode b_MD_step 46 = .ok (.goto 9, 3) := by decide +kernel
theorem d_MD_step_49 : decode b_MD_step 49 = .ok (.aload_n 0, 1) := by decide +kernel
theorem d_MD_step_50 : decode b_MD_step 50 = .ok (.iload_n 1, 1) := by decide +kernel
theorem d_MD_step_51 : decode b_MD_step 51 = .ok (.iload_n 2, 1) := by decide +kernel
theorem d_MD_step_52 : decode b_MD_step 52 = .ok (.invokevirtual 87, 3) := by decide +kernel
theorem d_MD_step_55 : decode b_MD_step 55 = .ok (.istore 5, 2) := by decide +kernel
theorem d_MD_step_57 : decode b_MD_step 57 = .ok (.aload_n 0, 1) := by decide +kernel
theorem d_MD_step_58 : decode b_MD_step 58 = .ok (.iload 4, 2) := by decide +kernel
theorem d_MD_step_60 : decode b_MD_step 60 = .ok (.iload 4, 2) := by decide +kernel
theorem d_MD_step_62 : decode b_MD_step 62 = .ok (.ifCond .ne 12, 3) := by decide +kernel
theorem d_MD_step_65 : decode b_MD_step 65 = .ok (.iload 5, 2) := by decide +kernel
theorem d_MD_step_67 : decode b_MD_step 67 = .ok (.ifCond .ge 7, 3) := by decide +kernel
theorem d_MD_step_70 : decode b_MD_step 70 = .ok (.iconst 1, 1) := by decide +kernel
theorem d_MD_step_71 : decode b_MD_step 71 = .ok (.goto 4, 3) := by decide +kernel
theorem d_MD_step_74 : decode b_MD_step 74 = .ok (.iconst 0, 1) := by decide +kernel
theorem d_MD_step_75 : decode b_MD_step 75 = .ok (.invokevirtual 58, 3) := by decide +kernel
theorem d_MD_step_78 : decode b_MD_step 78 = .ok (.ifCond .eq 5, 3) := by decide +kernel
theorem d_MD_step_81 : decode b_MD_step 81 = .ok (.iconst 0, 1) := by decide +kernel
theorem d_MD_step_82 : decode b_MD_step 82 = .ok (.ireturn, 1) := by decide +kernel
theorem d_MD_step_83 : decode b_MD_step 83 = .ok (.iload_n 2, 1) := by decide +kernel
theorem d_MD_step_84 : decode b_MD_step 84 = .ok (.iconst (-1), 1) := by decide +kernel
theorem d_MD_step_85 : decode b_MD_step 85 = .ok (.if_icmp .ne 9, 3) := by decide +kernel
theorem d_MD_step_88 : decode b_MD_step 88 = .ok (.aload_n 0, 1) := by decide +kernel
theorem d_MD_step_89 : decode b_MD_step 89 = .ok (.iload_n 1, 1) := by decide +kernel
theorem d_MD_step_90 : decode b_MD_step 90 = .ok (.invokevirtual 90, 3) := by decide +kernel
theorem d_MD_step_93 : decode b_MD_step 93 = .ok (.ireturn, 1) := by decide +kernel
theorem d_MD_step_94 : decode b_MD_step 94 = .ok (.iload_n 3, 1) := by decide +kernel
theorem d_MD_step_95 : decode b_MD_step 95 = .ok (.ifCond .ne 13, 3) := by decide +kernel
theorem d_MD_step_98 : decode b_MD_step 98 = .ok (.aload_n 0, 1) := by decide +kernel
theorem d_MD_step_99 : decode b_MD_step 99 = .ok (.iload_n 1, 1) := by decide +kernel
theorem d_MD_step_100 : decode b_MD_step 100 = .ok (.iload 5, 2) := by decide +kernel
theorem d_MD_step_102 : decode b_MD_step 102 = .ok (.invokevirtual 83, 3) := by decide +kernel
theorem d_MD_step_105 : decode b_MD_step 105 = .ok (.goto 17, 3) := by decide +kernel
theorem d_MD_step_108 : decode b_MD_step 108 = .ok (.aload_n 0, 1) := by decide +kernel
theorem d_MD_step_109 : decode b_MD_step 109 = .ok (.iload_n 1, 1) := by decide +kernel
theorem d_MD_step_110 : decode b_MD_step 110 = .ok (.iload 5, 2) := by decide +kernel
theorem d_MD_step_112 : decode b_MD_step 112 = .ok (.aload_n 0, 1) := by decide +kernel
theorem d_MD_step_113 : decode b_MD_step 113 = .ok (.iload_n 1, 1) := by decide +kernel
theorem d_MD_step_114 : decode b_MD_step 114 = .ok (.iload 5, 2) := by decide +kernel
theorem d_MD_step_116 : decode b_MD_step 116 = .ok (.invokevirtual 83, 3) := by decide +kernel
theorem d_MD_step_119 : decode b_MD_step 119 = .ok (.invokevirtual 75, 3) := by decide +kernel
theorem d_MD_step_122 : decode b_MD_step 122 = .ok (.ireturn, 1) := by decide +kernel
theorem d_MD_beginOf_0 : decode b_MD_beginOf 0 = .ok (.iconst 0, 1) := by decide +kernel
theorem d_MD_beginOf_1 : decode b_MD_beginOf 1 = .ok (.istore_n 3, 1) := by decide +kernel
theorem d_MD_beginOf_2 : decode b_MD_beginOf 2 = .ok (.iconst 0, 1) := by decide +kernel
theorem d_MD_beginOf_3 : decode b_MD_beginOf 3 = .ok (.istore 4, 2) := by decide +kernel
theorem d_MD_beginOf_5 : decode b_MD_beginOf 5 = .ok (.iload 4, 2) := by decide +kernel
theorem d_MD_beginOf_7 : decode b_MD_beginOf 7 = .ok (.iload_n 2, 1) := by decide +kernel
theorem d_MD_beginOf_8 : decode b_MD_beginOf 8 = .ok (.if_icmp .ge 25, 3) := by decide +kernel
theorem d_MD_beginOf_11 : decode b_MD_beginOf 11 = .ok (.aload_n 0, 1) := by decide +kernel
theorem d_MD_beginOf_12 : decode b_MD_beginOf 12 = .ok (.iload_n 1, 1) := by decide +kernel
theorem d_MD_beginOf_13 : decode b_MD_beginOf 13 = .ok (.iload_n 3, 1) := by decide +kernel
theorem d_MD_beginOf_14 : decode b_MD_beginOf 14 = .ok (.invokevirtual 83, 3) := by decide +kernel
theorem d_MD_beginOf_17 : decode b_MD_beginOf 17 = .ok (.ifCond .lt 16, 3) := by decide +kernel
theorem d_MD_beginOf_20 : decode b_MD_beginOf 20 = .ok (.aload_n 0, 1) := by decide +kernel
theorem d_MD_beginOf_21 : decode b_MD_beginOf 21 = .ok (.iload_n 1, 1) := by decide +kernel
theorem d_MD_beginOf_22 : decode b_MD_beginOf 22 = .ok (.iload_n 3, 1) := by decide +kernel
theorem d_MD_beginOf_23 : decode b_MD_beginOf 23 = .ok (.invokevirtual 83, 3) := by decide +kernel
theorem d_MD_beginOf_26 : decode b_MD_beginOf 26 = .ok (.istore_n 3, 1) := by decide +kernel
theorem d_MD_beginOf_27 : decode b_MD_beginOf 27 = .ok (.iinc 4 1, 3) := by decide +kernel
theorem d_MD_beginOf_30 : decode b_MD_beginOf 30 = .ok (.goto (-25), 3) := by decide +kernel
theorem d_MD_beginOf_33 : decode b_MD_beginOf 33 = .ok (.iload_n 2, 1) := by decide +kernel
theorem d_MD_beginOf_34 : decode b_MD_beginOf 34 = .ok (.ifCond .lt 22, 3) := by decide +kernel
theorem d_MD_beginOf_37 : decode b_MD_beginOf 37 = .ok (.iload 4, 2) := by decide +kernel
theorem d_MD_beginOf_39 : decode b_MD_beginOf 39 = .ok (.iload_n 2, 1) := by decide +kernel
theorem d_MD_beginOf_40 : decode b_MD_beginOf 40 = .ok (.if_icmp .ne 16, 3) := by decide +kernel
theorem d_MD_beginOf_43 : decode b_MD_beginOf 43 = .ok (.aload_n 0, 1) := by decide +kernel
theorem d_MD_beginOf_44 : decode b_MD_beginOf 44 = .ok (.iload_n 1, 1) := by decide +kernel
theorem d_MD_beginOf_45 : decode b_MD_beginOf 45 = .ok (.iload_n 3, 1) := by decide +kernel
theorem d_MD_beginOf_46 : decode b_MD_beginOf 46 = .ok (.invokevirtual 83, 3) := by decide +kernel
theorem d_MD_beginOf_49 : decode b_MD_beginOf 49 = .ok (.ifCond .lt 7, 3) := by decide +kernel
theorem d_MD_beginOf_52 : decode b_MD_beginOf 52 = .ok (.iload_n 3, 1) := by decide +kernel
theorem d_MD_beginOf_53 : decode b_MD_beginOf 53 = .ok (.goto 4, 3) := by decide +kernel
theorem d_MD_beginOf_56 : decode b_MD_beginOf 56 = .ok (.iconst (-1), 1) := by decide +kernel
theorem d_MD_beginOf_57 : decode b_MD_beginOf 57 = .ok (.ireturn, 1) := by decide +kernel
theorem d_MD_stepFrom_0 : decode b_MD_stepFrom 0 = .ok (.iconst (-1), 1) := by decide +kernel
theorem d_MD_stepFrom_1 : decode b_MD_stepFrom 1 = .ok (.istore_n 3, 1) := by decide +kernel
theorem d_MD_stepFrom_2 : decode b_MD_stepFrom 2 = .ok (.iload_n 2, 1) := by decide +kernel
theorem d_MD_stepFrom_3 : decode b_MD_stepFrom 3 = .ok (.iconst 1, 1) := by decide +kernel
theorem d_MD_stepFrom_4 : decode b_MD_stepFrom 4 = .ok (.iadd, 1) := by decide +kernel
theorem d_MD_stepFrom_5 : decode b_MD_stepFrom 5 = .ok (.istore 4, 2) := by decide +kernel
theorem d_MD_stepFrom_7 : decode b_MD_stepFrom 7 = .ok (.iload 4, 2) := by decide +kernel
theorem d_MD_stepFrom_9 : decode b_MD_stepFrom 9 = .ok (.aload_n 0, 1) := by decide +kernel
theorem d_MD_stepFrom_10 : decode b_MD_stepFrom 10 = .ok (.getfield 7, 3) := by decide +kernel
theorem d_MD_stepFrom_13 : decode b_MD_stepFrom 13 = .ok (.iload_n 1, 1) := by decide +kernel
theorem d_MD_stepFrom_14 : decode b_MD_stepFrom 14 = .ok (.iaload, 1) := by decide +kernel
theorem d_MD_stepFrom_15 : decode b_MD_stepFrom 15 = .ok (.if_icmp .gt 68, 3) := by decide +kernel
theorem d_MD_stepFrom_18 : decode b_MD_stepFrom 18 = .ok (.aload_n 0, 1) := by decide +kernel
theorem d_MD_stepFrom_19 : decode b_MD_stepFrom 19 = .ok (.iload_n 1, 1) := by decide +kernel
theorem d_MD_stepFrom_20 : decode b_MD_stepFrom 20 = .ok (.iload_n 2, 1) := by decide +kernel
theorem d_MD_stepFrom_21 : decode b_MD_stepFrom 21 = .ok (.iload 4, 2) := by decide +kernel
theorem d_MD_stepFrom_23 : decode b_MD_stepFrom 23 = .ok (.invokevirtual 71, 3) := by decide +kernel
theorem d_MD_stepFrom_26 : decode b_MD_stepFrom 26 = .ok (.lconst 0, 1) := by decide +kernel
theorem d_MD_stepFrom_27 : decode b_MD_stepFrom 27 = .ok (.lcmp, 1) := by decide +kernel
theorem d_MD_stepFrom_28 : decode b_MD_stepFrom 28 = .ok (.ifCond .gt 6, 3) := by decide +kernel
theorem d_MD_stepFrom_31 : decode b_MD_stepFrom 31 = .ok (.goto 46, 3) := by decide +kernel
theorem d_MD_stepFrom_34 : decode b_MD_stepFrom 34 = .ok (.iload_n 3, 1) := by decide +kernel
theorem d_MD_stepFrom_35 : decode b_MD_stepFrom 35 = .ok (.ifCond .lt 39, 3) := by decide +kernel
theorem d_MD_stepFrom_38 : decode b_MD_stepFrom 38 = .ok (.aload_n 0, 1) := by decide +kernel
theorem d_MD_stepFrom_39 : decode b_MD_stepFrom 39 = .ok (.iload_n 1, 1) := by decide +kernel
theorem d_MD_stepFrom_40 : decode b_MD_stepFrom 40 = .ok (.iload_n 2, 1) := by decide +kernel
theorem d_MD_stepFrom_41 : decode b_MD_stepFrom 41 = .ok (.iload 4, 2) := by decide +kernel
theorem d_MD_stepFrom_43 : decode b_MD_stepFrom 43 = .ok (.invokevirtual 71, 3) := by decide +kernel
theorem d_MD_stepFrom_46 : decode b_MD_stepFrom 46 = .ok (.aload_n 0, 1) := by decide +kernel
theorem d_MD_stepFrom_47 : decode b_MD_stepFrom 47 = .ok (.iload_n 1, 1) := by decide +kernel
theorem d_MD_stepFrom_48 : decode b_MD_stepFrom 48 = .ok (.iload_n 2, 1) := by decide +kernel
theorem d_MD_stepFrom_49 : decode b_MD_stepFrom 49 = .ok (.iload 4, 2) := by decide +kernel
theorem d_MD_stepFrom_51 : decode b_MD_stepFrom 51 = .ok (.invokevirtual 75, 3) := by decide +kernel
theorem d_MD_stepFrom_54 : decode b_MD_stepFrom 54 = .ok (.aload_n 0, 1) := by decide +kernel
theorem d_MD_stepFrom_55 : decode b_MD_stepFrom 55 = .ok (.iload_n 1, 1) := by decide +kernel
theorem d_MD_stepFrom_56 : decode b_MD_stepFrom 56 = .ok (.iload_n 2, 1) := by decide +kernel
theorem d_MD_stepFrom_57 : decode b_MD_stepFrom 57 = .ok (.iload_n 3, 1) := by decide +kernel
theorem d_MD_stepFrom_58 : decode b_MD_stepFrom 58 = .ok (.invokevirtual 71, 3) := by decide +kernel
theorem d_MD_stepFrom_61 : decode b_MD_stepFrom 61 = .ok (.aload_n 0, 1) := by decide +kernel
theorem d_MD_stepFrom_62 : decode b_MD_stepFrom 62 = .ok (.iload_n 1, 1) := by decide +kernel
theorem d_MD_stepFrom_63 : decode b_MD_stepFrom 63 = .ok (.iload_n 2, 1) := by decide +kernel
theorem d_MD_stepFrom_64 : decode b_MD_stepFrom 64 = .ok (.iload_n 3, 1) := by decide +kernel
theorem d_MD_stepFrom_65 : decode b_MD_stepFrom 65 = .ok (.invokevirtual 75, 3) := by decide +kernel
theorem d_MD_stepFrom_68 : decode b_MD_stepFrom 68 = .ok (.invokestatic 79, 3) := by decide +kernel
theorem d_MD_stepFrom_71 : decode b_MD_stepFrom 71 = .ok (.ifCond .lt 6, 3) := by decide +kernel
theorem d_MD_stepFrom_74 : decode b_MD_stepFrom 74 = .ok (.iload 4, 2) := by decide +kernel
theorem d_MD_stepFrom_76 : decode b_MD_stepFrom 76 = .ok (.istore_n 3, 1) := by decide +kernel
theorem d_MD_stepFrom_77 : decode b_MD_stepFrom 77 = .ok (.iinc 4 1, 3) := by decide +kernel
theorem d_MD_stepFrom_80 : decode b_MD_stepFrom 80 = .ok (.goto (-73), 3) := by decide +kernel
theorem d_MD_stepFrom_83 : decode b_MD_stepFrom 83 = .ok (.iload_n 3, 1) := by decide +kernel
theorem d_MD_stepFrom_84 : decode b_MD_stepFrom 84 = .ok (.ireturn, 1) := by decide +kernel
theorem d_MD_gainOf_0 : decode b_MD_gainOf 0 = .ok (.aload_n 0, 1) := by decide +kernel
theorem d_MD_gainOf_1 : decode b_MD_gainOf 1 = .ok (.getfield 19, 3) := by decide +kernel
theorem d_MD_gainOf_4 : decode b_MD_gainOf 4 = .ok (.aload_n 0, 1) := by decide +kernel
theorem d_MD_gainOf_5 : decode b_MD_gainOf 5 = .ok (.getfield 13, 3) := by decide +kernel
theorem d_MD_gainOf_8 : decode b_MD_gainOf 8 = .ok (.iload_n 1, 1) := by decide +kernel
theorem d_MD_gainOf_9 : decode b_MD_gainOf 9 = .ok (.iaload, 1) := by decide +kernel
theorem d_MD_gainOf_10 : decode b_MD_gainOf 10 = .ok (.iload_n 3, 1) := by decide +kernel
theorem d_MD_gainOf_11 : decode b_MD_gainOf 11 = .ok (.iadd, 1) := by decide +kernel
theorem d_MD_gainOf_12 : decode b_MD_gainOf 12 = .ok (.laload, 1) := by decide +kernel
theorem d_MD_gainOf_13 : decode b_MD_gainOf 13 = .ok (.aload_n 0, 1) := by decide +kernel
theorem d_MD_gainOf_14 : decode b_MD_gainOf 14 = .ok (.getfield 19, 3) := by decide +kernel
theorem d_MD_gainOf_17 : decode b_MD_gainOf 17 = .ok (.aload_n 0, 1) := by decide +kernel
theorem d_MD_gainOf_18 : decode b_MD_gainOf 18 = .ok (.getfield 13, 3) := by decide +kernel
theorem d_MD_gainOf_21 : decode b_MD_gainOf 21 = .ok (.iload_n 1, 1) := by decide +kernel
theorem d_MD_gainOf_22 : decode b_MD_gainOf 22 = .ok (.iaload, 1) := by decide +kernel
theorem d_MD_gainOf_23 : decode b_MD_gainOf 23 = .ok (.iload_n 2, 1) := by decide +kernel
theorem d_MD_gainOf_24 : decode b_MD_gainOf 24 = .ok (.iadd, 1) := by decide +kernel
theorem d_MD_gainOf_25 : decode b_MD_gainOf 25 = .ok (.laload, 1) := by decide +kernel
theorem d_MD_gainOf_26 : decode b_MD_gainOf 26 = .ok (.lsub, 1) := by decide +kernel
theorem d_MD_gainOf_27 : decode b_MD_gainOf 27 = .ok (.lreturn, 1) := by decide +kernel
theorem d_MD_bytesOf_0 : decode b_MD_bytesOf 0 = .ok (.aload_n 0, 1) := by decide +kernel
theorem d_MD_bytesOf_1 : decode b_MD_bytesOf 1 = .ok (.getfield 16, 3) := by decide +kernel
theorem d_MD_bytesOf_4 : decode b_MD_bytesOf 4 = .ok (.aload_n 0, 1) := by decide +kernel
theorem d_MD_bytesOf_5 : decode b_MD_bytesOf 5 = .ok (.getfield 13, 3) := by decide +kernel
theorem d_MD_bytesOf_8 : decode b_MD_bytesOf 8 = .ok (.iload_n 1, 1) := by decide +kernel
theorem d_MD_bytesOf_9 : decode b_MD_bytesOf 9 = .ok (.iaload, 1) := by decide +kernel
theorem d_MD_bytesOf_10 : decode b_MD_bytesOf 10 = .ok (.iload_n 3, 1) := by decide +kernel
theorem d_MD_bytesOf_11 : decode b_MD_bytesOf 11 = .ok (.iadd, 1) := by decide +kernel
theorem d_MD_bytesOf_12 : decode b_MD_bytesOf 12 = .ok (.iaload, 1) := by decide +kernel
theorem d_MD_bytesOf_13 : decode b_MD_bytesOf 13 = .ok (.aload_n 0, 1) := by decide +kernel
theorem d_MD_bytesOf_14 : decode b_MD_bytesOf 14 = .ok (.getfield 16, 3) := by decide +kernel
theorem d_MD_bytesOf_17 : decode b_MD_bytesOf 17 = .ok (.aload_n 0, 1) := by decide +kernel
theorem d_MD_bytesOf_18 : decode b_MD_bytesOf 18 = .ok (.getfield 13, 3) := by decide +kernel
theorem d_MD_bytesOf_21 : decode b_MD_bytesOf 21 = .ok (.iload_n 1, 1) := by decide +kernel
theorem d_MD_bytesOf_22 : decode b_MD_bytesOf 22 = .ok (.iaload, 1) := by decide +kernel
theorem d_MD_bytesOf_23 : decode b_MD_bytesOf 23 = .ok (.iload_n 2, 1) := by decide +kernel
theorem d_MD_bytesOf_24 : decode b_MD_bytesOf 24 = .ok (.iadd, 1) := by decide +kernel
theorem d_MD_bytesOf_25 : decode b_MD_bytesOf 25 = .ok (.iaload, 1) := by decide +kernel
theorem d_MD_bytesOf_26 : decode b_MD_bytesOf 26 = .ok (.isub, 1) := by decide +kernel
theorem d_MD_bytesOf_27 : decode b_MD_bytesOf 27 = .ok (.ireturn, 1) := by decide +kernel
theorem d_MD_compare_0 : decode b_MD_compare 0 = .ok (.iload_n 2, 1) := by decide +kernel
theorem d_MD_compare_1 : decode b_MD_compare 1 = .ok (.ifCond .eq 8, 3) := by decide +kernel
theorem d_MD_compare_4 : decode b_MD_compare 4 = .ok (.iload 5, 2) := by decide +kernel
theorem d_MD_compare_6 : decode b_MD_compare 6 = .ok (.ifCond .ne 23, 3) := by decide +kernel
theorem d_MD_compare_9 : decode b_MD_compare 9 = .ok (.iload_n 2, 1) := by decide +kernel
theorem d_MD_compare_10 : decode b_MD_compare 10 = .ok (.iload 5, 2) := by decide +kernel
theorem d_MD_compare_12 : decode b_MD_compare 12 = .ok (.if_icmp .ne 7, 3) := by decide +kernel
theorem d_MD_compare_15 : decode b_MD_compare 15 = .ok (.iconst 0, 1) := by decide +kernel
theorem d_MD_compare_16 : decode b_MD_compare 16 = .ok (.goto 12, 3) := by decide +kernel
theorem d_MD_compare_19 : decode b_MD_compare 19 = .ok (.iload_n 2, 1) := by decide +kernel
theorem d_MD_compare_20 : decode b_MD_compare 20 = .ok (.ifCond .ne 7, 3) := by decide +kernel
theorem d_MD_compare_23 : decode b_MD_compare 23 = .ok (.iconst 1, 1) := by decide +kernel
theorem d_MD_compare_24 : decode b_MD_compare 24 = .ok (.goto 4, 3) := by decide +kernel
theorem d_MD_compare_27 : decode b_MD_compare 27 = .ok (.iconst (-1), 1) := by decide +kernel
theorem d_MD_compare_28 : decode b_MD_compare 28 = .ok (.ireturn, 1) := by decide +kernel
theorem d_MD_compare_29 : decode b_MD_compare 29 = .ok (.lload_n 0, 1) := by decide +kernel
theorem d_MD_compare_30 : decode b_MD_compare 30 = .ok (.iload 5, 2) := by decide +kernel
theorem d_MD_compare_32 : decode b_MD_compare 32 = .ok (.i2l, 1) := by decide +kernel
theorem d_MD_compare_33 : decode b_MD_compare 33 = .ok (.lmul, 1) := by decide +kernel
theorem d_MD_compare_34 : decode b_MD_compare 34 = .ok (.lstore 6, 2) := by decide +kernel
theorem d_MD_compare_36 : decode b_MD_compare 36 = .ok (.lload_n 3, 1) := by decide +kernel
theorem d_MD_compare_37 : decode b_MD_compare 37 = .ok (.iload_n 2, 1) := by decide +kernel
theorem d_MD_compare_38 : decode b_MD_compare 38 = .ok (.i2l, 1) := by decide +kernel
theorem d_MD_compare_39 : decode b_MD_compare 39 = .ok (.lmul, 1) := by decide +kernel
theorem d_MD_compare_40 : decode b_MD_compare 40 = .ok (.lstore 8, 2) := by decide +kernel
theorem d_MD_compare_42 : decode b_MD_compare 42 = .ok (.lload 6, 2) := by decide +kernel
theorem d_MD_compare_44 : decode b_MD_compare 44 = .ok (.lload 8, 2) := by decide +kernel
theorem d_MD_compare_46 : decode b_MD_compare 46 = .ok (.lcmp, 1) := by decide +kernel
theorem d_MD_compare_47 : decode b_MD_compare 47 = .ok (.ifCond .ge 7, 3) := by decide +kernel
theorem d_MD_compare_50 : decode b_MD_compare 50 = .ok (.iconst (-1), 1) := by decide +kernel
theorem d_MD_compare_51 : decode b_MD_compare 51 = .ok (.goto 16, 3) := by decide +kernel
theorem d_MD_compare_54 : decode b_MD_compare 54 = .ok (.lload 6, 2) := by decide +kernel
theorem d_MD_compare_56 : decode b_MD_compare 56 = .ok (.lload 8, 2) := by decide +kernel
theorem d_MD_compare_58 : decode b_MD_compare 58 = .ok (.lcmp, 1) := by decide +kernel
theorem d_MD_compare_59 : decode b_MD_compare 59 = .ok (.ifCond .le 7, 3) := by decide +kernel
theorem d_MD_compare_62 : decode b_MD_compare 62 = .ok (.iconst 1, 1) := by decide +kernel
theorem d_MD_compare_63 : decode b_MD_compare 63 = .ok (.goto 4, 3) := by decide +kernel
theorem d_MD_compare_66 : decode b_MD_compare 66 = .ok (.iconst 0, 1) := by decide +kernel
theorem d_MD_compare_67 : decode b_MD_compare 67 = .ok (.ireturn, 1) := by decide +kernel
theorem d_MD_countOf_0 : decode b_MD_countOf 0 = .ok (.iconst 0, 1) := by decide +kernel
theorem d_MD_countOf_1 : decode b_MD_countOf 1 = .ok (.istore_n 2, 1) := by decide +kernel
theorem d_MD_countOf_2 : decode b_MD_countOf 2 = .ok (.aload_n 0, 1) := by decide +kernel
theorem d_MD_countOf_3 : decode b_MD_countOf 3 = .ok (.iload_n 1, 1) := by decide +kernel
theorem d_MD_countOf_4 : decode b_MD_countOf 4 = .ok (.iconst 0, 1) := by decide +kernel
theorem d_MD_countOf_5 : decode b_MD_countOf 5 = .ok (.invokevirtual 83, 3) := by decide +kernel
theorem d_MD_countOf_8 : decode b_MD_countOf 8 = .ok (.istore_n 3, 1) := by decide +kernel
theorem d_MD_countOf_9 : decode b_MD_countOf 9 = .ok (.iload_n 3, 1) := by decide +kernel
theorem d_MD_countOf_10 : decode b_MD_countOf 10 = .ok (.ifCond .lt 16, 3) := by decide +kernel
theorem d_MD_countOf_13 : decode b_MD_countOf 13 = .ok (.iinc 2 1, 3) := by decide +kernel
theorem d_MD_countOf_16 : decode b_MD_countOf 16 = .ok (.aload_n 0, 1) := by decide +kernel
theorem d_MD_countOf_17 : decode b_MD_countOf 17 = .ok (.iload_n 1, 1) := by decide +kernel
theorem d_MD_countOf_18 : decode b_MD_countOf 18 = .ok (.iload_n 3, 1) := by decide +kernel
theorem d_MD_countOf_19 : decode b_MD_countOf 19 = .ok (.invokevirtual 83, 3) := by decide +kernel
theorem d_MD_countOf_22 : decode b_MD_countOf 22 = .ok (.istore_n 3, 1) := by decide +kernel
theorem d_MD_countOf_23 : decode b_MD_countOf 23 = .ok (.goto (-14), 3) := by decide +kernel
theorem d_MD_countOf_26 : decode b_MD_countOf 26 = .ok (.iload_n 2, 1) := by decide +kernel
theorem d_MD_countOf_27 : decode b_MD_countOf 27 = .ok (.ireturn, 1) := by decide +kernel
theorem d_MD_gain_0 : decode b_MD_gain 0 = .ok (.iload_n 1, 1) := by decide +kernel
theorem d_MD_gain_1 : decode b_MD_gain 1 = .ok (.iconst 0, 1) := by decide +kernel
theorem d_MD_gain_2 : decode b_MD_gain 2 = .ok (.aload_n 0, 1) := by decide +kernel
theorem d_MD_gain_3 : decode b_MD_gain 3 = .ok (.getfield 46, 3) := by decide +kernel
theorem d_MD_gain_6 : decode b_MD_gain 6 = .ok (.iconst 1, 1) := by decide +kernel
theorem d_MD_gain_7 : decode b_MD_gain 7 = .ok (.isub, 1) := by decide +kernel
theorem d_MD_gain_8 : decode b_MD_gain 8 = .ok (.invokestatic 62, 3) := by decide +kernel
theorem d_MD_gain_11 : decode b_MD_gain 11 = .ok (.istore_n 3, 1) := by decide +kernel
theorem d_MD_gain_12 : decode b_MD_gain 12 = .ok (.iload_n 3, 1) := by decide +kernel
theorem d_MD_gain_13 : decode b_MD_gain 13 = .ok (.ifCond .eq 7, 3) := by decide +kernel
theorem d_MD_gain_16 : decode b_MD_gain 16 = .ok (.iconst 0, 1) := by decide +kernel
theorem d_MD_gain_17 : decode b_MD_gain 17 = .ok (.goto 9, 3) := by decide +kernel
theorem d_MD_gain_20 : decode b_MD_gain 20 = .ok (.aload_n 0, 1) := by decide +kernel
theorem d_MD_gain_21 : decode b_MD_gain 21 = .ok (.iload_n 1, 1) := by decide +kernel
theorem d_MD_gain_22 : decode b_MD_gain 22 = .ok (.iload_n 2, 1) := by decide +kernel
theorem d_MD_gain_23 : decode b_MD_gain 23 = .ok (.invokevirtual 87, 3) := by decide +kernel
theorem d_MD_gain_26 : decode b_MD_gain 26 = .ok (.istore 4, 2) := by decide +kernel
theorem d_MD_gain_28 : decode b_MD_gain 28 = .ok (.aload_n 0, 1) := by decide +kernel
theorem d_MD_gain_29 : decode b_MD_gain 29 = .ok (.iload_n 3, 1) := by decide +kernel
theorem d_MD_gain_30 : decode b_MD_gain 30 = .ok (.iload_n 3, 1) := by decide +kernel
theorem d_MD_gain_31 : decode b_MD_gain 31 = .ok (.ifCond .ne 12, 3) := by decide +kernel
theorem d_MD_gain_34 : decode b_MD_gain 34 = .ok (.iload 4, 2) := by decide +kernel
theorem d_MD_gain_36 : decode b_MD_gain 36 = .ok (.ifCond .ge 7, 3) := by decide +kernel
theorem d_MD_gain_39 : decode b_MD_gain 39 = .ok (.iconst 1, 1) := by decide +kernel
theorem d_MD_gain_40 : decode b_MD_gain 40 = .ok (.goto 4, 3) := by decide +kernel
theorem d_MD_gain_43 : decode b_MD_gain 43 = .ok (.iconst 0, 1) := by decide +kernel
theorem d_MD_gain_44 : decode b_MD_gain 44 = .ok (.invokevirtual 58, 3) := by decide +kernel
theorem d_MD_gain_47 : decode b_MD_gain 47 = .ok (.ifCond .eq 5, 3) := by decide +kernel
theorem d_MD_gain_50 : decode b_MD_gain 50 = .ok (.lconst 0, 1) := by decide +kernel
theorem d_MD_gain_51 : decode b_MD_gain 51 = .ok (.lreturn, 1) := by decide +kernel
theorem d_MD_gain_52 : decode b_MD_gain 52 = .ok (.aload_n 0, 1) := by decide +kernel
theorem d_MD_gain_53 : decode b_MD_gain 53 = .ok (.iload_n 1, 1) := by decide +kernel
theorem d_MD_gain_54 : decode b_MD_gain 54 = .ok (.iload 4, 2) := by decide +kernel
theorem d_MD_gain_56 : decode b_MD_gain 56 = .ok (.aload_n 0, 1) := by decide +kernel
theorem d_MD_gain_57 : decode b_MD_gain 57 = .ok (.iload_n 1, 1) := by decide +kernel
theorem d_MD_gain_58 : decode b_MD_gain 58 = .ok (.iload 4, 2) := by decide +kernel
theorem d_MD_gain_60 : decode b_MD_gain 60 = .ok (.invokevirtual 83, 3) := by decide +kernel
theorem d_MD_gain_63 : decode b_MD_gain 63 = .ok (.invokevirtual 71, 3) := by decide +kernel
theorem d_MD_gain_66 : decode b_MD_gain 66 = .ok (.lreturn, 1) := by decide +kernel
theorem d_MD_layer_0 : decode b_MD_layer 0 = .ok (.iload_n 1, 1) := by decide +kernel
theorem d_MD_layer_1 : decode b_MD_layer 1 = .ok (.iconst (-1), 1) := by decide +kernel
theorem d_MD_layer_2 : decode b_MD_layer 2 = .ok (.if_icmp .ge 7, 3) := by decide +kernel
theorem d_MD_layer_5 : decode b_MD_layer 5 = .ok (.iconst 1, 1) := by decide +kernel
theorem d_MD_layer_6 : decode b_MD_layer 6 = .ok (.goto 4, 3) := by decide +kernel
theorem d_MD_layer_9 : decode b_MD_layer 9 = .ok (.iconst 0, 1) := by decide +kernel
theorem d_MD_layer_10 : decode b_MD_layer 10 = .ok (.istore_n 2, 1) := by decide +kernel
theorem d_MD_layer_11 : decode b_MD_layer 11 = .ok (.aload_n 0, 1) := by decide +kernel
theorem d_MD_layer_12 : decode b_MD_layer 12 = .ok (.iload_n 2, 1) := by decide +kernel
theorem d_MD_layer_13 : decode b_MD_layer 13 = .ok (.iload_n 2, 1) := by decide +kernel
theorem d_MD_layer_14 : decode b_MD_layer 14 = .ok (.ifCond .ne 16, 3) := by decide +kernel
theorem d_MD_layer_17 : decode b_MD_layer 17 = .ok (.aload_n 0, 1) := by decide +kernel
theorem d_MD_layer_18 : decode b_MD_layer 18 = .ok (.getfield 55, 3) := by decide +kernel
theorem d_MD_layer_21 : decode b_MD_layer 21 = .ok (.bipush 64, 2) := by decide +kernel
theorem d_MD_layer_23 : decode b_MD_layer 23 = .ok (.if_icmp .ne 7, 3) := by decide +kernel
theorem d_MD_layer_26 : decode b_MD_layer 26 = .ok (.iconst 1, 1) := by decide +kernel
theorem d_MD_layer_27 : decode b_MD_layer 27 = .ok (.goto 4, 3) := by decide +kernel
theorem d_MD_layer_30 : decode b_MD_layer 30 = .ok (.iconst 0, 1) := by decide +kernel
theorem d_MD_layer_31 : decode b_MD_layer 31 = .ok (.invokevirtual 58, 3) := by decide +kernel
theorem d_MD_layer_34 : decode b_MD_layer 34 = .ok (.ifCond .eq 5, 3) := by decide +kernel
theorem d_MD_layer_37 : decode b_MD_layer 37 = .ok (.iconst 0, 1) := by decide +kernel
theorem d_MD_layer_38 : decode b_MD_layer 38 = .ok (.ireturn, 1) := by decide +kernel
theorem d_MD_layer_39 : decode b_MD_layer 39 = .ok (.aload_n 0, 1) := by decide +kernel
theorem d_MD_layer_40 : decode b_MD_layer 40 = .ok (.getfield 30, 3) := by decide +kernel
theorem d_MD_layer_43 : decode b_MD_layer 43 = .ok (.aload_n 0, 1) := by decide +kernel
theorem d_MD_layer_44 : decode b_MD_layer 44 = .ok (.getfield 55, 3) := by decide +kernel
theorem d_MD_layer_47 : decode b_MD_layer 47 = .ok (.ldc2_w 101, 3) := by decide +kernel
theorem d_MD_layer_50 : decode b_MD_layer 50 = .ok (.lastore, 1) := by decide +kernel
theorem d_MD_layer_51 : decode b_MD_layer 51 = .ok (.aload_n 0, 1) := by decide +kernel
theorem d_MD_layer_52 : decode b_MD_layer 52 = .ok (.getfield 33, 3) := by decide +kernel
theorem d_MD_layer_55 : decode b_MD_layer 55 = .ok (.aload_n 0, 1) := by decide +kernel
theorem d_MD_layer_56 : decode b_MD_layer 56 = .ok (.getfield 55, 3) := by decide +kernel
theorem d_MD_layer_59 : decode b_MD_layer 59 = .ok (.iconst (-1), 1) := by decide +kernel
theorem d_MD_layer_60 : decode b_MD_layer 60 = .ok (.iastore, 1) := by decide +kernel
theorem d_MD_layer_61 : decode b_MD_layer 61 = .ok (.iconst 0, 1) := by decide +kernel
theorem d_MD_layer_62 : decode b_MD_layer 62 = .ok (.istore_n 3, 1) := by decide +kernel
theorem d_MD_layer_63 : decode b_MD_layer 63 = .ok (.iload_n 3, 1) := by decide +kernel
theorem d_MD_layer_64 : decode b_MD_layer 64 = .ok (.aload_n 0, 1) := by decide +kernel
theorem d_MD_layer_65 : decode b_MD_layer 65 = .ok (.getfield 46, 3) := by decide +kernel
theorem d_MD_layer_68 : decode b_MD_layer 68 = .ok (.if_icmp .ge 83, 3) := by decide +kernel
theorem d_MD_layer_71 : decode b_MD_layer 71 = .ok (.aload_n 0, 1) := by decide +kernel
theorem d_MD_layer_72 : decode b_MD_layer 72 = .ok (.getfield 36, 3) := by decide +kernel
theorem d_MD_layer_75 : decode b_MD_layer 75 = .ok (.iload_n 3, 1) := by decide +kernel
theorem d_MD_layer_76 : decode b_MD_layer 76 = .ok (.iload_n 1, 1) := by decide +kernel
theorem d_MD_layer_77 : decode b_MD_layer 77 = .ok (.iconst (-1), 1) := by decide +kernel
theorem d_MD_layer_78 : decode b_MD_layer 78 = .ok (.if_icmp .ne 12, 3) := by decide +kernel
theorem d_MD_layer_81 : decode b_MD_layer 81 = .ok (.aload_n 0, 1) := by decide +kernel
theorem d_MD_layer_82 : decode b_MD_layer 82 = .ok (.getfield 7, 3) := by decide +kernel
theorem d_MD_layer_85 : decode b_MD_layer 85 = .ok (.iload_n 3, 1) := by decide +kernel
theorem d_MD_layer_86 : decode b_MD_layer 86 = .ok (.iaload, 1) := by decide +kernel
theorem d_MD_layer_87 : decode b_MD_layer 87 = .ok (.goto 31, 3) := by decide +kernel
theorem d_MD_layer_90 : decode b_MD_layer 90 = .ok (.aload_n 0, 1) := by decide +kernel
theorem d_MD_layer_91 : decode b_MD_layer 91 = .ok (.getfield 55, 3) := by decide +kernel
theorem d_MD_layer_94 : decode b_MD_layer 94 = .ok (.ifCond .ne 7, 3) := by decide +kernel
theorem d_MD_layer_97 : decode b_MD_layer 97 = .ok (.iconst 0, 1) := by decide +kernel
theorem d_MD_layer_98 : decode b_MD_layer 98 = .ok (.goto 20, 3) := by decide +kernel
theorem d_MD_layer_101 : decode b_MD_layer 101 = .ok (.aload_n 0, 1) := by decide +kernel
theorem d_MD_layer_102 : decode b_MD_layer 102 = .ok (.getfield 24, 3) := by decide +kernel
theorem d_MD_layer_105 : decode b_MD_layer 105 = .ok (.sipush 1024, 3) := by decide +kernel
theorem d_MD_layer_108 : decode b_MD_layer 108 = .ok (.aload_n 0, 1) := by decide +kernel
theorem d_MD_layer_109 : decode b_MD_layer 109 = .ok (.getfield 55, 3) := by decide +kernel
theorem d_MD_layer_112 : decode b_MD_layer 112 = .ok (.iconst 1, 1) := by decide +kernel
theorem d_MD_layer_113 : decode b_MD_layer 113 = .ok (.isub, 1) := by decide +kernel
theorem d_MD_layer_114 : decode b_MD_layer 114 = .ok (.imul, 1) := by decide +kernel
theorem d_MD_layer_115 : decode b_MD_layer 115 = .ok (.iload_n 3, 1) := by decide +kernel
theorem d_MD_layer_116 : decode b_MD_layer 116 = .ok (.iadd, 1) := by decide +kernel
theorem d_MD_layer_117 : decode b_MD_layer 117 = .ok (.iaload, 1) := by decide +kernel
theorem d_MD_layer_118 : decode b_MD_layer 118 = .ok (.iastore, 1) := by decide +kernel
theorem d_MD_layer_119 : decode b_MD_layer 119 = .ok (.aload_n 0, 1) := by decide +kernel
theorem d_MD_layer_120 : decode b_MD_layer 120 = .ok (.getfield 39, 3) := by decide +kernel
theorem d_MD_layer_123 : decode b_MD_layer 123 = .ok (.iload_n 3, 1) := by decide +kernel
theorem d_MD_layer_124 : decode b_MD_layer 124 = .ok (.iload_n 1, 1) := by decide +kernel
theorem d_MD_layer_125 : decode b_MD_layer 125 = .ok (.iconst (-1), 1) := by decide +kernel
theorem d_MD_layer_126 : decode b_MD_layer 126 = .ok (.if_icmp .ne 7, 3) := by decide +kernel
theorem d_MD_layer_129 : decode b_MD_layer 129 = .ok (.iconst (-1), 1) := by decide +kernel
theorem d_MD_layer_130 : decode b_MD_layer 130 = .ok (.goto 14, 3) := by decide +kernel
theorem d_MD_layer_133 : decode b_MD_layer 133 = .ok (.aload_n 0, 1) := by decide +kernel
theorem d_MD_layer_134 : decode b_MD_layer 134 = .ok (.iload_n 3, 1) := by decide +kernel
theorem d_MD_layer_135 : decode b_MD_layer 135 = .ok (.aload_n 0, 1) := by decide +kernel
theorem d_MD_layer_136 : decode b_MD_layer 136 = .ok (.getfield 36, 3) := by decide +kernel
theorem d_MD_layer_139 : decode b_MD_layer 139 = .ok (.iload_n 3, 1) := by decide +kernel
theorem d_MD_layer_140 : decode b_MD_layer 140 = .ok (.iaload, 1) := by decide +kernel
theorem d_MD_layer_141 : decode b_MD_layer 141 = .ok (.invokevirtual 83, 3) := by decide +kernel
theorem d_MD_layer_144 : decode b_MD_layer 144 = .ok (.iastore, 1) := by decide +kernel
theorem d_MD_layer_145 : decode b_MD_layer 145 = .ok (.iinc 3 1, 3) := by decide +kernel
theorem d_MD_layer_148 : decode b_MD_layer 148 = .ok (.goto (-85), 3) := by decide +kernel
theorem d_MD_layer_151 : decode b_MD_layer 151 = .ok (.aload_n 0, 1) := by decide +kernel
theorem d_MD_layer_152 : decode b_MD_layer 152 = .ok (.invokevirtual 103, 3) := by decide +kernel
theorem d_MD_layer_155 : decode b_MD_layer 155 = .ok (.istore_n 3, 1) := by decide +kernel
theorem d_MD_layer_156 : decode b_MD_layer 156 = .ok (.iload_n 3, 1) := by decide +kernel
theorem d_MD_layer_157 : decode b_MD_layer 157 = .ok (.ifCond .lt 33, 3) := by decide +kernel
theorem d_MD_layer_160 : decode b_MD_layer 160 = .ok (.aload_n 0, 1) := by decide +kernel
theorem d_MD_layer_161 : decode b_MD_layer 161 = .ok (.invokevirtual 107, 3) := by decide +kernel
theorem d_MD_layer_164 : decode b_MD_layer 164 = .ok (.i2l, 1) := by decide +kernel
theorem d_MD_layer_165 : decode b_MD_layer 165 = .ok (.aload_n 0, 1) := by decide +kernel
theorem d_MD_layer_166 : decode b_MD_layer 166 = .ok (.iload_n 3, 1) := by decide +kernel
theorem d_MD_layer_167 : decode b_MD_layer 167 = .ok (.invokevirtual 110, 3) := by decide +kernel
theorem d_MD_layer_170 : decode b_MD_layer 170 = .ok (.ladd, 1) := by decide +kernel
theorem d_MD_layer_171 : decode b_MD_layer 171 = .ok (.iload_n 1, 1) := by decide +kernel
theorem d_MD_layer_172 : decode b_MD_layer 172 = .ok (.i2l, 1) := by decide +kernel
theorem d_MD_layer_173 : decode b_MD_layer 173 = .ok (.lcmp, 1) := by decide +kernel
theorem d_MD_layer_174 : decode b_MD_layer 174 = .ok (.ifCond .gt 16, 3) := by decide +kernel
theorem d_MD_layer_177 : decode b_MD_layer 177 = .ok (.aload_n 0, 1) := by decide +kernel
theorem d_MD_layer_178 : decode b_MD_layer 178 = .ok (.iload_n 3, 1) := by decide +kernel
theorem d_MD_layer_179 : decode b_MD_layer 179 = .ok (.invokevirtual 114, 3) := by decide +kernel
theorem d_MD_layer_182 : decode b_MD_layer 182 = .ok (.aload_n 0, 1) := by decide +kernel
theorem d_MD_layer_183 : decode b_MD_layer 183 = .ok (.invokevirtual 103, 3) := by decide +kernel
theorem d_MD_layer_186 : decode b_MD_layer 186 = .ok (.istore_n 3, 1) := by decide +kernel
theorem d_MD_layer_187 : decode b_MD_layer 187 = .ok (.goto (-31), 3) := by decide +kernel
theorem d_MD_layer_190 : decode b_MD_layer 190 = .ok (.aload_n 0, 1) := by decide +kernel
theorem d_MD_layer_191 : decode b_MD_layer 191 = .ok (.getfield 27, 3) := by decide +kernel
theorem d_MD_layer_194 : decode b_MD_layer 194 = .ok (.aload_n 0, 1) := by decide +kernel
theorem d_MD_layer_195 : decode b_MD_layer 195 = .ok (.getfield 55, 3) := by decide +kernel
theorem d_MD_layer_198 : decode b_MD_layer 198 = .ok (.aload_n 0, 1) := by decide +kernel
theorem d_MD_layer_199 : decode b_MD_layer 199 = .ok (.invokevirtual 107, 3) := by decide +kernel
theorem d_MD_layer_202 : decode b_MD_layer 202 = .ok (.iastore, 1) := by decide +kernel
theorem d_MD_layer_203 : decode b_MD_layer 203 = .ok (.iconst 0, 1) := by decide +kernel
theorem d_MD_layer_204 : decode b_MD_layer 204 = .ok (.istore 4, 2) := by decide +kernel
theorem d_MD_layer_206 : decode b_MD_layer 206 = .ok (.iload 4, 2) := by decide +kernel
theorem d_MD_layer_208 : decode b_MD_layer 208 = .ok (.aload_n 0, 1) := by decide +kernel
theorem d_MD_layer_209 : decode b_MD_layer 209 = .ok (.getfield 46, 3) := by decide +kernel
theorem d_MD_layer_212 : decode b_MD_layer 212 = .ok (.if_icmp .ge 32, 3) := by decide +kernel
theorem d_MD_layer_215 : decode b_MD_layer 215 = .ok (.aload_n 0, 1) := by decide +kernel
theorem d_MD_layer_216 : decode b_MD_layer 216 = .ok (.getfield 24, 3) := by decide +kernel
theorem d_MD_layer_219 : decode b_MD_layer 219 = .ok (.sipush 1024, 3) := by decide +kernel
theorem d_MD_layer_222 : decode b_MD_layer 222 = .ok (.aload_n 0, 1) := by decide +kernel
theorem d_MD_layer_223 : decode b_MD_layer 223 = .ok (.getfield 55, 3) := by decide +kernel
theorem d_MD_layer_226 : decode b_MD_layer 226 = .ok (.imul, 1) := by decide +kernel
theorem d_MD_layer_227 : decode b_MD_layer 227 = .ok (.iload 4, 2) := by decide +kernel
theorem d_MD_layer_229 : decode b_MD_layer 229 = .ok (.iadd, 1) := by decide +kernel
theorem d_MD_layer_230 : decode b_MD_layer 230 = .ok (.aload_n 0, 1) := by decide +kernel
theorem d_MD_layer_231 : decode b_MD_layer 231 = .ok (.getfield 36, 3) := by decide +kernel
theorem d_MD_layer_234 : decode b_MD_layer 234 = .ok (.iload 4, 2) := by decide +kernel
theorem d_MD_layer_236 : decode b_MD_layer 236 = .ok (.iaload, 1) := by decide +kernel
theorem d_MD_layer_237 : decode b_MD_layer 237 = .ok (.iastore, 1) := by decide +kernel
theorem d_MD_layer_238 : decode b_MD_layer 238 = .ok (.iinc 4 1, 3) := by decide +kernel
theorem d_MD_layer_241 : decode b_MD_layer 241 = .ok (.goto (-35), 3) := by decide +kernel
theorem d_MD_layer_244 : decode b_MD_layer 244 = .ok (.aload_n 0, 1) := by decide +kernel
theorem d_MD_layer_245 : decode b_MD_layer 245 = .ok (.dup, 1) := by decide +kernel
theorem d_MD_layer_246 : decode b_MD_layer 246 = .ok (.getfield 55, 3) := by decide +kernel
theorem d_MD_layer_249 : decode b_MD_layer 249 = .ok (.iconst 1, 1) := by decide +kernel
theorem d_MD_layer_250 : decode b_MD_layer 250 = .ok (.iadd, 1) := by decide +kernel
theorem d_MD_layer_251 : decode b_MD_layer 251 = .ok (.putfield 55, 3) := by decide +kernel
theorem d_MD_layer_254 : decode b_MD_layer 254 = .ok (.aload_n 0, 1) := by decide +kernel
theorem d_MD_layer_255 : decode b_MD_layer 255 = .ok (.getfield 27, 3) := by decide +kernel
theorem d_MD_layer_258 : decode b_MD_layer 258 = .ok (.aload_n 0, 1) := by decide +kernel
theorem d_MD_layer_259 : decode b_MD_layer 259 = .ok (.getfield 55, 3) := by decide +kernel
theorem d_MD_layer_262 : decode b_MD_layer 262 = .ok (.iconst 1, 1) := by decide +kernel
theorem d_MD_layer_263 : decode b_MD_layer 263 = .ok (.isub, 1) := by decide +kernel
theorem d_MD_layer_264 : decode b_MD_layer 264 = .ok (.iaload, 1) := by decide +kernel
theorem d_MD_layer_265 : decode b_MD_layer 265 = .ok (.ireturn, 1) := by decide +kernel
theorem d_MD_steepest_0 : decode b_MD_steepest 0 = .ok (.iconst (-1), 1) := by decide +kernel
theorem d_MD_steepest_1 : decode b_MD_steepest 1 = .ok (.istore_n 1, 1) := by decide +kernel
theorem d_MD_steepest_2 : decode b_MD_steepest 2 = .ok (.iconst 0, 1) := by decide +kernel
theorem d_MD_steepest_3 : decode b_MD_steepest 3 = .ok (.istore_n 2, 1) := by decide +kernel
theorem d_MD_steepest_4 : decode b_MD_steepest 4 = .ok (.iload_n 2, 1) := by decide +kernel
theorem d_MD_steepest_5 : decode b_MD_steepest 5 = .ok (.aload_n 0, 1) := by decide +kernel
theorem d_MD_steepest_6 : decode b_MD_steepest 6 = .ok (.getfield 46, 3) := by decide +kernel
theorem d_MD_steepest_9 : decode b_MD_steepest 9 = .ok (.if_icmp .ge 36, 3) := by decide +kernel
theorem d_MD_steepest_12 : decode b_MD_steepest 12 = .ok (.aload_n 0, 1) := by decide +kernel
theorem d_MD_steepest_13 : decode b_MD_steepest 13 = .ok (.getfield 39, 3) := by decide +kernel
theorem d_MD_steepest_16 : decode b_MD_steepest 16 = .ok (.iload_n 2, 1) := by decide +kernel
theorem d_MD_steepest_17 : decode b_MD_steepest 17 = .ok (.iaload, 1) := by decide +kernel
theorem d_MD_steepest_18 : decode b_MD_steepest 18 = .ok (.ifCond .ge 6, 3) := by decide +kernel
theorem d_MD_steepest_21 : decode b_MD_steepest 21 = .ok (.goto 18, 3) := by decide +kernel
theorem d_MD_steepest_24 : decode b_MD_steepest 24 = .ok (.iload_n 1, 1) := by decide +kernel
theorem d_MD_steepest_25 : decode b_MD_steepest 25 = .ok (.ifCond .lt 12, 3) := by decide +kernel
theorem d_MD_steepest_28 : decode b_MD_steepest 28 = .ok (.aload_n 0, 1) := by decide +kernel
theorem d_MD_steepest_29 : decode b_MD_steepest 29 = .ok (.iload_n 2, 1) := by decide +kernel
theorem d_MD_steepest_30 : decode b_MD_steepest 30 = .ok (.iload_n 1, 1) := by decide +kernel
theorem d_MD_steepest_31 : decode b_MD_steepest 31 = .ok (.invokevirtual 94, 3) := by decide +kernel
theorem d_MD_steepest_34 : decode b_MD_steepest 34 = .ok (.ifCond .le 5, 3) := by decide +kernel
theorem d_MD_steepest_37 : decode b_MD_steepest 37 = .ok (.iload_n 2, 1) := by decide +kernel
theorem d_MD_steepest_38 : decode b_MD_steepest 38 = .ok (.istore_n 1, 1) := by decide +kernel
theorem d_MD_steepest_39 : decode b_MD_steepest 39 = .ok (.iinc 2 1, 3) := by decide +kernel
theorem d_MD_steepest_42 : decode b_MD_steepest 42 = .ok (.goto (-38), 3) := by decide +kernel
theorem d_MD_steepest_45 : decode b_MD_steepest 45 = .ok (.iload_n 1, 1) := by decide +kernel
theorem d_MD_steepest_46 : decode b_MD_steepest 46 = .ok (.ireturn, 1) := by decide +kernel
theorem d_MD_against_0 : decode b_MD_against 0 = .ok (.aload_n 0, 1) := by decide +kernel
theorem d_MD_against_1 : decode b_MD_against 1 = .ok (.iload_n 1, 1) := by decide +kernel
theorem d_MD_against_2 : decode b_MD_against 2 = .ok (.aload_n 0, 1) := by decide +kernel
theorem d_MD_against_3 : decode b_MD_against 3 = .ok (.getfield 36, 3) := by decide +kernel
theorem d_MD_against_6 : decode b_MD_against 6 = .ok (.iload_n 1, 1) := by decide +kernel
theorem d_MD_against_7 : decode b_MD_against 7 = .ok (.iaload, 1) := by decide +kernel
theorem d_MD_against_8 : decode b_MD_against 8 = .ok (.aload_n 0, 1) := by decide +kernel
theorem d_MD_against_9 : decode b_MD_against 9 = .ok (.getfield 39, 3) := by decide +kernel
theorem d_MD_against_12 : decode b_MD_against 12 = .ok (.iload_n 1, 1) := by decide +kernel
theorem d_MD_against_13 : decode b_MD_against 13 = .ok (.iaload, 1) := by decide +kernel
theorem d_MD_against_14 : decode b_MD_against 14 = .ok (.invokevirtual 71, 3) := by decide +kernel
theorem d_MD_against_17 : decode b_MD_against 17 = .ok (.aload_n 0, 1) := by decide +kernel
theorem d_MD_against_18 : decode b_MD_against 18 = .ok (.iload_n 1, 1) := by decide +kernel
theorem d_MD_against_19 : decode b_MD_against 19 = .ok (.aload_n 0, 1) := by decide +kernel
theorem d_MD_against_20 : decode b_MD_against 20 = .ok (.getfield 36, 3) := by decide +kernel
theorem d_MD_against_23 : decode b_MD_against 23 = .ok (.iload_n 1, 1) := by decide +kernel
theorem d_MD_against_24 : decode b_MD_against 24 = .ok (.iaload, 1) := by decide +kernel
theorem d_MD_against_25 : decode b_MD_against 25 = .ok (.aload_n 0, 1) := by decide +kernel
theorem d_MD_against_26 : decode b_MD_against 26 = .ok (.getfield 39, 3) := by decide +kernel
theorem d_MD_against_29 : decode b_MD_against 29 = .ok (.iload_n 1, 1) := by decide +kernel
theorem d_MD_against_30 : decode b_MD_against 30 = .ok (.iaload, 1) := by decide +kernel
theorem d_MD_against_31 : decode b_MD_against 31 = .ok (.invokevirtual 75, 3) := by decide +kernel
theorem d_MD_against_34 : decode b_MD_against 34 = .ok (.aload_n 0, 1) := by decide +kernel
theorem d_MD_against_35 : decode b_MD_against 35 = .ok (.iload_n 2, 1) := by decide +kernel
theorem d_MD_against_36 : decode b_MD_against 36 = .ok (.aload_n 0, 1) := by decide +kernel
theorem d_MD_against_37 : decode b_MD_against 37 = .ok (.getfield 36, 3) := by decide +kernel
theorem d_MD_against_40 : decode b_MD_against 40 = .ok (.iload_n 2, 1) := by decide +kernel
theorem d_MD_against_41 : decode b_MD_against 41 = .ok (.iaload, 1) := by decide +kernel
theorem d_MD_against_42 : decode b_MD_against 42 = .ok (.aload_n 0, 1) := by decide +kernel
theorem d_MD_against_43 : decode b_MD_against 43 = .ok (.getfield 39, 3) := by decide +kernel
theorem d_MD_against_46 : decode b_MD_against 46 = .ok (.iload_n 2, 1) := by decide +kernel
theorem d_MD_against_47 : decode b_MD_against 47 = .ok (.iaload, 1) := by decide +kernel
theorem d_MD_against_48 : decode b_MD_against 48 = .ok (.invokevirtual 71, 3) := by decide +kernel
theorem d_MD_against_51 : decode b_MD_against 51 = .ok (.aload_n 0, 1) := by decide +kernel
theorem d_MD_against_52 : decode b_MD_against 52 = .ok (.iload_n 2, 1) := by decide +kernel
theorem d_MD_against_53 : decode b_MD_against 53 = .ok (.aload_n 0, 1) := by decide +kernel
theorem d_MD_against_54 : decode b_MD_against 54 = .ok (.getfield 36, 3) := by decide +kernel
theorem d_MD_against_57 : decode b_MD_against 57 = .ok (.iload_n 2, 1) := by decide +kernel
theorem d_MD_against_58 : decode b_MD_against 58 = .ok (.iaload, 1) := by decide +kernel
theorem d_MD_against_59 : decode b_MD_against 59 = .ok (.aload_n 0, 1) := by decide +kernel
theorem d_MD_against_60 : decode b_MD_against 60 = .ok (.getfield 39, 3) := by decide +kernel
theorem d_MD_against_63 : decode b_MD_against 63 = .ok (.iload_n 2, 1) := by decide +kernel
theorem d_MD_against_64 : decode b_MD_against 64 = .ok (.iaload, 1) := by decide +kernel
theorem d_MD_against_65 : decode b_MD_against 65 = .ok (.invokevirtual 75, 3) := by decide +kernel
theorem d_MD_against_68 : decode b_MD_against 68 = .ok (.invokestatic 79, 3) := by decide +kernel
theorem d_MD_against_71 : decode b_MD_against 71 = .ok (.ireturn, 1) := by decide +kernel
theorem d_MD_sumOf_0 : decode b_MD_sumOf 0 = .ok (.iconst 0, 1) := by decide +kernel
theorem d_MD_sumOf_1 : decode b_MD_sumOf 1 = .ok (.istore_n 1, 1) := by decide +kernel
theorem d_MD_sumOf_2 : decode b_MD_sumOf 2 = .ok (.iconst 0, 1) := by decide +kernel
theorem d_MD_sumOf_3 : decode b_MD_sumOf 3 = .ok (.istore_n 2, 1) := by decide +kernel
theorem d_MD_sumOf_4 : decode b_MD_sumOf 4 = .ok (.iload_n 2, 1) := by decide +kernel
theorem d_MD_sumOf_5 : decode b_MD_sumOf 5 = .ok (.aload_n 0, 1) := by decide +kernel
theorem d_MD_sumOf_6 : decode b_MD_sumOf 6 = .ok (.getfield 46, 3) := by decide +kernel
theorem d_MD_sumOf_9 : decode b_MD_sumOf 9 = .ok (.if_icmp .ge 24, 3) := by decide +kernel
theorem d_MD_sumOf_12 : decode b_MD_sumOf 12 = .ok (.iload_n 1, 1) := by decide +kernel
theorem d_MD_sumOf_13 : decode b_MD_sumOf 13 = .ok (.aload_n 0, 1) := by decide +kernel
theorem d_MD_sumOf_14 : decode b_MD_sumOf 14 = .ok (.iload_n 2, 1) := by decide +kernel
theorem d_MD_sumOf_15 : decode b_MD_sumOf 15 = .ok (.iconst 0, 1) := by decide +kernel
theorem d_MD_sumOf_16 : decode b_MD_sumOf 16 = .ok (.aload_n 0, 1) := by decide +kernel
theorem d_MD_sumOf_17 : decode b_MD_sumOf 17 = .ok (.getfield 36, 3) := by decide +kernel
theorem d_MD_sumOf_20 : decode b_MD_sumOf 20 = .ok (.iload_n 2, 1) := by decide +kernel
theorem d_MD_sumOf_21 : decode b_MD_sumOf 21 = .ok (.iaload, 1) := by decide +kernel
theorem d_MD_sumOf_22 : decode b_MD_sumOf 22 = .ok (.invokevirtual 75, 3) := by decide +kernel
theorem d_MD_sumOf_25 : decode b_MD_sumOf 25 = .ok (.iadd, 1) := by decide +kernel
theorem d_MD_sumOf_26 : decode b_MD_sumOf 26 = .ok (.istore_n 1, 1) := by decide +kernel
theorem d_MD_sumOf_27 : decode b_MD_sumOf 27 = .ok (.iinc 2 1, 3) := by decide +kernel
theorem d_MD_sumOf_30 : decode b_MD_sumOf 30 = .ok (.goto (-26), 3) := by decide +kernel
theorem d_MD_sumOf_33 : decode b_MD_sumOf 33 = .ok (.iload_n 1, 1) := by decide +kernel
theorem d_MD_sumOf_34 : decode b_MD_sumOf 34 = .ok (.ireturn, 1) := by decide +kernel
theorem d_MD_costOf_0 : decode b_MD_costOf 0 = .ok (.lconst 0, 1) := by decide +kernel
theorem d_MD_costOf_1 : decode b_MD_costOf 1 = .ok (.lstore_n 2, 1) := by decide +kernel
theorem d_MD_costOf_2 : decode b_MD_costOf 2 = .ok (.iconst 0, 1) := by decide +kernel
theorem d_MD_costOf_3 : decode b_MD_costOf 3 = .ok (.istore 4, 2) := by decide +kernel
theorem d_MD_costOf_5 : decode b_MD_costOf 5 = .ok (.iload 4, 2) := by decide +kernel
theorem d_MD_costOf_7 : decode b_MD_costOf 7 = .ok (.aload_n 0, 1) := by decide +kernel
theorem d_MD_costOf_8 : decode b_MD_costOf 8 = .ok (.getfield 46, 3) := by decide +kernel
theorem d_MD_costOf_11 : decode b_MD_costOf 11 = .ok (.if_icmp .ge 53, 3) := by decide +kernel
theorem d_MD_costOf_14 : decode b_MD_costOf 14 = .ok (.aload_n 0, 1) := by decide +kernel
theorem d_MD_costOf_15 : decode b_MD_costOf 15 = .ok (.getfield 39, 3) := by decide +kernel
theorem d_MD_costOf_18 : decode b_MD_costOf 18 = .ok (.iload 4, 2) := by decide +kernel
theorem d_MD_costOf_20 : decode b_MD_costOf 20 = .ok (.iaload, 1) := by decide +kernel
theorem d_MD_costOf_21 : decode b_MD_costOf 21 = .ok (.ifCond .lt 37, 3) := by decide +kernel
theorem d_MD_costOf_24 : decode b_MD_costOf 24 = .ok (.aload_n 0, 1) := by decide +kernel
theorem d_MD_costOf_25 : decode b_MD_costOf 25 = .ok (.iload 4, 2) := by decide +kernel
theorem d_MD_costOf_27 : decode b_MD_costOf 27 = .ok (.iload_n 1, 1) := by decide +kernel
theorem d_MD_costOf_28 : decode b_MD_costOf 28 = .ok (.invokevirtual 94, 3) := by decide +kernel
theorem d_MD_costOf_31 : decode b_MD_costOf 31 = .ok (.ifCond .ne 27, 3) := by decide +kernel
theorem d_MD_costOf_34 : decode b_MD_costOf 34 = .ok (.lload_n 2, 1) := by decide +kernel
theorem d_MD_costOf_35 : decode b_MD_costOf 35 = .ok (.aload_n 0, 1) := by decide +kernel
theorem d_MD_costOf_36 : decode b_MD_costOf 36 = .ok (.iload 4, 2) := by decide +kernel
theorem d_MD_costOf_38 : decode b_MD_costOf 38 = .ok (.aload_n 0, 1) := by decide +kernel
theorem d_MD_costOf_39 : decode b_MD_costOf 39 = .ok (.getfield 36, 3) := by decide +kernel
theorem d_MD_costOf_42 : decode b_MD_costOf 42 = .ok (.iload 4, 2) := by decide +kernel
theorem d_MD_costOf_44 : decode b_MD_costOf 44 = .ok (.iaload, 1) := by decide +kernel
theorem d_MD_costOf_45 : decode b_MD_costOf 45 = .ok (.aload_n 0, 1) := by decide +kernel
theorem d_MD_costOf_46 : decode b_MD_costOf 46 = .ok (.getfield 39, 3) := by decide +kernel
theorem d_MD_costOf_49 : decode b_MD_costOf 49 = .ok (.iload 4, 2) := by decide +kernel
theorem d_MD_costOf_51 : decode b_MD_costOf 51 = .ok (.iaload, 1) := by decide +kernel
theorem d_MD_costOf_52 : decode b_MD_costOf 52 = .ok (.invokevirtual 75, 3) := by decide +kernel
theorem d_MD_costOf_55 : decode b_MD_costOf 55 = .ok (.i2l, 1) := by decide +kernel
theorem d_MD_costOf_56 : decode b_MD_costOf 56 = .ok (.ladd, 1) := by decide +kernel
theorem d_MD_costOf_57 : decode b_MD_costOf 57 = .ok (.lstore_n 2, 1) := by decide +kernel
theorem d_MD_costOf_58 : decode b_MD_costOf 58 = .ok (.iinc 4 1, 3) := by decide +kernel
theorem d_MD_costOf_61 : decode b_MD_costOf 61 = .ok (.goto (-56), 3) := by decide +kernel
theorem d_MD_costOf_64 : decode b_MD_costOf 64 = .ok (.lload_n 2, 1) := by decide +kernel
theorem d_MD_costOf_65 : decode b_MD_costOf 65 = .ok (.lreturn, 1) := by decide +kernel
theorem d_MD_take_0 : decode b_MD_take 0 = .ok (.aload_n 0, 1) := by decide +kernel
theorem d_MD_take_1 : decode b_MD_take 1 = .ok (.getfield 30, 3) := by decide +kernel
theorem d_MD_take_4 : decode b_MD_take 4 = .ok (.aload_n 0, 1) := by decide +kernel
theorem d_MD_take_5 : decode b_MD_take 5 = .ok (.getfield 55, 3) := by decide +kernel
theorem d_MD_take_8 : decode b_MD_take 8 = .ok (.aload_n 0, 1) := by decide +kernel
theorem d_MD_take_9 : decode b_MD_take 9 = .ok (.iload_n 1, 1) := by decide +kernel
theorem d_MD_take_10 : decode b_MD_take 10 = .ok (.aload_n 0, 1) := by decide +kernel
theorem d_MD_take_11 : decode b_MD_take 11 = .ok (.getfield 36, 3) := by decide +kernel
theorem d_MD_take_14 : decode b_MD_take 14 = .ok (.iload_n 1, 1) := by decide +kernel
theorem d_MD_take_15 : decode b_MD_take 15 = .ok (.iaload, 1) := by decide +kernel
theorem d_MD_take_16 : decode b_MD_take 16 = .ok (.aload_n 0, 1) := by decide +kernel
theorem d_MD_take_17 : decode b_MD_take 17 = .ok (.getfield 39, 3) := by decide +kernel
theorem d_MD_take_20 : decode b_MD_take 20 = .ok (.iload_n 1, 1) := by decide +kernel
theorem d_MD_take_21 : decode b_MD_take 21 = .ok (.iaload, 1) := by decide +kernel
theorem d_MD_take_22 : decode b_MD_take 22 = .ok (.invokevirtual 71, 3) := by decide +kernel
theorem d_MD_take_25 : decode b_MD_take 25 = .ok (.lastore, 1) := by decide +kernel
theorem d_MD_take_26 : decode b_MD_take 26 = .ok (.aload_n 0, 1) := by decide +kernel
theorem d_MD_take_27 : decode b_MD_take 27 = .ok (.getfield 33, 3) := by decide +kernel
theorem d_MD_take_30 : decode b_MD_take 30 = .ok (.aload_n 0, 1) := by decide +kernel
theorem d_MD_take_31 : decode b_MD_take 31 = .ok (.getfield 55, 3) := by decide +kernel
theorem d_MD_take_34 : decode b_MD_take 34 = .ok (.aload_n 0, 1) := by decide +kernel
theorem d_MD_take_35 : decode b_MD_take 35 = .ok (.iload_n 1, 1) := by decide +kernel
theorem d_MD_take_36 : decode b_MD_take 36 = .ok (.aload_n 0, 1) := by decide +kernel
theorem d_MD_take_37 : decode b_MD_take 37 = .ok (.getfield 36, 3) := by decide +kernel
theorem d_MD_take_40 : decode b_MD_take 40 = .ok (.iload_n 1, 1) := by decide +kernel
theorem d_MD_take_41 : decode b_MD_take 41 = .ok (.iaload, 1) := by decide +kernel
theorem d_MD_take_42 : decode b_MD_take 42 = .ok (.aload_n 0, 1) := by decide +kernel
theorem d_MD_take_43 : decode b_MD_take 43 = .ok (.getfield 39, 3) := by decide +kernel
theorem d_MD_take_46 : decode b_MD_take 46 = .ok (.iload_n 1, 1) := by decide +kernel
theorem d_MD_take_47 : decode b_MD_take 47 = .ok (.iaload, 1) := by decide +kernel
theorem d_MD_take_48 : decode b_MD_take 48 = .ok (.invokevirtual 75, 3) := by decide +kernel
theorem d_MD_take_51 : decode b_MD_take 51 = .ok (.iastore, 1) := by decide +kernel
theorem d_MD_take_52 : decode b_MD_take 52 = .ok (.iconst 0, 1) := by decide +kernel
theorem d_MD_take_53 : decode b_MD_take 53 = .ok (.istore_n 2, 1) := by decide +kernel
theorem d_MD_take_54 : decode b_MD_take 54 = .ok (.iload_n 2, 1) := by decide +kernel
theorem d_MD_take_55 : decode b_MD_take 55 = .ok (.aload_n 0, 1) := by decide +kernel
theorem d_MD_take_56 : decode b_MD_take 56 = .ok (.getfield 46, 3) := by decide +kernel
theorem d_MD_take_59 : decode b_MD_take 59 = .ok (.if_icmp .ge 40, 3) := by decide +kernel
theorem d_MD_take_62 : decode b_MD_take 62 = .ok (.iload_n 2, 1) := by decide +kernel
theorem d_MD_take_63 : decode b_MD_take 63 = .ok (.iload_n 1, 1) := by decide +kernel
theorem d_MD_take_64 : decode b_MD_take 64 = .ok (.if_icmp .eq 29, 3) := by decide +kernel
theorem d_MD_take_67 : decode b_MD_take 67 = .ok (.aload_n 0, 1) := by decide +kernel
theorem d_MD_take_68 : decode b_MD_take 68 = .ok (.getfield 39, 3) := by decide +kernel
theorem d_MD_take_71 : decode b_MD_take 71 = .ok (.iload_n 2, 1) := by decide +kernel
theorem d_MD_take_72 : decode b_MD_take 72 = .ok (.iaload, 1) := by decide +kernel
theorem d_MD_take_73 : decode b_MD_take 73 = .ok (.ifCond .lt 20, 3) := by decide +kernel
theorem d_MD_take_76 : decode b_MD_take 76 = .ok (.aload_n 0, 1) := by decide +kernel
theorem d_MD_take_77 : decode b_MD_take 77 = .ok (.iload_n 2, 1) := by decide +kernel
theorem d_MD_take_78 : decode b_MD_take 78 = .ok (.iload_n 1, 1) := by decide +kernel
theorem d_MD_take_79 : decode b_MD_take 79 = .ok (.invokevirtual 94, 3) := by decide +kernel
theorem d_MD_take_82 : decode b_MD_take 82 = .ok (.ifCond .eq 6, 3) := by decide +kernel
theorem d_MD_take_85 : decode b_MD_take 85 = .ok (.goto 8, 3) := by decide +kernel
theorem d_MD_take_88 : decode b_MD_take 88 = .ok (.aload_n 0, 1) := by decide +kernel
theorem d_MD_take_89 : decode b_MD_take 89 = .ok (.iload_n 2, 1) := by decide +kernel
theorem d_MD_take_90 : decode b_MD_take 90 = .ok (.invokevirtual 97, 3) := by decide +kernel
theorem d_MD_take_93 : decode b_MD_take 93 = .ok (.iinc 2 1, 3) := by decide +kernel
theorem d_MD_take_96 : decode b_MD_take 96 = .ok (.goto (-42), 3) := by decide +kernel
theorem d_MD_take_99 : decode b_MD_take 99 = .ok (.aload_n 0, 1) := by decide +kernel
theorem d_MD_take_100 : decode b_MD_take 100 = .ok (.iload_n 1, 1) := by decide +kernel
theorem d_MD_take_101 : decode b_MD_take 101 = .ok (.invokevirtual 97, 3) := by decide +kernel
theorem d_MD_take_104 : decode b_MD_take 104 = .ok (.return_, 1) := by decide +kernel
theorem d_MD_goOn_0 : decode b_MD_goOn 0 = .ok (.aload_n 0, 1) := by decide +kernel
theorem d_MD_goOn_1 : decode b_MD_goOn 1 = .ok (.getfield 36, 3) := by decide +kernel
theorem d_MD_goOn_4 : decode b_MD_goOn 4 = .ok (.iload_n 1, 1) := by decide +kernel
theorem d_MD_goOn_5 : decode b_MD_goOn 5 = .ok (.aload_n 0, 1) := by decide +kernel
theorem d_MD_goOn_6 : decode b_MD_goOn 6 = .ok (.getfield 39, 3) := by decide +kernel
theorem d_MD_goOn_9 : decode b_MD_goOn 9 = .ok (.iload_n 1, 1) := by decide +kernel
theorem d_MD_goOn_10 : decode b_MD_goOn 10 = .ok (.iaload, 1) := by decide +kernel
theorem d_MD_goOn_11 : decode b_MD_goOn 11 = .ok (.iastore, 1) := by decide +kernel
theorem d_MD_goOn_12 : decode b_MD_goOn 12 = .ok (.aload_n 0, 1) := by decide +kernel
theorem d_MD_goOn_13 : decode b_MD_goOn 13 = .ok (.getfield 39, 3) := by decide +kernel
theorem d_MD_goOn_16 : decode b_MD_goOn 16 = .ok (.iload_n 1, 1) := by decide +kernel
theorem d_MD_goOn_17 : decode b_MD_goOn 17 = .ok (.aload_n 0, 1) := by decide +kernel
theorem d_MD_goOn_18 : decode b_MD_goOn 18 = .ok (.iload_n 1, 1) := by decide +kernel
theorem d_MD_goOn_19 : decode b_MD_goOn 19 = .ok (.aload_n 0, 1) := by decide +kernel
theorem d_MD_goOn_20 : decode b_MD_goOn 20 = .ok (.getfield 36, 3) := by decide +kernel
theorem d_MD_goOn_23 : decode b_MD_goOn 23 = .ok (.iload_n 1, 1) := by decide +kernel
theorem d_MD_goOn_24 : decode b_MD_goOn 24 = .ok (.iaload, 1) := by decide +kernel
theorem d_MD_goOn_25 : decode b_MD_goOn 25 = .ok (.invokevirtual 83, 3) := by decide +kernel
theorem d_MD_goOn_28 : decode b_MD_goOn 28 = .ok (.iastore, 1) := by decide +kernel
theorem d_MD_goOn_29 : decode b_MD_goOn 29 = .ok (.return_, 1) := by decide +kernel
theorem d_MD_layers_0 : decode b_MD_layers 0 = .ok (.aload_n 0, 1) := by decide +kernel
theorem d_MD_layers_1 : decode b_MD_layers 1 = .ok (.iconst 0, 1) := by decide +kernel
theorem d_MD_layers_2 : decode b_MD_layers 2 = .ok (.putfield 42, 3) := by decide +kernel
theorem d_MD_layers_5 : decode b_MD_layers 5 = .ok (.aload_n 0, 1) := by decide +kernel
theorem d_MD_layers_6 : decode b_MD_layers 6 = .ok (.getfield 55, 3) := by decide +kernel
theorem d_MD_layers_9 : decode b_MD_layers 9 = .ok (.ireturn, 1) := by decide +kernel
theorem d_MD_cut_0 : decode b_MD_cut 0 = .ok (.iload_n 2, 1) := by decide +kernel
theorem d_MD_cut_1 : decode b_MD_cut 1 = .ok (.iconst 0, 1) := by decide +kernel
theorem d_MD_cut_2 : decode b_MD_cut 2 = .ok (.aload_n 0, 1) := by decide +kernel
theorem d_MD_cut_3 : decode b_MD_cut 3 = .ok (.getfield 46, 3) := by decide +kernel
theorem d_MD_cut_6 : decode b_MD_cut 6 = .ok (.iconst 1, 1) := by decide +kernel
theorem d_MD_cut_7 : decode b_MD_cut 7 = .ok (.isub, 1) := by decide +kernel
theorem d_MD_cut_8 : decode b_MD_cut 8 = .ok (.invokestatic 62, 3) := by decide +kernel
theorem d_MD_cut_11 : decode b_MD_cut 11 = .ok (.istore_n 3, 1) := by decide +kernel
theorem d_MD_cut_12 : decode b_MD_cut 12 = .ok (.aload_n 0, 1) := by decide +kernel
theorem d_MD_cut_13 : decode b_MD_cut 13 = .ok (.iload_n 3, 1) := by decide +kernel
theorem d_MD_cut_14 : decode b_MD_cut 14 = .ok (.iload_n 3, 1) := by decide +kernel
theorem d_MD_cut_15 : decode b_MD_cut 15 = .ok (.ifCond .ne 21, 3) := by decide +kernel
theorem d_MD_cut_18 : decode b_MD_cut 18 = .ok (.iload_n 1, 1) := by decide +kernel
theorem d_MD_cut_19 : decode b_MD_cut 19 = .ok (.iconst 0, 1) := by decide +kernel
theorem d_MD_cut_20 : decode b_MD_cut 20 = .ok (.aload_n 0, 1) := by decide +kernel
theorem d_MD_cut_21 : decode b_MD_cut 21 = .ok (.getfield 55, 3) := by decide +kernel
theorem d_MD_cut_24 : decode b_MD_cut 24 = .ok (.iconst 1, 1) := by decide +kernel
theorem d_MD_cut_25 : decode b_MD_cut 25 = .ok (.isub, 1) := by decide +kernel
theorem d_MD_cut_26 : decode b_MD_cut 26 = .ok (.invokestatic 62, 3) := by decide +kernel
theorem d_MD_cut_29 : decode b_MD_cut 29 = .ok (.ifCond .eq 7, 3) := by decide +kernel
theorem d_MD_cut_32 : decode b_MD_cut 32 = .ok (.iconst 1, 1) := by decide +kernel
theorem d_MD_cut_33 : decode b_MD_cut 33 = .ok (.goto 4, 3) := by decide +kernel
theorem d_MD_cut_36 : decode b_MD_cut 36 = .ok (.iconst 0, 1) := by decide +kernel
theorem d_MD_cut_37 : decode b_MD_cut 37 = .ok (.invokevirtual 58, 3) := by decide +kernel
theorem d_MD_cut_40 : decode b_MD_cut 40 = .ok (.ifCond .eq 5, 3) := by decide +kernel
theorem d_MD_cut_43 : decode b_MD_cut 43 = .ok (.iconst 0, 1) := by decide +kernel
theorem d_MD_cut_44 : decode b_MD_cut 44 = .ok (.ireturn, 1) := by decide +kernel
theorem d_MD_cut_45 : decode b_MD_cut 45 = .ok (.aload_n 0, 1) := by decide +kernel
theorem d_MD_cut_46 : decode b_MD_cut 46 = .ok (.getfield 24, 3) := by decide +kernel
theorem d_MD_cut_49 : decode b_MD_cut 49 = .ok (.sipush 1024, 3) := by decide +kernel
theorem d_MD_cut_52 : decode b_MD_cut 52 = .ok (.iload_n 1, 1) := by decide +kernel
theorem d_MD_cut_53 : decode b_MD_cut 53 = .ok (.imul, 1) := by decide +kernel
theorem d_MD_cut_54 : decode b_MD_cut 54 = .ok (.iload_n 2, 1) := by decide +kernel
theorem d_MD_cut_55 : decode b_MD_cut 55 = .ok (.iadd, 1) := by decide +kernel
theorem d_MD_cut_56 : decode b_MD_cut 56 = .ok (.iaload, 1) := by decide +kernel
theorem d_MD_cut_57 : decode b_MD_cut 57 = .ok (.ireturn, 1) := by decide +kernel
theorem d_MD_total_0 : decode b_MD_total 0 = .ok (.aload_n 0, 1) := by decide +kernel
theorem d_MD_total_1 : decode b_MD_total 1 = .ok (.iload_n 1, 1) := by decide +kernel
theorem d_MD_total_2 : decode b_MD_total 2 = .ok (.iconst 0, 1) := by decide +kernel
theorem d_MD_total_3 : decode b_MD_total 3 = .ok (.aload_n 0, 1) := by decide +kernel
theorem d_MD_total_4 : decode b_MD_total 4 = .ok (.getfield 55, 3) := by decide +kernel
theorem d_MD_total_7 : decode b_MD_total 7 = .ok (.iconst 1, 1) := by decide +kernel
theorem d_MD_total_8 : decode b_MD_total 8 = .ok (.isub, 1) := by decide +kernel
theorem d_MD_total_9 : decode b_MD_total 9 = .ok (.invokestatic 62, 3) := by decide +kernel
theorem d_MD_total_12 : decode b_MD_total 12 = .ok (.iconst 0, 1) := by decide +kernel
theorem d_MD_total_13 : decode b_MD_total 13 = .ok (.invokevirtual 58, 3) := by decide +kernel
theorem d_MD_total_16 : decode b_MD_total 16 = .ok (.ifCond .eq 5, 3) := by decide +kernel
theorem d_MD_total_19 : decode b_MD_total 19 = .ok (.iconst 0, 1) := by decide +kernel
theorem d_MD_total_20 : decode b_MD_total 20 = .ok (.ireturn, 1) := by decide +kernel
theorem d_MD_total_21 : decode b_MD_total 21 = .ok (.aload_n 0, 1) := by decide +kernel
theorem d_MD_total_22 : decode b_MD_total 22 = .ok (.getfield 27, 3) := by decide +kernel
theorem d_MD_total_25 : decode b_MD_total 25 = .ok (.iload_n 1, 1) := by decide +kernel
theorem d_MD_total_26 : decode b_MD_total 26 = .ok (.iaload, 1) := by decide +kernel
theorem d_MD_total_27 : decode b_MD_total 27 = .ok (.ireturn, 1) := by decide +kernel
theorem d_MD_threshold_0 : decode b_MD_threshold 0 = .ok (.iload_n 2, 1) := by decide +kernel
theorem d_MD_threshold_1 : decode b_MD_threshold 1 = .ok (.iconst 0, 1) := by decide +kernel
theorem d_MD_threshold_2 : decode b_MD_threshold 2 = .ok (.iconst 1, 1) := by decide +kernel
theorem d_MD_threshold_3 : decode b_MD_threshold 3 = .ok (.invokestatic 62, 3) := by decide +kernel
theorem d_MD_threshold_6 : decode b_MD_threshold 6 = .ok (.istore_n 3, 1) := by decide +kernel
theorem d_MD_threshold_7 : decode b_MD_threshold 7 = .ok (.aload_n 0, 1) := by decide +kernel
theorem d_MD_threshold_8 : decode b_MD_threshold 8 = .ok (.iload_n 3, 1) := by decide +kernel
theorem d_MD_threshold_9 : decode b_MD_threshold 9 = .ok (.iload_n 3, 1) := by decide +kernel
theorem d_MD_threshold_10 : decode b_MD_threshold 10 = .ok (.ifCond .ne 21, 3) := by decide +kernel
theorem d_MD_threshold_13 : decode b_MD_threshold 13 = .ok (.iload_n 1, 1) := by decide +kernel
theorem d_MD_threshold_14 : decode b_MD_threshold 14 = .ok (.iconst 0, 1) := by decide +kernel
theorem d_MD_threshold_15 : decode b_MD_threshold 15 = .ok (.aload_n 0, 1) := by decide +kernel
theorem d_MD_threshold_16 : decode b_MD_threshold 16 = .ok (.getfield 55, 3) := by decide +kernel
theorem d_MD_threshold_19 : decode b_MD_threshold 19 = .ok (.iconst 1, 1) := by decide +kernel
theorem d_MD_threshold_20 : decode b_MD_threshold 20 = .ok (.isub, 1) := by decide +kernel
theorem d_MD_threshold_21 : decode b_MD_threshold 21 = .ok (.invokestatic 62, 3) := by decide +kernel
theorem d_MD_threshold_24 : decode b_MD_threshold 24 = .ok (.ifCond .eq 7, 3) := by decide +kernel
theorem d_MD_threshold_27 : decode b_MD_threshold 27 = .ok (.iconst 1, 1) := by decide +kernel
theorem d_MD_threshold_28 : decode b_MD_threshold 28 = .ok (.goto 4, 3) := by decide +kernel
theorem d_MD_threshold_31 : decode b_MD_threshold 31 = .ok (.iconst 0, 1) := by decide +kernel
theorem d_MD_threshold_32 : decode b_MD_threshold 32 = .ok (.invokevirtual 58, 3) := by decide +kernel
theorem d_MD_threshold_35 : decode b_MD_threshold 35 = .ok (.ifCond .eq 5, 3) := by decide +kernel
theorem d_MD_threshold_38 : decode b_MD_threshold 38 = .ok (.lconst 0, 1) := by decide +kernel
theorem d_MD_threshold_39 : decode b_MD_threshold 39 = .ok (.lreturn, 1) := by decide +kernel
theorem d_MD_threshold_40 : decode b_MD_threshold 40 = .ok (.iload_n 2, 1) := by decide +kernel
theorem d_MD_threshold_41 : decode b_MD_threshold 41 = .ok (.ifCond .ne 12, 3) := by decide +kernel
theorem d_MD_threshold_44 : decode b_MD_threshold 44 = .ok (.aload_n 0, 1) := by decide +kernel
theorem d_MD_threshold_45 : decode b_MD_threshold 45 = .ok (.getfield 30, 3) := by decide +kernel
theorem d_MD_threshold_48 : decode b_MD_threshold 48 = .ok (.iload_n 1, 1) := by decide +kernel
theorem d_MD_threshold_49 : decode b_MD_threshold 49 = .ok (.laload, 1) := by decide +kernel
theorem d_MD_threshold_50 : decode b_MD_threshold 50 = .ok (.goto 10, 3) := by decide +kernel
theorem d_MD_threshold_53 : decode b_MD_threshold 53 = .ok (.aload_n 0, 1) := by decide +kernel
theorem d_MD_threshold_54 : decode b_MD_threshold 54 = .ok (.getfield 33, 3) := by decide +kernel
theorem d_MD_threshold_57 : decode b_MD_threshold 57 = .ok (.iload_n 1, 1) := by decide +kernel
theorem d_MD_threshold_58 : decode b_MD_threshold 58 = .ok (.iaload, 1) := by decide +kernel
theorem d_MD_threshold_59 : decode b_MD_threshold 59 = .ok (.i2l, 1) := by decide +kernel
theorem d_MD_threshold_60 : decode b_MD_threshold 60 = .ok (.lreturn, 1) := by decide +kernel

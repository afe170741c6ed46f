theorem d_LB_init_0 : decode b_LB_init 0 = .ok (.aload_n 0, 1) := by decide +kernel
theorem d_LB_init_1 : decode b_LB_init 1 = .ok (.invokespecial 1, 3) := by decide +kernel
theorem d_LB_init_4 : decode b_LB_init 4 = .ok (.aload_n 0, 1) := by decide +kernel
theorem d_LB_init_5 : decode b_LB_init 5 = .ok (.new 7, 3) := by decide +kernel
theorem d_LB_init_8 : decode b_LB_init 8 = .ok (.dup, 1) := by decide +kernel
theorem d_LB_init_9 : decode b_LB_init 9 = .ok (.invokespecial 9, 3) := by decide +kernel
theorem d_LB_init_12 : decode b_LB_init 12 = .ok (.putfield 10, 3) := by decide +kernel
theorem d_LB_init_15 : decode b_LB_init 15 = .ok (.aload_n 0, 1) := by decide +kernel
theorem d_LB_init_16 : decode b_LB_init 16 = .ok (.new 7, 3) := by decide +kernel
theorem d_LB_init_19 : decode b_LB_init 19 = .ok (.dup, 1) := by decide +kernel
theorem d_LB_init_20 : decode b_LB_init 20 = .ok (.invokespecial 9, 3) := by decide +kernel
theorem d_LB_init_23 : decode b_LB_init 23 = .ok (.putfield 16, 3) := by decide +kernel
theorem d_LB_init_26 : decode b_LB_init 26 = .ok (.return_, 1) := by decide +kernel
theorem d_LB_clear_0 : decode b_LB_clear 0 = .ok (.aload_n 0, 1) := by decide +kernel
theorem d_LB_clear_1 : decode b_LB_clear 1 = .ok (.invokevirtual 19, 3) := by decide +kernel
theorem d_LB_clear_4 : decode b_LB_clear 4 = .ok (.aload_n 0, 1) := by decide +kernel
theorem d_LB_clear_5 : decode b_LB_clear 5 = .ok (.getfield 10, 3) := by decide +kernel
theorem d_LB_clear_8 : decode b_LB_clear 8 = .ok (.invokevirtual 22, 3) := by decide +kernel
theorem d_LB_clear_11 : decode b_LB_clear 11 = .ok (.aload_n 0, 1) := by decide +kernel
theorem d_LB_clear_12 : decode b_LB_clear 12 = .ok (.iconst 0, 1) := by decide +kernel
theorem d_LB_clear_13 : decode b_LB_clear 13 = .ok (.putfield 25, 3) := by decide +kernel
theorem d_LB_clear_16 : decode b_LB_clear 16 = .ok (.return_, 1) := by decide +kernel
theorem d_LB_dropLayers_0 : decode b_LB_dropLayers 0 = .ok (.aload_n 0, 1) := by decide +kernel
theorem d_LB_dropLayers_1 : decode b_LB_dropLayers 1 = .ok (.getfield 16, 3) := by decide +kernel
theorem d_LB_dropLayers_4 : decode b_LB_dropLayers 4 = .ok (.invokevirtual 143, 3) := by decide +kernel
theorem d_LB_dropLayers_7 : decode b_LB_dropLayers 7 = .ok (.ifCond .eq 4, 3) := by decide +kernel
theorem d_LB_dropLayers_10 : decode b_LB_dropLayers 10 = .ok (.return_, 1) := by decide +kernel
theorem d_LB_dropLayers_11 : decode b_LB_dropLayers 11 = .ok (.aload_n 0, 1) := by decide +kernel
theorem d_LB_dropLayers_12 : decode b_LB_dropLayers 12 = .ok (.getfield 16, 3) := by decide +kernel
theorem d_LB_dropLayers_15 : decode b_LB_dropLayers 15 = .ok (.invokevirtual 22, 3) := by decide +kernel
theorem d_LB_dropLayers_18 : decode b_LB_dropLayers 18 = .ok (.aload_n 0, 1) := by decide +kernel
theorem d_LB_dropLayers_19 : decode b_LB_dropLayers 19 = .ok (.iconst 0, 1) := by decide +kernel
theorem d_LB_dropLayers_20 : decode b_LB_dropLayers 20 = .ok (.putfield 147, 3) := by decide +kernel
theorem d_LB_dropLayers_23 : decode b_LB_dropLayers 23 = .ok (.iconst 0, 1) := by decide +kernel
theorem d_LB_dropLayers_24 : decode b_LB_dropLayers 24 = .ok (.istore_n 1, 1) := by decide +kernel
theorem d_LB_dropLayers_25 : decode b_LB_dropLayers 25 = .ok (.iload_n 1, 1) := by decide +kernel
theorem d_LB_dropLayers_26 : decode b_LB_dropLayers 26 = .ok (.aload_n 0, 1) := by decide +kernel
theorem d_LB_dropLayers_27 : decode b_LB_dropLayers 27 = .ok (.getfield 10, 3) := by decide +kernel
theorem d_LB_dropLayers_30 : decode b_LB_dropLayers 30 = .ok (.invokevirtual 29, 3) := by decide +kernel
theorem d_LB_dropLayers_33 : decode b_LB_dropLayers 33 = .ok (.if_icmp .ge 23, 3) := by decide +kernel
theorem d_LB_dropLayers_36 : decode b_LB_dropLayers 36 = .ok (.aload_n 0, 1) := by decide +kernel
theorem d_LB_dropLayers_37 : decode b_LB_dropLayers 37 = .ok (.getfield 10, 3) := by decide +kernel
theorem d_LB_dropLayers_40 : decode b_LB_dropLayers 40 = .ok (.iload_n 1, 1) := by decide +kernel
theorem d_LB_dropLayers_41 : decode b_LB_dropLayers 41 = .ok (.invokevirtual 64, 3) := by decide +kernel
theorem d_LB_dropLayers_44 : decode b_LB_dropLayers 44 = .ok (.checkcast 40, 3) := by decide +kernel
theorem d_LB_dropLayers_47 : decode b_LB_dropLayers 47 = .ok (.invokevirtual 150, 3) := by decide +kernel
theorem d_LB_dropLayers_50 : decode b_LB_dropLayers 50 = .ok (.iinc 1 1, 3) := by decide +kernel
theorem d_LB_dropLayers_53 : decode b_LB_dropLayers 53 = .ok (.goto (-28), 3) := by decide +kernel
theorem d_LB_dropLayers_56 : decode b_LB_dropLayers 56 = .ok (.return_, 1) := by decide +kernel
theorem d_BK_takeNothing_0 : decode b_BK_takeNothing 0 = .ok (.aload_n 0, 1) := by decide +kernel
theorem d_BK_takeNothing_1 : decode b_BK_takeNothing 1 = .ok (.iconst 0, 1) := by decide +kernel
theorem d_BK_takeNothing_2 : decode b_BK_takeNothing 2 = .ok (.putfield 67, 3) := by decide +kernel
theorem d_BK_takeNothing_5 : decode b_BK_takeNothing 5 = .ok (.aload_n 0, 1) := by decide +kernel
theorem d_BK_takeNothing_6 : decode b_BK_takeNothing 6 = .ok (.iconst 0, 1) := by decide +kernel
theorem d_BK_takeNothing_7 : decode b_BK_takeNothing 7 = .ok (.putfield 49, 3) := by decide +kernel
theorem d_BK_takeNothing_10 : decode b_BK_takeNothing 10 = .ok (.return_, 1) := by decide +kernel
theorem d_LB_layers_0 : decode b_LB_layers 0 = .ok (.aload_n 0, 1) := by decide +kernel
theorem d_LB_layers_1 : decode b_LB_layers 1 = .ok (.getfield 16, 3) := by decide +kernel
theorem d_LB_layers_4 : decode b_LB_layers 4 = .ok (.invokevirtual 29, 3) := by decide +kernel
theorem d_LB_layers_7 : decode b_LB_layers 7 = .ok (.ireturn, 1) := by decide +kernel
theorem d_LB_block_0 : decode b_LB_block 0 = .ok (.aload_n 0, 1) := by decide +kernel
theorem d_LB_block_1 : decode b_LB_block 1 = .ok (.getfield 10, 3) := by decide +kernel
theorem d_LB_block_4 : decode b_LB_block 4 = .ok (.invokevirtual 29, 3) := by decide +kernel
theorem d_LB_block_7 : decode b_LB_block 7 = .ok (.sipush 1024, 3) := by decide +kernel
theorem d_LB_block_10 : decode b_LB_block 10 = .ok (.if_icmp .lt 13, 3) := by decide +kernel
theorem d_LB_block_13 : decode b_LB_block 13 = .ok (.new 33, 3) := by decide +kernel
theorem d_LB_block_16 : decode b_LB_block 16 = .ok (.dup, 1) := by decide +kernel
theorem d_LB_block_17 : decode b_LB_block 17 = .ok (.ldc 35, 2) := by decide +kernel
theorem d_LB_block_19 : decode b_LB_block 19 = .ok (.invokespecial 37, 3) := by decide +kernel
theorem d_LB_block_22 : decode b_LB_block 22 = .ok (.athrow, 1) := by decide +kernel
theorem d_LB_block_23 : decode b_LB_block 23 = .ok (.aload_n 0, 1) := by decide +kernel
theorem d_LB_block_24 : decode b_LB_block 24 = .ok (.invokevirtual 19, 3) := by decide +kernel
theorem d_LB_block_27 : decode b_LB_block 27 = .ok (.aload_n 0, 1) := by decide +kernel
theorem d_LB_block_28 : decode b_LB_block 28 = .ok (.getfield 10, 3) := by decide +kernel
theorem d_LB_block_31 : decode b_LB_block 31 = .ok (.new 40, 3) := by decide +kernel
theorem d_LB_block_34 : decode b_LB_block 34 = .ok (.dup, 1) := by decide +kernel
theorem d_LB_block_35 : decode b_LB_block 35 = .ok (.invokespecial 42, 3) := by decide +kernel
theorem d_LB_block_38 : decode b_LB_block 38 = .ok (.invokevirtual 43, 3) := by decide +kernel
theorem d_LB_block_41 : decode b_LB_block 41 = .ok (.pop, 1) := by decide +kernel
theorem d_LB_block_42 : decode b_LB_block 42 = .ok (.aload_n 0, 1) := by decide +kernel
theorem d_LB_block_43 : decode b_LB_block 43 = .ok (.getfield 10, 3) := by decide +kernel
theorem d_LB_block_46 : decode b_LB_block 46 = .ok (.invokevirtual 29, 3) := by decide +kernel
theorem d_LB_block_49 : decode b_LB_block 49 = .ok (.iconst 1, 1) := by decide +kernel
theorem d_LB_block_50 : decode b_LB_block 50 = .ok (.isub, 1) := by decide +kernel
theorem d_LB_block_51 : decode b_LB_block 51 = .ok (.ireturn, 1) := by decide +kernel
theorem d_BK_init_0 : decode b_BK_init 0 = .ok (.aload_n 0, 1) := by decide +kernel
theorem d_BK_init_1 : decode b_BK_init 1 = .ok (.invokespecial 3, 3) := by decide +kernel
theorem d_BK_init_4 : decode b_BK_init 4 = .ok (.aload_n 0, 1) := by decide +kernel
theorem d_BK_init_5 : decode b_BK_init 5 = .ok (.bipush 121, 2) := by decide +kernel
theorem d_BK_init_7 : decode b_BK_init 7 = .ok (.newarray .int, 2) := by decide +kernel
theorem d_BK_init_9 : decode b_BK_init 9 = .ok (.putfield 9, 3) := by decide +kernel
theorem d_BK_init_12 : decode b_BK_init 12 = .ok (.aload_n 0, 1) := by decide +kernel
theorem d_BK_init_13 : decode b_BK_init 13 = .ok (.bipush 121, 2) := by decide +kernel
theorem d_BK_init_15 : decode b_BK_init 15 = .ok (.newarray .long, 2) := by decide +kernel
theorem d_BK_init_17 : decode b_BK_init 17 = .ok (.putfield 15, 3) := by decide +kernel
theorem d_BK_init_20 : decode b_BK_init 20 = .ok (.aload_n 0, 1) := by decide +kernel
theorem d_BK_init_21 : decode b_BK_init 21 = .ok (.bipush 121, 2) := by decide +kernel
theorem d_BK_init_23 : decode b_BK_init 23 = .ok (.newarray .int, 2) := by decide +kernel
theorem d_BK_init_25 : decode b_BK_init 25 = .ok (.putfield 19, 3) := by decide +kernel
theorem d_BK_init_28 : decode b_BK_init 28 = .ok (.return_, 1) := by decide +kernel
theorem d_LB_pass_0 : decode b_LB_pass 0 = .ok (.aload_n 0, 1) := by decide +kernel
theorem d_LB_pass_1 : decode b_LB_pass 1 = .ok (.iload_n 1, 1) := by decide +kernel
theorem d_LB_pass_2 : decode b_LB_pass 2 = .ok (.invokevirtual 47, 3) := by decide +kernel
theorem d_LB_pass_5 : decode b_LB_pass 5 = .ok (.ifCond .ne 13, 3) := by decide +kernel
theorem d_LB_pass_8 : decode b_LB_pass 8 = .ok (.new 51, 3) := by decide +kernel
theorem d_LB_pass_11 : decode b_LB_pass 11 = .ok (.dup, 1) := by decide +kernel
theorem d_LB_pass_12 : decode b_LB_pass 12 = .ok (.ldc 53, 2) := by decide +kernel
theorem d_LB_pass_14 : decode b_LB_pass 14 = .ok (.invokespecial 55, 3) := by decide +kernel
theorem d_LB_pass_17 : decode b_LB_pass 17 = .ok (.athrow, 1) := by decide +kernel
theorem d_LB_pass_18 : decode b_LB_pass 18 = .ok (.iload_n 2, 1) := by decide +kernel
theorem d_LB_pass_19 : decode b_LB_pass 19 = .ok (.ifCond .ge 13, 3) := by decide +kernel
theorem d_LB_pass_22 : decode b_LB_pass 22 = .ok (.new 51, 3) := by decide +kernel
theorem d_LB_pass_25 : decode b_LB_pass 25 = .ok (.dup, 1) := by decide +kernel
theorem d_LB_pass_26 : decode b_LB_pass 26 = .ok (.ldc 56, 2) := by decide +kernel
theorem d_LB_pass_28 : decode b_LB_pass 28 = .ok (.invokespecial 55, 3) := by decide +kernel
theorem d_LB_pass_31 : decode b_LB_pass 31 = .ok (.athrow, 1) := by decide +kernel
theorem d_LB_pass_32 : decode b_LB_pass 32 = .ok (.lload_n 3, 1) := by decide +kernel
theorem d_LB_pass_33 : decode b_LB_pass 33 = .ok (.ldc2_w 58, 3) := by decide +kernel
theorem d_LB_pass_36 : decode b_LB_pass 36 = .ok (.lcmp, 1) := by decide +kernel
theorem d_LB_pass_37 : decode b_LB_pass 37 = .ok (.ifCond .lt 11, 3) := by decide +kernel
theorem d_LB_pass_40 : decode b_LB_pass 40 = .ok (.lload_n 3, 1) := by decide +kernel
theorem d_LB_pass_41 : decode b_LB_pass 41 = .ok (.ldc2_w 60, 3) := by decide +kernel
theorem d_LB_pass_44 : decode b_LB_pass 44 = .ok (.lcmp, 1) := by decide +kernel
theorem d_LB_pass_45 : decode b_LB_pass 45 = .ok (.ifCond .le 13, 3) := by decide +kernel
theorem d_LB_pass_48 : decode b_LB_pass 48 = .ok (.new 51, 3) := by decide +kernel
theorem d_LB_pass_51 : decode b_LB_pass 51 = .ok (.dup, 1) := by decide +kernel
theorem d_LB_pass_52 : decode b_LB_pass 52 = .ok (.ldc 62, 2) := by decide +kernel
theorem d_LB_pass_54 : decode b_LB_pass 54 = .ok (.invokespecial 55, 3) := by decide +kernel
theorem d_LB_pass_57 : decode b_LB_pass 57 = .ok (.athrow, 1) := by decide +kernel
theorem d_LB_pass_58 : decode b_LB_pass 58 = .ok (.aload_n 0, 1) := by decide +kernel
theorem d_LB_pass_59 : decode b_LB_pass 59 = .ok (.getfield 10, 3) := by decide +kernel
theorem d_LB_pass_62 : decode b_LB_pass 62 = .ok (.iload_n 1, 1) := by decide +kernel
theorem d_LB_pass_63 : decode b_LB_pass 63 = .ok (.invokevirtual 64, 3) := by decide +kernel
theorem d_LB_pass_66 : decode b_LB_pass 66 = .ok (.checkcast 40, 3) := by decide +kernel
theorem d_LB_pass_69 : decode b_LB_pass 69 = .ok (.astore 5, 2) := by decide +kernel
theorem d_LB_pass_71 : decode b_LB_pass 71 = .ok (.aload_n 0, 1) := by decide +kernel
theorem d_LB_pass_72 : decode b_LB_pass 72 = .ok (.getfield 25, 3) := by decide +kernel
theorem d_LB_pass_75 : decode b_LB_pass 75 = .ok (.sipush 16384, 3) := by decide +kernel
theorem d_LB_pass_78 : decode b_LB_pass 78 = .ok (.if_icmp .ge 12, 3) := by decide +kernel
theorem d_LB_pass_81 : decode b_LB_pass 81 = .ok (.aload 5, 2) := by decide +kernel
theorem d_LB_pass_83 : decode b_LB_pass 83 = .ok (.iload_n 2, 1) := by decide +kernel
theorem d_LB_pass_84 : decode b_LB_pass 84 = .ok (.invokevirtual 68, 3) := by decide +kernel
theorem d_LB_pass_87 : decode b_LB_pass 87 = .ok (.ifCond .ne 13, 3) := by decide +kernel
theorem d_LB_pass_90 : decode b_LB_pass 90 = .ok (.new 33, 3) := by decide +kernel
theorem d_LB_pass_93 : decode b_LB_pass 93 = .ok (.dup, 1) := by decide +kernel
theorem d_LB_pass_94 : decode b_LB_pass 94 = .ok (.ldc 71, 2) := by decide +kernel
theorem d_LB_pass_96 : decode b_LB_pass 96 = .ok (.invokespecial 37, 3) := by decide +kernel
theorem d_LB_pass_99 : decode b_LB_pass 99 = .ok (.athrow, 1) := by decide +kernel
theorem d_LB_pass_100 : decode b_LB_pass 100 = .ok (.aload_n 0, 1) := by decide +kernel
theorem d_LB_pass_101 : decode b_LB_pass 101 = .ok (.invokevirtual 19, 3) := by decide +kernel
theorem d_LB_pass_104 : decode b_LB_pass 104 = .ok (.aload_n 0, 1) := by decide +kernel
theorem d_LB_pass_105 : decode b_LB_pass 105 = .ok (.dup, 1) := by decide +kernel
theorem d_LB_pass_106 : decode b_LB_pass 106 = .ok (.getfield 25, 3) := by decide +kernel
theorem d_LB_pass_109 : decode b_LB_pass 109 = .ok (.iconst 1, 1) := by decide +kernel
theorem d_LB_pass_110 : decode b_LB_pass 110 = .ok (.iadd, 1) := by decide +kernel
theorem d_LB_pass_111 : decode b_LB_pass 111 = .ok (.putfield 25, 3) := by decide +kernel
theorem d_LB_pass_114 : decode b_LB_pass 114 = .ok (.aload 5, 2) := by decide +kernel
theorem d_LB_pass_116 : decode b_LB_pass 116 = .ok (.iload_n 2, 1) := by decide +kernel
theorem d_LB_pass_117 : decode b_LB_pass 117 = .ok (.lload_n 3, 1) := by decide +kernel
theorem d_LB_pass_118 : decode b_LB_pass 118 = .ok (.invokevirtual 73, 3) := by decide +kernel
theorem d_LB_pass_121 : decode b_LB_pass 121 = .ok (.aload 5, 2) := by decide +kernel
theorem d_LB_pass_123 : decode b_LB_pass 123 = .ok (.getfield 77, 3) := by decide +kernel
theorem d_LB_pass_126 : decode b_LB_pass 126 = .ok (.ireturn, 1) := by decide +kernel
theorem d_LB_hasBlock_0 : decode b_LB_hasBlock 0 = .ok (.iload_n 1, 1) := by decide +kernel
theorem d_LB_hasBlock_1 : decode b_LB_hasBlock 1 = .ok (.ifCond .lt 18, 3) := by decide +kernel
theorem d_LB_hasBlock_4 : decode b_LB_hasBlock 4 = .ok (.iload_n 1, 1) := by decide +kernel
theorem d_LB_hasBlock_5 : decode b_LB_hasBlock 5 = .ok (.aload_n 0, 1) := by decide +kernel
theorem d_LB_hasBlock_6 : decode b_LB_hasBlock 6 = .ok (.getfield 10, 3) := by decide +kernel
theorem d_LB_hasBlock_9 : decode b_LB_hasBlock 9 = .ok (.invokevirtual 29, 3) := by decide +kernel
theorem d_LB_hasBlock_12 : decode b_LB_hasBlock 12 = .ok (.if_icmp .ge 7, 3) := by decide +kernel
theorem d_LB_hasBlock_15 : decode b_LB_hasBlock 15 = .ok (.iconst 1, 1) := by decide +kernel
theorem d_LB_hasBlock_16 : decode b_LB_hasBlock 16 = .ok (.goto 4, 3) := by decide +kernel
theorem d_LB_hasBlock_19 : decode b_LB_hasBlock 19 = .ok (.iconst 0, 1) := by decide +kernel
theorem d_LB_hasBlock_20 : decode b_LB_hasBlock 20 = .ok (.ireturn, 1) := by decide +kernel
theorem d_BK_hasRoomFor_0 : decode b_BK_hasRoomFor 0 = .ok (.aload_n 0, 1) := by decide +kernel
theorem d_BK_hasRoomFor_1 : decode b_BK_hasRoomFor 1 = .ok (.getfield 22, 3) := by decide +kernel
theorem d_BK_hasRoomFor_4 : decode b_BK_hasRoomFor 4 = .ok (.bipush 120, 2) := by decide +kernel
theorem d_BK_hasRoomFor_6 : decode b_BK_hasRoomFor 6 = .ok (.if_icmp .ge 23, 3) := by decide +kernel
theorem d_BK_hasRoomFor_9 : decode b_BK_hasRoomFor 9 = .ok (.iload_n 1, 1) := by decide +kernel
theorem d_BK_hasRoomFor_10 : decode b_BK_hasRoomFor 10 = .ok (.ldc 26, 2) := by decide +kernel
theorem d_BK_hasRoomFor_12 : decode b_BK_hasRoomFor 12 = .ok (.aload_n 0, 1) := by decide +kernel
theorem d_BK_hasRoomFor_13 : decode b_BK_hasRoomFor 13 = .ok (.getfield 9, 3) := by decide +kernel
theorem d_BK_hasRoomFor_16 : decode b_BK_hasRoomFor 16 = .ok (.aload_n 0, 1) := by decide +kernel
theorem d_BK_hasRoomFor_17 : decode b_BK_hasRoomFor 17 = .ok (.getfield 22, 3) := by decide +kernel
theorem d_BK_hasRoomFor_20 : decode b_BK_hasRoomFor 20 = .ok (.iaload, 1) := by decide +kernel
theorem d_BK_hasRoomFor_21 : decode b_BK_hasRoomFor 21 = .ok (.isub, 1) := by decide +kernel
theorem d_BK_hasRoomFor_22 : decode b_BK_hasRoomFor 22 = .ok (.if_icmp .gt 7, 3) := by decide +kernel
theorem d_BK_hasRoomFor_25 : decode b_BK_hasRoomFor 25 = .ok (.iconst 1, 1) := by decide +kernel
theorem d_BK_hasRoomFor_26 : decode b_BK_hasRoomFor 26 = .ok (.goto 4, 3) := by decide +kernel
theorem d_BK_hasRoomFor_29 : decode b_BK_hasRoomFor 29 = .ok (.iconst 0, 1) := by decide +kernel
theorem d_BK_hasRoomFor_30 : decode b_BK_hasRoomFor 30 = .ok (.ireturn, 1) := by decide +kernel
theorem d_BK_append_0 : decode b_BK_append 0 = .ok (.aload_n 0, 1) := by decide +kernel
theorem d_BK_append_1 : decode b_BK_append 1 = .ok (.getfield 9, 3) := by decide +kernel
theorem d_BK_append_4 : decode b_BK_append 4 = .ok (.aload_n 0, 1) := by decide +kernel
theorem d_BK_append_5 : decode b_BK_append 5 = .ok (.getfield 22, 3) := by decide +kernel
theorem d_BK_append_8 : decode b_BK_append 8 = .ok (.iconst 1, 1) := by decide +kernel
theorem d_BK_append_9 : decode b_BK_append 9 = .ok (.iadd, 1) := by decide +kernel
theorem d_BK_append_10 : decode b_BK_append 10 = .ok (.aload_n 0, 1) := by decide +kernel
theorem d_BK_append_11 : decode b_BK_append 11 = .ok (.getfield 9, 3) := by decide +kernel
theorem d_BK_append_14 : decode b_BK_append 14 = .ok (.aload_n 0, 1) := by decide +kernel
theorem d_BK_append_15 : decode b_BK_append 15 = .ok (.getfield 22, 3) := by decide +kernel
theorem d_BK_append_18 : decode b_BK_append 18 = .ok (.iaload, 1) := by decide +kernel
theorem d_BK_append_19 : decode b_BK_append 19 = .ok (.iload_n 1, 1) := by decide +kernel
theorem d_BK_append_20 : decode b_BK_append 20 = .ok (.iadd, 1) := by decide +kernel
theorem d_BK_append_21 : decode b_BK_append 21 = .ok (.iastore, 1) := by decide +kernel
theorem d_BK_append_22 : decode b_BK_append 22 = .ok (.aload_n 0, 1) := by decide +kernel
theorem d_BK_append_23 : decode b_BK_append 23 = .ok (.getfield 15, 3) := by decide +kernel
theorem d_BK_append_26 : decode b_BK_append 26 = .ok (.aload_n 0, 1) := by decide +kernel
theorem d_BK_append_27 : decode b_BK_append 27 = .ok (.getfield 22, 3) := by decide +kernel
theorem d_BK_append_30 : decode b_BK_append 30 = .ok (.iconst 1, 1) := by decide +kernel
theorem d_BK_append_31 : decode b_BK_append 31 = .ok (.iadd, 1) := by decide +kernel
theorem d_BK_append_32 : decode b_BK_append 32 = .ok (.aload_n 0, 1) := by decide +kernel
theorem d_BK_append_33 : decode b_BK_append 33 = .ok (.getfield 15, 3) := by decide +kernel
theorem d_BK_append_36 : decode b_BK_append 36 = .ok (.aload_n 0, 1) := by decide +kernel
theorem d_BK_append_37 : decode b_BK_append 37 = .ok (.getfield 22, 3) := by decide +kernel
theorem d_BK_append_40 : decode b_BK_append 40 = .ok (.laload, 1) := by decide +kernel
theorem d_BK_append_41 : decode b_BK_append 41 = .ok (.lload_n 2, 1) := by decide +kernel
theorem d_BK_append_42 : decode b_BK_append 42 = .ok (.ladd, 1) := by decide +kernel
theorem d_BK_append_43 : decode b_BK_append 43 = .ok (.lastore, 1) := by decide +kernel
theorem d_BK_append_44 : decode b_BK_append 44 = .ok (.aload_n 0, 1) := by decide +kernel
theorem d_BK_append_45 : decode b_BK_append 45 = .ok (.dup, 1) := by decide +kernel
theorem d_BK_append_46 : decode b_BK_append 46 = .ok (.getfield 22, 3) := by decide +kernel
theorem d_BK_append_49 : decode b_BK_append 49 = .ok (.iconst 1, 1) := by decide +kernel
theorem d_BK_append_50 : decode b_BK_append 50 = .ok (.iadd, 1) := by decide +kernel
theorem d_BK_append_51 : decode b_BK_append 51 = .ok (.putfield 22, 3) := by decide +kernel
theorem d_BK_append_54 : decode b_BK_append 54 = .ok (.aload_n 0, 1) := by decide +kernel
theorem d_BK_append_55 : decode b_BK_append 55 = .ok (.invokevirtual 27, 3) := by decide +kernel
theorem d_BK_append_58 : decode b_BK_append 58 = .ok (.return_, 1) := by decide +kernel
theorem d_BK_renewSteps_0 : decode b_BK_renewSteps 0 = .ok (.aload_n 0, 1) := by decide +kernel
theorem d_BK_renewSteps_1 : decode b_BK_renewSteps 1 = .ok (.getfield 30, 3) := by decide +kernel
theorem d_BK_renewSteps_4 : decode b_BK_renewSteps 4 = .ok (.istore_n 1, 1) := by decide +kernel
theorem d_BK_renewSteps_5 : decode b_BK_renewSteps 5 = .ok (.iload_n 1, 1) := by decide +kernel
theorem d_BK_renewSteps_6 : decode b_BK_renewSteps 6 = .ok (.ifCond .le 19, 3) := by decide +kernel
theorem d_BK_renewSteps_9 : decode b_BK_renewSteps 9 = .ok (.aload_n 0, 1) := by decide +kernel
theorem d_BK_renewSteps_10 : decode b_BK_renewSteps 10 = .ok (.iload_n 1, 1) := by decide +kernel
theorem d_BK_renewSteps_11 : decode b_BK_renewSteps 11 = .ok (.iconst 1, 1) := by decide +kernel
theorem d_BK_renewSteps_12 : decode b_BK_renewSteps 12 = .ok (.isub, 1) := by decide +kernel
theorem d_BK_renewSteps_13 : decode b_BK_renewSteps 13 = .ok (.invokevirtual 33, 3) := by decide +kernel
theorem d_BK_renewSteps_16 : decode b_BK_renewSteps 16 = .ok (.ifCond .eq 9, 3) := by decide +kernel
theorem d_BK_renewSteps_19 : decode b_BK_renewSteps 19 = .ok (.iinc 1 (-1), 3) := by decide +kernel
theorem d_BK_renewSteps_22 : decode b_BK_renewSteps 22 = .ok (.goto (-17), 3) := by decide +kernel
theorem d_BK_renewSteps_25 : decode b_BK_renewSteps 25 = .ok (.aload_n 0, 1) := by decide +kernel
theorem d_BK_renewSteps_26 : decode b_BK_renewSteps 26 = .ok (.getfield 15, 3) := by decide +kernel
theorem d_BK_renewSteps_29 : decode b_BK_renewSteps 29 = .ok (.aload_n 0, 1) := by decide +kernel
theorem d_BK_renewSteps_30 : decode b_BK_renewSteps 30 = .ok (.getfield 22, 3) := by decide +kernel
theorem d_BK_renewSteps_33 : decode b_BK_renewSteps 33 = .ok (.laload, 1) := by decide +kernel
theorem d_BK_renewSteps_34 : decode b_BK_renewSteps 34 = .ok (.aload_n 0, 1) := by decide +kernel
theorem d_BK_renewSteps_35 : decode b_BK_renewSteps 35 = .ok (.getfield 15, 3) := by decide +kernel
theorem d_BK_renewSteps_38 : decode b_BK_renewSteps 38 = .ok (.aload_n 0, 1) := by decide +kernel
theorem d_BK_renewSteps_39 : decode b_BK_renewSteps 39 = .ok (.getfield 19, 3) := by decide +kernel
theorem d_BK_renewSteps_42 : decode b_BK_renewSteps 42 = .ok (.iload_n 1, 1) := by decide +kernel
theorem d_BK_renewSteps_43 : decode b_BK_renewSteps 43 = .ok (.iaload, 1) := by decide +kernel
theorem d_BK_renewSteps_44 : decode b_BK_renewSteps 44 = .ok (.laload, 1) := by decide +kernel
theorem d_BK_renewSteps_45 : decode b_BK_renewSteps 45 = .ok (.lcmp, 1) := by decide +kernel
theorem d_BK_renewSteps_46 : decode b_BK_renewSteps 46 = .ok (.ifCond .le 16, 3) := by decide +kernel
theorem d_BK_renewSteps_49 : decode b_BK_renewSteps 49 = .ok (.iinc 1 1, 3) := by decide +kernel
theorem d_BK_renewSteps_52 : decode b_BK_renewSteps 52 = .ok (.aload_n 0, 1) := by decide +kernel
theorem d_BK_renewSteps_53 : decode b_BK_renewSteps 53 = .ok (.getfield 19, 3) := by decide +kernel
theorem d_BK_renewSteps_56 : decode b_BK_renewSteps 56 = .ok (.iload_n 1, 1) := by decide +kernel
theorem d_BK_renewSteps_57 : decode b_BK_renewSteps 57 = .ok (.aload_n 0, 1) := by decide +kernel
theorem d_BK_renewSteps_58 : decode b_BK_renewSteps 58 = .ok (.getfield 22, 3) := by decide +kernel
theorem d_BK_renewSteps_61 : decode b_BK_renewSteps 61 = .ok (.iastore, 1) := by decide +kernel
theorem d_BK_renewSteps_62 : decode b_BK_renewSteps 62 = .ok (.aload_n 0, 1) := by decide +kernel
theorem d_BK_renewSteps_63 : decode b_BK_renewSteps 63 = .ok (.iload_n 1, 1) := by decide +kernel
theorem d_BK_renewSteps_64 : decode b_BK_renewSteps 64 = .ok (.putfield 30, 3) := by decide +kernel
theorem d_BK_renewSteps_67 : decode b_BK_renewSteps 67 = .ok (.return_, 1) := by decide +kernel
theorem d_BK_newestOvertakes_0 : decode b_BK_newestOvertakes 0 = .ok (.aload_n 0, 1) := by decide +kernel
theorem d_BK_newestOvertakes_1 : decode b_BK_newestOvertakes 1 = .ok (.getfield 19, 3) := by decide +kernel
theorem d_BK_newestOvertakes_4 : decode b_BK_newestOvertakes 4 = .ok (.iload_n 1, 1) := by decide +kernel
theorem d_BK_newestOvertakes_5 : decode b_BK_newestOvertakes 5 = .ok (.iaload, 1) := by decide +kernel
theorem d_BK_newestOvertakes_6 : decode b_BK_newestOvertakes 6 = .ok (.istore_n 2, 1) := by decide +kernel
theorem d_BK_newestOvertakes_7 : decode b_BK_newestOvertakes 7 = .ok (.aload_n 0, 1) := by decide +kernel
theorem d_BK_newestOvertakes_8 : decode b_BK_newestOvertakes 8 = .ok (.getfield 15, 3) := by decide +kernel
theorem d_BK_newestOvertakes_11 : decode b_BK_newestOvertakes 11 = .ok (.aload_n 0, 1) := by decide +kernel
theorem d_BK_newestOvertakes_12 : decode b_BK_newestOvertakes 12 = .ok (.getfield 22, 3) := by decide +kernel
theorem d_BK_newestOvertakes_15 : decode b_BK_newestOvertakes 15 = .ok (.laload, 1) := by decide +kernel
theorem d_BK_newestOvertakes_16 : decode b_BK_newestOvertakes 16 = .ok (.aload_n 0, 1) := by decide +kernel
theorem d_BK_newestOvertakes_17 : decode b_BK_newestOvertakes 17 = .ok (.getfield 15, 3) := by decide +kernel
theorem d_BK_newestOvertakes_20 : decode b_BK_newestOvertakes 20 = .ok (.iload_n 2, 1) := by decide +kernel
theorem d_BK_newestOvertakes_21 : decode b_BK_newestOvertakes 21 = .ok (.laload, 1) := by decide +kernel
theorem d_BK_newestOvertakes_22 : decode b_BK_newestOvertakes 22 = .ok (.lsub, 1) := by decide +kernel
theorem d_BK_newestOvertakes_23 : decode b_BK_newestOvertakes 23 = .ok (.lstore_n 3, 1) := by decide +kernel
theorem d_BK_newestOvertakes_24 : decode b_BK_newestOvertakes 24 = .ok (.aload_n 0, 1) := by decide +kernel
theorem d_BK_newestOvertakes_25 : decode b_BK_newestOvertakes 25 = .ok (.getfield 9, 3) := by decide +kernel
theorem d_BK_newestOvertakes_28 : decode b_BK_newestOvertakes 28 = .ok (.aload_n 0, 1) := by decide +kernel
theorem d_BK_newestOvertakes_29 : decode b_BK_newestOvertakes 29 = .ok (.getfield 22, 3) := by decide +kernel
theorem d_BK_newestOvertakes_32 : decode b_BK_newestOvertakes 32 = .ok (.iaload, 1) := by decide +kernel
theorem d_BK_newestOvertakes_33 : decode b_BK_newestOvertakes 33 = .ok (.aload_n 0, 1) := by decide +kernel
theorem d_BK_newestOvertakes_34 : decode b_BK_newestOvertakes 34 = .ok (.getfield 9, 3) := by decide +kernel
theorem d_BK_newestOvertakes_37 : decode b_BK_newestOvertakes 37 = .ok (.iload_n 2, 1) := by decide +kernel
theorem d_BK_newestOvertakes_38 : decode b_BK_newestOvertakes 38 = .ok (.iaload, 1) := by decide +kernel
theorem d_BK_newestOvertakes_39 : decode b_BK_newestOvertakes 39 = .ok (.isub, 1) := by decide +kernel
theorem d_BK_newestOvertakes_40 : decode b_BK_newestOvertakes 40 = .ok (.istore 5, 2) := by decide +kernel
theorem d_BK_newestOvertakes_42 : decode b_BK_newestOvertakes 42 = .ok (.lload_n 3, 1) := by decide +kernel
theorem d_BK_newestOvertakes_43 : decode b_BK_newestOvertakes 43 = .ok (.lconst 0, 1) := by decide +kernel
theorem d_BK_newestOvertakes_44 : decode b_BK_newestOvertakes 44 = .ok (.lcmp, 1) := by decide +kernel
theorem d_BK_newestOvertakes_45 : decode b_BK_newestOvertakes 45 = .ok (.ifCond .le 26, 3) := by decide +kernel
theorem d_BK_newestOvertakes_48 : decode b_BK_newestOvertakes 48 = .ok (.lload_n 3, 1) := by decide +kernel
theorem d_BK_newestOvertakes_49 : decode b_BK_newestOvertakes 49 = .ok (.iload 5, 2) := by decide +kernel
theorem d_BK_newestOvertakes_51 : decode b_BK_newestOvertakes 51 = .ok (.aload_n 0, 1) := by decide +kernel
theorem d_BK_newestOvertakes_52 : decode b_BK_newestOvertakes 52 = .ok (.iload_n 1, 1) := by decide +kernel
theorem d_BK_newestOvertakes_53 : decode b_BK_newestOvertakes 53 = .ok (.invokevirtual 37, 3) := by decide +kernel
theorem d_BK_newestOvertakes_56 : decode b_BK_newestOvertakes 56 = .ok (.aload_n 0, 1) := by decide +kernel
theorem d_BK_newestOvertakes_57 : decode b_BK_newestOvertakes 57 = .ok (.iload_n 1, 1) := by decide +kernel
theorem d_BK_newestOvertakes_58 : decode b_BK_newestOvertakes 58 = .ok (.invokevirtual 41, 3) := by decide +kernel
theorem d_BK_newestOvertakes_61 : decode b_BK_newestOvertakes 61 = .ok (.invokestatic 45, 3) := by decide +kernel
theorem d_BK_newestOvertakes_64 : decode b_BK_newestOvertakes 64 = .ok (.ifCond .lt 7, 3) := by decide +kernel
theorem d_BK_newestOvertakes_67 : decode b_BK_newestOvertakes 67 = .ok (.iconst 1, 1) := by decide +kernel
theorem d_BK_newestOvertakes_68 : decode b_BK_newestOvertakes 68 = .ok (.goto 4, 3) := by decide +kernel
theorem d_BK_newestOvertakes_71 : decode b_BK_newestOvertakes 71 = .ok (.iconst 0, 1) := by decide +kernel
theorem d_BK_newestOvertakes_72 : decode b_BK_newestOvertakes 72 = .ok (.ireturn, 1) := by decide +kernel
theorem d_BK_stepGain_0 : decode b_BK_stepGain 0 = .ok (.aload_n 0, 1) := by decide +kernel
theorem d_BK_stepGain_1 : decode b_BK_stepGain 1 = .ok (.getfield 15, 3) := by decide +kernel
theorem d_BK_stepGain_4 : decode b_BK_stepGain 4 = .ok (.aload_n 0, 1) := by decide +kernel
theorem d_BK_stepGain_5 : decode b_BK_stepGain 5 = .ok (.getfield 19, 3) := by decide +kernel
theorem d_BK_stepGain_8 : decode b_BK_stepGain 8 = .ok (.iload_n 1, 1) := by decide +kernel
theorem d_BK_stepGain_9 : decode b_BK_stepGain 9 = .ok (.iconst 1, 1) := by decide +kernel
theorem d_BK_stepGain_10 : decode b_BK_stepGain 10 = .ok (.iadd, 1) := by decide +kernel
theorem d_BK_stepGain_11 : decode b_BK_stepGain 11 = .ok (.iaload, 1) := by decide +kernel
theorem d_BK_stepGain_12 : decode b_BK_stepGain 12 = .ok (.laload, 1) := by decide +kernel
theorem d_BK_stepGain_13 : decode b_BK_stepGain 13 = .ok (.aload_n 0, 1) := by decide +kernel
theorem d_BK_stepGain_14 : decode b_BK_stepGain 14 = .ok (.getfield 15, 3) := by decide +kernel
theorem d_BK_stepGain_17 : decode b_BK_stepGain 17 = .ok (.aload_n 0, 1) := by decide +kernel
theorem d_BK_stepGain_18 : decode b_BK_stepGain 18 = .ok (.getfield 19, 3) := by decide +kernel
theorem d_BK_stepGain_21 : decode b_BK_stepGain 21 = .ok (.iload_n 1, 1) := by decide +kernel
theorem d_BK_stepGain_22 : decode b_BK_stepGain 22 = .ok (.iaload, 1) := by decide +kernel
theorem d_BK_stepGain_23 : decode b_BK_stepGain 23 = .ok (.laload, 1) := by decide +kernel
theorem d_BK_stepGain_24 : decode b_BK_stepGain 24 = .ok (.lsub, 1) := by decide +kernel
theorem d_BK_stepGain_25 : decode b_BK_stepGain 25 = .ok (.lreturn, 1) := by decide +kernel
theorem d_BK_stepBytes_0 : decode b_BK_stepBytes 0 = .ok (.aload_n 0, 1) := by decide +kernel
theorem d_BK_stepBytes_1 : decode b_BK_stepBytes 1 = .ok (.getfield 9, 3) := by decide +kernel
theorem d_BK_stepBytes_4 : decode b_BK_stepBytes 4 = .ok (.aload_n 0, 1) := by decide +kernel
theorem d_BK_stepBytes_5 : decode b_BK_stepBytes 5 = .ok (.getfield 19, 3) := by decide +kernel
theorem d_BK_stepBytes_8 : decode b_BK_stepBytes 8 = .ok (.iload_n 1, 1) := by decide +kernel
theorem d_BK_stepBytes_9 : decode b_BK_stepBytes 9 = .ok (.iconst 1, 1) := by decide +kernel
theorem d_BK_stepBytes_10 : decode b_BK_stepBytes 10 = .ok (.iadd, 1) := by decide +kernel
theorem d_BK_stepBytes_11 : decode b_BK_stepBytes 11 = .ok (.iaload, 1) := by decide +kernel
theorem d_BK_stepBytes_12 : decode b_BK_stepBytes 12 = .ok (.iaload, 1) := by decide +kernel
theorem d_BK_stepBytes_13 : decode b_BK_stepBytes 13 = .ok (.aload_n 0, 1) := by decide +kernel
theorem d_BK_stepBytes_14 : decode b_BK_stepBytes 14 = .ok (.getfield 9, 3) := by decide +kernel
theorem d_BK_stepBytes_17 : decode b_BK_stepBytes 17 = .ok (.aload_n 0, 1) := by decide +kernel
theorem d_BK_stepBytes_18 : decode b_BK_stepBytes 18 = .ok (.getfield 19, 3) := by decide +kernel
theorem d_BK_stepBytes_21 : decode b_BK_stepBytes 21 = .ok (.iload_n 1, 1) := by decide +kernel
theorem d_BK_stepBytes_22 : decode b_BK_stepBytes 22 = .ok (.iaload, 1) := by decide +kernel
theorem d_BK_stepBytes_23 : decode b_BK_stepBytes 23 = .ok (.iaload, 1) := by decide +kernel
theorem d_BK_stepBytes_24 : decode b_BK_stepBytes 24 = .ok (.isub, 1) := by decide +kernel
theorem d_BK_stepBytes_25 : decode b_BK_stepBytes 25 = .ok (.ireturn, 1) := by decide +kernel
theorem d_LB_compareSlopes_0 : decode b_LB_compareSlopes 0 = .ok (.lload_n 0, 1) := by decide +kernel
theorem d_LB_compareSlopes_1 : decode b_LB_compareSlopes 1 = .ok (.iload 5, 2) := by decide +kernel
theorem d_LB_compareSlopes_3 : decode b_LB_compareSlopes 3 = .ok (.i2l, 1) := by decide +kernel
theorem d_LB_compareSlopes_4 : decode b_LB_compareSlopes 4 = .ok (.lmul, 1) := by decide +kernel
theorem d_LB_compareSlopes_5 : decode b_LB_compareSlopes 5 = .ok (.lload_n 3, 1) := by decide +kernel
theorem d_LB_compareSlopes_6 : decode b_LB_compareSlopes 6 = .ok (.iload_n 2, 1) := by decide +kernel
theorem d_LB_compareSlopes_7 : decode b_LB_compareSlopes 7 = .ok (.i2l, 1) := by decide +kernel
theorem d_LB_compareSlopes_8 : decode b_LB_compareSlopes 8 = .ok (.lmul, 1) := by decide +kernel
theorem d_LB_compareSlopes_9 : decode b_LB_compareSlopes 9 = .ok (.invokestatic 194, 3) := by decide +kernel
theorem d_LB_compareSlopes_12 : decode b_LB_compareSlopes 12 = .ok (.ireturn, 1) := by decide +kernel
theorem d_LB_step_0 : decode b_LB_step 0 = .ok (.aload_n 0, 1) := by decide +kernel
theorem d_LB_step_1 : decode b_LB_step 1 = .ok (.iload_n 1, 1) := by decide +kernel
theorem d_LB_step_2 : decode b_LB_step 2 = .ok (.invokevirtual 47, 3) := by decide +kernel
theorem d_LB_step_5 : decode b_LB_step 5 = .ok (.ifCond .ne 13, 3) := by decide +kernel
theorem d_LB_step_8 : decode b_LB_step 8 = .ok (.new 51, 3) := by decide +kernel
theorem d_LB_step_11 : decode b_LB_step 11 = .ok (.dup, 1) := by decide +kernel
theorem d_LB_step_12 : decode b_LB_step 12 = .ok (.ldc 53, 2) := by decide +kernel
theorem d_LB_step_14 : decode b_LB_step 14 = .ok (.invokespecial 55, 3) := by decide +kernel
theorem d_LB_step_17 : decode b_LB_step 17 = .ok (.athrow, 1) := by decide +kernel
theorem d_LB_step_18 : decode b_LB_step 18 = .ok (.aload_n 0, 1) := by decide +kernel
theorem d_LB_step_19 : decode b_LB_step 19 = .ok (.getfield 10, 3) := by decide +kernel
theorem d_LB_step_22 : decode b_LB_step 22 = .ok (.iload_n 1, 1) := by decide +kernel
theorem d_LB_step_23 : decode b_LB_step 23 = .ok (.invokevirtual 64, 3) := by decide +kernel
theorem d_LB_step_26 : decode b_LB_step 26 = .ok (.checkcast 40, 3) := by decide +kernel
theorem d_LB_step_29 : decode b_LB_step 29 = .ok (.astore 4, 2) := by decide +kernel
theorem d_LB_step_31 : decode b_LB_step 31 = .ok (.iload_n 2, 1) := by decide +kernel
theorem d_LB_step_32 : decode b_LB_step 32 = .ok (.iconst (-1), 1) := by decide +kernel
theorem d_LB_step_33 : decode b_LB_step 33 = .ok (.if_icmp .ne 9, 3) := by decide +kernel
theorem d_LB_step_36 : decode b_LB_step 36 = .ok (.aload 4, 2) := by decide +kernel
theorem d_LB_step_38 : decode b_LB_step 38 = .ok (.getfield 80, 3) := by decide +kernel
theorem d_LB_step_41 : decode b_LB_step 41 = .ok (.ireturn, 1) := by decide +kernel
theorem d_LB_step_42 : decode b_LB_step 42 = .ok (.iload_n 3, 1) := by decide +kernel
theorem d_LB_step_43 : decode b_LB_step 43 = .ok (.ifCond .eq 18, 3) := by decide +kernel
theorem d_LB_step_46 : decode b_LB_step 46 = .ok (.iload_n 3, 1) := by decide +kernel
theorem d_LB_step_47 : decode b_LB_step 47 = .ok (.iconst 1, 1) := by decide +kernel
theorem d_LB_step_48 : decode b_LB_step 48 = .ok (.if_icmp .eq 13, 3) := by decide +kernel
theorem d_LB_step_51 : decode b_LB_step 51 = .ok (.new 51, 3) := by decide +kernel
theorem d_LB_step_54 : decode b_LB_step 54 = .ok (.dup, 1) := by decide +kernel
theorem d_LB_step_55 : decode b_LB_step 55 = .ok (.ldc 83, 2) := by decide +kernel
theorem d_LB_step_57 : decode b_LB_step 57 = .ok (.invokespecial 55, 3) := by decide +kernel
theorem d_LB_step_60 : decode b_LB_step 60 = .ok (.athrow, 1) := by decide +kernel
theorem d_LB_step_61 : decode b_LB_step 61 = .ok (.aload 4, 2) := by decide +kernel
theorem d_LB_step_63 : decode b_LB_step 63 = .ok (.iload_n 2, 1) := by decide +kernel
theorem d_LB_step_64 : decode b_LB_step 64 = .ok (.invokevirtual 85, 3) := by decide +kernel
theorem d_LB_step_67 : decode b_LB_step 67 = .ok (.ifCond .ne 13, 3) := by decide +kernel
theorem d_LB_step_70 : decode b_LB_step 70 = .ok (.new 88, 3) := by decide +kernel
theorem d_LB_step_73 : decode b_LB_step 73 = .ok (.dup, 1) := by decide +kernel
theorem d_LB_step_74 : decode b_LB_step 74 = .ok (.ldc 90, 2) := by decide +kernel
theorem d_LB_step_76 : decode b_LB_step 76 = .ok (.invokespecial 92, 3) := by decide +kernel
theorem d_LB_step_79 : decode b_LB_step 79 = .ok (.athrow, 1) := by decide +kernel
theorem d_LB_step_80 : decode b_LB_step 80 = .ok (.iload_n 3, 1) := by decide +kernel
theorem d_LB_step_81 : decode b_LB_step 81 = .ok (.ifCond .ne 12, 3) := by decide +kernel
theorem d_LB_step_84 : decode b_LB_step 84 = .ok (.aload 4, 2) := by decide +kernel
theorem d_LB_step_86 : decode b_LB_step 86 = .ok (.iload_n 2, 1) := by decide +kernel
theorem d_LB_step_87 : decode b_LB_step 87 = .ok (.invokevirtual 93, 3) := by decide +kernel
theorem d_LB_step_90 : decode b_LB_step 90 = .ok (.goto 9, 3) := by decide +kernel
theorem d_LB_step_93 : decode b_LB_step 93 = .ok (.aload 4, 2) := by decide +kernel
theorem d_LB_step_95 : decode b_LB_step 95 = .ok (.iload_n 2, 1) := by decide +kernel
theorem d_LB_step_96 : decode b_LB_step 96 = .ok (.invokevirtual 97, 3) := by decide +kernel
theorem d_LB_step_99 : decode b_LB_step 99 = .ok (.ireturn, 1) := by decide +kernel
theorem d_BK_hasStep_0 : decode b_BK_hasStep 0 = .ok (.iload_n 1, 1) := by decide +kernel
theorem d_BK_hasStep_1 : decode b_BK_hasStep 1 = .ok (.ifCond .lt 15, 3) := by decide +kernel
theorem d_BK_hasStep_4 : decode b_BK_hasStep 4 = .ok (.iload_n 1, 1) := by decide +kernel
theorem d_BK_hasStep_5 : decode b_BK_hasStep 5 = .ok (.aload_n 0, 1) := by decide +kernel
theorem d_BK_hasStep_6 : decode b_BK_hasStep 6 = .ok (.getfield 30, 3) := by decide +kernel
theorem d_BK_hasStep_9 : decode b_BK_hasStep 9 = .ok (.if_icmp .ge 7, 3) := by decide +kernel
theorem d_BK_hasStep_12 : decode b_BK_hasStep 12 = .ok (.iconst 1, 1) := by decide +kernel
theorem d_BK_hasStep_13 : decode b_BK_hasStep 13 = .ok (.goto 4, 3) := by decide +kernel
theorem d_BK_hasStep_16 : decode b_BK_hasStep 16 = .ok (.iconst 0, 1) := by decide +kernel
theorem d_BK_hasStep_17 : decode b_BK_hasStep 17 = .ok (.ireturn, 1) := by decide +kernel
theorem d_BK_stepEnd_0 : decode b_BK_stepEnd 0 = .ok (.aload_n 0, 1) := by decide +kernel
theorem d_BK_stepEnd_1 : decode b_BK_stepEnd 1 = .ok (.getfield 19, 3) := by decide +kernel
theorem d_BK_stepEnd_4 : decode b_BK_stepEnd 4 = .ok (.iload_n 1, 1) := by decide +kernel
theorem d_BK_stepEnd_5 : decode b_BK_stepEnd 5 = .ok (.iconst 1, 1) := by decide +kernel
theorem d_BK_stepEnd_6 : decode b_BK_stepEnd 6 = .ok (.iadd, 1) := by decide +kernel
theorem d_BK_stepEnd_7 : decode b_BK_stepEnd 7 = .ok (.iaload, 1) := by decide +kernel
theorem d_BK_stepEnd_8 : decode b_BK_stepEnd 8 = .ok (.ireturn, 1) := by decide +kernel
theorem d_LB_gain_0 : decode b_LB_gain 0 = .ok (.aload_n 0, 1) := by decide +kernel
theorem d_LB_gain_1 : decode b_LB_gain 1 = .ok (.iload_n 1, 1) := by decide +kernel
theorem d_LB_gain_2 : decode b_LB_gain 2 = .ok (.invokevirtual 47, 3) := by decide +kernel
theorem d_LB_gain_5 : decode b_LB_gain 5 = .ok (.ifCond .ne 13, 3) := by decide +kernel
theorem d_LB_gain_8 : decode b_LB_gain 8 = .ok (.new 51, 3) := by decide +kernel
theorem d_LB_gain_11 : decode b_LB_gain 11 = .ok (.dup, 1) := by decide +kernel
theorem d_LB_gain_12 : decode b_LB_gain 12 = .ok (.ldc 53, 2) := by decide +kernel
theorem d_LB_gain_14 : decode b_LB_gain 14 = .ok (.invokespecial 55, 3) := by decide +kernel
theorem d_LB_gain_17 : decode b_LB_gain 17 = .ok (.athrow, 1) := by decide +kernel
theorem d_LB_gain_18 : decode b_LB_gain 18 = .ok (.aload_n 0, 1) := by decide +kernel
theorem d_LB_gain_19 : decode b_LB_gain 19 = .ok (.getfield 10, 3) := by decide +kernel
theorem d_LB_gain_22 : decode b_LB_gain 22 = .ok (.iload_n 1, 1) := by decide +kernel
theorem d_LB_gain_23 : decode b_LB_gain 23 = .ok (.invokevirtual 64, 3) := by decide +kernel
theorem d_LB_gain_26 : decode b_LB_gain 26 = .ok (.checkcast 40, 3) := by decide +kernel
theorem d_LB_gain_29 : decode b_LB_gain 29 = .ok (.astore_n 3, 1) := by decide +kernel
theorem d_LB_gain_30 : decode b_LB_gain 30 = .ok (.aload_n 3, 1) := by decide +kernel
theorem d_LB_gain_31 : decode b_LB_gain 31 = .ok (.iload_n 2, 1) := by decide +kernel
theorem d_LB_gain_32 : decode b_LB_gain 32 = .ok (.invokevirtual 85, 3) := by decide +kernel
theorem d_LB_gain_35 : decode b_LB_gain 35 = .ok (.ifCond .ne 13, 3) := by decide +kernel
theorem d_LB_gain_38 : decode b_LB_gain 38 = .ok (.new 88, 3) := by decide +kernel
theorem d_LB_gain_41 : decode b_LB_gain 41 = .ok (.dup, 1) := by decide +kernel
theorem d_LB_gain_42 : decode b_LB_gain 42 = .ok (.ldc 90, 2) := by decide +kernel
theorem d_LB_gain_44 : decode b_LB_gain 44 = .ok (.invokespecial 92, 3) := by decide +kernel
theorem d_LB_gain_47 : decode b_LB_gain 47 = .ok (.athrow, 1) := by decide +kernel
theorem d_LB_gain_48 : decode b_LB_gain 48 = .ok (.aload_n 3, 1) := by decide +kernel
theorem d_LB_gain_49 : decode b_LB_gain 49 = .ok (.iload_n 2, 1) := by decide +kernel
theorem d_LB_gain_50 : decode b_LB_gain 50 = .ok (.invokevirtual 100, 3) := by decide +kernel
theorem d_LB_gain_53 : decode b_LB_gain 53 = .ok (.lreturn, 1) := by decide +kernel
theorem d_LB_layer_0 : decode b_LB_layer 0 = .ok (.iload_n 1, 1) := by decide +kernel
theorem d_LB_layer_1 : decode b_LB_layer 1 = .ok (.iconst (-1), 1) := by decide +kernel
theorem d_LB_layer_2 : decode b_LB_layer 2 = .ok (.if_icmp .ge 13, 3) := by decide +kernel
theorem d_LB_layer_5 : decode b_LB_layer 5 = .ok (.new 51, 3) := by decide +kernel
theorem d_LB_layer_8 : decode b_LB_layer 8 = .ok (.dup, 1) := by decide +kernel
theorem d_LB_layer_9 : decode b_LB_layer 9 = .ok (.ldc 104, 2) := by decide +kernel
theorem d_LB_layer_11 : decode b_LB_layer 11 = .ok (.invokespecial 55, 3) := by decide +kernel
theorem d_LB_layer_14 : decode b_LB_layer 14 = .ok (.athrow, 1) := by decide +kernel
theorem d_LB_layer_15 : decode b_LB_layer 15 = .ok (.aload_n 0, 1) := by decide +kernel
theorem d_LB_layer_16 : decode b_LB_layer 16 = .ok (.getfield 16, 3) := by decide +kernel
theorem d_LB_layer_19 : decode b_LB_layer 19 = .ok (.invokevirtual 29, 3) := by decide +kernel
theorem d_LB_layer_22 : decode b_LB_layer 22 = .ok (.bipush 64, 2) := by decide +kernel
theorem d_LB_layer_24 : decode b_LB_layer 24 = .ok (.if_icmp .lt 13, 3) := by decide +kernel
theorem d_LB_layer_27 : decode b_LB_layer 27 = .ok (.new 33, 3) := by decide +kernel
theorem d_LB_layer_30 : decode b_LB_layer 30 = .ok (.dup, 1) := by decide +kernel
theorem d_LB_layer_31 : decode b_LB_layer 31 = .ok (.ldc 106, 2) := by decide +kernel
theorem d_LB_layer_33 : decode b_LB_layer 33 = .ok (.invokespecial 37, 3) := by decide +kernel
theorem d_LB_layer_36 : decode b_LB_layer 36 = .ok (.athrow, 1) := by decide +kernel
theorem d_LB_layer_37 : decode b_LB_layer 37 = .ok (.new 108, 3) := by decide +kernel
theorem d_LB_layer_40 : decode b_LB_layer 40 = .ok (.dup, 1) := by decide +kernel
theorem d_LB_layer_41 : decode b_LB_layer 41 = .ok (.aload_n 0, 1) := by decide +kernel
theorem d_LB_layer_42 : decode b_LB_layer 42 = .ok (.getfield 10, 3) := by decide +kernel
theorem d_LB_layer_45 : decode b_LB_layer 45 = .ok (.invokevirtual 29, 3) := by decide +kernel
theorem d_LB_layer_48 : decode b_LB_layer 48 = .ok (.invokespecial 110, 3) := by decide +kernel
theorem d_LB_layer_51 : decode b_LB_layer 51 = .ok (.astore_n 2, 1) := by decide +kernel
theorem d_LB_layer_52 : decode b_LB_layer 52 = .ok (.iload_n 1, 1) := by decide +kernel
theorem d_LB_layer_53 : decode b_LB_layer 53 = .ok (.iconst (-1), 1) := by decide +kernel
theorem d_LB_layer_54 : decode b_LB_layer 54 = .ok (.if_icmp .ne 10, 3) := by decide +kernel
theorem d_LB_layer_57 : decode b_LB_layer 57 = .ok (.aload_n 0, 1) := by decide +kernel
theorem d_LB_layer_58 : decode b_LB_layer 58 = .ok (.invokevirtual 113, 3) := by decide +kernel
theorem d_LB_layer_61 : decode b_LB_layer 61 = .ok (.goto 9, 3) := by decide +kernel
theorem d_LB_layer_64 : decode b_LB_layer 64 = .ok (.aload_n 0, 1) := by decide +kernel
theorem d_LB_layer_65 : decode b_LB_layer 65 = .ok (.iload_n 1, 1) := by decide +kernel
theorem d_LB_layer_66 : decode b_LB_layer 66 = .ok (.aload_n 2, 1) := by decide +kernel
theorem d_LB_layer_67 : decode b_LB_layer 67 = .ok (.invokevirtual 116, 3) := by decide +kernel
theorem d_LB_layer_70 : decode b_LB_layer 70 = .ok (.aload_n 0, 1) := by decide +kernel
theorem d_LB_layer_71 : decode b_LB_layer 71 = .ok (.aload_n 2, 1) := by decide +kernel
theorem d_LB_layer_72 : decode b_LB_layer 72 = .ok (.invokevirtual 120, 3) := by decide +kernel
theorem d_LB_layer_75 : decode b_LB_layer 75 = .ok (.aload_n 0, 1) := by decide +kernel
theorem d_LB_layer_76 : decode b_LB_layer 76 = .ok (.getfield 16, 3) := by decide +kernel
theorem d_LB_layer_79 : decode b_LB_layer 79 = .ok (.aload_n 2, 1) := by decide +kernel
theorem d_LB_layer_80 : decode b_LB_layer 80 = .ok (.invokevirtual 43, 3) := by decide +kernel
theorem d_LB_layer_83 : decode b_LB_layer 83 = .ok (.pop, 1) := by decide +kernel
theorem d_LB_layer_84 : decode b_LB_layer 84 = .ok (.aload_n 2, 1) := by decide +kernel
theorem d_LB_layer_85 : decode b_LB_layer 85 = .ok (.getfield 124, 3) := by decide +kernel
theorem d_LB_layer_88 : decode b_LB_layer 88 = .ok (.ireturn, 1) := by decide +kernel
theorem d_LY_init_0 : decode b_LY_init 0 = .ok (.aload_n 0, 1) := by decide +kernel
theorem d_LY_init_1 : decode b_LY_init 1 = .ok (.invokespecial 3, 3) := by decide +kernel
theorem d_LY_init_4 : decode b_LY_init 4 = .ok (.aload_n 0, 1) := by decide +kernel
theorem d_LY_init_5 : decode b_LY_init 5 = .ok (.iload_n 1, 1) := by decide +kernel
theorem d_LY_init_6 : decode b_LY_init 6 = .ok (.newarray .int, 2) := by decide +kernel
theorem d_LY_init_8 : decode b_LY_init 8 = .ok (.putfield 9, 3) := by decide +kernel
theorem d_LY_init_11 : decode b_LY_init 11 = .ok (.aload_n 0, 1) := by decide +kernel
theorem d_LY_init_12 : decode b_LY_init 12 = .ok (.ldc2_w 15, 3) := by decide +kernel
theorem d_LY_init_15 : decode b_LY_init 15 = .ok (.putfield 17, 3) := by decide +kernel
theorem d_LY_init_18 : decode b_LY_init 18 = .ok (.aload_n 0, 1) := by decide +kernel
theorem d_LY_init_19 : decode b_LY_init 19 = .ok (.iconst (-1), 1) := by decide +kernel
theorem d_LY_init_20 : decode b_LY_init 20 = .ok (.putfield 21, 3) := by decide +kernel
theorem d_LY_init_23 : decode b_LY_init 23 = .ok (.return_, 1) := by decide +kernel
theorem d_LB_takeAllPasses_0 : decode b_LB_takeAllPasses 0 = .ok (.aload_n 0, 1) := by decide +kernel
theorem d_LB_takeAllPasses_1 : decode b_LB_takeAllPasses 1 = .ok (.iconst 0, 1) := by decide +kernel
theorem d_LB_takeAllPasses_2 : decode b_LB_takeAllPasses 2 = .ok (.putfield 147, 3) := by decide +kernel
theorem d_LB_takeAllPasses_5 : decode b_LB_takeAllPasses 5 = .ok (.iconst 0, 1) := by decide +kernel
theorem d_LB_takeAllPasses_6 : decode b_LB_takeAllPasses 6 = .ok (.istore_n 1, 1) := by decide +kernel
theorem d_LB_takeAllPasses_7 : decode b_LB_takeAllPasses 7 = .ok (.iload_n 1, 1) := by decide +kernel
theorem d_LB_takeAllPasses_8 : decode b_LB_takeAllPasses 8 = .ok (.aload_n 0, 1) := by decide +kernel
theorem d_LB_takeAllPasses_9 : decode b_LB_takeAllPasses 9 = .ok (.getfield 10, 3) := by decide +kernel
theorem d_LB_takeAllPasses_12 : decode b_LB_takeAllPasses 12 = .ok (.invokevirtual 29, 3) := by decide +kernel
theorem d_LB_takeAllPasses_15 : decode b_LB_takeAllPasses 15 = .ok (.if_icmp .ge 38, 3) := by decide +kernel
theorem d_LB_takeAllPasses_18 : decode b_LB_takeAllPasses 18 = .ok (.aload_n 0, 1) := by decide +kernel
theorem d_LB_takeAllPasses_19 : decode b_LB_takeAllPasses 19 = .ok (.getfield 10, 3) := by decide +kernel
theorem d_LB_takeAllPasses_22 : decode b_LB_takeAllPasses 22 = .ok (.iload_n 1, 1) := by decide +kernel
theorem d_LB_takeAllPasses_23 : decode b_LB_takeAllPasses 23 = .ok (.invokevirtual 64, 3) := by decide +kernel
theorem d_LB_takeAllPasses_26 : decode b_LB_takeAllPasses 26 = .ok (.checkcast 40, 3) := by decide +kernel
theorem d_LB_takeAllPasses_29 : decode b_LB_takeAllPasses 29 = .ok (.astore_n 2, 1) := by decide +kernel
theorem d_LB_takeAllPasses_30 : decode b_LB_takeAllPasses 30 = .ok (.aload_n 2, 1) := by decide +kernel
theorem d_LB_takeAllPasses_31 : decode b_LB_takeAllPasses 31 = .ok (.invokevirtual 153, 3) := by decide +kernel
theorem d_LB_takeAllPasses_34 : decode b_LB_takeAllPasses 34 = .ok (.aload_n 0, 1) := by decide +kernel
theorem d_LB_takeAllPasses_35 : decode b_LB_takeAllPasses 35 = .ok (.dup, 1) := by decide +kernel
theorem d_LB_takeAllPasses_36 : decode b_LB_takeAllPasses 36 = .ok (.getfield 147, 3) := by decide +kernel
theorem d_LB_takeAllPasses_39 : decode b_LB_takeAllPasses 39 = .ok (.aload_n 2, 1) := by decide +kernel
theorem d_LB_takeAllPasses_40 : decode b_LB_takeAllPasses 40 = .ok (.invokevirtual 156, 3) := by decide +kernel
theorem d_LB_takeAllPasses_43 : decode b_LB_takeAllPasses 43 = .ok (.iadd, 1) := by decide +kernel
theorem d_LB_takeAllPasses_44 : decode b_LB_takeAllPasses 44 = .ok (.putfield 147, 3) := by decide +kernel
theorem d_LB_takeAllPasses_47 : decode b_LB_takeAllPasses 47 = .ok (.iinc 1 1, 3) := by decide +kernel
theorem d_LB_takeAllPasses_50 : decode b_LB_takeAllPasses 50 = .ok (.goto (-43), 3) := by decide +kernel
theorem d_LB_takeAllPasses_53 : decode b_LB_takeAllPasses 53 = .ok (.return_, 1) := by decide +kernel
theorem d_BK_takeEverything_0 : decode b_BK_takeEverything 0 = .ok (.aload_n 0, 1) := by decide +kernel
theorem d_BK_takeEverything_1 : decode b_BK_takeEverything 1 = .ok (.aload_n 0, 1) := by decide +kernel
theorem d_BK_takeEverything_2 : decode b_BK_takeEverything 2 = .ok (.getfield 22, 3) := by decide +kernel
theorem d_BK_takeEverything_5 : decode b_BK_takeEverything 5 = .ok (.putfield 67, 3) := by decide +kernel
theorem d_BK_takeEverything_8 : decode b_BK_takeEverything 8 = .ok (.aload_n 0, 1) := by decide +kernel
theorem d_BK_takeEverything_9 : decode b_BK_takeEverything 9 = .ok (.aload_n 0, 1) := by decide +kernel
theorem d_BK_takeEverything_10 : decode b_BK_takeEverything 10 = .ok (.getfield 30, 3) := by decide +kernel
theorem d_BK_takeEverything_13 : decode b_BK_takeEverything 13 = .ok (.putfield 49, 3) := by decide +kernel
theorem d_BK_takeEverything_16 : decode b_BK_takeEverything 16 = .ok (.return_, 1) := by decide +kernel
theorem d_BK_allBytes_0 : decode b_BK_allBytes 0 = .ok (.aload_n 0, 1) := by decide +kernel
theorem d_BK_allBytes_1 : decode b_BK_allBytes 1 = .ok (.getfield 9, 3) := by decide +kernel
theorem d_BK_allBytes_4 : decode b_BK_allBytes 4 = .ok (.aload_n 0, 1) := by decide +kernel
theorem d_BK_allBytes_5 : decode b_BK_allBytes 5 = .ok (.getfield 22, 3) := by decide +kernel
theorem d_BK_allBytes_8 : decode b_BK_allBytes 8 = .ok (.iaload, 1) := by decide +kernel
theorem d_BK_allBytes_9 : decode b_BK_allBytes 9 = .ok (.ireturn, 1) := by decide +kernel
theorem d_LB_takeSteepestSteps_0 : decode b_LB_takeSteepestSteps 0 = .ok (.iconst 0, 1) := by decide +kernel
theorem d_LB_takeSteepestSteps_1 : decode b_LB_takeSteepestSteps 1 = .ok (.istore_n 3, 1) := by decide +kernel
theorem d_LB_takeSteepestSteps_2 : decode b_LB_takeSteepestSteps 2 = .ok (.iload_n 3, 1) := by decide +kernel
theorem d_LB_takeSteepestSteps_3 : decode b_LB_takeSteepestSteps 3 = .ok (.aload_n 0, 1) := by decide +kernel
theorem d_LB_takeSteepestSteps_4 : decode b_LB_takeSteepestSteps 4 = .ok (.getfield 25, 3) := by decide +kernel
theorem d_LB_takeSteepestSteps_7 : decode b_LB_takeSteepestSteps 7 = .ok (.if_icmp .ge 109, 3) := by decide +kernel
theorem d_LB_takeSteepestSteps_10 : decode b_LB_takeSteepestSteps 10 = .ok (.aload_n 0, 1) := by decide +kernel
theorem d_LB_takeSteepestSteps_11 : decode b_LB_takeSteepestSteps 11 = .ok (.invokevirtual 159, 3) := by decide +kernel
theorem d_LB_takeSteepestSteps_14 : decode b_LB_takeSteepestSteps 14 = .ok (.istore 4, 2) := by decide +kernel
theorem d_LB_takeSteepestSteps_16 : decode b_LB_takeSteepestSteps 16 = .ok (.iload 4, 2) := by decide +kernel
theorem d_LB_takeSteepestSteps_18 : decode b_LB_takeSteepestSteps 18 = .ok (.iconst (-1), 1) := by decide +kernel
theorem d_LB_takeSteepestSteps_19 : decode b_LB_takeSteepestSteps 19 = .ok (.if_icmp .ne 4, 3) := by decide +kernel
theorem d_LB_takeSteepestSteps_22 : decode b_LB_takeSteepestSteps 22 = .ok (.return_, 1) := by decide +kernel
theorem d_LB_takeSteepestSteps_23 : decode b_LB_takeSteepestSteps 23 = .ok (.aload_n 0, 1) := by decide +kernel
theorem d_LB_takeSteepestSteps_24 : decode b_LB_takeSteepestSteps 24 = .ok (.getfield 10, 3) := by decide +kernel
theorem d_LB_takeSteepestSteps_27 : decode b_LB_takeSteepestSteps 27 = .ok (.iload 4, 2) := by decide +kernel
theorem d_LB_takeSteepestSteps_29 : decode b_LB_takeSteepestSteps 29 = .ok (.invokevirtual 64, 3) := by decide +kernel
theorem d_LB_takeSteepestSteps_32 : decode b_LB_takeSteepestSteps 32 = .ok (.checkcast 40, 3) := by decide +kernel
theorem d_LB_takeSteepestSteps_35 : decode b_LB_takeSteepestSteps 35 = .ok (.invokevirtual 162, 3) := by decide +kernel
theorem d_LB_takeSteepestSteps_38 : decode b_LB_takeSteepestSteps 38 = .ok (.lstore 5, 2) := by decide +kernel
theorem d_LB_takeSteepestSteps_40 : decode b_LB_takeSteepestSteps 40 = .ok (.aload_n 0, 1) := by decide +kernel
theorem d_LB_takeSteepestSteps_41 : decode b_LB_takeSteepestSteps 41 = .ok (.getfield 10, 3) := by decide +kernel
theorem d_LB_takeSteepestSteps_44 : decode b_LB_takeSteepestSteps 44 = .ok (.iload 4, 2) := by decide +kernel
theorem d_LB_takeSteepestSteps_46 : decode b_LB_takeSteepestSteps 46 = .ok (.invokevirtual 64, 3) := by decide +kernel
theorem d_LB_takeSteepestSteps_49 : decode b_LB_takeSteepestSteps 49 = .ok (.checkcast 40, 3) := by decide +kernel
theorem d_LB_takeSteepestSteps_52 : decode b_LB_takeSteepestSteps 52 = .ok (.invokevirtual 166, 3) := by decide +kernel
theorem d_LB_takeSteepestSteps_55 : decode b_LB_takeSteepestSteps 55 = .ok (.istore 7, 2) := by decide +kernel
theorem d_LB_takeSteepestSteps_57 : decode b_LB_takeSteepestSteps 57 = .ok (.aload_n 0, 1) := by decide +kernel
theorem d_LB_takeSteepestSteps_58 : decode b_LB_takeSteepestSteps 58 = .ok (.lload 5, 2) := by decide +kernel
theorem d_LB_takeSteepestSteps_60 : decode b_LB_takeSteepestSteps 60 = .ok (.iload 7, 2) := by decide +kernel
theorem d_LB_takeSteepestSteps_62 : decode b_LB_takeSteepestSteps 62 = .ok (.invokevirtual 169, 3) := by decide +kernel
theorem d_LB_takeSteepestSteps_65 : decode b_LB_takeSteepestSteps 65 = .ok (.istore 8, 2) := by decide +kernel
theorem d_LB_takeSteepestSteps_67 : decode b_LB_takeSteepestSteps 67 = .ok (.aload_n 0, 1) := by decide +kernel
theorem d_LB_takeSteepestSteps_68 : decode b_LB_takeSteepestSteps 68 = .ok (.getfield 147, 3) := by decide +kernel
theorem d_LB_takeSteepestSteps_71 : decode b_LB_takeSteepestSteps 71 = .ok (.iload 8, 2) := by decide +kernel
theorem d_LB_takeSteepestSteps_73 : decode b_LB_takeSteepestSteps 73 = .ok (.iadd, 1) := by decide +kernel
theorem d_LB_takeSteepestSteps_74 : decode b_LB_takeSteepestSteps 74 = .ok (.iload_n 1, 1) := by decide +kernel
theorem d_LB_takeSteepestSteps_75 : decode b_LB_takeSteepestSteps 75 = .ok (.if_icmp .le 4, 3) := by decide +kernel
theorem d_LB_takeSteepestSteps_78 : decode b_LB_takeSteepestSteps 78 = .ok (.return_, 1) := by decide +kernel
theorem d_LB_takeSteepestSteps_79 : decode b_LB_takeSteepestSteps 79 = .ok (.aload_n 0, 1) := by decide +kernel
theorem d_LB_takeSteepestSteps_80 : decode b_LB_takeSteepestSteps 80 = .ok (.lload 5, 2) := by decide +kernel
theorem d_LB_takeSteepestSteps_82 : decode b_LB_takeSteepestSteps 82 = .ok (.iload 7, 2) := by decide +kernel
theorem d_LB_takeSteepestSteps_84 : decode b_LB_takeSteepestSteps 84 = .ok (.invokevirtual 173, 3) := by decide +kernel
theorem d_LB_takeSteepestSteps_87 : decode b_LB_takeSteepestSteps 87 = .ok (.aload_n 0, 1) := by decide +kernel
theorem d_LB_takeSteepestSteps_88 : decode b_LB_takeSteepestSteps 88 = .ok (.dup, 1) := by decide +kernel
theorem d_LB_takeSteepestSteps_89 : decode b_LB_takeSteepestSteps 89 = .ok (.getfield 147, 3) := by decide +kernel
theorem d_LB_takeSteepestSteps_92 : decode b_LB_takeSteepestSteps 92 = .ok (.iload 8, 2) := by decide +kernel
theorem d_LB_takeSteepestSteps_94 : decode b_LB_takeSteepestSteps 94 = .ok (.iadd, 1) := by decide +kernel
theorem d_LB_takeSteepestSteps_95 : decode b_LB_takeSteepestSteps 95 = .ok (.putfield 147, 3) := by decide +kernel
theorem d_LB_takeSteepestSteps_98 : decode b_LB_takeSteepestSteps 98 = .ok (.aload_n 2, 1) := by decide +kernel
theorem d_LB_takeSteepestSteps_99 : decode b_LB_takeSteepestSteps 99 = .ok (.lload 5, 2) := by decide +kernel
theorem d_LB_takeSteepestSteps_101 : decode b_LB_takeSteepestSteps 101 = .ok (.putfield 136, 3) := by decide +kernel
theorem d_LB_takeSteepestSteps_104 : decode b_LB_takeSteepestSteps 104 = .ok (.aload_n 2, 1) := by decide +kernel
theorem d_LB_takeSteepestSteps_105 : decode b_LB_takeSteepestSteps 105 = .ok (.iload 7, 2) := by decide +kernel
theorem d_LB_takeSteepestSteps_107 : decode b_LB_takeSteepestSteps 107 = .ok (.putfield 140, 3) := by decide +kernel
theorem d_LB_takeSteepestSteps_110 : decode b_LB_takeSteepestSteps 110 = .ok (.iinc 3 1, 3) := by decide +kernel
theorem d_LB_takeSteepestSteps_113 : decode b_LB_takeSteepestSteps 113 = .ok (.goto (-111), 3) := by decide +kernel
theorem d_LB_takeSteepestSteps_116 : decode b_LB_takeSteepestSteps 116 = .ok (.return_, 1) := by decide +kernel
theorem d_LB_steepestBlock_0 : decode b_LB_steepestBlock 0 = .ok (.iconst (-1), 1) := by decide +kernel
theorem d_LB_steepestBlock_1 : decode b_LB_steepestBlock 1 = .ok (.istore_n 1, 1) := by decide +kernel
theorem d_LB_steepestBlock_2 : decode b_LB_steepestBlock 2 = .ok (.lconst 0, 1) := by decide +kernel
theorem d_LB_steepestBlock_3 : decode b_LB_steepestBlock 3 = .ok (.lstore_n 2, 1) := by decide +kernel
theorem d_LB_steepestBlock_4 : decode b_LB_steepestBlock 4 = .ok (.iconst 0, 1) := by decide +kernel
theorem d_LB_steepestBlock_5 : decode b_LB_steepestBlock 5 = .ok (.istore 4, 2) := by decide +kernel
theorem d_LB_steepestBlock_7 : decode b_LB_steepestBlock 7 = .ok (.iconst 0, 1) := by decide +kernel
theorem d_LB_steepestBlock_8 : decode b_LB_steepestBlock 8 = .ok (.istore 5, 2) := by decide +kernel
theorem d_LB_steepestBlock_10 : decode b_LB_steepestBlock 10 = .ok (.iload 5, 2) := by decide +kernel
theorem d_LB_steepestBlock_12 : decode b_LB_steepestBlock 12 = .ok (.aload_n 0, 1) := by decide +kernel
theorem d_LB_steepestBlock_13 : decode b_LB_steepestBlock 13 = .ok (.getfield 10, 3) := by decide +kernel
theorem d_LB_steepestBlock_16 : decode b_LB_steepestBlock 16 = .ok (.invokevirtual 29, 3) := by decide +kernel
theorem d_LB_steepestBlock_19 : decode b_LB_steepestBlock 19 = .ok (.if_icmp .ge 76, 3) := by decide +kernel
theorem d_LB_steepestBlock_22 : decode b_LB_steepestBlock 22 = .ok (.aload_n 0, 1) := by decide +kernel
theorem d_LB_steepestBlock_23 : decode b_LB_steepestBlock 23 = .ok (.getfield 10, 3) := by decide +kernel
theorem d_LB_steepestBlock_26 : decode b_LB_steepestBlock 26 = .ok (.iload 5, 2) := by decide +kernel
theorem d_LB_steepestBlock_28 : decode b_LB_steepestBlock 28 = .ok (.invokevirtual 64, 3) := by decide +kernel
theorem d_LB_steepestBlock_31 : decode b_LB_steepestBlock 31 = .ok (.checkcast 40, 3) := by decide +kernel
theorem d_LB_steepestBlock_34 : decode b_LB_steepestBlock 34 = .ok (.astore 6, 2) := by decide +kernel
theorem d_LB_steepestBlock_36 : decode b_LB_steepestBlock 36 = .ok (.aload 6, 2) := by decide +kernel
theorem d_LB_steepestBlock_38 : decode b_LB_steepestBlock 38 = .ok (.invokevirtual 177, 3) := by decide +kernel
theorem d_LB_steepestBlock_41 : decode b_LB_steepestBlock 41 = .ok (.ifCond .ne 6, 3) := by decide +kernel
theorem d_LB_steepestBlock_44 : decode b_LB_steepestBlock 44 = .ok (.goto 45, 3) := by decide +kernel
theorem d_LB_steepestBlock_47 : decode b_LB_steepestBlock 47 = .ok (.aload 6, 2) := by decide +kernel
theorem d_LB_steepestBlock_49 : decode b_LB_steepestBlock 49 = .ok (.invokevirtual 162, 3) := by decide +kernel
theorem d_LB_steepestBlock_52 : decode b_LB_steepestBlock 52 = .ok (.lstore 7, 2) := by decide +kernel
theorem d_LB_steepestBlock_54 : decode b_LB_steepestBlock 54 = .ok (.aload 6, 2) := by decide +kernel
theorem d_LB_steepestBlock_56 : decode b_LB_steepestBlock 56 = .ok (.invokevirtual 166, 3) := by decide +kernel
theorem d_LB_steepestBlock_59 : decode b_LB_steepestBlock 59 = .ok (.istore 9, 2) := by decide +kernel
theorem d_LB_steepestBlock_61 : decode b_LB_steepestBlock 61 = .ok (.iload_n 1, 1) := by decide +kernel
theorem d_LB_steepestBlock_62 : decode b_LB_steepestBlock 62 = .ok (.iconst (-1), 1) := by decide +kernel
theorem d_LB_steepestBlock_63 : decode b_LB_steepestBlock 63 = .ok (.if_icmp .eq 16, 3) := by decide +kernel
theorem d_LB_steepestBlock_66 : decode b_LB_steepestBlock 66 = .ok (.lload 7, 2) := by decide +kernel
theorem d_LB_steepestBlock_68 : decode b_LB_steepestBlock 68 = .ok (.iload 9, 2) := by decide +kernel
theorem d_LB_steepestBlock_70 : decode b_LB_steepestBlock 70 = .ok (.lload_n 2, 1) := by decide +kernel
theorem d_LB_steepestBlock_71 : decode b_LB_steepestBlock 71 = .ok (.iload 4, 2) := by decide +kernel
theorem d_LB_steepestBlock_73 : decode b_LB_steepestBlock 73 = .ok (.invokestatic 180, 3) := by decide +kernel
theorem d_LB_steepestBlock_76 : decode b_LB_steepestBlock 76 = .ok (.ifCond .le 13, 3) := by decide +kernel
theorem d_LB_steepestBlock_79 : decode b_LB_steepestBlock 79 = .ok (.iload 5, 2) := by decide +kernel
theorem d_LB_steepestBlock_81 : decode b_LB_steepestBlock 81 = .ok (.istore_n 1, 1) := by decide +kernel
theorem d_LB_steepestBlock_82 : decode b_LB_steepestBlock 82 = .ok (.lload 7, 2) := by decide +kernel
theorem d_LB_steepestBlock_84 : decode b_LB_steepestBlock 84 = .ok (.lstore_n 2, 1) := by decide +kernel
theorem d_LB_steepestBlock_85 : decode b_LB_steepestBlock 85 = .ok (.iload 9, 2) := by decide +kernel
theorem d_LB_steepestBlock_87 : decode b_LB_steepestBlock 87 = .ok (.istore 4, 2) := by decide +kernel
theorem d_LB_steepestBlock_89 : decode b_LB_steepestBlock 89 = .ok (.iinc 5 1, 3) := by decide +kernel
theorem d_LB_steepestBlock_92 : decode b_LB_steepestBlock 92 = .ok (.goto (-82), 3) := by decide +kernel
theorem d_LB_steepestBlock_95 : decode b_LB_steepestBlock 95 = .ok (.iload_n 1, 1) := by decide +kernel
theorem d_LB_steepestBlock_96 : decode b_LB_steepestBlock 96 = .ok (.ireturn, 1) := by decide +kernel
theorem d_BK_hasNext_0 : decode b_BK_hasNext 0 = .ok (.aload_n 0, 1) := by decide +kernel
theorem d_BK_hasNext_1 : decode b_BK_hasNext 1 = .ok (.getfield 49, 3) := by decide +kernel
theorem d_BK_hasNext_4 : decode b_BK_hasNext 4 = .ok (.aload_n 0, 1) := by decide +kernel
theorem d_BK_hasNext_5 : decode b_BK_hasNext 5 = .ok (.getfield 30, 3) := by decide +kernel
theorem d_BK_hasNext_8 : decode b_BK_hasNext 8 = .ok (.if_icmp .ge 7, 3) := by decide +kernel
theorem d_BK_hasNext_11 : decode b_BK_hasNext 11 = .ok (.iconst 1, 1) := by decide +kernel
theorem d_BK_hasNext_12 : decode b_BK_hasNext 12 = .ok (.goto 4, 3) := by decide +kernel
theorem d_BK_hasNext_15 : decode b_BK_hasNext 15 = .ok (.iconst 0, 1) := by decide +kernel
theorem d_BK_hasNext_16 : decode b_BK_hasNext 16 = .ok (.ireturn, 1) := by decide +kernel
theorem d_BK_nextGain_0 : decode b_BK_nextGain 0 = .ok (.aload_n 0, 1) := by decide +kernel
theorem d_BK_nextGain_1 : decode b_BK_nextGain 1 = .ok (.aload_n 0, 1) := by decide +kernel
theorem d_BK_nextGain_2 : decode b_BK_nextGain 2 = .ok (.getfield 49, 3) := by decide +kernel
theorem d_BK_nextGain_5 : decode b_BK_nextGain 5 = .ok (.invokevirtual 37, 3) := by decide +kernel
theorem d_BK_nextGain_8 : decode b_BK_nextGain 8 = .ok (.lreturn, 1) := by decide +kernel
theorem d_BK_nextBytes_0 : decode b_BK_nextBytes 0 = .ok (.aload_n 0, 1) := by decide +kernel
theorem d_BK_nextBytes_1 : decode b_BK_nextBytes 1 = .ok (.aload_n 0, 1) := by decide +kernel
theorem d_BK_nextBytes_2 : decode b_BK_nextBytes 2 = .ok (.getfield 49, 3) := by decide +kernel
theorem d_BK_nextBytes_5 : decode b_BK_nextBytes 5 = .ok (.invokevirtual 41, 3) := by decide +kernel
theorem d_BK_nextBytes_8 : decode b_BK_nextBytes 8 = .ok (.ireturn, 1) := by decide +kernel
theorem d_LB_bytesOfSlope_0 : decode b_LB_bytesOfSlope 0 = .ok (.iconst 0, 1) := by decide +kernel
theorem d_LB_bytesOfSlope_1 : decode b_LB_bytesOfSlope 1 = .ok (.istore 4, 2) := by decide +kernel
theorem d_LB_bytesOfSlope_3 : decode b_LB_bytesOfSlope 3 = .ok (.iconst 0, 1) := by decide +kernel
theorem d_LB_bytesOfSlope_4 : decode b_LB_bytesOfSlope 4 = .ok (.istore 5, 2) := by decide +kernel
theorem d_LB_bytesOfSlope_6 : decode b_LB_bytesOfSlope 6 = .ok (.iload 5, 2) := by decide +kernel
theorem d_LB_bytesOfSlope_8 : decode b_LB_bytesOfSlope 8 = .ok (.aload_n 0, 1) := by decide +kernel
theorem d_LB_bytesOfSlope_9 : decode b_LB_bytesOfSlope 9 = .ok (.getfield 10, 3) := by decide +kernel
theorem d_LB_bytesOfSlope_12 : decode b_LB_bytesOfSlope 12 = .ok (.invokevirtual 29, 3) := by decide +kernel
theorem d_LB_bytesOfSlope_15 : decode b_LB_bytesOfSlope 15 = .ok (.if_icmp .ge 43, 3) := by decide +kernel
theorem d_LB_bytesOfSlope_18 : decode b_LB_bytesOfSlope 18 = .ok (.aload_n 0, 1) := by decide +kernel
theorem d_LB_bytesOfSlope_19 : decode b_LB_bytesOfSlope 19 = .ok (.getfield 10, 3) := by decide +kernel
theorem d_LB_bytesOfSlope_22 : decode b_LB_bytesOfSlope 22 = .ok (.iload 5, 2) := by decide +kernel
theorem d_LB_bytesOfSlope_24 : decode b_LB_bytesOfSlope 24 = .ok (.invokevirtual 64, 3) := by decide +kernel
theorem d_LB_bytesOfSlope_27 : decode b_LB_bytesOfSlope 27 = .ok (.checkcast 40, 3) := by decide +kernel
theorem d_LB_bytesOfSlope_30 : decode b_LB_bytesOfSlope 30 = .ok (.astore 6, 2) := by decide +kernel
theorem d_LB_bytesOfSlope_32 : decode b_LB_bytesOfSlope 32 = .ok (.aload 6, 2) := by decide +kernel
theorem d_LB_bytesOfSlope_34 : decode b_LB_bytesOfSlope 34 = .ok (.lload_n 1, 1) := by decide +kernel
theorem d_LB_bytesOfSlope_35 : decode b_LB_bytesOfSlope 35 = .ok (.iload_n 3, 1) := by decide +kernel
theorem d_LB_bytesOfSlope_36 : decode b_LB_bytesOfSlope 36 = .ok (.invokevirtual 184, 3) := by decide +kernel
theorem d_LB_bytesOfSlope_39 : decode b_LB_bytesOfSlope 39 = .ok (.ifCond .eq 13, 3) := by decide +kernel
theorem d_LB_bytesOfSlope_42 : decode b_LB_bytesOfSlope 42 = .ok (.iload 4, 2) := by decide +kernel
theorem d_LB_bytesOfSlope_44 : decode b_LB_bytesOfSlope 44 = .ok (.aload 6, 2) := by decide +kernel
theorem d_LB_bytesOfSlope_46 : decode b_LB_bytesOfSlope 46 = .ok (.invokevirtual 166, 3) := by decide +kernel
theorem d_LB_bytesOfSlope_49 : decode b_LB_bytesOfSlope 49 = .ok (.iadd, 1) := by decide +kernel
theorem d_LB_bytesOfSlope_50 : decode b_LB_bytesOfSlope 50 = .ok (.istore 4, 2) := by decide +kernel
theorem d_LB_bytesOfSlope_52 : decode b_LB_bytesOfSlope 52 = .ok (.iinc 5 1, 3) := by decide +kernel
theorem d_LB_bytesOfSlope_55 : decode b_LB_bytesOfSlope 55 = .ok (.goto (-49), 3) := by decide +kernel
theorem d_LB_bytesOfSlope_58 : decode b_LB_bytesOfSlope 58 = .ok (.iload 4, 2) := by decide +kernel
theorem d_LB_bytesOfSlope_60 : decode b_LB_bytesOfSlope 60 = .ok (.ireturn, 1) := by decide +kernel
theorem d_BK_nextHasSlope_0 : decode b_BK_nextHasSlope 0 = .ok (.aload_n 0, 1) := by decide +kernel
theorem d_BK_nextHasSlope_1 : decode b_BK_nextHasSlope 1 = .ok (.invokevirtual 52, 3) := by decide +kernel
theorem d_BK_nextHasSlope_4 : decode b_BK_nextHasSlope 4 = .ok (.ifCond .eq 23, 3) := by decide +kernel
theorem d_BK_nextHasSlope_7 : decode b_BK_nextHasSlope 7 = .ok (.aload_n 0, 1) := by decide +kernel
theorem d_BK_nextHasSlope_8 : decode b_BK_nextHasSlope 8 = .ok (.invokevirtual 56, 3) := by decide +kernel
theorem d_BK_nextHasSlope_11 : decode b_BK_nextHasSlope 11 = .ok (.aload_n 0, 1) := by decide +kernel
theorem d_BK_nextHasSlope_12 : decode b_BK_nextHasSlope 12 = .ok (.invokevirtual 60, 3) := by decide +kernel
theorem d_BK_nextHasSlope_15 : decode b_BK_nextHasSlope 15 = .ok (.lload_n 1, 1) := by decide +kernel
theorem d_BK_nextHasSlope_16 : decode b_BK_nextHasSlope 16 = .ok (.iload_n 3, 1) := by decide +kernel
theorem d_BK_nextHasSlope_17 : decode b_BK_nextHasSlope 17 = .ok (.invokestatic 45, 3) := by decide +kernel
theorem d_BK_nextHasSlope_20 : decode b_BK_nextHasSlope 20 = .ok (.ifCond .ne 7, 3) := by decide +kernel
theorem d_BK_nextHasSlope_23 : decode b_BK_nextHasSlope 23 = .ok (.iconst 1, 1) := by decide +kernel
theorem d_BK_nextHasSlope_24 : decode b_BK_nextHasSlope 24 = .ok (.goto 4, 3) := by decide +kernel
theorem d_BK_nextHasSlope_27 : decode b_BK_nextHasSlope 27 = .ok (.iconst 0, 1) := by decide +kernel
theorem d_BK_nextHasSlope_28 : decode b_BK_nextHasSlope 28 = .ok (.ireturn, 1) := by decide +kernel
theorem d_LB_takeSlope_0 : decode b_LB_takeSlope 0 = .ok (.iconst 0, 1) := by decide +kernel
theorem d_LB_takeSlope_1 : decode b_LB_takeSlope 1 = .ok (.istore 4, 2) := by decide +kernel
theorem d_LB_takeSlope_3 : decode b_LB_takeSlope 3 = .ok (.iload 4, 2) := by decide +kernel
theorem d_LB_takeSlope_5 : decode b_LB_takeSlope 5 = .ok (.aload_n 0, 1) := by decide +kernel
theorem d_LB_takeSlope_6 : decode b_LB_takeSlope 6 = .ok (.getfield 10, 3) := by decide +kernel
theorem d_LB_takeSlope_9 : decode b_LB_takeSlope 9 = .ok (.invokevirtual 29, 3) := by decide +kernel
theorem d_LB_takeSlope_12 : decode b_LB_takeSlope 12 = .ok (.if_icmp .ge 38, 3) := by decide +kernel
theorem d_LB_takeSlope_15 : decode b_LB_takeSlope 15 = .ok (.aload_n 0, 1) := by decide +kernel
theorem d_LB_takeSlope_16 : decode b_LB_takeSlope 16 = .ok (.getfield 10, 3) := by decide +kernel
theorem d_LB_takeSlope_19 : decode b_LB_takeSlope 19 = .ok (.iload 4, 2) := by decide +kernel
theorem d_LB_takeSlope_21 : decode b_LB_takeSlope 21 = .ok (.invokevirtual 64, 3) := by decide +kernel
theorem d_LB_takeSlope_24 : decode b_LB_takeSlope 24 = .ok (.checkcast 40, 3) := by decide +kernel
theorem d_LB_takeSlope_27 : decode b_LB_takeSlope 27 = .ok (.astore 5, 2) := by decide +kernel
theorem d_LB_takeSlope_29 : decode b_LB_takeSlope 29 = .ok (.aload 5, 2) := by decide +kernel
theorem d_LB_takeSlope_31 : decode b_LB_takeSlope 31 = .ok (.lload_n 1, 1) := by decide +kernel
theorem d_LB_takeSlope_32 : decode b_LB_takeSlope 32 = .ok (.iload_n 3, 1) := by decide +kernel
theorem d_LB_takeSlope_33 : decode b_LB_takeSlope 33 = .ok (.invokevirtual 184, 3) := by decide +kernel
theorem d_LB_takeSlope_36 : decode b_LB_takeSlope 36 = .ok (.ifCond .eq 8, 3) := by decide +kernel
theorem d_LB_takeSlope_39 : decode b_LB_takeSlope 39 = .ok (.aload 5, 2) := by decide +kernel
theorem d_LB_takeSlope_41 : decode b_LB_takeSlope 41 = .ok (.invokevirtual 188, 3) := by decide +kernel
theorem d_LB_takeSlope_44 : decode b_LB_takeSlope 44 = .ok (.iinc 4 1, 3) := by decide +kernel
theorem d_LB_takeSlope_47 : decode b_LB_takeSlope 47 = .ok (.goto (-44), 3) := by decide +kernel
theorem d_LB_takeSlope_50 : decode b_LB_takeSlope 50 = .ok (.return_, 1) := by decide +kernel
theorem d_BK_takeNext_0 : decode b_BK_takeNext 0 = .ok (.aload_n 0, 1) := by decide +kernel
theorem d_BK_takeNext_1 : decode b_BK_takeNext 1 = .ok (.aload_n 0, 1) := by decide +kernel
theorem d_BK_takeNext_2 : decode b_BK_takeNext 2 = .ok (.aload_n 0, 1) := by decide +kernel
theorem d_BK_takeNext_3 : decode b_BK_takeNext 3 = .ok (.getfield 49, 3) := by decide +kernel
theorem d_BK_takeNext_6 : decode b_BK_takeNext 6 = .ok (.invokevirtual 64, 3) := by decide +kernel
theorem d_BK_takeNext_9 : decode b_BK_takeNext 9 = .ok (.putfield 67, 3) := by decide +kernel
theorem d_BK_takeNext_12 : decode b_BK_takeNext 12 = .ok (.aload_n 0, 1) := by decide +kernel
theorem d_BK_takeNext_13 : decode b_BK_takeNext 13 = .ok (.dup, 1) := by decide +kernel
theorem d_BK_takeNext_14 : decode b_BK_takeNext 14 = .ok (.getfield 49, 3) := by decide +kernel
theorem d_BK_takeNext_17 : decode b_BK_takeNext 17 = .ok (.iconst 1, 1) := by decide +kernel
theorem d_BK_takeNext_18 : decode b_BK_takeNext 18 = .ok (.iadd, 1) := by decide +kernel
theorem d_BK_takeNext_19 : decode b_BK_takeNext 19 = .ok (.putfield 49, 3) := by decide +kernel
theorem d_BK_takeNext_22 : decode b_BK_takeNext 22 = .ok (.return_, 1) := by decide +kernel
theorem d_LB_recordCuts_0 : decode b_LB_recordCuts 0 = .ok (.iconst 0, 1) := by decide +kernel
theorem d_LB_recordCuts_1 : decode b_LB_recordCuts 1 = .ok (.istore_n 2, 1) := by decide +kernel
theorem d_LB_recordCuts_2 : decode b_LB_recordCuts 2 = .ok (.iload_n 2, 1) := by decide +kernel
theorem d_LB_recordCuts_3 : decode b_LB_recordCuts 3 = .ok (.aload_n 0, 1) := by decide +kernel
theorem d_LB_recordCuts_4 : decode b_LB_recordCuts 4 = .ok (.getfield 10, 3) := by decide +kernel
theorem d_LB_recordCuts_7 : decode b_LB_recordCuts 7 = .ok (.invokevirtual 29, 3) := by decide +kernel
theorem d_LB_recordCuts_10 : decode b_LB_recordCuts 10 = .ok (.if_icmp .ge 38, 3) := by decide +kernel
theorem d_LB_recordCuts_13 : decode b_LB_recordCuts 13 = .ok (.iload_n 2, 1) := by decide +kernel
theorem d_LB_recordCuts_14 : decode b_LB_recordCuts 14 = .ok (.aload_n 1, 1) := by decide +kernel
theorem d_LB_recordCuts_15 : decode b_LB_recordCuts 15 = .ok (.getfield 132, 3) := by decide +kernel
theorem d_LB_recordCuts_18 : decode b_LB_recordCuts 18 = .ok (.arraylength, 1) := by decide +kernel
theorem d_LB_recordCuts_19 : decode b_LB_recordCuts 19 = .ok (.if_icmp .ge 29, 3) := by decide +kernel
theorem d_LB_recordCuts_22 : decode b_LB_recordCuts 22 = .ok (.aload_n 1, 1) := by decide +kernel
theorem d_LB_recordCuts_23 : decode b_LB_recordCuts 23 = .ok (.getfield 132, 3) := by decide +kernel
theorem d_LB_recordCuts_26 : decode b_LB_recordCuts 26 = .ok (.iload_n 2, 1) := by decide +kernel
theorem d_LB_recordCuts_27 : decode b_LB_recordCuts 27 = .ok (.aload_n 0, 1) := by decide +kernel
theorem d_LB_recordCuts_28 : decode b_LB_recordCuts 28 = .ok (.getfield 10, 3) := by decide +kernel
theorem d_LB_recordCuts_31 : decode b_LB_recordCuts 31 = .ok (.iload_n 2, 1) := by decide +kernel
theorem d_LB_recordCuts_32 : decode b_LB_recordCuts 32 = .ok (.invokevirtual 64, 3) := by decide +kernel
theorem d_LB_recordCuts_35 : decode b_LB_recordCuts 35 = .ok (.checkcast 40, 3) := by decide +kernel
theorem d_LB_recordCuts_38 : decode b_LB_recordCuts 38 = .ok (.getfield 191, 3) := by decide +kernel
theorem d_LB_recordCuts_41 : decode b_LB_recordCuts 41 = .ok (.iastore, 1) := by decide +kernel
theorem d_LB_recordCuts_42 : decode b_LB_recordCuts 42 = .ok (.iinc 2 1, 3) := by decide +kernel
theorem d_LB_recordCuts_45 : decode b_LB_recordCuts 45 = .ok (.goto (-43), 3) := by decide +kernel
theorem d_LB_recordCuts_48 : decode b_LB_recordCuts 48 = .ok (.aload_n 1, 1) := by decide +kernel
theorem d_LB_recordCuts_49 : decode b_LB_recordCuts 49 = .ok (.aload_n 0, 1) := by decide +kernel
theorem d_LB_recordCuts_50 : decode b_LB_recordCuts 50 = .ok (.getfield 147, 3) := by decide +kernel
theorem d_LB_recordCuts_53 : decode b_LB_recordCuts 53 = .ok (.putfield 124, 3) := by decide +kernel
theorem d_LB_recordCuts_56 : decode b_LB_recordCuts 56 = .ok (.return_, 1) := by decide +kernel
theorem d_LB_cut_0 : decode b_LB_cut 0 = .ok (.aload_n 0, 1) := by decide +kernel
theorem d_LB_cut_1 : decode b_LB_cut 1 = .ok (.iload_n 2, 1) := by decide +kernel
theorem d_LB_cut_2 : decode b_LB_cut 2 = .ok (.invokevirtual 47, 3) := by decide +kernel
theorem d_LB_cut_5 : decode b_LB_cut 5 = .ok (.ifCond .ne 13, 3) := by decide +kernel
theorem d_LB_cut_8 : decode b_LB_cut 8 = .ok (.new 51, 3) := by decide +kernel
theorem d_LB_cut_11 : decode b_LB_cut 11 = .ok (.dup, 1) := by decide +kernel
theorem d_LB_cut_12 : decode b_LB_cut 12 = .ok (.ldc 53, 2) := by decide +kernel
theorem d_LB_cut_14 : decode b_LB_cut 14 = .ok (.invokespecial 55, 3) := by decide +kernel
theorem d_LB_cut_17 : decode b_LB_cut 17 = .ok (.athrow, 1) := by decide +kernel
theorem d_LB_cut_18 : decode b_LB_cut 18 = .ok (.aload_n 0, 1) := by decide +kernel
theorem d_LB_cut_19 : decode b_LB_cut 19 = .ok (.iload_n 1, 1) := by decide +kernel
theorem d_LB_cut_20 : decode b_LB_cut 20 = .ok (.invokevirtual 127, 3) := by decide +kernel
theorem d_LB_cut_23 : decode b_LB_cut 23 = .ok (.ifCond .ne 13, 3) := by decide +kernel
theorem d_LB_cut_26 : decode b_LB_cut 26 = .ok (.new 88, 3) := by decide +kernel
theorem d_LB_cut_29 : decode b_LB_cut 29 = .ok (.dup, 1) := by decide +kernel
theorem d_LB_cut_30 : decode b_LB_cut 30 = .ok (.ldc 130, 2) := by decide +kernel
theorem d_LB_cut_32 : decode b_LB_cut 32 = .ok (.invokespecial 92, 3) := by decide +kernel
theorem d_LB_cut_35 : decode b_LB_cut 35 = .ok (.athrow, 1) := by decide +kernel
theorem d_LB_cut_36 : decode b_LB_cut 36 = .ok (.aload_n 0, 1) := by decide +kernel
theorem d_LB_cut_37 : decode b_LB_cut 37 = .ok (.getfield 16, 3) := by decide +kernel
theorem d_LB_cut_40 : decode b_LB_cut 40 = .ok (.iload_n 1, 1) := by decide +kernel
theorem d_LB_cut_41 : decode b_LB_cut 41 = .ok (.invokevirtual 64, 3) := by decide +kernel
theorem d_LB_cut_44 : decode b_LB_cut 44 = .ok (.checkcast 108, 3) := by decide +kernel
theorem d_LB_cut_47 : decode b_LB_cut 47 = .ok (.getfield 132, 3) := by decide +kernel
theorem d_LB_cut_50 : decode b_LB_cut 50 = .ok (.iload_n 2, 1) := by decide +kernel
theorem d_LB_cut_51 : decode b_LB_cut 51 = .ok (.iaload, 1) := by decide +kernel
theorem d_LB_cut_52 : decode b_LB_cut 52 = .ok (.ireturn, 1) := by decide +kernel
theorem d_LB_hasLayer_0 : decode b_LB_hasLayer 0 = .ok (.iload_n 1, 1) := by decide +kernel
theorem d_LB_hasLayer_1 : decode b_LB_hasLayer 1 = .ok (.ifCond .lt 18, 3) := by decide +kernel
theorem d_LB_hasLayer_4 : decode b_LB_hasLayer 4 = .ok (.iload_n 1, 1) := by decide +kernel
theorem d_LB_hasLayer_5 : decode b_LB_hasLayer 5 = .ok (.aload_n 0, 1) := by decide +kernel
theorem d_LB_hasLayer_6 : decode b_LB_hasLayer 6 = .ok (.getfield 16, 3) := by decide +kernel
theorem d_LB_hasLayer_9 : decode b_LB_hasLayer 9 = .ok (.invokevirtual 29, 3) := by decide +kernel
theorem d_LB_hasLayer_12 : decode b_LB_hasLayer 12 = .ok (.if_icmp .ge 7, 3) := by decide +kernel
theorem d_LB_hasLayer_15 : decode b_LB_hasLayer 15 = .ok (.iconst 1, 1) := by decide +kernel
theorem d_LB_hasLayer_16 : decode b_LB_hasLayer 16 = .ok (.goto 4, 3) := by decide +kernel
theorem d_LB_hasLayer_19 : decode b_LB_hasLayer 19 = .ok (.iconst 0, 1) := by decide +kernel
theorem d_LB_hasLayer_20 : decode b_LB_hasLayer 20 = .ok (.ireturn, 1) := by decide +kernel
theorem d_LB_total_0 : decode b_LB_total 0 = .ok (.aload_n 0, 1) := by decide +kernel
theorem d_LB_total_1 : decode b_LB_total 1 = .ok (.iload_n 1, 1) := by decide +kernel
theorem d_LB_total_2 : decode b_LB_total 2 = .ok (.invokevirtual 127, 3) := by decide +kernel
theorem d_LB_total_5 : decode b_LB_total 5 = .ok (.ifCond .ne 13, 3) := by decide +kernel
theorem d_LB_total_8 : decode b_LB_total 8 = .ok (.new 88, 3) := by decide +kernel
theorem d_LB_total_11 : decode b_LB_total 11 = .ok (.dup, 1) := by decide +kernel
theorem d_LB_total_12 : decode b_LB_total 12 = .ok (.ldc 130, 2) := by decide +kernel
theorem d_LB_total_14 : decode b_LB_total 14 = .ok (.invokespecial 92, 3) := by decide +kernel
theorem d_LB_total_17 : decode b_LB_total 17 = .ok (.athrow, 1) := by decide +kernel
theorem d_LB_total_18 : decode b_LB_total 18 = .ok (.aload_n 0, 1) := by decide +kernel
theorem d_LB_total_19 : decode b_LB_total 19 = .ok (.getfield 16, 3) := by decide +kernel
theorem d_LB_total_22 : decode b_LB_total 22 = .ok (.iload_n 1, 1) := by decide +kernel
theorem d_LB_total_23 : decode b_LB_total 23 = .ok (.invokevirtual 64, 3) := by decide +kernel
theorem d_LB_total_26 : decode b_LB_total 26 = .ok (.checkcast 108, 3) := by decide +kernel
theorem d_LB_total_29 : decode b_LB_total 29 = .ok (.getfield 124, 3) := by decide +kernel
theorem d_LB_total_32 : decode b_LB_total 32 = .ok (.ireturn, 1) := by decide +kernel
theorem d_LB_threshold_0 : decode b_LB_threshold 0 = .ok (.iload_n 2, 1) := by decide +kernel
theorem d_LB_threshold_1 : decode b_LB_threshold 1 = .ok (.ifCond .eq 18, 3) := by decide +kernel
theorem d_LB_threshold_4 : decode b_LB_threshold 4 = .ok (.iload_n 2, 1) := by decide +kernel
theorem d_LB_threshold_5 : decode b_LB_threshold 5 = .ok (.iconst 1, 1) := by decide +kernel
theorem d_LB_threshold_6 : decode b_LB_threshold 6 = .ok (.if_icmp .eq 13, 3) := by decide +kernel
theorem d_LB_threshold_9 : decode b_LB_threshold 9 = .ok (.new 51, 3) := by decide +kernel
theorem d_LB_threshold_12 : decode b_LB_threshold 12 = .ok (.dup, 1) := by decide +kernel
theorem d_LB_threshold_13 : decode b_LB_threshold 13 = .ok (.ldc 83, 2) := by decide +kernel
theorem d_LB_threshold_15 : decode b_LB_threshold 15 = .ok (.invokespecial 55, 3) := by decide +kernel
theorem d_LB_threshold_18 : decode b_LB_threshold 18 = .ok (.athrow, 1) := by decide +kernel
theorem d_LB_threshold_19 : decode b_LB_threshold 19 = .ok (.aload_n 0, 1) := by decide +kernel
theorem d_LB_threshold_20 : decode b_LB_threshold 20 = .ok (.iload_n 1, 1) := by decide +kernel
theorem d_LB_threshold_21 : decode b_LB_threshold 21 = .ok (.invokevirtual 127, 3) := by decide +kernel
theorem d_LB_threshold_24 : decode b_LB_threshold 24 = .ok (.ifCond .ne 13, 3) := by decide +kernel
theorem d_LB_threshold_27 : decode b_LB_threshold 27 = .ok (.new 88, 3) := by decide +kernel
theorem d_LB_threshold_30 : decode b_LB_threshold 30 = .ok (.dup, 1) := by decide +kernel
theorem d_LB_threshold_31 : decode b_LB_threshold 31 = .ok (.ldc 130, 2) := by decide +kernel
theorem d_LB_threshold_33 : decode b_LB_threshold 33 = .ok (.invokespecial 92, 3) := by decide +kernel
theorem d_LB_threshold_36 : decode b_LB_threshold 36 = .ok (.athrow, 1) := by decide +kernel
theorem d_LB_threshold_37 : decode b_LB_threshold 37 = .ok (.aload_n 0, 1) := by decide +kernel
theorem d_LB_threshold_38 : decode b_LB_threshold 38 = .ok (.getfield 16, 3) := by decide +kernel
theorem d_LB_threshold_41 : decode b_LB_threshold 41 = .ok (.iload_n 1, 1) := by decide +kernel
theorem d_LB_threshold_42 : decode b_LB_threshold 42 = .ok (.invokevirtual 64, 3) := by decide +kernel
theorem d_LB_threshold_45 : decode b_LB_threshold 45 = .ok (.checkcast 108, 3) := by decide +kernel
theorem d_LB_threshold_48 : decode b_LB_threshold 48 = .ok (.astore_n 3, 1) := by decide +kernel
theorem d_LB_threshold_49 : decode b_LB_threshold 49 = .ok (.iload_n 2, 1) := by decide +kernel
theorem d_LB_threshold_50 : decode b_LB_threshold 50 = .ok (.ifCond .ne 10, 3) := by decide +kernel
theorem d_LB_threshold_53 : decode b_LB_threshold 53 = .ok (.aload_n 3, 1) := by decide +kernel
theorem d_LB_threshold_54 : decode b_LB_threshold 54 = .ok (.getfield 136, 3) := by decide +kernel
theorem d_LB_threshold_57 : decode b_LB_threshold 57 = .ok (.goto 8, 3) := by decide +kernel
theorem d_LB_threshold_60 : decode b_LB_threshold 60 = .ok (.aload_n 3, 1) := by decide +kernel
theorem d_LB_threshold_61 : decode b_LB_threshold 61 = .ok (.getfield 140, 3) := by decide +kernel
theorem d_LB_threshold_64 : decode b_LB_threshold 64 = .ok (.i2l, 1) := by decide +kernel
theorem d_LB_threshold_65 : decode b_LB_threshold 65 = .ok (.lreturn, 1) := by decide +kernel

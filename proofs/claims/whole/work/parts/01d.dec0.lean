theorem dX0_init_0 : decode cX0_init 0 = .ok (.aload_n 0, 1) := by decide +kernel
theorem dX0_init_1 : decode cX0_init 1 = .ok (.invokespecial 3, 3) := by decide +kernel
theorem dX0_init_4 : decode cX0_init 4 = .ok (.return_, 1) := by decide +kernel
theorem dX0_tell_0 : decode cX0_tell 0 = .ok (.iload_n 1, 1) := by decide +kernel
theorem dX0_tell_1 : decode cX0_tell 1 = .ok (.tableswitch 85 0 5 #[39, 44, 49, 54, 67, 80], 39) := by decide +kernel
theorem dX0_tell_40 : decode cX0_tell 40 = .ok (.aload_n 0, 1) := by decide +kernel
theorem dX0_tell_41 : decode cX0_tell 41 = .ok (.getfield 9, 3) := by decide +kernel
theorem dX0_tell_44 : decode cX0_tell 44 = .ok (.ireturn, 1) := by decide +kernel
theorem dX0_tell_45 : decode cX0_tell 45 = .ok (.aload_n 0, 1) := by decide +kernel
theorem dX0_tell_46 : decode cX0_tell 46 = .ok (.getfield 15, 3) := by decide +kernel
theorem dX0_tell_49 : decode cX0_tell 49 = .ok (.ireturn, 1) := by decide +kernel
theorem dX0_tell_50 : decode cX0_tell 50 = .ok (.aload_n 0, 1) := by decide +kernel
theorem dX0_tell_51 : decode cX0_tell 51 = .ok (.getfield 18, 3) := by decide +kernel
theorem dX0_tell_54 : decode cX0_tell 54 = .ok (.ireturn, 1) := by decide +kernel
theorem dX0_tell_55 : decode cX0_tell 55 = .ok (.aload_n 0, 1) := by decide +kernel
theorem dX0_tell_56 : decode cX0_tell 56 = .ok (.getfield 21, 3) := by decide +kernel
theorem dX0_tell_59 : decode cX0_tell 59 = .ok (.ifCond .eq 7, 3) := by decide +kernel
theorem dX0_tell_62 : decode cX0_tell 62 = .ok (.iconst 1, 1) := by decide +kernel
theorem dX0_tell_63 : decode cX0_tell 63 = .ok (.goto 4, 3) := by decide +kernel
theorem dX0_tell_66 : decode cX0_tell 66 = .ok (.iconst 0, 1) := by decide +kernel
theorem dX0_tell_67 : decode cX0_tell 67 = .ok (.ireturn, 1) := by decide +kernel
theorem dX0_tell_68 : decode cX0_tell 68 = .ok (.aload_n 0, 1) := by decide +kernel
theorem dX0_tell_69 : decode cX0_tell 69 = .ok (.getfield 25, 3) := by decide +kernel
theorem dX0_tell_72 : decode cX0_tell 72 = .ok (.ifCond .eq 7, 3) := by decide +kernel
theorem dX0_tell_75 : decode cX0_tell 75 = .ok (.iconst 1, 1) := by decide +kernel
theorem dX0_tell_76 : decode cX0_tell 76 = .ok (.goto 4, 3) := by decide +kernel
theorem dX0_tell_79 : decode cX0_tell 79 = .ok (.iconst 0, 1) := by decide +kernel
theorem dX0_tell_80 : decode cX0_tell 80 = .ok (.ireturn, 1) := by decide +kernel
theorem dX0_tell_81 : decode cX0_tell 81 = .ok (.aload_n 0, 1) := by decide +kernel
theorem dX0_tell_82 : decode cX0_tell 82 = .ok (.getfield 28, 3) := by decide +kernel
theorem dX0_tell_85 : decode cX0_tell 85 = .ok (.ireturn, 1) := by decide +kernel
theorem dX0_tell_86 : decode cX0_tell 86 = .ok (.iconst (-1), 1) := by decide +kernel
theorem dX0_tell_87 : decode cX0_tell 87 = .ok (.ireturn, 1) := by decide +kernel
theorem dX1_init_0 : decode cX1_init 0 = .ok (.aload_n 0, 1) := by decide +kernel
theorem dX1_init_1 : decode cX1_init 1 = .ok (.invokespecial 1, 3) := by decide +kernel
theorem dX1_init_4 : decode cX1_init 4 = .ok (.aload_n 0, 1) := by decide +kernel
theorem dX1_init_5 : decode cX1_init 5 = .ok (.aload_n 1, 1) := by decide +kernel
theorem dX1_init_6 : decode cX1_init 6 = .ok (.putfield 7, 3) := by decide +kernel
theorem dX1_init_9 : decode cX1_init 9 = .ok (.aload_n 0, 1) := by decide +kernel
theorem dX1_init_10 : decode cX1_init 10 = .ok (.aload_n 2, 1) := by decide +kernel
theorem dX1_init_11 : decode cX1_init 11 = .ok (.putfield 13, 3) := by decide +kernel
theorem dX1_init_14 : decode cX1_init 14 = .ok (.aload_n 0, 1) := by decide +kernel
theorem dX1_init_15 : decode cX1_init 15 = .ok (.aload_n 3, 1) := by decide +kernel
theorem dX1_init_16 : decode cX1_init 16 = .ok (.putfield 17, 3) := by decide +kernel
theorem dX1_init_19 : decode cX1_init 19 = .ok (.return_, 1) := by decide +kernel
theorem dX1_size_0 : decode cX1_size 0 = .ok (.aload_n 0, 1) := by decide +kernel
theorem dX1_size_1 : decode cX1_size 1 = .ok (.getfield 7, 3) := by decide +kernel
theorem dX1_size_4 : decode cX1_size 4 = .ok (.arraylength, 1) := by decide +kernel
theorem dX1_size_5 : decode cX1_size 5 = .ok (.aload_n 0, 1) := by decide +kernel
theorem dX1_size_6 : decode cX1_size 6 = .ok (.getfield 13, 3) := by decide +kernel
theorem dX1_size_9 : decode cX1_size 9 = .ok (.arraylength, 1) := by decide +kernel
theorem dX1_size_10 : decode cX1_size 10 = .ok (.aload_n 0, 1) := by decide +kernel
theorem dX1_size_11 : decode cX1_size 11 = .ok (.getfield 17, 3) := by decide +kernel
theorem dX1_size_14 : decode cX1_size 14 = .ok (.arraylength, 1) := by decide +kernel
theorem dX1_size_15 : decode cX1_size 15 = .ok (.invokestatic 20, 3) := by decide +kernel
theorem dX1_size_18 : decode cX1_size 18 = .ok (.invokestatic 20, 3) := by decide +kernel
theorem dX1_size_21 : decode cX1_size 21 = .ok (.ireturn, 1) := by decide +kernel
theorem dX2_init_0 : decode cX2_init 0 = .ok (.aload_n 0, 1) := by decide +kernel
theorem dX2_init_1 : decode cX2_init 1 = .ok (.invokespecial 3, 3) := by decide +kernel
theorem dX2_init_4 : decode cX2_init 4 = .ok (.aload_n 0, 1) := by decide +kernel
theorem dX2_init_5 : decode cX2_init 5 = .ok (.sipush 200, 3) := by decide +kernel
theorem dX2_init_8 : decode cX2_init 8 = .ok (.newarray .byte, 2) := by decide +kernel
theorem dX2_init_10 : decode cX2_init 10 = .ok (.putfield 11, 3) := by decide +kernel
theorem dX2_init_13 : decode cX2_init 13 = .ok (.aload_n 0, 1) := by decide +kernel
theorem dX2_init_14 : decode cX2_init 14 = .ok (.sipush 200, 3) := by decide +kernel
theorem dX2_init_17 : decode cX2_init 17 = .ok (.newarray .long, 2) := by decide +kernel
theorem dX2_init_19 : decode cX2_init 19 = .ok (.putfield 17, 3) := by decide +kernel
theorem dX2_init_22 : decode cX2_init 22 = .ok (.aload_n 0, 1) := by decide +kernel
theorem dX2_init_23 : decode cX2_init 23 = .ok (.sipush 200, 3) := by decide +kernel
theorem dX2_init_26 : decode cX2_init 26 = .ok (.newarray .long, 2) := by decide +kernel
theorem dX2_init_28 : decode cX2_init 28 = .ok (.putfield 21, 3) := by decide +kernel
theorem dX2_init_31 : decode cX2_init 31 = .ok (.aload_n 0, 1) := by decide +kernel
theorem dX2_init_32 : decode cX2_init 32 = .ok (.bipush 6, 2) := by decide +kernel
theorem dX2_init_34 : decode cX2_init 34 = .ok (.newarray .int, 2) := by decide +kernel
theorem dX2_init_36 : decode cX2_init 36 = .ok (.putfield 24, 3) := by decide +kernel
theorem dX2_init_39 : decode cX2_init 39 = .ok (.aload_n 0, 1) := by decide +kernel
theorem dX2_init_40 : decode cX2_init 40 = .ok (.bipush 6, 2) := by decide +kernel
theorem dX2_init_42 : decode cX2_init 42 = .ok (.newarray .int, 2) := by decide +kernel
theorem dX2_init_44 : decode cX2_init 44 = .ok (.putfield 28, 3) := by decide +kernel
theorem dX2_init_47 : decode cX2_init 47 = .ok (.return_, 1) := by decide +kernel
theorem dX2_readFrom_0 : decode cX2_readFrom 0 = .ok (.aload_n 0, 1) := by decide +kernel
theorem dX2_readFrom_1 : decode cX2_readFrom 1 = .ok (.iconst 0, 1) := by decide +kernel
theorem dX2_readFrom_2 : decode cX2_readFrom 2 = .ok (.putfield 31, 3) := by decide +kernel
theorem dX2_readFrom_5 : decode cX2_readFrom 5 = .ok (.aload_n 0, 1) := by decide +kernel
theorem dX2_readFrom_6 : decode cX2_readFrom 6 = .ok (.iconst 0, 1) := by decide +kernel
theorem dX2_readFrom_7 : decode cX2_readFrom 7 = .ok (.putfield 35, 3) := by decide +kernel
theorem dX2_readFrom_10 : decode cX2_readFrom 10 = .ok (.aload_n 0, 1) := by decide +kernel
theorem dX2_readFrom_11 : decode cX2_readFrom 11 = .ok (.iconst 0, 1) := by decide +kernel
theorem dX2_readFrom_12 : decode cX2_readFrom 12 = .ok (.putfield 38, 3) := by decide +kernel
theorem dX2_readFrom_15 : decode cX2_readFrom 15 = .ok (.aload_n 0, 1) := by decide +kernel
theorem dX2_readFrom_16 : decode cX2_readFrom 16 = .ok (.iconst 0, 1) := by decide +kernel
theorem dX2_readFrom_17 : decode cX2_readFrom 17 = .ok (.putfield 41, 3) := by decide +kernel
theorem dX2_readFrom_20 : decode cX2_readFrom 20 = .ok (.aload_n 0, 1) := by decide +kernel
theorem dX2_readFrom_21 : decode cX2_readFrom 21 = .ok (.iconst 0, 1) := by decide +kernel
theorem dX2_readFrom_22 : decode cX2_readFrom 22 = .ok (.putfield 44, 3) := by decide +kernel
theorem dX2_readFrom_25 : decode cX2_readFrom 25 = .ok (.aload_n 1, 1) := by decide +kernel
theorem dX2_readFrom_26 : decode cX2_readFrom 26 = .ok (.invokevirtual 47, 3) := by decide +kernel
theorem dX2_readFrom_29 : decode cX2_readFrom 29 = .ok (.iconst 0, 1) := by decide +kernel
theorem dX2_readFrom_30 : decode cX2_readFrom 30 = .ok (.istore_n 2, 1) := by decide +kernel
theorem dX2_readFrom_31 : decode cX2_readFrom 31 = .ok (.iload_n 2, 1) := by decide +kernel
theorem dX2_readFrom_32 : decode cX2_readFrom 32 = .ok (.sipush 200, 3) := by decide +kernel
theorem dX2_readFrom_35 : decode cX2_readFrom 35 = .ok (.if_icmp .gt 55, 3) := by decide +kernel
theorem dX2_readFrom_38 : decode cX2_readFrom 38 = .ok (.aload_n 1, 1) := by decide +kernel
theorem dX2_readFrom_39 : decode cX2_readFrom 39 = .ok (.ldc 50, 2) := by decide +kernel
theorem dX2_readFrom_41 : decode cX2_readFrom 41 = .ok (.invokevirtual 52, 3) := by decide +kernel
theorem dX2_readFrom_44 : decode cX2_readFrom 44 = .ok (.aload_n 0, 1) := by decide +kernel
theorem dX2_readFrom_45 : decode cX2_readFrom 45 = .ok (.aload_n 0, 1) := by decide +kernel
theorem dX2_readFrom_46 : decode cX2_readFrom 46 = .ok (.aload_n 1, 1) := by decide +kernel
theorem dX2_readFrom_47 : decode cX2_readFrom 47 = .ok (.getfield 56, 3) := by decide +kernel
theorem dX2_readFrom_50 : decode cX2_readFrom 50 = .ok (.aload_n 1, 1) := by decide +kernel
theorem dX2_readFrom_51 : decode cX2_readFrom 51 = .ok (.getfield 59, 3) := by decide +kernel
theorem dX2_readFrom_54 : decode cX2_readFrom 54 = .ok (.invokevirtual 63, 3) := by decide +kernel
theorem dX2_readFrom_57 : decode cX2_readFrom 57 = .ok (.putfield 41, 3) := by decide +kernel
theorem dX2_readFrom_60 : decode cX2_readFrom 60 = .ok (.aload_n 0, 1) := by decide +kernel
theorem dX2_readFrom_61 : decode cX2_readFrom 61 = .ok (.getfield 41, 3) := by decide +kernel
theorem dX2_readFrom_64 : decode cX2_readFrom 64 = .ok (.ifCond .eq 12, 3) := by decide +kernel
theorem dX2_readFrom_67 : decode cX2_readFrom 67 = .ok (.aload_n 0, 1) := by decide +kernel
theorem dX2_readFrom_68 : decode cX2_readFrom 68 = .ok (.aload_n 1, 1) := by decide +kernel
theorem dX2_readFrom_69 : decode cX2_readFrom 69 = .ok (.getfield 67, 3) := by decide +kernel
theorem dX2_readFrom_72 : decode cX2_readFrom 72 = .ok (.putfield 44, 3) := by decide +kernel
theorem dX2_readFrom_75 : decode cX2_readFrom 75 = .ok (.return_, 1) := by decide +kernel
theorem dX2_readFrom_76 : decode cX2_readFrom 76 = .ok (.aload_n 1, 1) := by decide +kernel
theorem dX2_readFrom_77 : decode cX2_readFrom 77 = .ok (.getfield 56, 3) := by decide +kernel
theorem dX2_readFrom_80 : decode cX2_readFrom 80 = .ok (.ifCond .ne 4, 3) := by decide +kernel
theorem dX2_readFrom_83 : decode cX2_readFrom 83 = .ok (.return_, 1) := by decide +kernel
theorem dX2_readFrom_84 : decode cX2_readFrom 84 = .ok (.iinc 2 1, 3) := by decide +kernel
theorem dX2_readFrom_87 : decode cX2_readFrom 87 = .ok (.goto (-56), 3) := by decide +kernel
theorem dX2_readFrom_90 : decode cX2_readFrom 90 = .ok (.return_, 1) := by decide +kernel
theorem dX2_copyOfForm_0 : decode cX2_copyOfForm 0 = .ok (.new 68, 3) := by decide +kernel
theorem dX2_copyOfForm_3 : decode cX2_copyOfForm 3 = .ok (.dup, 1) := by decide +kernel
theorem dX2_copyOfForm_4 : decode cX2_copyOfForm 4 = .ok (.aload_n 0, 1) := by decide +kernel
theorem dX2_copyOfForm_5 : decode cX2_copyOfForm 5 = .ok (.getfield 11, 3) := by decide +kernel
theorem dX2_copyOfForm_8 : decode cX2_copyOfForm 8 = .ok (.aload_n 0, 1) := by decide +kernel
theorem dX2_copyOfForm_9 : decode cX2_copyOfForm 9 = .ok (.getfield 31, 3) := by decide +kernel
theorem dX2_copyOfForm_12 : decode cX2_copyOfForm 12 = .ok (.invokestatic 70, 3) := by decide +kernel
theorem dX2_copyOfForm_15 : decode cX2_copyOfForm 15 = .ok (.aload_n 0, 1) := by decide +kernel
theorem dX2_copyOfForm_16 : decode cX2_copyOfForm 16 = .ok (.getfield 17, 3) := by decide +kernel
theorem dX2_copyOfForm_19 : decode cX2_copyOfForm 19 = .ok (.aload_n 0, 1) := by decide +kernel
theorem dX2_copyOfForm_20 : decode cX2_copyOfForm 20 = .ok (.getfield 31, 3) := by decide +kernel
theorem dX2_copyOfForm_23 : decode cX2_copyOfForm 23 = .ok (.invokestatic 76, 3) := by decide +kernel
theorem dX2_copyOfForm_26 : decode cX2_copyOfForm 26 = .ok (.aload_n 0, 1) := by decide +kernel
theorem dX2_copyOfForm_27 : decode cX2_copyOfForm 27 = .ok (.getfield 21, 3) := by decide +kernel
theorem dX2_copyOfForm_30 : decode cX2_copyOfForm 30 = .ok (.aload_n 0, 1) := by decide +kernel
theorem dX2_copyOfForm_31 : decode cX2_copyOfForm 31 = .ok (.getfield 31, 3) := by decide +kernel
theorem dX2_copyOfForm_34 : decode cX2_copyOfForm 34 = .ok (.invokestatic 76, 3) := by decide +kernel
theorem dX2_copyOfForm_37 : decode cX2_copyOfForm 37 = .ok (.invokespecial 79, 3) := by decide +kernel
theorem dX2_copyOfForm_40 : decode cX2_copyOfForm 40 = .ok (.areturn, 1) := by decide +kernel
theorem dX2_faultOf_0 : decode cX2_faultOf 0 = .ok (.aload_n 0, 1) := by decide +kernel
theorem dX2_faultOf_1 : decode cX2_faultOf 1 = .ok (.getfield 38, 3) := by decide +kernel
theorem dX2_faultOf_4 : decode cX2_faultOf 4 = .ok (.iconst 3, 1) := by decide +kernel
theorem dX2_faultOf_5 : decode cX2_faultOf 5 = .ok (.if_icmp .ne 10, 3) := by decide +kernel
theorem dX2_faultOf_8 : decode cX2_faultOf 8 = .ok (.aload_n 0, 1) := by decide +kernel
theorem dX2_faultOf_9 : decode cX2_faultOf 9 = .ok (.iload_n 1, 1) := by decide +kernel
theorem dX2_faultOf_10 : decode cX2_faultOf 10 = .ok (.lload_n 2, 1) := by decide +kernel
theorem dX2_faultOf_11 : decode cX2_faultOf 11 = .ok (.invokevirtual 82, 3) := by decide +kernel
theorem dX2_faultOf_14 : decode cX2_faultOf 14 = .ok (.ireturn, 1) := by decide +kernel
theorem dX2_faultOf_15 : decode cX2_faultOf 15 = .ok (.iload_n 1, 1) := by decide +kernel
theorem dX2_faultOf_16 : decode cX2_faultOf 16 = .ok (.lookupswitch 102 #[(1, 52), (2, 65), (40, 86), (91, 78), (123, 94)], 52) := by decide +kernel
theorem dX2_faultOf_68 : decode cX2_faultOf 68 = .ok (.aload_n 0, 1) := by decide +kernel
theorem dX2_faultOf_69 : decode cX2_faultOf 69 = .ok (.iload_n 1, 1) := by decide +kernel
theorem dX2_faultOf_70 : decode cX2_faultOf 70 = .ok (.lload_n 2, 1) := by decide +kernel
theorem dX2_faultOf_71 : decode cX2_faultOf 71 = .ok (.invokevirtual 85, 3) := by decide +kernel
theorem dX2_faultOf_74 : decode cX2_faultOf 74 = .ok (.aload_n 0, 1) := by decide +kernel
theorem dX2_faultOf_75 : decode cX2_faultOf 75 = .ok (.iconst 1, 1) := by decide +kernel
theorem dX2_faultOf_76 : decode cX2_faultOf 76 = .ok (.putfield 38, 3) := by decide +kernel
theorem dX2_faultOf_79 : decode cX2_faultOf 79 = .ok (.iconst 0, 1) := by decide +kernel
theorem dX2_faultOf_80 : decode cX2_faultOf 80 = .ok (.ireturn, 1) := by decide +kernel
theorem dX2_faultOf_81 : decode cX2_faultOf 81 = .ok (.aload_n 0, 1) := by decide +kernel
theorem dX2_faultOf_82 : decode cX2_faultOf 82 = .ok (.iload_n 1, 1) := by decide +kernel
theorem dX2_faultOf_83 : decode cX2_faultOf 83 = .ok (.lload_n 2, 1) := by decide +kernel
theorem dX2_faultOf_84 : decode cX2_faultOf 84 = .ok (.invokevirtual 85, 3) := by decide +kernel
theorem dX2_faultOf_87 : decode cX2_faultOf 87 = .ok (.aload_n 0, 1) := by decide +kernel
theorem dX2_faultOf_88 : decode cX2_faultOf 88 = .ok (.iconst 2, 1) := by decide +kernel
theorem dX2_faultOf_89 : decode cX2_faultOf 89 = .ok (.putfield 38, 3) := by decide +kernel
theorem dX2_faultOf_92 : decode cX2_faultOf 92 = .ok (.iconst 0, 1) := by decide +kernel
theorem dX2_faultOf_93 : decode cX2_faultOf 93 = .ok (.ireturn, 1) := by decide +kernel
theorem dX2_faultOf_94 : decode cX2_faultOf 94 = .ok (.aload_n 0, 1) := by decide +kernel
theorem dX2_faultOf_95 : decode cX2_faultOf 95 = .ok (.iload_n 1, 1) := by decide +kernel
theorem dX2_faultOf_96 : decode cX2_faultOf 96 = .ok (.bipush 93, 2) := by decide +kernel
theorem dX2_faultOf_98 : decode cX2_faultOf 98 = .ok (.invokevirtual 89, 3) := by decide +kernel
theorem dX2_faultOf_101 : decode cX2_faultOf 101 = .ok (.ireturn, 1) := by decide +kernel
theorem dX2_faultOf_102 : decode cX2_faultOf 102 = .ok (.aload_n 0, 1) := by decide +kernel
theorem dX2_faultOf_103 : decode cX2_faultOf 103 = .ok (.iload_n 1, 1) := by decide +kernel
theorem dX2_faultOf_104 : decode cX2_faultOf 104 = .ok (.bipush 41, 2) := by decide +kernel
theorem dX2_faultOf_106 : decode cX2_faultOf 106 = .ok (.invokevirtual 89, 3) := by decide +kernel
theorem dX2_faultOf_109 : decode cX2_faultOf 109 = .ok (.ireturn, 1) := by decide +kernel
theorem dX2_faultOf_110 : decode cX2_faultOf 110 = .ok (.aload_n 0, 1) := by decide +kernel
theorem dX2_faultOf_111 : decode cX2_faultOf 111 = .ok (.iload_n 1, 1) := by decide +kernel
theorem dX2_faultOf_112 : decode cX2_faultOf 112 = .ok (.bipush 125, 2) := by decide +kernel
theorem dX2_faultOf_114 : decode cX2_faultOf 114 = .ok (.invokevirtual 89, 3) := by decide +kernel
theorem dX2_faultOf_117 : decode cX2_faultOf 117 = .ok (.ireturn, 1) := by decide +kernel
theorem dX2_faultOf_118 : decode cX2_faultOf 118 = .ok (.aload_n 0, 1) := by decide +kernel
theorem dX2_faultOf_119 : decode cX2_faultOf 119 = .ok (.getfield 38, 3) := by decide +kernel
theorem dX2_faultOf_122 : decode cX2_faultOf 122 = .ok (.ifCond .ne 7, 3) := by decide +kernel
theorem dX2_faultOf_125 : decode cX2_faultOf 125 = .ok (.iconst 1, 1) := by decide +kernel
theorem dX2_faultOf_126 : decode cX2_faultOf 126 = .ok (.goto 8, 3) := by decide +kernel
theorem dX2_faultOf_129 : decode cX2_faultOf 129 = .ok (.aload_n 0, 1) := by decide +kernel
theorem dX2_faultOf_130 : decode cX2_faultOf 130 = .ok (.iload_n 1, 1) := by decide +kernel
theorem dX2_faultOf_131 : decode cX2_faultOf 131 = .ok (.invokevirtual 93, 3) := by decide +kernel
theorem dX2_faultOf_134 : decode cX2_faultOf 134 = .ok (.ireturn, 1) := by decide +kernel
theorem dX2_faultBehindPart_0 : decode cX2_faultBehindPart 0 = .ok (.iload_n 1, 1) := by decide +kernel
theorem dX2_faultBehindPart_1 : decode cX2_faultBehindPart 1 = .ok (.lookupswitch 122 #[(0, 67), (41, 116), (44, 110), (46, 80), (93, 116), (124, 97), (125, 116)], 67) := by decide +kernel
theorem dX2_faultBehindPart_68 : decode cX2_faultBehindPart 68 = .ok (.aload_n 0, 1) := by decide +kernel
theorem dX2_faultBehindPart_69 : decode cX2_faultBehindPart 69 = .ok (.getfield 35, 3) := by decide +kernel
theorem dX2_faultBehindPart_72 : decode cX2_faultBehindPart 72 = .ok (.ifCond .ne 7, 3) := by decide +kernel
theorem dX2_faultBehindPart_75 : decode cX2_faultBehindPart 75 = .ok (.iconst 0, 1) := by decide +kernel
theorem dX2_faultBehindPart_76 : decode cX2_faultBehindPart 76 = .ok (.goto 4, 3) := by decide +kernel
theorem dX2_faultBehindPart_79 : decode cX2_faultBehindPart 79 = .ok (.iconst 1, 1) := by decide +kernel
theorem dX2_faultBehindPart_80 : decode cX2_faultBehindPart 80 = .ok (.ireturn, 1) := by decide +kernel
theorem dX2_faultBehindPart_81 : decode cX2_faultBehindPart 81 = .ok (.aload_n 0, 1) := by decide +kernel
theorem dX2_faultBehindPart_82 : decode cX2_faultBehindPart 82 = .ok (.getfield 38, 3) := by decide +kernel
theorem dX2_faultBehindPart_85 : decode cX2_faultBehindPart 85 = .ok (.iconst 2, 1) := by decide +kernel
theorem dX2_faultBehindPart_86 : decode cX2_faultBehindPart 86 = .ok (.if_icmp .eq 5, 3) := by decide +kernel
theorem dX2_faultBehindPart_89 : decode cX2_faultBehindPart 89 = .ok (.iconst 1, 1) := by decide +kernel
theorem dX2_faultBehindPart_90 : decode cX2_faultBehindPart 90 = .ok (.ireturn, 1) := by decide +kernel
theorem dX2_faultBehindPart_91 : decode cX2_faultBehindPart 91 = .ok (.aload_n 0, 1) := by decide +kernel
theorem dX2_faultBehindPart_92 : decode cX2_faultBehindPart 92 = .ok (.iconst 3, 1) := by decide +kernel
theorem dX2_faultBehindPart_93 : decode cX2_faultBehindPart 93 = .ok (.putfield 38, 3) := by decide +kernel
theorem dX2_faultBehindPart_96 : decode cX2_faultBehindPart 96 = .ok (.iconst 0, 1) := by decide +kernel
theorem dX2_faultBehindPart_97 : decode cX2_faultBehindPart 97 = .ok (.ireturn, 1) := by decide +kernel
theorem dX2_faultBehindPart_98 : decode cX2_faultBehindPart 98 = .ok (.aload_n 0, 1) := by decide +kernel
theorem dX2_faultBehindPart_99 : decode cX2_faultBehindPart 99 = .ok (.iload_n 1, 1) := by decide +kernel
theorem dX2_faultBehindPart_100 : decode cX2_faultBehindPart 100 = .ok (.lconst 0, 1) := by decide +kernel
theorem dX2_faultBehindPart_101 : decode cX2_faultBehindPart 101 = .ok (.invokevirtual 85, 3) := by decide +kernel
theorem dX2_faultBehindPart_104 : decode cX2_faultBehindPart 104 = .ok (.aload_n 0, 1) := by decide +kernel
theorem dX2_faultBehindPart_105 : decode cX2_faultBehindPart 105 = .ok (.iconst 0, 1) := by decide +kernel
theorem dX2_faultBehindPart_106 : decode cX2_faultBehindPart 106 = .ok (.putfield 38, 3) := by decide +kernel
theorem dX2_faultBehindPart_109 : decode cX2_faultBehindPart 109 = .ok (.iconst 0, 1) := by decide +kernel
theorem dX2_faultBehindPart_110 : decode cX2_faultBehindPart 110 = .ok (.ireturn, 1) := by decide +kernel
theorem dX2_faultBehindPart_111 : decode cX2_faultBehindPart 111 = .ok (.aload_n 0, 1) := by decide +kernel
theorem dX2_faultBehindPart_112 : decode cX2_faultBehindPart 112 = .ok (.iload_n 1, 1) := by decide +kernel
theorem dX2_faultBehindPart_113 : decode cX2_faultBehindPart 113 = .ok (.invokevirtual 97, 3) := by decide +kernel
theorem dX2_faultBehindPart_116 : decode cX2_faultBehindPart 116 = .ok (.ireturn, 1) := by decide +kernel
theorem dX2_faultBehindPart_117 : decode cX2_faultBehindPart 117 = .ok (.aload_n 0, 1) := by decide +kernel
theorem dX2_faultBehindPart_118 : decode cX2_faultBehindPart 118 = .ok (.iload_n 1, 1) := by decide +kernel
theorem dX2_faultBehindPart_119 : decode cX2_faultBehindPart 119 = .ok (.invokevirtual 100, 3) := by decide +kernel
theorem dX2_faultBehindPart_122 : decode cX2_faultBehindPart 122 = .ok (.ireturn, 1) := by decide +kernel
theorem dX2_faultBehindPart_123 : decode cX2_faultBehindPart 123 = .ok (.iconst 1, 1) := by decide +kernel
theorem dX2_faultBehindPart_124 : decode cX2_faultBehindPart 124 = .ok (.ireturn, 1) := by decide +kernel
theorem dX2_closeRange_0 : decode cX2_closeRange 0 = .ok (.iload_n 1, 1) := by decide +kernel
theorem dX2_closeRange_1 : decode cX2_closeRange 1 = .ok (.iconst 2, 1) := by decide +kernel
theorem dX2_closeRange_2 : decode cX2_closeRange 2 = .ok (.if_icmp .ne 23, 3) := by decide +kernel
theorem dX2_closeRange_5 : decode cX2_closeRange 5 = .ok (.aload_n 0, 1) := by decide +kernel
theorem dX2_closeRange_6 : decode cX2_closeRange 6 = .ok (.getfield 31, 3) := by decide +kernel
theorem dX2_closeRange_9 : decode cX2_closeRange 9 = .ok (.iconst 1, 1) := by decide +kernel
theorem dX2_closeRange_10 : decode cX2_closeRange 10 = .ok (.if_icmp .lt 15, 3) := by decide +kernel
theorem dX2_closeRange_13 : decode cX2_closeRange 13 = .ok (.aload_n 0, 1) := by decide +kernel
theorem dX2_closeRange_14 : decode cX2_closeRange 14 = .ok (.getfield 31, 3) := by decide +kernel
theorem dX2_closeRange_17 : decode cX2_closeRange 17 = .ok (.aload_n 0, 1) := by decide +kernel
theorem dX2_closeRange_18 : decode cX2_closeRange 18 = .ok (.getfield 21, 3) := by decide +kernel
theorem dX2_closeRange_21 : decode cX2_closeRange 21 = .ok (.arraylength, 1) := by decide +kernel
theorem dX2_closeRange_22 : decode cX2_closeRange 22 = .ok (.if_icmp .le 5, 3) := by decide +kernel
theorem dX2_closeRange_25 : decode cX2_closeRange 25 = .ok (.iconst 1, 1) := by decide +kernel
theorem dX2_closeRange_26 : decode cX2_closeRange 26 = .ok (.ireturn, 1) := by decide +kernel
theorem dX2_closeRange_27 : decode cX2_closeRange 27 = .ok (.lload_n 2, 1) := by decide +kernel
theorem dX2_closeRange_28 : decode cX2_closeRange 28 = .ok (.aload_n 0, 1) := by decide +kernel
theorem dX2_closeRange_29 : decode cX2_closeRange 29 = .ok (.getfield 17, 3) := by decide +kernel
theorem dX2_closeRange_32 : decode cX2_closeRange 32 = .ok (.aload_n 0, 1) := by decide +kernel
theorem dX2_closeRange_33 : decode cX2_closeRange 33 = .ok (.getfield 31, 3) := by decide +kernel
theorem dX2_closeRange_36 : decode cX2_closeRange 36 = .ok (.iconst 1, 1) := by decide +kernel
theorem dX2_closeRange_37 : decode cX2_closeRange 37 = .ok (.isub, 1) := by decide +kernel
theorem dX2_closeRange_38 : decode cX2_closeRange 38 = .ok (.laload, 1) := by decide +kernel
theorem dX2_closeRange_39 : decode cX2_closeRange 39 = .ok (.lcmp, 1) := by decide +kernel
theorem dX2_closeRange_40 : decode cX2_closeRange 40 = .ok (.ifCond .ge 5, 3) := by decide +kernel
theorem dX2_closeRange_43 : decode cX2_closeRange 43 = .ok (.iconst 2, 1) := by decide +kernel
theorem dX2_closeRange_44 : decode cX2_closeRange 44 = .ok (.ireturn, 1) := by decide +kernel
theorem dX2_closeRange_45 : decode cX2_closeRange 45 = .ok (.aload_n 0, 1) := by decide +kernel
theorem dX2_closeRange_46 : decode cX2_closeRange 46 = .ok (.getfield 21, 3) := by decide +kernel
theorem dX2_closeRange_49 : decode cX2_closeRange 49 = .ok (.aload_n 0, 1) := by decide +kernel
theorem dX2_closeRange_50 : decode cX2_closeRange 50 = .ok (.getfield 31, 3) := by decide +kernel
theorem dX2_closeRange_53 : decode cX2_closeRange 53 = .ok (.iconst 1, 1) := by decide +kernel
theorem dX2_closeRange_54 : decode cX2_closeRange 54 = .ok (.isub, 1) := by decide +kernel
theorem dX2_closeRange_55 : decode cX2_closeRange 55 = .ok (.lload_n 2, 1) := by decide +kernel
theorem dX2_closeRange_56 : decode cX2_closeRange 56 = .ok (.lastore, 1) := by decide +kernel
theorem dX2_closeRange_57 : decode cX2_closeRange 57 = .ok (.aload_n 0, 1) := by decide +kernel
theorem dX2_closeRange_58 : decode cX2_closeRange 58 = .ok (.iconst 1, 1) := by decide +kernel
theorem dX2_closeRange_59 : decode cX2_closeRange 59 = .ok (.putfield 38, 3) := by decide +kernel
theorem dX2_closeRange_62 : decode cX2_closeRange 62 = .ok (.iconst 0, 1) := by decide +kernel
theorem dX2_closeRange_63 : decode cX2_closeRange 63 = .ok (.ireturn, 1) := by decide +kernel
theorem dX2_openBracket_0 : decode cX2_openBracket 0 = .ok (.aload_n 0, 1) := by decide +kernel
theorem dX2_openBracket_1 : decode cX2_openBracket 1 = .ok (.getfield 35, 3) := by decide +kernel
theorem dX2_openBracket_4 : decode cX2_openBracket 4 = .ok (.bipush 6, 2) := by decide +kernel
theorem dX2_openBracket_6 : decode cX2_openBracket 6 = .ok (.if_icmp .lt 5, 3) := by decide +kernel
theorem dX2_openBracket_9 : decode cX2_openBracket 9 = .ok (.iconst 3, 1) := by decide +kernel
theorem dX2_openBracket_10 : decode cX2_openBracket 10 = .ok (.ireturn, 1) := by decide +kernel
theorem dX2_openBracket_11 : decode cX2_openBracket 11 = .ok (.aload_n 0, 1) := by decide +kernel
theorem dX2_openBracket_12 : decode cX2_openBracket 12 = .ok (.getfield 24, 3) := by decide +kernel
theorem dX2_openBracket_15 : decode cX2_openBracket 15 = .ok (.aload_n 0, 1) := by decide +kernel
theorem dX2_openBracket_16 : decode cX2_openBracket 16 = .ok (.getfield 35, 3) := by decide +kernel
theorem dX2_openBracket_19 : decode cX2_openBracket 19 = .ok (.iload_n 2, 1) := by decide +kernel
theorem dX2_openBracket_20 : decode cX2_openBracket 20 = .ok (.iastore, 1) := by decide +kernel
theorem dX2_openBracket_21 : decode cX2_openBracket 21 = .ok (.aload_n 0, 1) := by decide +kernel
theorem dX2_openBracket_22 : decode cX2_openBracket 22 = .ok (.getfield 28, 3) := by decide +kernel
theorem dX2_openBracket_25 : decode cX2_openBracket 25 = .ok (.aload_n 0, 1) := by decide +kernel
theorem dX2_openBracket_26 : decode cX2_openBracket 26 = .ok (.getfield 35, 3) := by decide +kernel
theorem dX2_openBracket_29 : decode cX2_openBracket 29 = .ok (.iconst 1, 1) := by decide +kernel
theorem dX2_openBracket_30 : decode cX2_openBracket 30 = .ok (.iastore, 1) := by decide +kernel
theorem dX2_openBracket_31 : decode cX2_openBracket 31 = .ok (.aload_n 0, 1) := by decide +kernel
theorem dX2_openBracket_32 : decode cX2_openBracket 32 = .ok (.dup, 1) := by decide +kernel
theorem dX2_openBracket_33 : decode cX2_openBracket 33 = .ok (.getfield 35, 3) := by decide +kernel
theorem dX2_openBracket_36 : decode cX2_openBracket 36 = .ok (.iconst 1, 1) := by decide +kernel
theorem dX2_openBracket_37 : decode cX2_openBracket 37 = .ok (.iadd, 1) := by decide +kernel
theorem dX2_openBracket_38 : decode cX2_openBracket 38 = .ok (.putfield 35, 3) := by decide +kernel
theorem dX2_openBracket_41 : decode cX2_openBracket 41 = .ok (.aload_n 0, 1) := by decide +kernel
theorem dX2_openBracket_42 : decode cX2_openBracket 42 = .ok (.iload_n 1, 1) := by decide +kernel
theorem dX2_openBracket_43 : decode cX2_openBracket 43 = .ok (.lconst 0, 1) := by decide +kernel
theorem dX2_openBracket_44 : decode cX2_openBracket 44 = .ok (.invokevirtual 85, 3) := by decide +kernel
theorem dX2_openBracket_47 : decode cX2_openBracket 47 = .ok (.aload_n 0, 1) := by decide +kernel
theorem dX2_openBracket_48 : decode cX2_openBracket 48 = .ok (.iconst 0, 1) := by decide +kernel
theorem dX2_openBracket_49 : decode cX2_openBracket 49 = .ok (.putfield 38, 3) := by decide +kernel
theorem dX2_openBracket_52 : decode cX2_openBracket 52 = .ok (.iconst 0, 1) := by decide +kernel
theorem dX2_openBracket_53 : decode cX2_openBracket 53 = .ok (.ireturn, 1) := by decide +kernel
theorem dX2_nextOfSet_0 : decode cX2_nextOfSet 0 = .ok (.aload_n 0, 1) := by decide +kernel
theorem dX2_nextOfSet_1 : decode cX2_nextOfSet 1 = .ok (.bipush 125, 2) := by decide +kernel
theorem dX2_nextOfSet_3 : decode cX2_nextOfSet 3 = .ok (.invokevirtual 103, 3) := by decide +kernel
theorem dX2_nextOfSet_6 : decode cX2_nextOfSet 6 = .ok (.ifCond .ne 5, 3) := by decide +kernel
theorem dX2_nextOfSet_9 : decode cX2_nextOfSet 9 = .ok (.iconst 1, 1) := by decide +kernel
theorem dX2_nextOfSet_10 : decode cX2_nextOfSet 10 = .ok (.ireturn, 1) := by decide +kernel
theorem dX2_nextOfSet_11 : decode cX2_nextOfSet 11 = .ok (.aload_n 0, 1) := by decide +kernel
theorem dX2_nextOfSet_12 : decode cX2_nextOfSet 12 = .ok (.getfield 28, 3) := by decide +kernel
theorem dX2_nextOfSet_15 : decode cX2_nextOfSet 15 = .ok (.aload_n 0, 1) := by decide +kernel
theorem dX2_nextOfSet_16 : decode cX2_nextOfSet 16 = .ok (.getfield 35, 3) := by decide +kernel
theorem dX2_nextOfSet_19 : decode cX2_nextOfSet 19 = .ok (.iconst 1, 1) := by decide +kernel
theorem dX2_nextOfSet_20 : decode cX2_nextOfSet 20 = .ok (.isub, 1) := by decide +kernel
theorem dX2_nextOfSet_21 : decode cX2_nextOfSet 21 = .ok (.iaload, 1) := by decide +kernel
theorem dX2_nextOfSet_22 : decode cX2_nextOfSet 22 = .ok (.iconst 5, 1) := by decide +kernel
theorem dX2_nextOfSet_23 : decode cX2_nextOfSet 23 = .ok (.if_icmp .lt 5, 3) := by decide +kernel
theorem dX2_nextOfSet_26 : decode cX2_nextOfSet 26 = .ok (.iconst 3, 1) := by decide +kernel
theorem dX2_nextOfSet_27 : decode cX2_nextOfSet 27 = .ok (.ireturn, 1) := by decide +kernel
theorem dX2_nextOfSet_28 : decode cX2_nextOfSet 28 = .ok (.aload_n 0, 1) := by decide +kernel
theorem dX2_nextOfSet_29 : decode cX2_nextOfSet 29 = .ok (.getfield 28, 3) := by decide +kernel
theorem dX2_nextOfSet_32 : decode cX2_nextOfSet 32 = .ok (.aload_n 0, 1) := by decide +kernel
theorem dX2_nextOfSet_33 : decode cX2_nextOfSet 33 = .ok (.getfield 35, 3) := by decide +kernel
theorem dX2_nextOfSet_36 : decode cX2_nextOfSet 36 = .ok (.iconst 1, 1) := by decide +kernel
theorem dX2_nextOfSet_37 : decode cX2_nextOfSet 37 = .ok (.isub, 1) := by decide +kernel
theorem dX2_nextOfSet_38 : decode cX2_nextOfSet 38 = .ok (.dup2, 1) := by decide +kernel
theorem dX2_nextOfSet_39 : decode cX2_nextOfSet 39 = .ok (.iaload, 1) := by decide +kernel
theorem dX2_nextOfSet_40 : decode cX2_nextOfSet 40 = .ok (.iconst 1, 1) := by decide +kernel
theorem dX2_nextOfSet_41 : decode cX2_nextOfSet 41 = .ok (.iadd, 1) := by decide +kernel
theorem dX2_nextOfSet_42 : decode cX2_nextOfSet 42 = .ok (.iastore, 1) := by decide +kernel
theorem dX2_nextOfSet_43 : decode cX2_nextOfSet 43 = .ok (.aload_n 0, 1) := by decide +kernel
theorem dX2_nextOfSet_44 : decode cX2_nextOfSet 44 = .ok (.iload_n 1, 1) := by decide +kernel
theorem dX2_nextOfSet_45 : decode cX2_nextOfSet 45 = .ok (.lconst 0, 1) := by decide +kernel
theorem dX2_nextOfSet_46 : decode cX2_nextOfSet 46 = .ok (.invokevirtual 85, 3) := by decide +kernel
theorem dX2_nextOfSet_49 : decode cX2_nextOfSet 49 = .ok (.aload_n 0, 1) := by decide +kernel
theorem dX2_nextOfSet_50 : decode cX2_nextOfSet 50 = .ok (.iconst 0, 1) := by decide +kernel
theorem dX2_nextOfSet_51 : decode cX2_nextOfSet 51 = .ok (.putfield 38, 3) := by decide +kernel
theorem dX2_nextOfSet_54 : decode cX2_nextOfSet 54 = .ok (.iconst 0, 1) := by decide +kernel
theorem dX2_nextOfSet_55 : decode cX2_nextOfSet 55 = .ok (.ireturn, 1) := by decide +kernel
theorem dX2_closeBracket_0 : decode cX2_closeBracket 0 = .ok (.aload_n 0, 1) := by decide +kernel
theorem dX2_closeBracket_1 : decode cX2_closeBracket 1 = .ok (.iload_n 1, 1) := by decide +kernel
theorem dX2_closeBracket_2 : decode cX2_closeBracket 2 = .ok (.invokevirtual 103, 3) := by decide +kernel
theorem dX2_closeBracket_5 : decode cX2_closeBracket 5 = .ok (.ifCond .ne 5, 3) := by decide +kernel
theorem dX2_closeBracket_8 : decode cX2_closeBracket 8 = .ok (.iconst 1, 1) := by decide +kernel
theorem dX2_closeBracket_9 : decode cX2_closeBracket 9 = .ok (.ireturn, 1) := by decide +kernel
theorem dX2_closeBracket_10 : decode cX2_closeBracket 10 = .ok (.aload_n 0, 1) := by decide +kernel
theorem dX2_closeBracket_11 : decode cX2_closeBracket 11 = .ok (.dup, 1) := by decide +kernel
theorem dX2_closeBracket_12 : decode cX2_closeBracket 12 = .ok (.getfield 35, 3) := by decide +kernel
theorem dX2_closeBracket_15 : decode cX2_closeBracket 15 = .ok (.iconst 1, 1) := by decide +kernel
theorem dX2_closeBracket_16 : decode cX2_closeBracket 16 = .ok (.isub, 1) := by decide +kernel
theorem dX2_closeBracket_17 : decode cX2_closeBracket 17 = .ok (.putfield 35, 3) := by decide +kernel
theorem dX2_closeBracket_20 : decode cX2_closeBracket 20 = .ok (.aload_n 0, 1) := by decide +kernel
theorem dX2_closeBracket_21 : decode cX2_closeBracket 21 = .ok (.iload_n 1, 1) := by decide +kernel
theorem dX2_closeBracket_22 : decode cX2_closeBracket 22 = .ok (.lconst 0, 1) := by decide +kernel
theorem dX2_closeBracket_23 : decode cX2_closeBracket 23 = .ok (.invokevirtual 85, 3) := by decide +kernel
theorem dX2_closeBracket_26 : decode cX2_closeBracket 26 = .ok (.aload_n 0, 1) := by decide +kernel
theorem dX2_closeBracket_27 : decode cX2_closeBracket 27 = .ok (.iconst 1, 1) := by decide +kernel
theorem dX2_closeBracket_28 : decode cX2_closeBracket 28 = .ok (.putfield 38, 3) := by decide +kernel
theorem dX2_closeBracket_31 : decode cX2_closeBracket 31 = .ok (.iconst 0, 1) := by decide +kernel
theorem dX2_closeBracket_32 : decode cX2_closeBracket 32 = .ok (.ireturn, 1) := by decide +kernel
theorem dX2_isInnermost_0 : decode cX2_isInnermost 0 = .ok (.aload_n 0, 1) := by decide +kernel
theorem dX2_isInnermost_1 : decode cX2_isInnermost 1 = .ok (.getfield 35, 3) := by decide +kernel
theorem dX2_isInnermost_4 : decode cX2_isInnermost 4 = .ok (.iconst 1, 1) := by decide +kernel
theorem dX2_isInnermost_5 : decode cX2_isInnermost 5 = .ok (.if_icmp .lt 31, 3) := by decide +kernel
theorem dX2_isInnermost_8 : decode cX2_isInnermost 8 = .ok (.aload_n 0, 1) := by decide +kernel
theorem dX2_isInnermost_9 : decode cX2_isInnermost 9 = .ok (.getfield 35, 3) := by decide +kernel
theorem dX2_isInnermost_12 : decode cX2_isInnermost 12 = .ok (.bipush 6, 2) := by decide +kernel
theorem dX2_isInnermost_14 : decode cX2_isInnermost 14 = .ok (.if_icmp .gt 22, 3) := by decide +kernel
theorem dX2_isInnermost_17 : decode cX2_isInnermost 17 = .ok (.aload_n 0, 1) := by decide +kernel
theorem dX2_isInnermost_18 : decode cX2_isInnermost 18 = .ok (.getfield 24, 3) := by decide +kernel
theorem dX2_isInnermost_21 : decode cX2_isInnermost 21 = .ok (.aload_n 0, 1) := by decide +kernel
theorem dX2_isInnermost_22 : decode cX2_isInnermost 22 = .ok (.getfield 35, 3) := by decide +kernel
theorem dX2_isInnermost_25 : decode cX2_isInnermost 25 = .ok (.iconst 1, 1) := by decide +kernel
theorem dX2_isInnermost_26 : decode cX2_isInnermost 26 = .ok (.isub, 1) := by decide +kernel
theorem dX2_isInnermost_27 : decode cX2_isInnermost 27 = .ok (.iaload, 1) := by decide +kernel
theorem dX2_isInnermost_28 : decode cX2_isInnermost 28 = .ok (.iload_n 1, 1) := by decide +kernel
theorem dX2_isInnermost_29 : decode cX2_isInnermost 29 = .ok (.if_icmp .ne 7, 3) := by decide +kernel
theorem dX2_isInnermost_32 : decode cX2_isInnermost 32 = .ok (.iconst 1, 1) := by decide +kernel
theorem dX2_isInnermost_33 : decode cX2_isInnermost 33 = .ok (.goto 4, 3) := by decide +kernel
theorem dX2_isInnermost_36 : decode cX2_isInnermost 36 = .ok (.iconst 0, 1) := by decide +kernel
theorem dX2_isInnermost_37 : decode cX2_isInnermost 37 = .ok (.ireturn, 1) := by decide +kernel
theorem dX2_addItem_0 : decode cX2_addItem 0 = .ok (.aload_n 0, 1) := by decide +kernel
theorem dX2_addItem_1 : decode cX2_addItem 1 = .ok (.getfield 31, 3) := by decide +kernel
theorem dX2_addItem_4 : decode cX2_addItem 4 = .ok (.aload_n 0, 1) := by decide +kernel
theorem dX2_addItem_5 : decode cX2_addItem 5 = .ok (.getfield 11, 3) := by decide +kernel
theorem dX2_addItem_8 : decode cX2_addItem 8 = .ok (.arraylength, 1) := by decide +kernel
theorem dX2_addItem_9 : decode cX2_addItem 9 = .ok (.if_icmp .ge 44, 3) := by decide +kernel
theorem dX2_addItem_12 : decode cX2_addItem 12 = .ok (.aload_n 0, 1) := by decide +kernel
theorem dX2_addItem_13 : decode cX2_addItem 13 = .ok (.getfield 11, 3) := by decide +kernel
theorem dX2_addItem_16 : decode cX2_addItem 16 = .ok (.aload_n 0, 1) := by decide +kernel
theorem dX2_addItem_17 : decode cX2_addItem 17 = .ok (.getfield 31, 3) := by decide +kernel
theorem dX2_addItem_20 : decode cX2_addItem 20 = .ok (.iload_n 1, 1) := by decide +kernel
theorem dX2_addItem_21 : decode cX2_addItem 21 = .ok (.i2b, 1) := by decide +kernel
theorem dX2_addItem_22 : decode cX2_addItem 22 = .ok (.bastore, 1) := by decide +kernel
theorem dX2_addItem_23 : decode cX2_addItem 23 = .ok (.aload_n 0, 1) := by decide +kernel
theorem dX2_addItem_24 : decode cX2_addItem 24 = .ok (.getfield 17, 3) := by decide +kernel
theorem dX2_addItem_27 : decode cX2_addItem 27 = .ok (.aload_n 0, 1) := by decide +kernel
theorem dX2_addItem_28 : decode cX2_addItem 28 = .ok (.getfield 31, 3) := by decide +kernel
theorem dX2_addItem_31 : decode cX2_addItem 31 = .ok (.lload_n 2, 1) := by decide +kernel
theorem dX2_addItem_32 : decode cX2_addItem 32 = .ok (.lastore, 1) := by decide +kernel
theorem dX2_addItem_33 : decode cX2_addItem 33 = .ok (.aload_n 0, 1) := by decide +kernel
theorem dX2_addItem_34 : decode cX2_addItem 34 = .ok (.getfield 21, 3) := by decide +kernel
theorem dX2_addItem_37 : decode cX2_addItem 37 = .ok (.aload_n 0, 1) := by decide +kernel
theorem dX2_addItem_38 : decode cX2_addItem 38 = .ok (.getfield 31, 3) := by decide +kernel
theorem dX2_addItem_41 : decode cX2_addItem 41 = .ok (.lload_n 2, 1) := by decide +kernel
theorem dX2_addItem_42 : decode cX2_addItem 42 = .ok (.lastore, 1) := by decide +kernel
theorem dX2_addItem_43 : decode cX2_addItem 43 = .ok (.aload_n 0, 1) := by decide +kernel
theorem dX2_addItem_44 : decode cX2_addItem 44 = .ok (.dup, 1) := by decide +kernel
theorem dX2_addItem_45 : decode cX2_addItem 45 = .ok (.getfield 31, 3) := by decide +kernel
theorem dX2_addItem_48 : decode cX2_addItem 48 = .ok (.iconst 1, 1) := by decide +kernel
theorem dX2_addItem_49 : decode cX2_addItem 49 = .ok (.iadd, 1) := by decide +kernel
theorem dX2_addItem_50 : decode cX2_addItem 50 = .ok (.putfield 31, 3) := by decide +kernel
theorem dX2_addItem_53 : decode cX2_addItem 53 = .ok (.return_, 1) := by decide +kernel
theorem dX3_init_0 : decode cX3_init 0 = .ok (.aload_n 0, 1) := by decide +kernel
theorem dX3_init_1 : decode cX3_init 1 = .ok (.invokespecial 3, 3) := by decide +kernel
theorem dX3_init_4 : decode cX3_init 4 = .ok (.aload_n 0, 1) := by decide +kernel
theorem dX3_init_5 : decode cX3_init 5 = .ok (.bipush 21, 2) := by decide +kernel
theorem dX3_init_7 : decode cX3_init 7 = .ok (.newarray .int, 2) := by decide +kernel
theorem dX3_init_9 : decode cX3_init 9 = .ok (.putfield 11, 3) := by decide +kernel
theorem dX3_init_12 : decode cX3_init 12 = .ok (.aload_n 0, 1) := by decide +kernel
theorem dX3_init_13 : decode cX3_init 13 = .ok (.bipush 21, 2) := by decide +kernel
theorem dX3_init_15 : decode cX3_init 15 = .ok (.newarray .int, 2) := by decide +kernel
theorem dX3_init_17 : decode cX3_init 17 = .ok (.putfield 15, 3) := by decide +kernel
theorem dX3_init_20 : decode cX3_init 20 = .ok (.aload_n 0, 1) := by decide +kernel
theorem dX3_init_21 : decode cX3_init 21 = .ok (.bipush 105, 2) := by decide +kernel
theorem dX3_init_23 : decode cX3_init 23 = .ok (.newarray .int, 2) := by decide +kernel
theorem dX3_init_25 : decode cX3_init 25 = .ok (.putfield 20, 3) := by decide +kernel
theorem dX3_init_28 : decode cX3_init 28 = .ok (.aload_n 0, 1) := by decide +kernel
theorem dX3_init_29 : decode cX3_init 29 = .ok (.iconst 0, 1) := by decide +kernel
theorem dX3_init_30 : decode cX3_init 30 = .ok (.putfield 23, 3) := by decide +kernel
theorem dX3_init_33 : decode cX3_init 33 = .ok (.aload_n 0, 1) := by decide +kernel
theorem dX3_init_34 : decode cX3_init 34 = .ok (.bipush 32, 2) := by decide +kernel
theorem dX3_init_36 : decode cX3_init 36 = .ok (.newarray .int, 2) := by decide +kernel
theorem dX3_init_38 : decode cX3_init 38 = .ok (.putfield 27, 3) := by decide +kernel
theorem dX3_init_41 : decode cX3_init 41 = .ok (.return_, 1) := by decide +kernel
theorem dX3_restart_0 : decode cX3_restart 0 = .ok (.aload_n 0, 1) := by decide +kernel
theorem dX3_restart_1 : decode cX3_restart 1 = .ok (.iconst 0, 1) := by decide +kernel
theorem dX3_restart_2 : decode cX3_restart 2 = .ok (.putfield 23, 3) := by decide +kernel
theorem dX3_restart_5 : decode cX3_restart 5 = .ok (.aload_n 0, 1) := by decide +kernel
theorem dX3_restart_6 : decode cX3_restart 6 = .ok (.invokevirtual 30, 3) := by decide +kernel
theorem dX3_restart_9 : decode cX3_restart 9 = .ok (.return_, 1) := by decide +kernel
theorem dX3_stepToken_0 : decode cX3_stepToken 0 = .ok (.iconst 0, 1) := by decide +kernel
theorem dX3_stepToken_1 : decode cX3_stepToken 1 = .ok (.istore_n 2, 1) := by decide +kernel
theorem dX3_stepToken_2 : decode cX3_stepToken 2 = .ok (.iload_n 2, 1) := by decide +kernel
theorem dX3_stepToken_3 : decode cX3_stepToken 3 = .ok (.bipush 21, 2) := by decide +kernel
theorem dX3_stepToken_5 : decode cX3_stepToken 5 = .ok (.if_icmp .ge 25, 3) := by decide +kernel
theorem dX3_stepToken_8 : decode cX3_stepToken 8 = .ok (.aload_n 0, 1) := by decide +kernel
theorem dX3_stepToken_9 : decode cX3_stepToken 9 = .ok (.getfield 11, 3) := by decide +kernel
theorem dX3_stepToken_12 : decode cX3_stepToken 12 = .ok (.iload_n 2, 1) := by decide +kernel
theorem dX3_stepToken_13 : decode cX3_stepToken 13 = .ok (.aload_n 0, 1) := by decide +kernel
theorem dX3_stepToken_14 : decode cX3_stepToken 14 = .ok (.getfield 11, 3) := by decide +kernel
theorem dX3_stepToken_17 : decode cX3_stepToken 17 = .ok (.iload_n 2, 1) := by decide +kernel
theorem dX3_stepToken_18 : decode cX3_stepToken 18 = .ok (.iaload, 1) := by decide +kernel
theorem dX3_stepToken_19 : decode cX3_stepToken 19 = .ok (.iload_n 1, 1) := by decide +kernel
theorem dX3_stepToken_20 : decode cX3_stepToken 20 = .ok (.iand, 1) := by decide +kernel
theorem dX3_stepToken_21 : decode cX3_stepToken 21 = .ok (.iconst 1, 1) := by decide +kernel
theorem dX3_stepToken_22 : decode cX3_stepToken 22 = .ok (.ishl, 1) := by decide +kernel
theorem dX3_stepToken_23 : decode cX3_stepToken 23 = .ok (.iastore, 1) := by decide +kernel
theorem dX3_stepToken_24 : decode cX3_stepToken 24 = .ok (.iinc 2 1, 3) := by decide +kernel
theorem dX3_stepToken_27 : decode cX3_stepToken 27 = .ok (.goto (-25), 3) := by decide +kernel
theorem dX3_stepToken_30 : decode cX3_stepToken 30 = .ok (.return_, 1) := by decide +kernel
theorem dX3_stepPart_0 : decode cX3_stepPart 0 = .ok (.iconst 0, 1) := by decide +kernel
theorem dX3_stepPart_1 : decode cX3_stepPart 1 = .ok (.istore_n 2, 1) := by decide +kernel
theorem dX3_stepPart_2 : decode cX3_stepPart 2 = .ok (.iload_n 2, 1) := by decide +kernel
theorem dX3_stepPart_3 : decode cX3_stepPart 3 = .ok (.bipush 21, 2) := by decide +kernel
theorem dX3_stepPart_5 : decode cX3_stepPart 5 = .ok (.if_icmp .ge 26, 3) := by decide +kernel
theorem dX3_stepPart_8 : decode cX3_stepPart 8 = .ok (.aload_n 0, 1) := by decide +kernel
theorem dX3_stepPart_9 : decode cX3_stepPart 9 = .ok (.getfield 11, 3) := by decide +kernel
theorem dX3_stepPart_12 : decode cX3_stepPart 12 = .ok (.iload_n 2, 1) := by decide +kernel
theorem dX3_stepPart_13 : decode cX3_stepPart 13 = .ok (.aload_n 0, 1) := by decide +kernel
theorem dX3_stepPart_14 : decode cX3_stepPart 14 = .ok (.getfield 11, 3) := by decide +kernel
theorem dX3_stepPart_17 : decode cX3_stepPart 17 = .ok (.iload_n 2, 1) := by decide +kernel
theorem dX3_stepPart_18 : decode cX3_stepPart 18 = .ok (.iaload, 1) := by decide +kernel
theorem dX3_stepPart_19 : decode cX3_stepPart 19 = .ok (.aload_n 1, 1) := by decide +kernel
theorem dX3_stepPart_20 : decode cX3_stepPart 20 = .ok (.iconst 0, 1) := by decide +kernel
theorem dX3_stepPart_21 : decode cX3_stepPart 21 = .ok (.invokestatic 33, 3) := by decide +kernel
theorem dX3_stepPart_24 : decode cX3_stepPart 24 = .ok (.iastore, 1) := by decide +kernel
theorem dX3_stepPart_25 : decode cX3_stepPart 25 = .ok (.iinc 2 1, 3) := by decide +kernel
theorem dX3_stepPart_28 : decode cX3_stepPart 28 = .ok (.goto (-26), 3) := by decide +kernel
theorem dX3_stepPart_31 : decode cX3_stepPart 31 = .ok (.return_, 1) := by decide +kernel
theorem dX3_closeRow_0 : decode cX3_closeRow 0 = .ok (.iconst 0, 1) := by decide +kernel
theorem dX3_closeRow_1 : decode cX3_closeRow 1 = .ok (.istore_n 1, 1) := by decide +kernel
theorem dX3_closeRow_2 : decode cX3_closeRow 2 = .ok (.iload_n 1, 1) := by decide +kernel
theorem dX3_closeRow_3 : decode cX3_closeRow 3 = .ok (.bipush 21, 2) := by decide +kernel
theorem dX3_closeRow_5 : decode cX3_closeRow 5 = .ok (.if_icmp .ge 33, 3) := by decide +kernel
theorem dX3_closeRow_8 : decode cX3_closeRow 8 = .ok (.aload_n 0, 1) := by decide +kernel
theorem dX3_closeRow_9 : decode cX3_closeRow 9 = .ok (.getfield 15, 3) := by decide +kernel
theorem dX3_closeRow_12 : decode cX3_closeRow 12 = .ok (.iload_n 1, 1) := by decide +kernel
theorem dX3_closeRow_13 : decode cX3_closeRow 13 = .ok (.dup2, 1) := by decide +kernel
theorem dX3_closeRow_14 : decode cX3_closeRow 14 = .ok (.iaload, 1) := by decide +kernel
theorem dX3_closeRow_15 : decode cX3_closeRow 15 = .ok (.aload_n 0, 1) := by decide +kernel
theorem dX3_closeRow_16 : decode cX3_closeRow 16 = .ok (.getfield 11, 3) := by decide +kernel
theorem dX3_closeRow_19 : decode cX3_closeRow 19 = .ok (.iload_n 1, 1) := by decide +kernel
theorem dX3_closeRow_20 : decode cX3_closeRow 20 = .ok (.iaload, 1) := by decide +kernel
theorem dX3_closeRow_21 : decode cX3_closeRow 21 = .ok (.ior, 1) := by decide +kernel
theorem dX3_closeRow_22 : decode cX3_closeRow 22 = .ok (.iastore, 1) := by decide +kernel
theorem dX3_closeRow_23 : decode cX3_closeRow 23 = .ok (.aload_n 0, 1) := by decide +kernel
theorem dX3_closeRow_24 : decode cX3_closeRow 24 = .ok (.getfield 11, 3) := by decide +kernel
theorem dX3_closeRow_27 : decode cX3_closeRow 27 = .ok (.iload_n 1, 1) := by decide +kernel
theorem dX3_closeRow_28 : decode cX3_closeRow 28 = .ok (.iconst 1, 1) := by decide +kernel
theorem dX3_closeRow_29 : decode cX3_closeRow 29 = .ok (.iload_n 1, 1) := by decide +kernel
theorem dX3_closeRow_30 : decode cX3_closeRow 30 = .ok (.ishl, 1) := by decide +kernel
theorem dX3_closeRow_31 : decode cX3_closeRow 31 = .ok (.iastore, 1) := by decide +kernel
theorem dX3_closeRow_32 : decode cX3_closeRow 32 = .ok (.iinc 1 1, 3) := by decide +kernel
theorem dX3_closeRow_35 : decode cX3_closeRow 35 = .ok (.goto (-33), 3) := by decide +kernel
theorem dX3_closeRow_38 : decode cX3_closeRow 38 = .ok (.return_, 1) := by decide +kernel
theorem dX3_keepForm_0 : decode cX3_keepForm 0 = .ok (.aload_n 0, 1) := by decide +kernel
theorem dX3_keepForm_1 : decode cX3_keepForm 1 = .ok (.getfield 23, 3) := by decide +kernel
theorem dX3_keepForm_4 : decode cX3_keepForm 4 = .ok (.iconst 5, 1) := by decide +kernel
theorem dX3_keepForm_5 : decode cX3_keepForm 5 = .ok (.if_icmp .ge 34, 3) := by decide +kernel
theorem dX3_keepForm_8 : decode cX3_keepForm 8 = .ok (.aload_n 0, 1) := by decide +kernel
theorem dX3_keepForm_9 : decode cX3_keepForm 9 = .ok (.getfield 15, 3) := by decide +kernel
theorem dX3_keepForm_12 : decode cX3_keepForm 12 = .ok (.iconst 0, 1) := by decide +kernel
theorem dX3_keepForm_13 : decode cX3_keepForm 13 = .ok (.aload_n 0, 1) := by decide +kernel
theorem dX3_keepForm_14 : decode cX3_keepForm 14 = .ok (.getfield 20, 3) := by decide +kernel
theorem dX3_keepForm_17 : decode cX3_keepForm 17 = .ok (.aload_n 0, 1) := by decide +kernel
theorem dX3_keepForm_18 : decode cX3_keepForm 18 = .ok (.getfield 23, 3) := by decide +kernel
theorem dX3_keepForm_21 : decode cX3_keepForm 21 = .ok (.bipush 21, 2) := by decide +kernel
theorem dX3_keepForm_23 : decode cX3_keepForm 23 = .ok (.imul, 1) := by decide +kernel
theorem dX3_keepForm_24 : decode cX3_keepForm 24 = .ok (.bipush 21, 2) := by decide +kernel
theorem dX3_keepForm_26 : decode cX3_keepForm 26 = .ok (.invokestatic 37, 3) := by decide +kernel
theorem dX3_keepForm_29 : decode cX3_keepForm 29 = .ok (.aload_n 0, 1) := by decide +kernel
theorem dX3_keepForm_30 : decode cX3_keepForm 30 = .ok (.dup, 1) := by decide +kernel
theorem dX3_keepForm_31 : decode cX3_keepForm 31 = .ok (.getfield 23, 3) := by decide +kernel
theorem dX3_keepForm_34 : decode cX3_keepForm 34 = .ok (.iconst 1, 1) := by decide +kernel
theorem dX3_keepForm_35 : decode cX3_keepForm 35 = .ok (.iadd, 1) := by decide +kernel
theorem dX3_keepForm_36 : decode cX3_keepForm 36 = .ok (.putfield 23, 3) := by decide +kernel
theorem dX3_keepForm_39 : decode cX3_keepForm 39 = .ok (.aload_n 0, 1) := by decide +kernel
theorem dX3_keepForm_40 : decode cX3_keepForm 40 = .ok (.invokevirtual 30, 3) := by decide +kernel
theorem dX3_keepForm_43 : decode cX3_keepForm 43 = .ok (.return_, 1) := by decide +kernel
theorem dX3_endsInAnyOrder_0 : decode cX3_endsInAnyOrder 0 = .ok (.iconst 1, 1) := by decide +kernel
theorem dX3_endsInAnyOrder_1 : decode cX3_endsInAnyOrder 1 = .ok (.aload_n 0, 1) := by decide +kernel
theorem dX3_endsInAnyOrder_2 : decode cX3_endsInAnyOrder 2 = .ok (.getfield 23, 3) := by decide +kernel
theorem dX3_endsInAnyOrder_5 : decode cX3_endsInAnyOrder 5 = .ok (.ishl, 1) := by decide +kernel
theorem dX3_endsInAnyOrder_6 : decode cX3_endsInAnyOrder 6 = .ok (.iconst 1, 1) := by decide +kernel
theorem dX3_endsInAnyOrder_7 : decode cX3_endsInAnyOrder 7 = .ok (.isub, 1) := by decide +kernel
theorem dX3_endsInAnyOrder_8 : decode cX3_endsInAnyOrder 8 = .ok (.istore_n 2, 1) := by decide +kernel
theorem dX3_endsInAnyOrder_9 : decode cX3_endsInAnyOrder 9 = .ok (.aload_n 0, 1) := by decide +kernel
theorem dX3_endsInAnyOrder_10 : decode cX3_endsInAnyOrder 10 = .ok (.getfield 27, 3) := by decide +kernel
theorem dX3_endsInAnyOrder_13 : decode cX3_endsInAnyOrder 13 = .ok (.iconst 0, 1) := by decide +kernel
theorem dX3_endsInAnyOrder_14 : decode cX3_endsInAnyOrder 14 = .ok (.invokestatic 43, 3) := by decide +kernel
theorem dX3_endsInAnyOrder_17 : decode cX3_endsInAnyOrder 17 = .ok (.aload_n 0, 1) := by decide +kernel
theorem dX3_endsInAnyOrder_18 : decode cX3_endsInAnyOrder 18 = .ok (.getfield 27, 3) := by decide +kernel
theorem dX3_endsInAnyOrder_21 : decode cX3_endsInAnyOrder 21 = .ok (.iconst 0, 1) := by decide +kernel
theorem dX3_endsInAnyOrder_22 : decode cX3_endsInAnyOrder 22 = .ok (.iconst 1, 1) := by decide +kernel
theorem dX3_endsInAnyOrder_23 : decode cX3_endsInAnyOrder 23 = .ok (.iload_n 1, 1) := by decide +kernel
theorem dX3_endsInAnyOrder_24 : decode cX3_endsInAnyOrder 24 = .ok (.ishl, 1) := by decide +kernel
theorem dX3_endsInAnyOrder_25 : decode cX3_endsInAnyOrder 25 = .ok (.iastore, 1) := by decide +kernel
theorem dX3_endsInAnyOrder_26 : decode cX3_endsInAnyOrder 26 = .ok (.iconst 0, 1) := by decide +kernel
theorem dX3_endsInAnyOrder_27 : decode cX3_endsInAnyOrder 27 = .ok (.istore_n 3, 1) := by decide +kernel
theorem dX3_endsInAnyOrder_28 : decode cX3_endsInAnyOrder 28 = .ok (.iload_n 3, 1) := by decide +kernel
theorem dX3_endsInAnyOrder_29 : decode cX3_endsInAnyOrder 29 = .ok (.iload_n 2, 1) := by decide +kernel
theorem dX3_endsInAnyOrder_30 : decode cX3_endsInAnyOrder 30 = .ok (.if_icmp .ge 77, 3) := by decide +kernel
theorem dX3_endsInAnyOrder_33 : decode cX3_endsInAnyOrder 33 = .ok (.iconst 0, 1) := by decide +kernel
theorem dX3_endsInAnyOrder_34 : decode cX3_endsInAnyOrder 34 = .ok (.istore 4, 2) := by decide +kernel
theorem dX3_endsInAnyOrder_36 : decode cX3_endsInAnyOrder 36 = .ok (.iload 4, 2) := by decide +kernel
theorem dX3_endsInAnyOrder_38 : decode cX3_endsInAnyOrder 38 = .ok (.aload_n 0, 1) := by decide +kernel
theorem dX3_endsInAnyOrder_39 : decode cX3_endsInAnyOrder 39 = .ok (.getfield 23, 3) := by decide +kernel
theorem dX3_endsInAnyOrder_42 : decode cX3_endsInAnyOrder 42 = .ok (.if_icmp .ge 59, 3) := by decide +kernel
theorem dX3_endsInAnyOrder_45 : decode cX3_endsInAnyOrder 45 = .ok (.aload_n 0, 1) := by decide +kernel
theorem dX3_endsInAnyOrder_46 : decode cX3_endsInAnyOrder 46 = .ok (.getfield 27, 3) := by decide +kernel
theorem dX3_endsInAnyOrder_49 : decode cX3_endsInAnyOrder 49 = .ok (.iload_n 3, 1) := by decide +kernel
theorem dX3_endsInAnyOrder_50 : decode cX3_endsInAnyOrder 50 = .ok (.iaload, 1) := by decide +kernel
theorem dX3_endsInAnyOrder_51 : decode cX3_endsInAnyOrder 51 = .ok (.ifCond .eq 50, 3) := by decide +kernel
theorem dX3_endsInAnyOrder_54 : decode cX3_endsInAnyOrder 54 = .ok (.iload_n 3, 1) := by decide +kernel
theorem dX3_endsInAnyOrder_55 : decode cX3_endsInAnyOrder 55 = .ok (.iload 4, 2) := by decide +kernel
theorem dX3_endsInAnyOrder_57 : decode cX3_endsInAnyOrder 57 = .ok (.ishr, 1) := by decide +kernel
theorem dX3_endsInAnyOrder_58 : decode cX3_endsInAnyOrder 58 = .ok (.iconst 1, 1) := by decide +kernel
theorem dX3_endsInAnyOrder_59 : decode cX3_endsInAnyOrder 59 = .ok (.iand, 1) := by decide +kernel
theorem dX3_endsInAnyOrder_60 : decode cX3_endsInAnyOrder 60 = .ok (.ifCond .ne 35, 3) := by decide +kernel
theorem dX3_endsInAnyOrder_63 : decode cX3_endsInAnyOrder 63 = .ok (.aload_n 0, 1) := by decide +kernel
theorem dX3_endsInAnyOrder_64 : decode cX3_endsInAnyOrder 64 = .ok (.getfield 27, 3) := by decide +kernel
theorem dX3_endsInAnyOrder_67 : decode cX3_endsInAnyOrder 67 = .ok (.iload_n 3, 1) := by decide +kernel
theorem dX3_endsInAnyOrder_68 : decode cX3_endsInAnyOrder 68 = .ok (.iconst 1, 1) := by decide +kernel
theorem dX3_endsInAnyOrder_69 : decode cX3_endsInAnyOrder 69 = .ok (.iload 4, 2) := by decide +kernel
theorem dX3_endsInAnyOrder_71 : decode cX3_endsInAnyOrder 71 = .ok (.ishl, 1) := by decide +kernel
theorem dX3_endsInAnyOrder_72 : decode cX3_endsInAnyOrder 72 = .ok (.ior, 1) := by decide +kernel
theorem dX3_endsInAnyOrder_73 : decode cX3_endsInAnyOrder 73 = .ok (.dup2, 1) := by decide +kernel
theorem dX3_endsInAnyOrder_74 : decode cX3_endsInAnyOrder 74 = .ok (.iaload, 1) := by decide +kernel
theorem dX3_endsInAnyOrder_75 : decode cX3_endsInAnyOrder 75 = .ok (.aload_n 0, 1) := by decide +kernel
theorem dX3_endsInAnyOrder_76 : decode cX3_endsInAnyOrder 76 = .ok (.getfield 27, 3) := by decide +kernel
theorem dX3_endsInAnyOrder_79 : decode cX3_endsInAnyOrder 79 = .ok (.iload_n 3, 1) := by decide +kernel
theorem dX3_endsInAnyOrder_80 : decode cX3_endsInAnyOrder 80 = .ok (.iaload, 1) := by decide +kernel
theorem dX3_endsInAnyOrder_81 : decode cX3_endsInAnyOrder 81 = .ok (.aload_n 0, 1) := by decide +kernel
theorem dX3_endsInAnyOrder_82 : decode cX3_endsInAnyOrder 82 = .ok (.getfield 20, 3) := by decide +kernel
theorem dX3_endsInAnyOrder_85 : decode cX3_endsInAnyOrder 85 = .ok (.iload 4, 2) := by decide +kernel
theorem dX3_endsInAnyOrder_87 : decode cX3_endsInAnyOrder 87 = .ok (.bipush 21, 2) := by decide +kernel
theorem dX3_endsInAnyOrder_89 : decode cX3_endsInAnyOrder 89 = .ok (.imul, 1) := by decide +kernel
theorem dX3_endsInAnyOrder_90 : decode cX3_endsInAnyOrder 90 = .ok (.invokestatic 33, 3) := by decide +kernel
theorem dX3_endsInAnyOrder_93 : decode cX3_endsInAnyOrder 93 = .ok (.ior, 1) := by decide +kernel
theorem dX3_endsInAnyOrder_94 : decode cX3_endsInAnyOrder 94 = .ok (.iastore, 1) := by decide +kernel
theorem dX3_endsInAnyOrder_95 : decode cX3_endsInAnyOrder 95 = .ok (.iinc 4 1, 3) := by decide +kernel
theorem dX3_endsInAnyOrder_98 : decode cX3_endsInAnyOrder 98 = .ok (.goto (-62), 3) := by decide +kernel
theorem dX3_endsInAnyOrder_101 : decode cX3_endsInAnyOrder 101 = .ok (.iinc 3 1, 3) := by decide +kernel
theorem dX3_endsInAnyOrder_104 : decode cX3_endsInAnyOrder 104 = .ok (.goto (-76), 3) := by decide +kernel
theorem dX3_endsInAnyOrder_107 : decode cX3_endsInAnyOrder 107 = .ok (.aload_n 0, 1) := by decide +kernel
theorem dX3_endsInAnyOrder_108 : decode cX3_endsInAnyOrder 108 = .ok (.getfield 27, 3) := by decide +kernel
theorem dX3_endsInAnyOrder_111 : decode cX3_endsInAnyOrder 111 = .ok (.iload_n 2, 1) := by decide +kernel
theorem dX3_endsInAnyOrder_112 : decode cX3_endsInAnyOrder 112 = .ok (.iaload, 1) := by decide +kernel
theorem dX3_endsInAnyOrder_113 : decode cX3_endsInAnyOrder 113 = .ok (.ireturn, 1) := by decide +kernel
theorem dX3_restartForm_0 : decode cX3_restartForm 0 = .ok (.iconst 0, 1) := by decide +kernel
theorem dX3_restartForm_1 : decode cX3_restartForm 1 = .ok (.istore_n 1, 1) := by decide +kernel
theorem dX3_restartForm_2 : decode cX3_restartForm 2 = .ok (.iload_n 1, 1) := by decide +kernel
theorem dX3_restartForm_3 : decode cX3_restartForm 3 = .ok (.bipush 21, 2) := by decide +kernel
theorem dX3_restartForm_5 : decode cX3_restartForm 5 = .ok (.if_icmp .ge 25, 3) := by decide +kernel
theorem dX3_restartForm_8 : decode cX3_restartForm 8 = .ok (.aload_n 0, 1) := by decide +kernel
theorem dX3_restartForm_9 : decode cX3_restartForm 9 = .ok (.getfield 15, 3) := by decide +kernel
theorem dX3_restartForm_12 : decode cX3_restartForm 12 = .ok (.iload_n 1, 1) := by decide +kernel
theorem dX3_restartForm_13 : decode cX3_restartForm 13 = .ok (.iconst 0, 1) := by decide +kernel
theorem dX3_restartForm_14 : decode cX3_restartForm 14 = .ok (.iastore, 1) := by decide +kernel
theorem dX3_restartForm_15 : decode cX3_restartForm 15 = .ok (.aload_n 0, 1) := by decide +kernel
theorem dX3_restartForm_16 : decode cX3_restartForm 16 = .ok (.getfield 11, 3) := by decide +kernel
theorem dX3_restartForm_19 : decode cX3_restartForm 19 = .ok (.iload_n 1, 1) := by decide +kernel
theorem dX3_restartForm_20 : decode cX3_restartForm 20 = .ok (.iconst 1, 1) := by decide +kernel
theorem dX3_restartForm_21 : decode cX3_restartForm 21 = .ok (.iload_n 1, 1) := by decide +kernel
theorem dX3_restartForm_22 : decode cX3_restartForm 22 = .ok (.ishl, 1) := by decide +kernel
theorem dX3_restartForm_23 : decode cX3_restartForm 23 = .ok (.iastore, 1) := by decide +kernel
theorem dX3_restartForm_24 : decode cX3_restartForm 24 = .ok (.iinc 1 1, 3) := by decide +kernel
theorem dX3_restartForm_27 : decode cX3_restartForm 27 = .ok (.goto (-25), 3) := by decide +kernel
theorem dX3_restartForm_30 : decode cX3_restartForm 30 = .ok (.return_, 1) := by decide +kernel
theorem dX3_endsBehind_0 : decode cX3_endsBehind 0 = .ok (.iconst 0, 1) := by decide +kernel
theorem dX3_endsBehind_1 : decode cX3_endsBehind 1 = .ok (.istore_n 3, 1) := by decide +kernel
theorem dX3_endsBehind_2 : decode cX3_endsBehind 2 = .ok (.iconst 0, 1) := by decide +kernel
theorem dX3_endsBehind_3 : decode cX3_endsBehind 3 = .ok (.istore 4, 2) := by decide +kernel
theorem dX3_endsBehind_5 : decode cX3_endsBehind 5 = .ok (.iload 4, 2) := by decide +kernel
theorem dX3_endsBehind_7 : decode cX3_endsBehind 7 = .ok (.bipush 21, 2) := by decide +kernel
theorem dX3_endsBehind_9 : decode cX3_endsBehind 9 = .ok (.if_icmp .ge 51, 3) := by decide +kernel
theorem dX3_endsBehind_12 : decode cX3_endsBehind 12 = .ok (.iload_n 0, 1) := by decide +kernel
theorem dX3_endsBehind_13 : decode cX3_endsBehind 13 = .ok (.iload 4, 2) := by decide +kernel
theorem dX3_endsBehind_15 : decode cX3_endsBehind 15 = .ok (.ishr, 1) := by decide +kernel
theorem dX3_endsBehind_16 : decode cX3_endsBehind 16 = .ok (.ifCond .eq 44, 3) := by decide +kernel
theorem dX3_endsBehind_19 : decode cX3_endsBehind 19 = .ok (.iload_n 2, 1) := by decide +kernel
theorem dX3_endsBehind_20 : decode cX3_endsBehind 20 = .ok (.iload 4, 2) := by decide +kernel
theorem dX3_endsBehind_22 : decode cX3_endsBehind 22 = .ok (.iadd, 1) := by decide +kernel
theorem dX3_endsBehind_23 : decode cX3_endsBehind 23 = .ok (.istore 5, 2) := by decide +kernel
theorem dX3_endsBehind_25 : decode cX3_endsBehind 25 = .ok (.iload_n 0, 1) := by decide +kernel
theorem dX3_endsBehind_26 : decode cX3_endsBehind 26 = .ok (.iload 4, 2) := by decide +kernel
theorem dX3_endsBehind_28 : decode cX3_endsBehind 28 = .ok (.ishr, 1) := by decide +kernel
theorem dX3_endsBehind_29 : decode cX3_endsBehind 29 = .ok (.iconst 1, 1) := by decide +kernel
theorem dX3_endsBehind_30 : decode cX3_endsBehind 30 = .ok (.iand, 1) := by decide +kernel
theorem dX3_endsBehind_31 : decode cX3_endsBehind 31 = .ok (.iconst 1, 1) := by decide +kernel
theorem dX3_endsBehind_32 : decode cX3_endsBehind 32 = .ok (.if_icmp .ne 22, 3) := by decide +kernel
theorem dX3_endsBehind_35 : decode cX3_endsBehind 35 = .ok (.iload 5, 2) := by decide +kernel
theorem dX3_endsBehind_37 : decode cX3_endsBehind 37 = .ok (.ifCond .lt 17, 3) := by decide +kernel
theorem dX3_endsBehind_40 : decode cX3_endsBehind 40 = .ok (.iload 5, 2) := by decide +kernel
theorem dX3_endsBehind_42 : decode cX3_endsBehind 42 = .ok (.aload_n 1, 1) := by decide +kernel
theorem dX3_endsBehind_43 : decode cX3_endsBehind 43 = .ok (.arraylength, 1) := by decide +kernel
theorem dX3_endsBehind_44 : decode cX3_endsBehind 44 = .ok (.if_icmp .ge 10, 3) := by decide +kernel
theorem dX3_endsBehind_47 : decode cX3_endsBehind 47 = .ok (.iload_n 3, 1) := by decide +kernel
theorem dX3_endsBehind_48 : decode cX3_endsBehind 48 = .ok (.aload_n 1, 1) := by decide +kernel
theorem dX3_endsBehind_49 : decode cX3_endsBehind 49 = .ok (.iload 5, 2) := by decide +kernel
theorem dX3_endsBehind_51 : decode cX3_endsBehind 51 = .ok (.iaload, 1) := by decide +kernel
theorem dX3_endsBehind_52 : decode cX3_endsBehind 52 = .ok (.ior, 1) := by decide +kernel
theorem dX3_endsBehind_53 : decode cX3_endsBehind 53 = .ok (.istore_n 3, 1) := by decide +kernel
theorem dX3_endsBehind_54 : decode cX3_endsBehind 54 = .ok (.iinc 4 1, 3) := by decide +kernel
theorem dX3_endsBehind_57 : decode cX3_endsBehind 57 = .ok (.goto (-52), 3) := by decide +kernel
theorem dX3_endsBehind_60 : decode cX3_endsBehind 60 = .ok (.iload_n 3, 1) := by decide +kernel
theorem dX3_endsBehind_61 : decode cX3_endsBehind 61 = .ok (.ireturn, 1) := by decide +kernel
theorem dX4_init_0 : decode cX4_init 0 = .ok (.aload_n 0, 1) := by decide +kernel
theorem dX4_init_1 : decode cX4_init 1 = .ok (.invokespecial 3, 3) := by decide +kernel
theorem dX4_init_4 : decode cX4_init 4 = .ok (.aload_n 0, 1) := by decide +kernel
theorem dX4_init_5 : decode cX4_init 5 = .ok (.bipush 6, 2) := by decide +kernel
theorem dX4_init_7 : decode cX4_init 7 = .ok (.newarray .int, 2) := by decide +kernel
theorem dX4_init_9 : decode cX4_init 9 = .ok (.putfield 11, 3) := by decide +kernel
theorem dX4_init_12 : decode cX4_init 12 = .ok (.aload_n 0, 1) := by decide +kernel
theorem dX4_init_13 : decode cX4_init 13 = .ok (.bipush 6, 2) := by decide +kernel
theorem dX4_init_15 : decode cX4_init 15 = .ok (.newarray .boolean, 2) := by decide +kernel
theorem dX4_init_17 : decode cX4_init 17 = .ok (.putfield 15, 3) := by decide +kernel
theorem dX4_init_20 : decode cX4_init 20 = .ok (.aload_n 0, 1) := by decide +kernel
theorem dX4_init_21 : decode cX4_init 21 = .ok (.bipush 6, 2) := by decide +kernel
theorem dX4_init_23 : decode cX4_init 23 = .ok (.newarray .int, 2) := by decide +kernel
theorem dX4_init_25 : decode cX4_init 25 = .ok (.putfield 19, 3) := by decide +kernel
theorem dX4_init_28 : decode cX4_init 28 = .ok (.aload_n 0, 1) := by decide +kernel
theorem dX4_init_29 : decode cX4_init 29 = .ok (.bipush 6, 2) := by decide +kernel
theorem dX4_init_31 : decode cX4_init 31 = .ok (.newarray .int, 2) := by decide +kernel
theorem dX4_init_33 : decode cX4_init 33 = .ok (.putfield 22, 3) := by decide +kernel
theorem dX4_init_36 : decode cX4_init 36 = .ok (.aload_n 0, 1) := by decide +kernel
theorem dX4_init_37 : decode cX4_init 37 = .ok (.bipush 6, 2) := by decide +kernel
theorem dX4_init_39 : decode cX4_init 39 = .ok (.newarray .int, 2) := by decide +kernel
theorem dX4_init_41 : decode cX4_init 41 = .ok (.putfield 25, 3) := by decide +kernel
theorem dX4_init_44 : decode cX4_init 44 = .ok (.return_, 1) := by decide +kernel
theorem dX4_readFrom_0 : decode cX4_readFrom 0 = .ok (.aload_n 0, 1) := by decide +kernel
theorem dX4_readFrom_1 : decode cX4_readFrom 1 = .ok (.iconst 0, 1) := by decide +kernel
theorem dX4_readFrom_2 : decode cX4_readFrom 2 = .ok (.putfield 28, 3) := by decide +kernel
theorem dX4_readFrom_5 : decode cX4_readFrom 5 = .ok (.aload_n 0, 1) := by decide +kernel
theorem dX4_readFrom_6 : decode cX4_readFrom 6 = .ok (.iconst 0, 1) := by decide +kernel
theorem dX4_readFrom_7 : decode cX4_readFrom 7 = .ok (.putfield 32, 3) := by decide +kernel
theorem dX4_readFrom_10 : decode cX4_readFrom 10 = .ok (.aload_n 0, 1) := by decide +kernel
theorem dX4_readFrom_11 : decode cX4_readFrom 11 = .ok (.iconst 0, 1) := by decide +kernel
theorem dX4_readFrom_12 : decode cX4_readFrom 12 = .ok (.putfield 35, 3) := by decide +kernel
theorem dX4_readFrom_15 : decode cX4_readFrom 15 = .ok (.aload_n 0, 1) := by decide +kernel
theorem dX4_readFrom_16 : decode cX4_readFrom 16 = .ok (.iconst 0, 1) := by decide +kernel
theorem dX4_readFrom_17 : decode cX4_readFrom 17 = .ok (.putfield 38, 3) := by decide +kernel
theorem dX4_readFrom_20 : decode cX4_readFrom 20 = .ok (.aload_n 1, 1) := by decide +kernel
theorem dX4_readFrom_21 : decode cX4_readFrom 21 = .ok (.invokevirtual 41, 3) := by decide +kernel
theorem dX4_readFrom_24 : decode cX4_readFrom 24 = .ok (.aload_n 1, 1) := by decide +kernel
theorem dX4_readFrom_25 : decode cX4_readFrom 25 = .ok (.ldc 46, 2) := by decide +kernel
theorem dX4_readFrom_27 : decode cX4_readFrom 27 = .ok (.invokevirtual 48, 3) := by decide +kernel
theorem dX4_readFrom_30 : decode cX4_readFrom 30 = .ok (.iconst 0, 1) := by decide +kernel
theorem dX4_readFrom_31 : decode cX4_readFrom 31 = .ok (.istore_n 2, 1) := by decide +kernel
theorem dX4_readFrom_32 : decode cX4_readFrom 32 = .ok (.iload_n 2, 1) := by decide +kernel
theorem dX4_readFrom_33 : decode cX4_readFrom 33 = .ok (.bipush 6, 2) := by decide +kernel
theorem dX4_readFrom_35 : decode cX4_readFrom 35 = .ok (.if_icmp .gt 66, 3) := by decide +kernel
theorem dX4_readFrom_38 : decode cX4_readFrom 38 = .ok (.iload_n 2, 1) := by decide +kernel
theorem dX4_readFrom_39 : decode cX4_readFrom 39 = .ok (.ifCond .le 11, 3) := by decide +kernel
theorem dX4_readFrom_42 : decode cX4_readFrom 42 = .ok (.aload_n 1, 1) := by decide +kernel
theorem dX4_readFrom_43 : decode cX4_readFrom 43 = .ok (.getfield 52, 3) := by decide +kernel
theorem dX4_readFrom_46 : decode cX4_readFrom 46 = .ok (.ifCond .ne 4, 3) := by decide +kernel
theorem dX4_readFrom_49 : decode cX4_readFrom 49 = .ok (.return_, 1) := by decide +kernel
theorem dX4_readFrom_50 : decode cX4_readFrom 50 = .ok (.aload_n 0, 1) := by decide +kernel
theorem dX4_readFrom_51 : decode cX4_readFrom 51 = .ok (.aload_n 0, 1) := by decide +kernel
theorem dX4_readFrom_52 : decode cX4_readFrom 52 = .ok (.aload_n 1, 1) := by decide +kernel
theorem dX4_readFrom_53 : decode cX4_readFrom 53 = .ok (.invokevirtual 55, 3) := by decide +kernel
theorem dX4_readFrom_56 : decode cX4_readFrom 56 = .ok (.putfield 35, 3) := by decide +kernel
theorem dX4_readFrom_59 : decode cX4_readFrom 59 = .ok (.aload_n 0, 1) := by decide +kernel
theorem dX4_readFrom_60 : decode cX4_readFrom 60 = .ok (.getfield 35, 3) := by decide +kernel
theorem dX4_readFrom_63 : decode cX4_readFrom 63 = .ok (.ifCond .ne 16, 3) := by decide +kernel
theorem dX4_readFrom_66 : decode cX4_readFrom 66 = .ok (.aload_n 0, 1) := by decide +kernel
theorem dX4_readFrom_67 : decode cX4_readFrom 67 = .ok (.aload_n 0, 1) := by decide +kernel
theorem dX4_readFrom_68 : decode cX4_readFrom 68 = .ok (.aload_n 1, 1) := by decide +kernel
theorem dX4_readFrom_69 : decode cX4_readFrom 69 = .ok (.aload_n 0, 1) := by decide +kernel
theorem dX4_readFrom_70 : decode cX4_readFrom 70 = .ok (.getfield 28, 3) := by decide +kernel
theorem dX4_readFrom_73 : decode cX4_readFrom 73 = .ok (.invokevirtual 59, 3) := by decide +kernel
theorem dX4_readFrom_76 : decode cX4_readFrom 76 = .ok (.putfield 35, 3) := by decide +kernel
theorem dX4_readFrom_79 : decode cX4_readFrom 79 = .ok (.aload_n 0, 1) := by decide +kernel
theorem dX4_readFrom_80 : decode cX4_readFrom 80 = .ok (.getfield 35, 3) := by decide +kernel
theorem dX4_readFrom_83 : decode cX4_readFrom 83 = .ok (.ifCond .eq 12, 3) := by decide +kernel
theorem dX4_readFrom_86 : decode cX4_readFrom 86 = .ok (.aload_n 0, 1) := by decide +kernel
theorem dX4_readFrom_87 : decode cX4_readFrom 87 = .ok (.aload_n 1, 1) := by decide +kernel
theorem dX4_readFrom_88 : decode cX4_readFrom 88 = .ok (.getfield 63, 3) := by decide +kernel
theorem dX4_readFrom_91 : decode cX4_readFrom 91 = .ok (.putfield 38, 3) := by decide +kernel
theorem dX4_readFrom_94 : decode cX4_readFrom 94 = .ok (.return_, 1) := by decide +kernel
theorem dX4_readFrom_95 : decode cX4_readFrom 95 = .ok (.iinc 2 1, 3) := by decide +kernel
theorem dX4_readFrom_98 : decode cX4_readFrom 98 = .ok (.goto (-66), 3) := by decide +kernel
theorem dX4_readFrom_101 : decode cX4_readFrom 101 = .ok (.return_, 1) := by decide +kernel
theorem dX4_roundOf_0 : decode cX4_roundOf 0 = .ok (.iconst 0, 1) := by decide +kernel
theorem dX4_roundOf_1 : decode cX4_roundOf 1 = .ok (.istore_n 2, 1) := by decide +kernel
theorem dX4_roundOf_2 : decode cX4_roundOf 2 = .ok (.iconst 0, 1) := by decide +kernel
theorem dX4_roundOf_3 : decode cX4_roundOf 3 = .ok (.istore_n 3, 1) := by decide +kernel
theorem dX4_roundOf_4 : decode cX4_roundOf 4 = .ok (.iload_n 3, 1) := by decide +kernel
theorem dX4_roundOf_5 : decode cX4_roundOf 5 = .ok (.aload_n 0, 1) := by decide +kernel
theorem dX4_roundOf_6 : decode cX4_roundOf 6 = .ok (.getfield 28, 3) := by decide +kernel
theorem dX4_roundOf_9 : decode cX4_roundOf 9 = .ok (.if_icmp .ge 31, 3) := by decide +kernel
theorem dX4_roundOf_12 : decode cX4_roundOf 12 = .ok (.iload_n 3, 1) := by decide +kernel
theorem dX4_roundOf_13 : decode cX4_roundOf 13 = .ok (.bipush 6, 2) := by decide +kernel
theorem dX4_roundOf_15 : decode cX4_roundOf 15 = .ok (.if_icmp .ge 25, 3) := by decide +kernel
theorem dX4_roundOf_18 : decode cX4_roundOf 18 = .ok (.iload_n 2, 1) := by decide +kernel
theorem dX4_roundOf_19 : decode cX4_roundOf 19 = .ok (.aload_n 0, 1) := by decide +kernel
theorem dX4_roundOf_20 : decode cX4_roundOf 20 = .ok (.getfield 11, 3) := by decide +kernel
theorem dX4_roundOf_23 : decode cX4_roundOf 23 = .ok (.iload_n 3, 1) := by decide +kernel
theorem dX4_roundOf_24 : decode cX4_roundOf 24 = .ok (.iaload, 1) := by decide +kernel
theorem dX4_roundOf_25 : decode cX4_roundOf 25 = .ok (.iadd, 1) := by decide +kernel
theorem dX4_roundOf_26 : decode cX4_roundOf 26 = .ok (.istore_n 2, 1) := by decide +kernel
theorem dX4_roundOf_27 : decode cX4_roundOf 27 = .ok (.iload_n 1, 1) := by decide +kernel
theorem dX4_roundOf_28 : decode cX4_roundOf 28 = .ok (.iload_n 2, 1) := by decide +kernel
theorem dX4_roundOf_29 : decode cX4_roundOf 29 = .ok (.if_icmp .ge 5, 3) := by decide +kernel
theorem dX4_roundOf_32 : decode cX4_roundOf 32 = .ok (.iload_n 3, 1) := by decide +kernel
theorem dX4_roundOf_33 : decode cX4_roundOf 33 = .ok (.ireturn, 1) := by decide +kernel
theorem dX4_roundOf_34 : decode cX4_roundOf 34 = .ok (.iinc 3 1, 3) := by decide +kernel
theorem dX4_roundOf_37 : decode cX4_roundOf 37 = .ok (.goto (-33), 3) := by decide +kernel
theorem dX4_roundOf_40 : decode cX4_roundOf 40 = .ok (.iconst 0, 1) := by decide +kernel
theorem dX4_roundOf_41 : decode cX4_roundOf 41 = .ok (.ireturn, 1) := by decide +kernel
theorem dX4_faultOfHead_0 : decode cX4_faultOfHead 0 = .ok (.aload_n 1, 1) := by decide +kernel
theorem dX4_faultOfHead_1 : decode cX4_faultOfHead 1 = .ok (.ldc 64, 2) := by decide +kernel
theorem dX4_faultOfHead_3 : decode cX4_faultOfHead 3 = .ok (.invokevirtual 66, 3) := by decide +kernel
theorem dX4_faultOfHead_6 : decode cX4_faultOfHead 6 = .ok (.ifCond .ne 5, 3) := by decide +kernel
theorem dX4_faultOfHead_9 : decode cX4_faultOfHead 9 = .ok (.iconst 1, 1) := by decide +kernel
theorem dX4_faultOfHead_10 : decode cX4_faultOfHead 10 = .ok (.ireturn, 1) := by decide +kernel
theorem dX4_faultOfHead_11 : decode cX4_faultOfHead 11 = .ok (.aload_n 0, 1) := by decide +kernel
theorem dX4_faultOfHead_12 : decode cX4_faultOfHead 12 = .ok (.getfield 28, 3) := by decide +kernel
theorem dX4_faultOfHead_15 : decode cX4_faultOfHead 15 = .ok (.bipush 6, 2) := by decide +kernel
theorem dX4_faultOfHead_17 : decode cX4_faultOfHead 17 = .ok (.if_icmp .lt 5, 3) := by decide +kernel
theorem dX4_faultOfHead_20 : decode cX4_faultOfHead 20 = .ok (.iconst 3, 1) := by decide +kernel
theorem dX4_faultOfHead_21 : decode cX4_faultOfHead 21 = .ok (.ireturn, 1) := by decide +kernel
theorem dX4_faultOfHead_22 : decode cX4_faultOfHead 22 = .ok (.aload_n 1, 1) := by decide +kernel
theorem dX4_faultOfHead_23 : decode cX4_faultOfHead 23 = .ok (.ldc 46, 2) := by decide +kernel
theorem dX4_faultOfHead_25 : decode cX4_faultOfHead 25 = .ok (.invokevirtual 48, 3) := by decide +kernel
theorem dX4_faultOfHead_28 : decode cX4_faultOfHead 28 = .ok (.aload_n 1, 1) := by decide +kernel
theorem dX4_faultOfHead_29 : decode cX4_faultOfHead 29 = .ok (.iconst 1, 1) := by decide +kernel
theorem dX4_faultOfHead_30 : decode cX4_faultOfHead 30 = .ok (.bipush 8, 2) := by decide +kernel
theorem dX4_faultOfHead_32 : decode cX4_faultOfHead 32 = .ok (.invokestatic 70, 3) := by decide +kernel
theorem dX4_faultOfHead_35 : decode cX4_faultOfHead 35 = .ok (.istore_n 2, 1) := by decide +kernel
theorem dX4_faultOfHead_36 : decode cX4_faultOfHead 36 = .ok (.iload_n 2, 1) := by decide +kernel
theorem dX4_faultOfHead_37 : decode cX4_faultOfHead 37 = .ok (.ifCond .eq 5, 3) := by decide +kernel
theorem dX4_faultOfHead_40 : decode cX4_faultOfHead 40 = .ok (.iload_n 2, 1) := by decide +kernel
theorem dX4_faultOfHead_41 : decode cX4_faultOfHead 41 = .ok (.ireturn, 1) := by decide +kernel
theorem dX4_faultOfHead_42 : decode cX4_faultOfHead 42 = .ok (.aload_n 0, 1) := by decide +kernel
theorem dX4_faultOfHead_43 : decode cX4_faultOfHead 43 = .ok (.getfield 11, 3) := by decide +kernel
theorem dX4_faultOfHead_46 : decode cX4_faultOfHead 46 = .ok (.aload_n 0, 1) := by decide +kernel
theorem dX4_faultOfHead_47 : decode cX4_faultOfHead 47 = .ok (.getfield 28, 3) := by decide +kernel
theorem dX4_faultOfHead_50 : decode cX4_faultOfHead 50 = .ok (.aload_n 1, 1) := by decide +kernel
theorem dX4_faultOfHead_51 : decode cX4_faultOfHead 51 = .ok (.getfield 74, 3) := by decide +kernel
theorem dX4_faultOfHead_54 : decode cX4_faultOfHead 54 = .ok (.l2i, 1) := by decide +kernel
theorem dX4_faultOfHead_55 : decode cX4_faultOfHead 55 = .ok (.iastore, 1) := by decide +kernel
theorem dX4_faultOfHead_56 : decode cX4_faultOfHead 56 = .ok (.aload_n 1, 1) := by decide +kernel
theorem dX4_faultOfHead_57 : decode cX4_faultOfHead 57 = .ok (.ldc 46, 2) := by decide +kernel
theorem dX4_faultOfHead_59 : decode cX4_faultOfHead 59 = .ok (.invokevirtual 48, 3) := by decide +kernel
theorem dX4_faultOfHead_62 : decode cX4_faultOfHead 62 = .ok (.aload_n 0, 1) := by decide +kernel
theorem dX4_faultOfHead_63 : decode cX4_faultOfHead 63 = .ok (.getfield 15, 3) := by decide +kernel
theorem dX4_faultOfHead_66 : decode cX4_faultOfHead 66 = .ok (.aload_n 0, 1) := by decide +kernel
theorem dX4_faultOfHead_67 : decode cX4_faultOfHead 67 = .ok (.getfield 28, 3) := by decide +kernel
theorem dX4_faultOfHead_70 : decode cX4_faultOfHead 70 = .ok (.aload_n 1, 1) := by decide +kernel
theorem dX4_faultOfHead_71 : decode cX4_faultOfHead 71 = .ok (.ldc 78, 2) := by decide +kernel
theorem dX4_faultOfHead_73 : decode cX4_faultOfHead 73 = .ok (.invokevirtual 66, 3) := by decide +kernel
theorem dX4_faultOfHead_76 : decode cX4_faultOfHead 76 = .ok (.bastore, 1) := by decide +kernel
theorem dX4_faultOfHead_77 : decode cX4_faultOfHead 77 = .ok (.aload_n 0, 1) := by decide +kernel
theorem dX4_faultOfHead_78 : decode cX4_faultOfHead 78 = .ok (.getfield 15, 3) := by decide +kernel
theorem dX4_faultOfHead_81 : decode cX4_faultOfHead 81 = .ok (.aload_n 0, 1) := by decide +kernel
theorem dX4_faultOfHead_82 : decode cX4_faultOfHead 82 = .ok (.getfield 28, 3) := by decide +kernel
theorem dX4_faultOfHead_85 : decode cX4_faultOfHead 85 = .ok (.baload, 1) := by decide +kernel
theorem dX4_faultOfHead_86 : decode cX4_faultOfHead 86 = .ok (.ifCond .ne 14, 3) := by decide +kernel
theorem dX4_faultOfHead_89 : decode cX4_faultOfHead 89 = .ok (.aload_n 1, 1) := by decide +kernel
theorem dX4_faultOfHead_90 : decode cX4_faultOfHead 90 = .ok (.ldc 80, 2) := by decide +kernel
theorem dX4_faultOfHead_92 : decode cX4_faultOfHead 92 = .ok (.invokevirtual 66, 3) := by decide +kernel
theorem dX4_faultOfHead_95 : decode cX4_faultOfHead 95 = .ok (.ifCond .ne 5, 3) := by decide +kernel
theorem dX4_faultOfHead_98 : decode cX4_faultOfHead 98 = .ok (.iconst 1, 1) := by decide +kernel
theorem dX4_faultOfHead_99 : decode cX4_faultOfHead 99 = .ok (.ireturn, 1) := by decide +kernel
theorem dX4_faultOfHead_100 : decode cX4_faultOfHead 100 = .ok (.aload_n 1, 1) := by decide +kernel
theorem dX4_faultOfHead_101 : decode cX4_faultOfHead 101 = .ok (.ldc 46, 2) := by decide +kernel
theorem dX4_faultOfHead_103 : decode cX4_faultOfHead 103 = .ok (.invokevirtual 48, 3) := by decide +kernel
theorem dX4_faultOfHead_106 : decode cX4_faultOfHead 106 = .ok (.iconst 0, 1) := by decide +kernel
theorem dX4_faultOfHead_107 : decode cX4_faultOfHead 107 = .ok (.ireturn, 1) := by decide +kernel
theorem dX4_faultOfPoints_0 : decode cX4_faultOfPoints 0 = .ok (.iload_n 2, 1) := by decide +kernel
theorem dX4_faultOfPoints_1 : decode cX4_faultOfPoints 1 = .ok (.ifCond .lt 18, 3) := by decide +kernel
theorem dX4_faultOfPoints_4 : decode cX4_faultOfPoints 4 = .ok (.iload_n 2, 1) := by decide +kernel
theorem dX4_faultOfPoints_5 : decode cX4_faultOfPoints 5 = .ok (.bipush 6, 2) := by decide +kernel
theorem dX4_faultOfPoints_7 : decode cX4_faultOfPoints 7 = .ok (.if_icmp .ge 12, 3) := by decide +kernel
theorem dX4_faultOfPoints_10 : decode cX4_faultOfPoints 10 = .ok (.aload_n 1, 1) := by decide +kernel
theorem dX4_faultOfPoints_11 : decode cX4_faultOfPoints 11 = .ok (.ldc 82, 2) := by decide +kernel
theorem dX4_faultOfPoints_13 : decode cX4_faultOfPoints 13 = .ok (.invokevirtual 66, 3) := by decide +kernel
theorem dX4_faultOfPoints_16 : decode cX4_faultOfPoints 16 = .ok (.ifCond .ne 5, 3) := by decide +kernel
theorem dX4_faultOfPoints_19 : decode cX4_faultOfPoints 19 = .ok (.iconst 1, 1) := by decide +kernel
theorem dX4_faultOfPoints_20 : decode cX4_faultOfPoints 20 = .ok (.ireturn, 1) := by decide +kernel
theorem dX4_faultOfPoints_21 : decode cX4_faultOfPoints 21 = .ok (.aload_n 0, 1) := by decide +kernel
theorem dX4_faultOfPoints_22 : decode cX4_faultOfPoints 22 = .ok (.getfield 22, 3) := by decide +kernel
theorem dX4_faultOfPoints_25 : decode cX4_faultOfPoints 25 = .ok (.iload_n 2, 1) := by decide +kernel
theorem dX4_faultOfPoints_26 : decode cX4_faultOfPoints 26 = .ok (.iconst (-1), 1) := by decide +kernel
theorem dX4_faultOfPoints_27 : decode cX4_faultOfPoints 27 = .ok (.iastore, 1) := by decide +kernel
theorem dX4_faultOfPoints_28 : decode cX4_faultOfPoints 28 = .ok (.aload_n 0, 1) := by decide +kernel
theorem dX4_faultOfPoints_29 : decode cX4_faultOfPoints 29 = .ok (.getfield 25, 3) := by decide +kernel
theorem dX4_faultOfPoints_32 : decode cX4_faultOfPoints 32 = .ok (.iload_n 2, 1) := by decide +kernel
theorem dX4_faultOfPoints_33 : decode cX4_faultOfPoints 33 = .ok (.iconst 0, 1) := by decide +kernel
theorem dX4_faultOfPoints_34 : decode cX4_faultOfPoints 34 = .ok (.iastore, 1) := by decide +kernel
theorem dX4_faultOfPoints_35 : decode cX4_faultOfPoints 35 = .ok (.aload_n 1, 1) := by decide +kernel
theorem dX4_faultOfPoints_36 : decode cX4_faultOfPoints 36 = .ok (.aload_n 0, 1) := by decide +kernel
theorem dX4_faultOfPoints_37 : decode cX4_faultOfPoints 37 = .ok (.getfield 19, 3) := by decide +kernel
theorem dX4_faultOfPoints_40 : decode cX4_faultOfPoints 40 = .ok (.iload_n 2, 1) := by decide +kernel
theorem dX4_faultOfPoints_41 : decode cX4_faultOfPoints 41 = .ok (.invokestatic 84, 3) := by decide +kernel
theorem dX4_faultOfPoints_44 : decode cX4_faultOfPoints 44 = .ok (.istore_n 3, 1) := by decide +kernel
theorem dX4_faultOfPoints_45 : decode cX4_faultOfPoints 45 = .ok (.iload_n 3, 1) := by decide +kernel
theorem dX4_faultOfPoints_46 : decode cX4_faultOfPoints 46 = .ok (.ifCond .ne 31, 3) := by decide +kernel
theorem dX4_faultOfPoints_49 : decode cX4_faultOfPoints 49 = .ok (.aload_n 0, 1) := by decide +kernel
theorem dX4_faultOfPoints_50 : decode cX4_faultOfPoints 50 = .ok (.getfield 15, 3) := by decide +kernel
theorem dX4_faultOfPoints_53 : decode cX4_faultOfPoints 53 = .ok (.iload_n 2, 1) := by decide +kernel
theorem dX4_faultOfPoints_54 : decode cX4_faultOfPoints 54 = .ok (.baload, 1) := by decide +kernel
theorem dX4_faultOfPoints_55 : decode cX4_faultOfPoints 55 = .ok (.ifCond .ne 22, 3) := by decide +kernel
theorem dX4_faultOfPoints_58 : decode cX4_faultOfPoints 58 = .ok (.aload_n 1, 1) := by decide +kernel
theorem dX4_faultOfPoints_59 : decode cX4_faultOfPoints 59 = .ok (.ldc 88, 2) := by decide +kernel
theorem dX4_faultOfPoints_61 : decode cX4_faultOfPoints 61 = .ok (.invokevirtual 66, 3) := by decide +kernel
theorem dX4_faultOfPoints_64 : decode cX4_faultOfPoints 64 = .ok (.ifCond .eq 13, 3) := by decide +kernel
theorem dX4_faultOfPoints_67 : decode cX4_faultOfPoints 67 = .ok (.aload_n 1, 1) := by decide +kernel
theorem dX4_faultOfPoints_68 : decode cX4_faultOfPoints 68 = .ok (.aload_n 0, 1) := by decide +kernel
theorem dX4_faultOfPoints_69 : decode cX4_faultOfPoints 69 = .ok (.getfield 22, 3) := by decide +kernel
theorem dX4_faultOfPoints_72 : decode cX4_faultOfPoints 72 = .ok (.iload_n 2, 1) := by decide +kernel
theorem dX4_faultOfPoints_73 : decode cX4_faultOfPoints 73 = .ok (.invokestatic 84, 3) := by decide +kernel
theorem dX4_faultOfPoints_76 : decode cX4_faultOfPoints 76 = .ok (.istore_n 3, 1) := by decide +kernel
theorem dX4_faultOfPoints_77 : decode cX4_faultOfPoints 77 = .ok (.iload_n 3, 1) := by decide +kernel
theorem dX4_faultOfPoints_78 : decode cX4_faultOfPoints 78 = .ok (.ifCond .ne 22, 3) := by decide +kernel
theorem dX4_faultOfPoints_81 : decode cX4_faultOfPoints 81 = .ok (.aload_n 1, 1) := by decide +kernel
theorem dX4_faultOfPoints_82 : decode cX4_faultOfPoints 82 = .ok (.ldc 90, 2) := by decide +kernel
theorem dX4_faultOfPoints_84 : decode cX4_faultOfPoints 84 = .ok (.invokevirtual 66, 3) := by decide +kernel
theorem dX4_faultOfPoints_87 : decode cX4_faultOfPoints 87 = .ok (.ifCond .eq 13, 3) := by decide +kernel
theorem dX4_faultOfPoints_90 : decode cX4_faultOfPoints 90 = .ok (.aload_n 1, 1) := by decide +kernel
theorem dX4_faultOfPoints_91 : decode cX4_faultOfPoints 91 = .ok (.aload_n 0, 1) := by decide +kernel
theorem dX4_faultOfPoints_92 : decode cX4_faultOfPoints 92 = .ok (.getfield 25, 3) := by decide +kernel
theorem dX4_faultOfPoints_95 : decode cX4_faultOfPoints 95 = .ok (.iload_n 2, 1) := by decide +kernel
theorem dX4_faultOfPoints_96 : decode cX4_faultOfPoints 96 = .ok (.invokestatic 84, 3) := by decide +kernel
theorem dX4_faultOfPoints_99 : decode cX4_faultOfPoints 99 = .ok (.istore_n 3, 1) := by decide +kernel
theorem dX4_faultOfPoints_100 : decode cX4_faultOfPoints 100 = .ok (.iload_n 3, 1) := by decide +kernel
theorem dX4_faultOfPoints_101 : decode cX4_faultOfPoints 101 = .ok (.ifCond .eq 5, 3) := by decide +kernel
theorem dX4_faultOfPoints_104 : decode cX4_faultOfPoints 104 = .ok (.iload_n 3, 1) := by decide +kernel
theorem dX4_faultOfPoints_105 : decode cX4_faultOfPoints 105 = .ok (.ireturn, 1) := by decide +kernel
theorem dX4_faultOfPoints_106 : decode cX4_faultOfPoints 106 = .ok (.aload_n 1, 1) := by decide +kernel
theorem dX4_faultOfPoints_107 : decode cX4_faultOfPoints 107 = .ok (.getfield 52, 3) := by decide +kernel
theorem dX4_faultOfPoints_110 : decode cX4_faultOfPoints 110 = .ok (.bipush 59, 2) := by decide +kernel
theorem dX4_faultOfPoints_112 : decode cX4_faultOfPoints 112 = .ok (.if_icmp .eq 5, 3) := by decide +kernel
theorem dX4_faultOfPoints_115 : decode cX4_faultOfPoints 115 = .ok (.iconst 1, 1) := by decide +kernel
theorem dX4_faultOfPoints_116 : decode cX4_faultOfPoints 116 = .ok (.ireturn, 1) := by decide +kernel
theorem dX4_faultOfPoints_117 : decode cX4_faultOfPoints 117 = .ok (.aload_n 0, 1) := by decide +kernel
theorem dX4_faultOfPoints_118 : decode cX4_faultOfPoints 118 = .ok (.dup, 1) := by decide +kernel
theorem dX4_faultOfPoints_119 : decode cX4_faultOfPoints 119 = .ok (.getfield 32, 3) := by decide +kernel
theorem dX4_faultOfPoints_122 : decode cX4_faultOfPoints 122 = .ok (.aload_n 0, 1) := by decide +kernel
theorem dX4_faultOfPoints_123 : decode cX4_faultOfPoints 123 = .ok (.getfield 11, 3) := by decide +kernel
theorem dX4_faultOfPoints_126 : decode cX4_faultOfPoints 126 = .ok (.iload_n 2, 1) := by decide +kernel
theorem dX4_faultOfPoints_127 : decode cX4_faultOfPoints 127 = .ok (.iaload, 1) := by decide +kernel
theorem dX4_faultOfPoints_128 : decode cX4_faultOfPoints 128 = .ok (.iadd, 1) := by decide +kernel
theorem dX4_faultOfPoints_129 : decode cX4_faultOfPoints 129 = .ok (.putfield 32, 3) := by decide +kernel
theorem dX4_faultOfPoints_132 : decode cX4_faultOfPoints 132 = .ok (.aload_n 0, 1) := by decide +kernel
theorem dX4_faultOfPoints_133 : decode cX4_faultOfPoints 133 = .ok (.dup, 1) := by decide +kernel
theorem dX4_faultOfPoints_134 : decode cX4_faultOfPoints 134 = .ok (.getfield 28, 3) := by decide +kernel
theorem dX4_faultOfPoints_137 : decode cX4_faultOfPoints 137 = .ok (.iconst 1, 1) := by decide +kernel
theorem dX4_faultOfPoints_138 : decode cX4_faultOfPoints 138 = .ok (.iadd, 1) := by decide +kernel
theorem dX4_faultOfPoints_139 : decode cX4_faultOfPoints 139 = .ok (.putfield 28, 3) := by decide +kernel
theorem dX4_faultOfPoints_142 : decode cX4_faultOfPoints 142 = .ok (.aload_n 1, 1) := by decide +kernel
theorem dX4_faultOfPoints_143 : decode cX4_faultOfPoints 143 = .ok (.ldc 46, 2) := by decide +kernel
theorem dX4_faultOfPoints_145 : decode cX4_faultOfPoints 145 = .ok (.invokevirtual 48, 3) := by decide +kernel
theorem dX4_faultOfPoints_148 : decode cX4_faultOfPoints 148 = .ok (.iconst 0, 1) := by decide +kernel
theorem dX4_faultOfPoints_149 : decode cX4_faultOfPoints 149 = .ok (.ireturn, 1) := by decide +kernel
theorem dX4_readPoints_0 : decode cX4_readPoints 0 = .ok (.aload_n 0, 1) := by decide +kernel
theorem dX4_readPoints_1 : decode cX4_readPoints 1 = .ok (.ldc 46, 2) := by decide +kernel
theorem dX4_readPoints_3 : decode cX4_readPoints 3 = .ok (.invokevirtual 48, 3) := by decide +kernel
theorem dX4_readPoints_6 : decode cX4_readPoints 6 = .ok (.aload_n 0, 1) := by decide +kernel
theorem dX4_readPoints_7 : decode cX4_readPoints 7 = .ok (.iconst 0, 1) := by decide +kernel
theorem dX4_readPoints_8 : decode cX4_readPoints 8 = .ok (.bipush 20, 2) := by decide +kernel
theorem dX4_readPoints_10 : decode cX4_readPoints 10 = .ok (.invokestatic 70, 3) := by decide +kernel
theorem dX4_readPoints_13 : decode cX4_readPoints 13 = .ok (.istore_n 3, 1) := by decide +kernel
theorem dX4_readPoints_14 : decode cX4_readPoints 14 = .ok (.iload_n 3, 1) := by decide +kernel
theorem dX4_readPoints_15 : decode cX4_readPoints 15 = .ok (.ifCond .ne 27, 3) := by decide +kernel
theorem dX4_readPoints_18 : decode cX4_readPoints 18 = .ok (.iload_n 2, 1) := by decide +kernel
theorem dX4_readPoints_19 : decode cX4_readPoints 19 = .ok (.ifCond .lt 23, 3) := by decide +kernel
theorem dX4_readPoints_22 : decode cX4_readPoints 22 = .ok (.iload_n 2, 1) := by decide +kernel
theorem dX4_readPoints_23 : decode cX4_readPoints 23 = .ok (.aload_n 1, 1) := by decide +kernel
theorem dX4_readPoints_24 : decode cX4_readPoints 24 = .ok (.arraylength, 1) := by decide +kernel
theorem dX4_readPoints_25 : decode cX4_readPoints 25 = .ok (.if_icmp .ge 17, 3) := by decide +kernel
theorem dX4_readPoints_28 : decode cX4_readPoints 28 = .ok (.aload_n 1, 1) := by decide +kernel
theorem dX4_readPoints_29 : decode cX4_readPoints 29 = .ok (.iload_n 2, 1) := by decide +kernel
theorem dX4_readPoints_30 : decode cX4_readPoints 30 = .ok (.aload_n 0, 1) := by decide +kernel
theorem dX4_readPoints_31 : decode cX4_readPoints 31 = .ok (.getfield 74, 3) := by decide +kernel
theorem dX4_readPoints_34 : decode cX4_readPoints 34 = .ok (.l2i, 1) := by decide +kernel
theorem dX4_readPoints_35 : decode cX4_readPoints 35 = .ok (.iastore, 1) := by decide +kernel
theorem dX4_readPoints_36 : decode cX4_readPoints 36 = .ok (.aload_n 0, 1) := by decide +kernel
theorem dX4_readPoints_37 : decode cX4_readPoints 37 = .ok (.ldc 46, 2) := by decide +kernel
theorem dX4_readPoints_39 : decode cX4_readPoints 39 = .ok (.invokevirtual 48, 3) := by decide +kernel
theorem dX4_readPoints_42 : decode cX4_readPoints 42 = .ok (.iload_n 3, 1) := by decide +kernel
theorem dX4_readPoints_43 : decode cX4_readPoints 43 = .ok (.ireturn, 1) := by decide +kernel
theorem dX4_faultOfNumber_0 : decode cX4_faultOfNumber 0 = .ok (.aload_n 0, 1) := by decide +kernel
theorem dX4_faultOfNumber_1 : decode cX4_faultOfNumber 1 = .ok (.getfield 52, 3) := by decide +kernel
theorem dX4_faultOfNumber_4 : decode cX4_faultOfNumber 4 = .ok (.iconst 2, 1) := by decide +kernel
theorem dX4_faultOfNumber_5 : decode cX4_faultOfNumber 5 = .ok (.if_icmp .eq 5, 3) := by decide +kernel
theorem dX4_faultOfNumber_8 : decode cX4_faultOfNumber 8 = .ok (.iconst 1, 1) := by decide +kernel
theorem dX4_faultOfNumber_9 : decode cX4_faultOfNumber 9 = .ok (.ireturn, 1) := by decide +kernel
theorem dX4_faultOfNumber_10 : decode cX4_faultOfNumber 10 = .ok (.aload_n 0, 1) := by decide +kernel
theorem dX4_faultOfNumber_11 : decode cX4_faultOfNumber 11 = .ok (.getfield 74, 3) := by decide +kernel
theorem dX4_faultOfNumber_14 : decode cX4_faultOfNumber 14 = .ok (.iload_n 1, 1) := by decide +kernel
theorem dX4_faultOfNumber_15 : decode cX4_faultOfNumber 15 = .ok (.i2l, 1) := by decide +kernel
theorem dX4_faultOfNumber_16 : decode cX4_faultOfNumber 16 = .ok (.lcmp, 1) := by decide +kernel
theorem dX4_faultOfNumber_17 : decode cX4_faultOfNumber 17 = .ok (.ifCond .lt 13, 3) := by decide +kernel
theorem dX4_faultOfNumber_20 : decode cX4_faultOfNumber 20 = .ok (.aload_n 0, 1) := by decide +kernel
theorem dX4_faultOfNumber_21 : decode cX4_faultOfNumber 21 = .ok (.getfield 74, 3) := by decide +kernel
theorem dX4_faultOfNumber_24 : decode cX4_faultOfNumber 24 = .ok (.iload_n 2, 1) := by decide +kernel
theorem dX4_faultOfNumber_25 : decode cX4_faultOfNumber 25 = .ok (.i2l, 1) := by decide +kernel
theorem dX4_faultOfNumber_26 : decode cX4_faultOfNumber 26 = .ok (.lcmp, 1) := by decide +kernel
theorem dX4_faultOfNumber_27 : decode cX4_faultOfNumber 27 = .ok (.ifCond .le 7, 3) := by decide +kernel
theorem dX4_faultOfNumber_30 : decode cX4_faultOfNumber 30 = .ok (.iconst 2, 1) := by decide +kernel
theorem dX4_faultOfNumber_31 : decode cX4_faultOfNumber 31 = .ok (.goto 4, 3) := by decide +kernel
theorem dX4_faultOfNumber_34 : decode cX4_faultOfNumber 34 = .ok (.iconst 0, 1) := by decide +kernel
theorem dX4_faultOfNumber_35 : decode cX4_faultOfNumber 35 = .ok (.ireturn, 1) := by decide +kernel
theorem dX5_init_0 : decode cX5_init 0 = .ok (.aload_n 0, 1) := by decide +kernel
theorem dX5_init_1 : decode cX5_init 1 = .ok (.invokespecial 3, 3) := by decide +kernel
theorem dX5_init_4 : decode cX5_init 4 = .ok (.aload_n 0, 1) := by decide +kernel
theorem dX5_init_5 : decode cX5_init 5 = .ok (.bipush 12, 2) := by decide +kernel
theorem dX5_init_7 : decode cX5_init 7 = .ok (.newarray .int, 2) := by decide +kernel
theorem dX5_init_9 : decode cX5_init 9 = .ok (.putfield 9, 3) := by decide +kernel
theorem dX5_init_12 : decode cX5_init 12 = .ok (.aload_n 0, 1) := by decide +kernel
theorem dX5_init_13 : decode cX5_init 13 = .ok (.bipush 12, 2) := by decide +kernel
theorem dX5_init_15 : decode cX5_init 15 = .ok (.newarray .int, 2) := by decide +kernel
theorem dX5_init_17 : decode cX5_init 17 = .ok (.putfield 15, 3) := by decide +kernel
theorem dX5_init_20 : decode cX5_init 20 = .ok (.aload_n 0, 1) := by decide +kernel
theorem dX5_init_21 : decode cX5_init 21 = .ok (.bipush 12, 2) := by decide +kernel
theorem dX5_init_23 : decode cX5_init 23 = .ok (.newarray .int, 2) := by decide +kernel
theorem dX5_init_25 : decode cX5_init 25 = .ok (.putfield 18, 3) := by decide +kernel
theorem dX5_init_28 : decode cX5_init 28 = .ok (.aload_n 0, 1) := by decide +kernel
theorem dX5_init_29 : decode cX5_init 29 = .ok (.bipush 12, 2) := by decide +kernel
theorem dX5_init_31 : decode cX5_init 31 = .ok (.newarray .int, 2) := by decide +kernel
theorem dX5_init_33 : decode cX5_init 33 = .ok (.putfield 21, 3) := by decide +kernel
theorem dX5_init_36 : decode cX5_init 36 = .ok (.aload_n 0, 1) := by decide +kernel
theorem dX5_init_37 : decode cX5_init 37 = .ok (.iconst 0, 1) := by decide +kernel
theorem dX5_init_38 : decode cX5_init 38 = .ok (.putfield 24, 3) := by decide +kernel
theorem dX5_init_41 : decode cX5_init 41 = .ok (.return_, 1) := by decide +kernel
theorem dX5_addMatch_0 : decode cX5_addMatch 0 = .ok (.aload_n 0, 1) := by decide +kernel
theorem dX5_addMatch_1 : decode cX5_addMatch 1 = .ok (.dup, 1) := by decide +kernel
theorem dX5_addMatch_2 : decode cX5_addMatch 2 = .ok (.getfield 24, 3) := by decide +kernel
theorem dX5_addMatch_5 : decode cX5_addMatch 5 = .ok (.iconst 1, 1) := by decide +kernel
theorem dX5_addMatch_6 : decode cX5_addMatch 6 = .ok (.iadd, 1) := by decide +kernel
theorem dX5_addMatch_7 : decode cX5_addMatch 7 = .ok (.putfield 24, 3) := by decide +kernel
theorem dX5_addMatch_10 : decode cX5_addMatch 10 = .ok (.aload_n 0, 1) := by decide +kernel
theorem dX5_addMatch_11 : decode cX5_addMatch 11 = .ok (.iload_n 1, 1) := by decide +kernel
theorem dX5_addMatch_12 : decode cX5_addMatch 12 = .ok (.iload_n 3, 1) := by decide +kernel
theorem dX5_addMatch_13 : decode cX5_addMatch 13 = .ok (.iload 4, 2) := by decide +kernel
theorem dX5_addMatch_15 : decode cX5_addMatch 15 = .ok (.invokevirtual 28, 3) := by decide +kernel
theorem dX5_addMatch_18 : decode cX5_addMatch 18 = .ok (.aload_n 0, 1) := by decide +kernel
theorem dX5_addMatch_19 : decode cX5_addMatch 19 = .ok (.iload_n 2, 1) := by decide +kernel
theorem dX5_addMatch_20 : decode cX5_addMatch 20 = .ok (.iload 4, 2) := by decide +kernel
theorem dX5_addMatch_22 : decode cX5_addMatch 22 = .ok (.iload_n 3, 1) := by decide +kernel
theorem dX5_addMatch_23 : decode cX5_addMatch 23 = .ok (.invokevirtual 28, 3) := by decide +kernel
theorem dX5_addMatch_26 : decode cX5_addMatch 26 = .ok (.return_, 1) := by decide +kernel
theorem dX5_teamAt_0 : decode cX5_teamAt 0 = .ok (.iconst 0, 1) := by decide +kernel
theorem dX5_teamAt_1 : decode cX5_teamAt 1 = .ok (.istore_n 2, 1) := by decide +kernel
theorem dX5_teamAt_2 : decode cX5_teamAt 2 = .ok (.iload_n 2, 1) := by decide +kernel
theorem dX5_teamAt_3 : decode cX5_teamAt 3 = .ok (.bipush 12, 2) := by decide +kernel
theorem dX5_teamAt_5 : decode cX5_teamAt 5 = .ok (.if_icmp .ge 20, 3) := by decide +kernel
theorem dX5_teamAt_8 : decode cX5_teamAt 8 = .ok (.aload_n 0, 1) := by decide +kernel
theorem dX5_teamAt_9 : decode cX5_teamAt 9 = .ok (.iload_n 2, 1) := by decide +kernel
theorem dX5_teamAt_10 : decode cX5_teamAt 10 = .ok (.invokevirtual 32, 3) := by decide +kernel
theorem dX5_teamAt_13 : decode cX5_teamAt 13 = .ok (.iload_n 1, 1) := by decide +kernel
theorem dX5_teamAt_14 : decode cX5_teamAt 14 = .ok (.if_icmp .ne 5, 3) := by decide +kernel
theorem dX5_teamAt_17 : decode cX5_teamAt 17 = .ok (.iload_n 2, 1) := by decide +kernel
theorem dX5_teamAt_18 : decode cX5_teamAt 18 = .ok (.ireturn, 1) := by decide +kernel
theorem dX5_teamAt_19 : decode cX5_teamAt 19 = .ok (.iinc 2 1, 3) := by decide +kernel
theorem dX5_teamAt_22 : decode cX5_teamAt 22 = .ok (.goto (-20), 3) := by decide +kernel
theorem dX5_teamAt_25 : decode cX5_teamAt 25 = .ok (.iconst (-1), 1) := by decide +kernel
theorem dX5_teamAt_26 : decode cX5_teamAt 26 = .ok (.ireturn, 1) := by decide +kernel
theorem dX5_tell_0 : decode cX5_tell 0 = .ok (.iload_n 1, 1) := by decide +kernel
theorem dX5_tell_1 : decode cX5_tell 1 = .ok (.invokestatic 36, 3) := by decide +kernel
theorem dX5_tell_4 : decode cX5_tell 4 = .ok (.ifCond .ne 5, 3) := by decide +kernel
theorem dX5_tell_7 : decode cX5_tell 7 = .ok (.iconst (-1), 1) := by decide +kernel
theorem dX5_tell_8 : decode cX5_tell 8 = .ok (.ireturn, 1) := by decide +kernel
theorem dX5_tell_9 : decode cX5_tell 9 = .ok (.iload_n 2, 1) := by decide +kernel
theorem dX5_tell_10 : decode cX5_tell 10 = .ok (.tableswitch 64 0 4 #[34, 36, 43, 50, 57], 34) := by decide +kernel
theorem dX5_tell_44 : decode cX5_tell 44 = .ok (.iload_n 1, 1) := by decide +kernel
theorem dX5_tell_45 : decode cX5_tell 45 = .ok (.ireturn, 1) := by decide +kernel
theorem dX5_tell_46 : decode cX5_tell 46 = .ok (.aload_n 0, 1) := by decide +kernel
theorem dX5_tell_47 : decode cX5_tell 47 = .ok (.getfield 9, 3) := by decide +kernel
theorem dX5_tell_50 : decode cX5_tell 50 = .ok (.iload_n 1, 1) := by decide +kernel
theorem dX5_tell_51 : decode cX5_tell 51 = .ok (.iaload, 1) := by decide +kernel
theorem dX5_tell_52 : decode cX5_tell 52 = .ok (.ireturn, 1) := by decide +kernel
theorem dX5_tell_53 : decode cX5_tell 53 = .ok (.aload_n 0, 1) := by decide +kernel
theorem dX5_tell_54 : decode cX5_tell 54 = .ok (.getfield 15, 3) := by decide +kernel
theorem dX5_tell_57 : decode cX5_tell 57 = .ok (.iload_n 1, 1) := by decide +kernel
theorem dX5_tell_58 : decode cX5_tell 58 = .ok (.iaload, 1) := by decide +kernel
theorem dX5_tell_59 : decode cX5_tell 59 = .ok (.ireturn, 1) := by decide +kernel
theorem dX5_tell_60 : decode cX5_tell 60 = .ok (.aload_n 0, 1) := by decide +kernel
theorem dX5_tell_61 : decode cX5_tell 61 = .ok (.getfield 18, 3) := by decide +kernel
theorem dX5_tell_64 : decode cX5_tell 64 = .ok (.iload_n 1, 1) := by decide +kernel
theorem dX5_tell_65 : decode cX5_tell 65 = .ok (.iaload, 1) := by decide +kernel
theorem dX5_tell_66 : decode cX5_tell 66 = .ok (.ireturn, 1) := by decide +kernel
theorem dX5_tell_67 : decode cX5_tell 67 = .ok (.aload_n 0, 1) := by decide +kernel
theorem dX5_tell_68 : decode cX5_tell 68 = .ok (.getfield 21, 3) := by decide +kernel
theorem dX5_tell_71 : decode cX5_tell 71 = .ok (.iload_n 1, 1) := by decide +kernel
theorem dX5_tell_72 : decode cX5_tell 72 = .ok (.iaload, 1) := by decide +kernel
theorem dX5_tell_73 : decode cX5_tell 73 = .ok (.ireturn, 1) := by decide +kernel
theorem dX5_tell_74 : decode cX5_tell 74 = .ok (.iconst (-1), 1) := by decide +kernel
theorem dX5_tell_75 : decode cX5_tell 75 = .ok (.ireturn, 1) := by decide +kernel
theorem dX5_addSide_0 : decode cX5_addSide 0 = .ok (.iload_n 1, 1) := by decide +kernel
theorem dX5_addSide_1 : decode cX5_addSide 1 = .ok (.invokestatic 36, 3) := by decide +kernel
theorem dX5_addSide_4 : decode cX5_addSide 4 = .ok (.ifCond .eq 65, 3) := by decide +kernel
theorem dX5_addSide_7 : decode cX5_addSide 7 = .ok (.iload_n 2, 1) := by decide +kernel
theorem dX5_addSide_8 : decode cX5_addSide 8 = .ok (.iload_n 3, 1) := by decide +kernel
theorem dX5_addSide_9 : decode cX5_addSide 9 = .ok (.if_icmp .le 7, 3) := by decide +kernel
theorem dX5_addSide_12 : decode cX5_addSide 12 = .ok (.iconst 2, 1) := by decide +kernel
theorem dX5_addSide_13 : decode cX5_addSide 13 = .ok (.goto 4, 3) := by decide +kernel
theorem dX5_addSide_16 : decode cX5_addSide 16 = .ok (.iconst 0, 1) := by decide +kernel
theorem dX5_addSide_17 : decode cX5_addSide 17 = .ok (.istore 4, 2) := by decide +kernel
theorem dX5_addSide_19 : decode cX5_addSide 19 = .ok (.aload_n 0, 1) := by decide +kernel
theorem dX5_addSide_20 : decode cX5_addSide 20 = .ok (.getfield 9, 3) := by decide +kernel
theorem dX5_addSide_23 : decode cX5_addSide 23 = .ok (.iload_n 1, 1) := by decide +kernel
theorem dX5_addSide_24 : decode cX5_addSide 24 = .ok (.dup2, 1) := by decide +kernel
theorem dX5_addSide_25 : decode cX5_addSide 25 = .ok (.iaload, 1) := by decide +kernel
theorem dX5_addSide_26 : decode cX5_addSide 26 = .ok (.iload_n 2, 1) := by decide +kernel
theorem dX5_addSide_27 : decode cX5_addSide 27 = .ok (.iload_n 3, 1) := by decide +kernel
theorem dX5_addSide_28 : decode cX5_addSide 28 = .ok (.if_icmp .ne 7, 3) := by decide +kernel
theorem dX5_addSide_31 : decode cX5_addSide 31 = .ok (.iconst 1, 1) := by decide +kernel
theorem dX5_addSide_32 : decode cX5_addSide 32 = .ok (.goto 5, 3) := by decide +kernel
theorem dX5_addSide_35 : decode cX5_addSide 35 = .ok (.iload 4, 2) := by decide +kernel
theorem dX5_addSide_37 : decode cX5_addSide 37 = .ok (.iadd, 1) := by decide +kernel
theorem dX5_addSide_38 : decode cX5_addSide 38 = .ok (.iastore, 1) := by decide +kernel
theorem dX5_addSide_39 : decode cX5_addSide 39 = .ok (.aload_n 0, 1) := by decide +kernel
theorem dX5_addSide_40 : decode cX5_addSide 40 = .ok (.getfield 15, 3) := by decide +kernel
theorem dX5_addSide_43 : decode cX5_addSide 43 = .ok (.iload_n 1, 1) := by decide +kernel
theorem dX5_addSide_44 : decode cX5_addSide 44 = .ok (.dup2, 1) := by decide +kernel
theorem dX5_addSide_45 : decode cX5_addSide 45 = .ok (.iaload, 1) := by decide +kernel
theorem dX5_addSide_46 : decode cX5_addSide 46 = .ok (.iconst 1, 1) := by decide +kernel
theorem dX5_addSide_47 : decode cX5_addSide 47 = .ok (.iadd, 1) := by decide +kernel
theorem dX5_addSide_48 : decode cX5_addSide 48 = .ok (.iastore, 1) := by decide +kernel
theorem dX5_addSide_49 : decode cX5_addSide 49 = .ok (.aload_n 0, 1) := by decide +kernel
theorem dX5_addSide_50 : decode cX5_addSide 50 = .ok (.getfield 18, 3) := by decide +kernel
theorem dX5_addSide_53 : decode cX5_addSide 53 = .ok (.iload_n 1, 1) := by decide +kernel
theorem dX5_addSide_54 : decode cX5_addSide 54 = .ok (.dup2, 1) := by decide +kernel
theorem dX5_addSide_55 : decode cX5_addSide 55 = .ok (.iaload, 1) := by decide +kernel
theorem dX5_addSide_56 : decode cX5_addSide 56 = .ok (.iload_n 2, 1) := by decide +kernel
theorem dX5_addSide_57 : decode cX5_addSide 57 = .ok (.iadd, 1) := by decide +kernel
theorem dX5_addSide_58 : decode cX5_addSide 58 = .ok (.iastore, 1) := by decide +kernel
theorem dX5_addSide_59 : decode cX5_addSide 59 = .ok (.aload_n 0, 1) := by decide +kernel
theorem dX5_addSide_60 : decode cX5_addSide 60 = .ok (.getfield 21, 3) := by decide +kernel
theorem dX5_addSide_63 : decode cX5_addSide 63 = .ok (.iload_n 1, 1) := by decide +kernel
theorem dX5_addSide_64 : decode cX5_addSide 64 = .ok (.dup2, 1) := by decide +kernel
theorem dX5_addSide_65 : decode cX5_addSide 65 = .ok (.iaload, 1) := by decide +kernel
theorem dX5_addSide_66 : decode cX5_addSide 66 = .ok (.iload_n 3, 1) := by decide +kernel
theorem dX5_addSide_67 : decode cX5_addSide 67 = .ok (.iadd, 1) := by decide +kernel
theorem dX5_addSide_68 : decode cX5_addSide 68 = .ok (.iastore, 1) := by decide +kernel
theorem dX5_addSide_69 : decode cX5_addSide 69 = .ok (.return_, 1) := by decide +kernel
theorem dX5_placeOf_0 : decode cX5_placeOf 0 = .ok (.iconst 0, 1) := by decide +kernel
theorem dX5_placeOf_1 : decode cX5_placeOf 1 = .ok (.istore_n 2, 1) := by decide +kernel
theorem dX5_placeOf_2 : decode cX5_placeOf 2 = .ok (.iconst 0, 1) := by decide +kernel
theorem dX5_placeOf_3 : decode cX5_placeOf 3 = .ok (.istore_n 3, 1) := by decide +kernel
theorem dX5_placeOf_4 : decode cX5_placeOf 4 = .ok (.iload_n 3, 1) := by decide +kernel
theorem dX5_placeOf_5 : decode cX5_placeOf 5 = .ok (.bipush 12, 2) := by decide +kernel
theorem dX5_placeOf_7 : decode cX5_placeOf 7 = .ok (.if_icmp .ge 26, 3) := by decide +kernel
theorem dX5_placeOf_10 : decode cX5_placeOf 10 = .ok (.iload_n 3, 1) := by decide +kernel
theorem dX5_placeOf_11 : decode cX5_placeOf 11 = .ok (.iload_n 1, 1) := by decide +kernel
theorem dX5_placeOf_12 : decode cX5_placeOf 12 = .ok (.if_icmp .eq 15, 3) := by decide +kernel
theorem dX5_placeOf_15 : decode cX5_placeOf 15 = .ok (.aload_n 0, 1) := by decide +kernel
theorem dX5_placeOf_16 : decode cX5_placeOf 16 = .ok (.iload_n 3, 1) := by decide +kernel
theorem dX5_placeOf_17 : decode cX5_placeOf 17 = .ok (.iload_n 1, 1) := by decide +kernel
theorem dX5_placeOf_18 : decode cX5_placeOf 18 = .ok (.invokevirtual 40, 3) := by decide +kernel
theorem dX5_placeOf_21 : decode cX5_placeOf 21 = .ok (.ifCond .eq 6, 3) := by decide +kernel
theorem dX5_placeOf_24 : decode cX5_placeOf 24 = .ok (.iinc 2 1, 3) := by decide +kernel
theorem dX5_placeOf_27 : decode cX5_placeOf 27 = .ok (.iinc 3 1, 3) := by decide +kernel
theorem dX5_placeOf_30 : decode cX5_placeOf 30 = .ok (.goto (-26), 3) := by decide +kernel
theorem dX5_placeOf_33 : decode cX5_placeOf 33 = .ok (.iload_n 2, 1) := by decide +kernel
theorem dX5_placeOf_34 : decode cX5_placeOf 34 = .ok (.ireturn, 1) := by decide +kernel
theorem dX5_isAhead_0 : decode cX5_isAhead 0 = .ok (.iload_n 1, 1) := by decide +kernel
theorem dX5_isAhead_1 : decode cX5_isAhead 1 = .ok (.invokestatic 36, 3) := by decide +kernel
theorem dX5_isAhead_4 : decode cX5_isAhead 4 = .ok (.ifCond .eq 10, 3) := by decide +kernel
theorem dX5_isAhead_7 : decode cX5_isAhead 7 = .ok (.iload_n 2, 1) := by decide +kernel
theorem dX5_isAhead_8 : decode cX5_isAhead 8 = .ok (.invokestatic 36, 3) := by decide +kernel
theorem dX5_isAhead_11 : decode cX5_isAhead 11 = .ok (.ifCond .ne 5, 3) := by decide +kernel
theorem dX5_isAhead_14 : decode cX5_isAhead 14 = .ok (.iconst 0, 1) := by decide +kernel
theorem dX5_isAhead_15 : decode cX5_isAhead 15 = .ok (.ireturn, 1) := by decide +kernel
theorem dX5_isAhead_16 : decode cX5_isAhead 16 = .ok (.aload_n 0, 1) := by decide +kernel
theorem dX5_isAhead_17 : decode cX5_isAhead 17 = .ok (.getfield 9, 3) := by decide +kernel
theorem dX5_isAhead_20 : decode cX5_isAhead 20 = .ok (.iload_n 1, 1) := by decide +kernel
theorem dX5_isAhead_21 : decode cX5_isAhead 21 = .ok (.iaload, 1) := by decide +kernel
theorem dX5_isAhead_22 : decode cX5_isAhead 22 = .ok (.aload_n 0, 1) := by decide +kernel
theorem dX5_isAhead_23 : decode cX5_isAhead 23 = .ok (.getfield 9, 3) := by decide +kernel
theorem dX5_isAhead_26 : decode cX5_isAhead 26 = .ok (.iload_n 2, 1) := by decide +kernel
theorem dX5_isAhead_27 : decode cX5_isAhead 27 = .ok (.iaload, 1) := by decide +kernel
theorem dX5_isAhead_28 : decode cX5_isAhead 28 = .ok (.if_icmp .eq 24, 3) := by decide +kernel
theorem dX5_isAhead_31 : decode cX5_isAhead 31 = .ok (.aload_n 0, 1) := by decide +kernel
theorem dX5_isAhead_32 : decode cX5_isAhead 32 = .ok (.getfield 9, 3) := by decide +kernel
theorem dX5_isAhead_35 : decode cX5_isAhead 35 = .ok (.iload_n 1, 1) := by decide +kernel
theorem dX5_isAhead_36 : decode cX5_isAhead 36 = .ok (.iaload, 1) := by decide +kernel
theorem dX5_isAhead_37 : decode cX5_isAhead 37 = .ok (.aload_n 0, 1) := by decide +kernel
theorem dX5_isAhead_38 : decode cX5_isAhead 38 = .ok (.getfield 9, 3) := by decide +kernel
theorem dX5_isAhead_41 : decode cX5_isAhead 41 = .ok (.iload_n 2, 1) := by decide +kernel
theorem dX5_isAhead_42 : decode cX5_isAhead 42 = .ok (.iaload, 1) := by decide +kernel
theorem dX5_isAhead_43 : decode cX5_isAhead 43 = .ok (.if_icmp .le 7, 3) := by decide +kernel
theorem dX5_isAhead_46 : decode cX5_isAhead 46 = .ok (.iconst 1, 1) := by decide +kernel
theorem dX5_isAhead_47 : decode cX5_isAhead 47 = .ok (.goto 4, 3) := by decide +kernel
theorem dX5_isAhead_50 : decode cX5_isAhead 50 = .ok (.iconst 0, 1) := by decide +kernel
theorem dX5_isAhead_51 : decode cX5_isAhead 51 = .ok (.ireturn, 1) := by decide +kernel
theorem dX5_isAhead_52 : decode cX5_isAhead 52 = .ok (.aload_n 0, 1) := by decide +kernel
theorem dX5_isAhead_53 : decode cX5_isAhead 53 = .ok (.getfield 18, 3) := by decide +kernel
theorem dX5_isAhead_56 : decode cX5_isAhead 56 = .ok (.iload_n 1, 1) := by decide +kernel
theorem dX5_isAhead_57 : decode cX5_isAhead 57 = .ok (.iaload, 1) := by decide +kernel
theorem dX5_isAhead_58 : decode cX5_isAhead 58 = .ok (.aload_n 0, 1) := by decide +kernel
theorem dX5_isAhead_59 : decode cX5_isAhead 59 = .ok (.getfield 21, 3) := by decide +kernel
theorem dX5_isAhead_62 : decode cX5_isAhead 62 = .ok (.iload_n 1, 1) := by decide +kernel
theorem dX5_isAhead_63 : decode cX5_isAhead 63 = .ok (.iaload, 1) := by decide +kernel
theorem dX5_isAhead_64 : decode cX5_isAhead 64 = .ok (.isub, 1) := by decide +kernel
theorem dX5_isAhead_65 : decode cX5_isAhead 65 = .ok (.istore_n 3, 1) := by decide +kernel
theorem dX5_isAhead_66 : decode cX5_isAhead 66 = .ok (.aload_n 0, 1) := by decide +kernel
theorem dX5_isAhead_67 : decode cX5_isAhead 67 = .ok (.getfield 18, 3) := by decide +kernel
theorem dX5_isAhead_70 : decode cX5_isAhead 70 = .ok (.iload_n 2, 1) := by decide +kernel
theorem dX5_isAhead_71 : decode cX5_isAhead 71 = .ok (.iaload, 1) := by decide +kernel
theorem dX5_isAhead_72 : decode cX5_isAhead 72 = .ok (.aload_n 0, 1) := by decide +kernel
theorem dX5_isAhead_73 : decode cX5_isAhead 73 = .ok (.getfield 21, 3) := by decide +kernel
theorem dX5_isAhead_76 : decode cX5_isAhead 76 = .ok (.iload_n 2, 1) := by decide +kernel
theorem dX5_isAhead_77 : decode cX5_isAhead 77 = .ok (.iaload, 1) := by decide +kernel
theorem dX5_isAhead_78 : decode cX5_isAhead 78 = .ok (.isub, 1) := by decide +kernel
theorem dX5_isAhead_79 : decode cX5_isAhead 79 = .ok (.istore 4, 2) := by decide +kernel
theorem dX5_isAhead_81 : decode cX5_isAhead 81 = .ok (.iload_n 3, 1) := by decide +kernel
theorem dX5_isAhead_82 : decode cX5_isAhead 82 = .ok (.iload 4, 2) := by decide +kernel
theorem dX5_isAhead_84 : decode cX5_isAhead 84 = .ok (.if_icmp .eq 15, 3) := by decide +kernel
theorem dX5_isAhead_87 : decode cX5_isAhead 87 = .ok (.iload_n 3, 1) := by decide +kernel
theorem dX5_isAhead_88 : decode cX5_isAhead 88 = .ok (.iload 4, 2) := by decide +kernel
theorem dX5_isAhead_90 : decode cX5_isAhead 90 = .ok (.if_icmp .le 7, 3) := by decide +kernel
theorem dX5_isAhead_93 : decode cX5_isAhead 93 = .ok (.iconst 1, 1) := by decide +kernel
theorem dX5_isAhead_94 : decode cX5_isAhead 94 = .ok (.goto 4, 3) := by decide +kernel
theorem dX5_isAhead_97 : decode cX5_isAhead 97 = .ok (.iconst 0, 1) := by decide +kernel
theorem dX5_isAhead_98 : decode cX5_isAhead 98 = .ok (.ireturn, 1) := by decide +kernel
theorem dX5_isAhead_99 : decode cX5_isAhead 99 = .ok (.aload_n 0, 1) := by decide +kernel
theorem dX5_isAhead_100 : decode cX5_isAhead 100 = .ok (.getfield 18, 3) := by decide +kernel
theorem dX5_isAhead_103 : decode cX5_isAhead 103 = .ok (.iload_n 1, 1) := by decide +kernel
theorem dX5_isAhead_104 : decode cX5_isAhead 104 = .ok (.iaload, 1) := by decide +kernel
theorem dX5_isAhead_105 : decode cX5_isAhead 105 = .ok (.aload_n 0, 1) := by decide +kernel
theorem dX5_isAhead_106 : decode cX5_isAhead 106 = .ok (.getfield 18, 3) := by decide +kernel
theorem dX5_isAhead_109 : decode cX5_isAhead 109 = .ok (.iload_n 2, 1) := by decide +kernel
theorem dX5_isAhead_110 : decode cX5_isAhead 110 = .ok (.iaload, 1) := by decide +kernel
theorem dX5_isAhead_111 : decode cX5_isAhead 111 = .ok (.if_icmp .eq 26, 3) := by decide +kernel
theorem dX5_isAhead_114 : decode cX5_isAhead 114 = .ok (.aload_n 0, 1) := by decide +kernel
theorem dX5_isAhead_115 : decode cX5_isAhead 115 = .ok (.getfield 18, 3) := by decide +kernel
theorem dX5_isAhead_118 : decode cX5_isAhead 118 = .ok (.iload_n 1, 1) := by decide +kernel
theorem dX5_isAhead_119 : decode cX5_isAhead 119 = .ok (.iaload, 1) := by decide +kernel
theorem dX5_isAhead_120 : decode cX5_isAhead 120 = .ok (.aload_n 0, 1) := by decide +kernel
theorem dX5_isAhead_121 : decode cX5_isAhead 121 = .ok (.getfield 18, 3) := by decide +kernel
theorem dX5_isAhead_124 : decode cX5_isAhead 124 = .ok (.iload_n 2, 1) := by decide +kernel
theorem dX5_isAhead_125 : decode cX5_isAhead 125 = .ok (.iaload, 1) := by decide +kernel
theorem dX5_isAhead_126 : decode cX5_isAhead 126 = .ok (.if_icmp .le 7, 3) := by decide +kernel
theorem dX5_isAhead_129 : decode cX5_isAhead 129 = .ok (.iconst 1, 1) := by decide +kernel
theorem dX5_isAhead_130 : decode cX5_isAhead 130 = .ok (.goto 17, 3) := by decide +kernel
theorem dX5_isAhead_133 : decode cX5_isAhead 133 = .ok (.iconst 0, 1) := by decide +kernel
theorem dX5_isAhead_134 : decode cX5_isAhead 134 = .ok (.goto 13, 3) := by decide +kernel
theorem dX5_isAhead_137 : decode cX5_isAhead 137 = .ok (.iload_n 1, 1) := by decide +kernel
theorem dX5_isAhead_138 : decode cX5_isAhead 138 = .ok (.iload_n 2, 1) := by decide +kernel
theorem dX5_isAhead_139 : decode cX5_isAhead 139 = .ok (.if_icmp .ge 7, 3) := by decide +kernel
theorem dX5_isAhead_142 : decode cX5_isAhead 142 = .ok (.iconst 1, 1) := by decide +kernel
theorem dX5_isAhead_143 : decode cX5_isAhead 143 = .ok (.goto 4, 3) := by decide +kernel
theorem dX5_isAhead_146 : decode cX5_isAhead 146 = .ok (.iconst 0, 1) := by decide +kernel
theorem dX5_isAhead_147 : decode cX5_isAhead 147 = .ok (.ireturn, 1) := by decide +kernel
theorem dX6_init_0 : decode cX6_init 0 = .ok (.aload_n 0, 1) := by decide +kernel
theorem dX6_init_1 : decode cX6_init 1 = .ok (.invokespecial 3, 3) := by decide +kernel
theorem dX6_init_4 : decode cX6_init 4 = .ok (.aload_n 0, 1) := by decide +kernel
theorem dX6_init_5 : decode cX6_init 5 = .ok (.iconst 0, 1) := by decide +kernel
theorem dX6_init_6 : decode cX6_init 6 = .ok (.putfield 9, 3) := by decide +kernel
theorem dX6_init_9 : decode cX6_init 9 = .ok (.aload_n 0, 1) := by decide +kernel
theorem dX6_init_10 : decode cX6_init 10 = .ok (.aload_n 1, 1) := by decide +kernel
theorem dX6_init_11 : decode cX6_init 11 = .ok (.putfield 15, 3) := by decide +kernel
theorem dX6_init_14 : decode cX6_init 14 = .ok (.aload_n 0, 1) := by decide +kernel
theorem dX6_init_15 : decode cX6_init 15 = .ok (.bipush 120, 2) := by decide +kernel
theorem dX6_init_17 : decode cX6_init 17 = .ok (.anewarray 19, 3) := by decide +kernel
theorem dX6_init_20 : decode cX6_init 20 = .ok (.putfield 21, 3) := by decide +kernel
theorem dX6_init_23 : decode cX6_init 23 = .ok (.iconst 0, 1) := by decide +kernel
theorem dX6_init_24 : decode cX6_init 24 = .ok (.istore_n 2, 1) := by decide +kernel
theorem dX6_init_25 : decode cX6_init 25 = .ok (.iload_n 2, 1) := by decide +kernel
theorem dX6_init_26 : decode cX6_init 26 = .ok (.bipush 120, 2) := by decide +kernel
theorem dX6_init_28 : decode cX6_init 28 = .ok (.if_icmp .ge 22, 3) := by decide +kernel
theorem dX6_init_31 : decode cX6_init 31 = .ok (.aload_n 0, 1) := by decide +kernel
theorem dX6_init_32 : decode cX6_init 32 = .ok (.getfield 21, 3) := by decide +kernel
theorem dX6_init_35 : decode cX6_init 35 = .ok (.iload_n 2, 1) := by decide +kernel
theorem dX6_init_36 : decode cX6_init 36 = .ok (.new 19, 3) := by decide +kernel
theorem dX6_init_39 : decode cX6_init 39 = .ok (.dup, 1) := by decide +kernel
theorem dX6_init_40 : decode cX6_init 40 = .ok (.invokespecial 25, 3) := by decide +kernel
theorem dX6_init_43 : decode cX6_init 43 = .ok (.aastore, 1) := by decide +kernel
theorem dX6_init_44 : decode cX6_init 44 = .ok (.iinc 2 1, 3) := by decide +kernel
theorem dX6_init_47 : decode cX6_init 47 = .ok (.goto (-22), 3) := by decide +kernel
theorem dX6_init_50 : decode cX6_init 50 = .ok (.aload_n 0, 1) := by decide +kernel
theorem dX6_init_51 : decode cX6_init 51 = .ok (.iconst 2, 1) := by decide +kernel
theorem dX6_init_52 : decode cX6_init 52 = .ok (.newarray .int, 2) := by decide +kernel
theorem dX6_init_54 : decode cX6_init 54 = .ok (.putfield 26, 3) := by decide +kernel
theorem dX6_init_57 : decode cX6_init 57 = .ok (.return_, 1) := by decide +kernel
theorem dX6_start_0 : decode cX6_start 0 = .ok (.aload_n 0, 1) := by decide +kernel
theorem dX6_start_1 : decode cX6_start 1 = .ok (.aload_n 1, 1) := by decide +kernel
theorem dX6_start_2 : decode cX6_start 2 = .ok (.putfield 15, 3) := by decide +kernel
theorem dX6_start_5 : decode cX6_start 5 = .ok (.aload_n 0, 1) := by decide +kernel
theorem dX6_start_6 : decode cX6_start 6 = .ok (.iconst 1, 1) := by decide +kernel
theorem dX6_start_7 : decode cX6_start 7 = .ok (.putfield 9, 3) := by decide +kernel
theorem dX6_start_10 : decode cX6_start 10 = .ok (.aload_n 0, 1) := by decide +kernel
theorem dX6_start_11 : decode cX6_start 11 = .ok (.iconst 0, 1) := by decide +kernel
theorem dX6_start_12 : decode cX6_start 12 = .ok (.putfield 30, 3) := by decide +kernel
theorem dX6_start_15 : decode cX6_start 15 = .ok (.aload_n 0, 1) := by decide +kernel
theorem dX6_start_16 : decode cX6_start 16 = .ok (.invokevirtual 34, 3) := by decide +kernel
theorem dX6_start_19 : decode cX6_start 19 = .ok (.return_, 1) := by decide +kernel
theorem dX6_drop_0 : decode cX6_drop 0 = .ok (.aload_n 0, 1) := by decide +kernel
theorem dX6_drop_1 : decode cX6_drop 1 = .ok (.iconst 0, 1) := by decide +kernel
theorem dX6_drop_2 : decode cX6_drop 2 = .ok (.putfield 9, 3) := by decide +kernel
theorem dX6_drop_5 : decode cX6_drop 5 = .ok (.aload_n 0, 1) := by decide +kernel
theorem dX6_drop_6 : decode cX6_drop 6 = .ok (.iconst 0, 1) := by decide +kernel
theorem dX6_drop_7 : decode cX6_drop 7 = .ok (.putfield 30, 3) := by decide +kernel
theorem dX6_drop_10 : decode cX6_drop 10 = .ok (.return_, 1) := by decide +kernel
theorem dX6_isOver_0 : decode cX6_isOver 0 = .ok (.aload_n 0, 1) := by decide +kernel
theorem dX6_isOver_1 : decode cX6_isOver 1 = .ok (.getfield 37, 3) := by decide +kernel
theorem dX6_isOver_4 : decode cX6_isOver 4 = .ok (.aload_n 0, 1) := by decide +kernel
theorem dX6_isOver_5 : decode cX6_isOver 5 = .ok (.getfield 15, 3) := by decide +kernel
theorem dX6_isOver_8 : decode cX6_isOver 8 = .ok (.getfield 40, 3) := by decide +kernel
theorem dX6_isOver_11 : decode cX6_isOver 11 = .ok (.if_icmp .lt 7, 3) := by decide +kernel
theorem dX6_isOver_14 : decode cX6_isOver 14 = .ok (.iconst 1, 1) := by decide +kernel
theorem dX6_isOver_15 : decode cX6_isOver 15 = .ok (.goto 4, 3) := by decide +kernel
theorem dX6_isOver_18 : decode cX6_isOver 18 = .ok (.iconst 0, 1) := by decide +kernel
theorem dX6_isOver_19 : decode cX6_isOver 19 = .ok (.ireturn, 1) := by decide +kernel
theorem dX6_mayCome_0 : decode cX6_mayCome 0 = .ok (.aload_n 0, 1) := by decide +kernel
theorem dX6_mayCome_1 : decode cX6_mayCome 1 = .ok (.getfield 9, 3) := by decide +kernel
theorem dX6_mayCome_4 : decode cX6_mayCome 4 = .ok (.ifCond .eq 19, 3) := by decide +kernel
theorem dX6_mayCome_7 : decode cX6_mayCome 7 = .ok (.aload_n 0, 1) := by decide +kernel
theorem dX6_mayCome_8 : decode cX6_mayCome 8 = .ok (.invokevirtual 45, 3) := by decide +kernel
theorem dX6_mayCome_11 : decode cX6_mayCome 11 = .ok (.ifCond .ne 12, 3) := by decide +kernel
theorem dX6_mayCome_14 : decode cX6_mayCome 14 = .ok (.aload_n 0, 1) := by decide +kernel
theorem dX6_mayCome_15 : decode cX6_mayCome 15 = .ok (.getfield 30, 3) := by decide +kernel
theorem dX6_mayCome_18 : decode cX6_mayCome 18 = .ok (.bipush 120, 2) := by decide +kernel
theorem dX6_mayCome_20 : decode cX6_mayCome 20 = .ok (.if_icmp .lt 5, 3) := by decide +kernel
theorem dX6_mayCome_23 : decode cX6_mayCome 23 = .ok (.iconst 0, 1) := by decide +kernel
theorem dX6_mayCome_24 : decode cX6_mayCome 24 = .ok (.ireturn, 1) := by decide +kernel
theorem dX6_mayCome_25 : decode cX6_mayCome 25 = .ok (.iload_n 1, 1) := by decide +kernel
theorem dX6_mayCome_26 : decode cX6_mayCome 26 = .ok (.iconst 2, 1) := by decide +kernel
theorem dX6_mayCome_27 : decode cX6_mayCome 27 = .ok (.if_icmp .ne 8, 3) := by decide +kernel
theorem dX6_mayCome_30 : decode cX6_mayCome 30 = .ok (.aload_n 0, 1) := by decide +kernel
theorem dX6_mayCome_31 : decode cX6_mayCome 31 = .ok (.invokevirtual 49, 3) := by decide +kernel
theorem dX6_mayCome_34 : decode cX6_mayCome 34 = .ok (.ireturn, 1) := by decide +kernel
theorem dX6_mayCome_35 : decode cX6_mayCome 35 = .ok (.iload_n 1, 1) := by decide +kernel
theorem dX6_mayCome_36 : decode cX6_mayCome 36 = .ok (.ifCond .eq 10, 3) := by decide +kernel
theorem dX6_mayCome_39 : decode cX6_mayCome 39 = .ok (.aload_n 0, 1) := by decide +kernel
theorem dX6_mayCome_40 : decode cX6_mayCome 40 = .ok (.invokevirtual 49, 3) := by decide +kernel
theorem dX6_mayCome_43 : decode cX6_mayCome 43 = .ok (.ifCond .ne 7, 3) := by decide +kernel
theorem dX6_mayCome_46 : decode cX6_mayCome 46 = .ok (.iconst 1, 1) := by decide +kernel
theorem dX6_mayCome_47 : decode cX6_mayCome 47 = .ok (.goto 4, 3) := by decide +kernel
theorem dX6_mayCome_50 : decode cX6_mayCome 50 = .ok (.iconst 0, 1) := by decide +kernel
theorem dX6_mayCome_51 : decode cX6_mayCome 51 = .ok (.istore_n 3, 1) := by decide +kernel
theorem dX6_mayCome_52 : decode cX6_mayCome 52 = .ok (.iload_n 3, 1) := by decide +kernel
theorem dX6_mayCome_53 : decode cX6_mayCome 53 = .ok (.ifCond .eq 24, 3) := by decide +kernel
theorem dX6_mayCome_56 : decode cX6_mayCome 56 = .ok (.iload_n 2, 1) := by decide +kernel
theorem dX6_mayCome_57 : decode cX6_mayCome 57 = .ok (.ifCond .eq 8, 3) := by decide +kernel
theorem dX6_mayCome_60 : decode cX6_mayCome 60 = .ok (.iload_n 2, 1) := by decide +kernel
theorem dX6_mayCome_61 : decode cX6_mayCome 61 = .ok (.iconst 1, 1) := by decide +kernel
theorem dX6_mayCome_62 : decode cX6_mayCome 62 = .ok (.if_icmp .ne 15, 3) := by decide +kernel
theorem dX6_mayCome_65 : decode cX6_mayCome 65 = .ok (.aload_n 0, 1) := by decide +kernel
theorem dX6_mayCome_66 : decode cX6_mayCome 66 = .ok (.iload_n 2, 1) := by decide +kernel
theorem dX6_mayCome_67 : decode cX6_mayCome 67 = .ok (.invokevirtual 52, 3) := by decide +kernel
theorem dX6_mayCome_70 : decode cX6_mayCome 70 = .ok (.ifCond .eq 7, 3) := by decide +kernel
theorem dX6_mayCome_73 : decode cX6_mayCome 73 = .ok (.iconst 1, 1) := by decide +kernel
theorem dX6_mayCome_74 : decode cX6_mayCome 74 = .ok (.goto 4, 3) := by decide +kernel
theorem dX6_mayCome_77 : decode cX6_mayCome 77 = .ok (.iconst 0, 1) := by decide +kernel
theorem dX6_mayCome_78 : decode cX6_mayCome 78 = .ok (.ireturn, 1) := by decide +kernel
theorem dX6_add_0 : decode cX6_add 0 = .ok (.aload_n 0, 1) := by decide +kernel
theorem dX6_add_1 : decode cX6_add 1 = .ok (.getfield 30, 3) := by decide +kernel
theorem dX6_add_4 : decode cX6_add 4 = .ok (.bipush 120, 2) := by decide +kernel
theorem dX6_add_6 : decode cX6_add 6 = .ok (.if_icmp .lt 4, 3) := by decide +kernel
theorem dX6_add_9 : decode cX6_add 9 = .ok (.return_, 1) := by decide +kernel
theorem dX6_add_10 : decode cX6_add 10 = .ok (.aload_n 0, 1) := by decide +kernel
theorem dX6_add_11 : decode cX6_add 11 = .ok (.getfield 21, 3) := by decide +kernel
theorem dX6_add_14 : decode cX6_add 14 = .ok (.aload_n 0, 1) := by decide +kernel
theorem dX6_add_15 : decode cX6_add 15 = .ok (.getfield 30, 3) := by decide +kernel
theorem dX6_add_18 : decode cX6_add 18 = .ok (.aaload, 1) := by decide +kernel
theorem dX6_add_19 : decode cX6_add 19 = .ok (.astore 4, 2) := by decide +kernel
theorem dX6_add_21 : decode cX6_add 21 = .ok (.aload 4, 2) := by decide +kernel
theorem dX6_add_23 : decode cX6_add 23 = .ok (.aload_n 0, 1) := by decide +kernel
theorem dX6_add_24 : decode cX6_add 24 = .ok (.getfield 37, 3) := by decide +kernel
theorem dX6_add_27 : decode cX6_add 27 = .ok (.putfield 56, 3) := by decide +kernel
theorem dX6_add_30 : decode cX6_add 30 = .ok (.aload 4, 2) := by decide +kernel
theorem dX6_add_32 : decode cX6_add 32 = .ok (.iload_n 1, 1) := by decide +kernel
theorem dX6_add_33 : decode cX6_add 33 = .ok (.putfield 59, 3) := by decide +kernel
theorem dX6_add_36 : decode cX6_add 36 = .ok (.aload 4, 2) := by decide +kernel
theorem dX6_add_38 : decode cX6_add 38 = .ok (.iload_n 2, 1) := by decide +kernel
theorem dX6_add_39 : decode cX6_add 39 = .ok (.putfield 62, 3) := by decide +kernel
theorem dX6_add_42 : decode cX6_add 42 = .ok (.aload 4, 2) := by decide +kernel
theorem dX6_add_44 : decode cX6_add 44 = .ok (.iload_n 3, 1) := by decide +kernel
theorem dX6_add_45 : decode cX6_add 45 = .ok (.putfield 65, 3) := by decide +kernel
theorem dX6_add_48 : decode cX6_add 48 = .ok (.aload_n 0, 1) := by decide +kernel
theorem dX6_add_49 : decode cX6_add 49 = .ok (.dup, 1) := by decide +kernel
theorem dX6_add_50 : decode cX6_add 50 = .ok (.getfield 30, 3) := by decide +kernel
theorem dX6_add_53 : decode cX6_add 53 = .ok (.iconst 1, 1) := by decide +kernel
theorem dX6_add_54 : decode cX6_add 54 = .ok (.iadd, 1) := by decide +kernel
theorem dX6_add_55 : decode cX6_add 55 = .ok (.putfield 30, 3) := by decide +kernel
theorem dX6_add_58 : decode cX6_add 58 = .ok (.aload_n 0, 1) := by decide +kernel
theorem dX6_add_59 : decode cX6_add 59 = .ok (.aload 4, 2) := by decide +kernel
theorem dX6_add_61 : decode cX6_add 61 = .ok (.invokevirtual 68, 3) := by decide +kernel
theorem dX6_add_64 : decode cX6_add 64 = .ok (.return_, 1) := by decide +kernel
theorem dX6_overrule_0 : decode cX6_overrule 0 = .ok (.aload_n 0, 1) := by decide +kernel
theorem dX6_overrule_1 : decode cX6_overrule 1 = .ok (.iload_n 1, 1) := by decide +kernel
theorem dX6_overrule_2 : decode cX6_overrule 2 = .ok (.invokevirtual 72, 3) := by decide +kernel
theorem dX6_overrule_5 : decode cX6_overrule 5 = .ok (.astore_n 3, 1) := by decide +kernel
theorem dX6_overrule_6 : decode cX6_overrule 6 = .ok (.aload_n 3, 1) := by decide +kernel
theorem dX6_overrule_7 : decode cX6_overrule 7 = .ok (.ifnull 18, 3) := by decide +kernel
theorem dX6_overrule_10 : decode cX6_overrule 10 = .ok (.aload_n 3, 1) := by decide +kernel
theorem dX6_overrule_11 : decode cX6_overrule 11 = .ok (.getfield 59, 3) := by decide +kernel
theorem dX6_overrule_14 : decode cX6_overrule 14 = .ok (.ifCond .ne 11, 3) := by decide +kernel
theorem dX6_overrule_17 : decode cX6_overrule 17 = .ok (.aload_n 3, 1) := by decide +kernel
theorem dX6_overrule_18 : decode cX6_overrule 18 = .ok (.getfield 65, 3) := by decide +kernel
theorem dX6_overrule_21 : decode cX6_overrule 21 = .ok (.iload_n 2, 1) := by decide +kernel
theorem dX6_overrule_22 : decode cX6_overrule 22 = .ok (.if_icmp .ne 5, 3) := by decide +kernel
theorem dX6_overrule_25 : decode cX6_overrule 25 = .ok (.iconst 0, 1) := by decide +kernel
theorem dX6_overrule_26 : decode cX6_overrule 26 = .ok (.ireturn, 1) := by decide +kernel
theorem dX6_overrule_27 : decode cX6_overrule 27 = .ok (.aload_n 3, 1) := by decide +kernel
theorem dX6_overrule_28 : decode cX6_overrule 28 = .ok (.iload_n 2, 1) := by decide +kernel
theorem dX6_overrule_29 : decode cX6_overrule 29 = .ok (.putfield 65, 3) := by decide +kernel
theorem dX6_overrule_32 : decode cX6_overrule 32 = .ok (.aload_n 0, 1) := by decide +kernel
theorem dX6_overrule_33 : decode cX6_overrule 33 = .ok (.invokevirtual 34, 3) := by decide +kernel
theorem dX6_overrule_36 : decode cX6_overrule 36 = .ok (.iconst 1, 1) := by decide +kernel
theorem dX6_overrule_37 : decode cX6_overrule 37 = .ok (.ireturn, 1) := by decide +kernel
theorem dX6_takeBack_0 : decode cX6_takeBack 0 = .ok (.aload_n 0, 1) := by decide +kernel
theorem dX6_takeBack_1 : decode cX6_takeBack 1 = .ok (.getfield 30, 3) := by decide +kernel
theorem dX6_takeBack_4 : decode cX6_takeBack 4 = .ok (.iconst 1, 1) := by decide +kernel
theorem dX6_takeBack_5 : decode cX6_takeBack 5 = .ok (.if_icmp .ge 5, 3) := by decide +kernel
theorem dX6_takeBack_8 : decode cX6_takeBack 8 = .ok (.iconst 0, 1) := by decide +kernel
theorem dX6_takeBack_9 : decode cX6_takeBack 9 = .ok (.ireturn, 1) := by decide +kernel
theorem dX6_takeBack_10 : decode cX6_takeBack 10 = .ok (.aload_n 0, 1) := by decide +kernel
theorem dX6_takeBack_11 : decode cX6_takeBack 11 = .ok (.dup, 1) := by decide +kernel
theorem dX6_takeBack_12 : decode cX6_takeBack 12 = .ok (.getfield 30, 3) := by decide +kernel
theorem dX6_takeBack_15 : decode cX6_takeBack 15 = .ok (.iconst 1, 1) := by decide +kernel
theorem dX6_takeBack_16 : decode cX6_takeBack 16 = .ok (.isub, 1) := by decide +kernel
theorem dX6_takeBack_17 : decode cX6_takeBack 17 = .ok (.putfield 30, 3) := by decide +kernel
theorem dX6_takeBack_20 : decode cX6_takeBack 20 = .ok (.aload_n 0, 1) := by decide +kernel
theorem dX6_takeBack_21 : decode cX6_takeBack 21 = .ok (.invokevirtual 34, 3) := by decide +kernel
theorem dX6_takeBack_24 : decode cX6_takeBack 24 = .ok (.iconst 1, 1) := by decide +kernel
theorem dX6_takeBack_25 : decode cX6_takeBack 25 = .ok (.ireturn, 1) := by decide +kernel
theorem dX6_eventAt_0 : decode cX6_eventAt 0 = .ok (.iload_n 1, 1) := by decide +kernel
theorem dX6_eventAt_1 : decode cX6_eventAt 1 = .ok (.ifCond .lt 26, 3) := by decide +kernel
theorem dX6_eventAt_4 : decode cX6_eventAt 4 = .ok (.iload_n 1, 1) := by decide +kernel
theorem dX6_eventAt_5 : decode cX6_eventAt 5 = .ok (.aload_n 0, 1) := by decide +kernel
theorem dX6_eventAt_6 : decode cX6_eventAt 6 = .ok (.getfield 30, 3) := by decide +kernel
theorem dX6_eventAt_9 : decode cX6_eventAt 9 = .ok (.if_icmp .ge 18, 3) := by decide +kernel
theorem dX6_eventAt_12 : decode cX6_eventAt 12 = .ok (.iload_n 1, 1) := by decide +kernel
theorem dX6_eventAt_13 : decode cX6_eventAt 13 = .ok (.bipush 120, 2) := by decide +kernel
theorem dX6_eventAt_15 : decode cX6_eventAt 15 = .ok (.if_icmp .ge 12, 3) := by decide +kernel
theorem dX6_eventAt_18 : decode cX6_eventAt 18 = .ok (.aload_n 0, 1) := by decide +kernel
theorem dX6_eventAt_19 : decode cX6_eventAt 19 = .ok (.getfield 21, 3) := by decide +kernel
theorem dX6_eventAt_22 : decode cX6_eventAt 22 = .ok (.iload_n 1, 1) := by decide +kernel
theorem dX6_eventAt_23 : decode cX6_eventAt 23 = .ok (.aaload, 1) := by decide +kernel
theorem dX6_eventAt_24 : decode cX6_eventAt 24 = .ok (.goto 4, 3) := by decide +kernel
theorem dX6_eventAt_27 : decode cX6_eventAt 27 = .ok (.aconst_null, 1) := by decide +kernel
theorem dX6_eventAt_28 : decode cX6_eventAt 28 = .ok (.areturn, 1) := by decide +kernel
theorem dX6_pointsOf_0 : decode cX6_pointsOf 0 = .ok (.iload_n 1, 1) := by decide +kernel
theorem dX6_pointsOf_1 : decode cX6_pointsOf 1 = .ok (.ifCond .eq 8, 3) := by decide +kernel
theorem dX6_pointsOf_4 : decode cX6_pointsOf 4 = .ok (.iload_n 1, 1) := by decide +kernel
theorem dX6_pointsOf_5 : decode cX6_pointsOf 5 = .ok (.iconst 1, 1) := by decide +kernel
theorem dX6_pointsOf_6 : decode cX6_pointsOf 6 = .ok (.if_icmp .ne 12, 3) := by decide +kernel
theorem dX6_pointsOf_9 : decode cX6_pointsOf 9 = .ok (.aload_n 0, 1) := by decide +kernel
theorem dX6_pointsOf_10 : decode cX6_pointsOf 10 = .ok (.getfield 26, 3) := by decide +kernel
theorem dX6_pointsOf_13 : decode cX6_pointsOf 13 = .ok (.iload_n 1, 1) := by decide +kernel
theorem dX6_pointsOf_14 : decode cX6_pointsOf 14 = .ok (.iaload, 1) := by decide +kernel
theorem dX6_pointsOf_15 : decode cX6_pointsOf 15 = .ok (.goto 4, 3) := by decide +kernel
theorem dX6_pointsOf_18 : decode cX6_pointsOf 18 = .ok (.iconst 0, 1) := by decide +kernel
theorem dX6_pointsOf_19 : decode cX6_pointsOf 19 = .ok (.ireturn, 1) := by decide +kernel
theorem dX6_isKnown_0 : decode cX6_isKnown 0 = .ok (.iconst 0, 1) := by decide +kernel
theorem dX6_isKnown_1 : decode cX6_isKnown 1 = .ok (.istore_n 2, 1) := by decide +kernel
theorem dX6_isKnown_2 : decode cX6_isKnown 2 = .ok (.iload_n 2, 1) := by decide +kernel
theorem dX6_isKnown_3 : decode cX6_isKnown 3 = .ok (.aload_n 0, 1) := by decide +kernel
theorem dX6_isKnown_4 : decode cX6_isKnown 4 = .ok (.getfield 30, 3) := by decide +kernel
theorem dX6_isKnown_7 : decode cX6_isKnown 7 = .ok (.if_icmp .ge 54, 3) := by decide +kernel
theorem dX6_isKnown_10 : decode cX6_isKnown 10 = .ok (.iload_n 2, 1) := by decide +kernel
theorem dX6_isKnown_11 : decode cX6_isKnown 11 = .ok (.bipush 120, 2) := by decide +kernel
theorem dX6_isKnown_13 : decode cX6_isKnown 13 = .ok (.if_icmp .ge 48, 3) := by decide +kernel
theorem dX6_isKnown_16 : decode cX6_isKnown 16 = .ok (.aload_n 0, 1) := by decide +kernel
theorem dX6_isKnown_17 : decode cX6_isKnown 17 = .ok (.getfield 21, 3) := by decide +kernel
theorem dX6_isKnown_20 : decode cX6_isKnown 20 = .ok (.iload_n 2, 1) := by decide +kernel
theorem dX6_isKnown_21 : decode cX6_isKnown 21 = .ok (.aaload, 1) := by decide +kernel
theorem dX6_isKnown_22 : decode cX6_isKnown 22 = .ok (.getfield 56, 3) := by decide +kernel
theorem dX6_isKnown_25 : decode cX6_isKnown 25 = .ok (.iload_n 1, 1) := by decide +kernel
theorem dX6_isKnown_26 : decode cX6_isKnown 26 = .ok (.if_icmp .ne 29, 3) := by decide +kernel
theorem dX6_isKnown_29 : decode cX6_isKnown 29 = .ok (.aload_n 0, 1) := by decide +kernel
theorem dX6_isKnown_30 : decode cX6_isKnown 30 = .ok (.getfield 21, 3) := by decide +kernel
theorem dX6_isKnown_33 : decode cX6_isKnown 33 = .ok (.iload_n 2, 1) := by decide +kernel
theorem dX6_isKnown_34 : decode cX6_isKnown 34 = .ok (.aaload, 1) := by decide +kernel
theorem dX6_isKnown_35 : decode cX6_isKnown 35 = .ok (.getfield 65, 3) := by decide +kernel
theorem dX6_isKnown_38 : decode cX6_isKnown 38 = .ok (.ifCond .eq 17, 3) := by decide +kernel
theorem dX6_isKnown_41 : decode cX6_isKnown 41 = .ok (.aload_n 0, 1) := by decide +kernel
theorem dX6_isKnown_42 : decode cX6_isKnown 42 = .ok (.getfield 21, 3) := by decide +kernel
theorem dX6_isKnown_45 : decode cX6_isKnown 45 = .ok (.iload_n 2, 1) := by decide +kernel
theorem dX6_isKnown_46 : decode cX6_isKnown 46 = .ok (.aaload, 1) := by decide +kernel
theorem dX6_isKnown_47 : decode cX6_isKnown 47 = .ok (.getfield 76, 3) := by decide +kernel
theorem dX6_isKnown_50 : decode cX6_isKnown 50 = .ok (.ifCond .ne 5, 3) := by decide +kernel
theorem dX6_isKnown_53 : decode cX6_isKnown 53 = .ok (.iconst 1, 1) := by decide +kernel
theorem dX6_isKnown_54 : decode cX6_isKnown 54 = .ok (.ireturn, 1) := by decide +kernel
theorem dX6_isKnown_55 : decode cX6_isKnown 55 = .ok (.iinc 2 1, 3) := by decide +kernel
theorem dX6_isKnown_58 : decode cX6_isKnown 58 = .ok (.goto (-56), 3) := by decide +kernel
theorem dX6_isKnown_61 : decode cX6_isKnown 61 = .ok (.iconst 0, 1) := by decide +kernel
theorem dX6_isKnown_62 : decode cX6_isKnown 62 = .ok (.ireturn, 1) := by decide +kernel
theorem dX6_tell_0 : decode cX6_tell 0 = .ok (.iload_n 1, 1) := by decide +kernel
theorem dX6_tell_1 : decode cX6_tell 1 = .ok (.tableswitch 71 0 5 #[39, 44, 49, 55, 61, 66], 39) := by decide +kernel
theorem dX6_tell_40 : decode cX6_tell 40 = .ok (.aload_n 0, 1) := by decide +kernel
theorem dX6_tell_41 : decode cX6_tell 41 = .ok (.getfield 37, 3) := by decide +kernel
theorem dX6_tell_44 : decode cX6_tell 44 = .ok (.ireturn, 1) := by decide +kernel
theorem dX6_tell_45 : decode cX6_tell 45 = .ok (.aload_n 0, 1) := by decide +kernel
theorem dX6_tell_46 : decode cX6_tell 46 = .ok (.getfield 79, 3) := by decide +kernel
theorem dX6_tell_49 : decode cX6_tell 49 = .ok (.ireturn, 1) := by decide +kernel
theorem dX6_tell_50 : decode cX6_tell 50 = .ok (.aload_n 0, 1) := by decide +kernel
theorem dX6_tell_51 : decode cX6_tell 51 = .ok (.iconst 0, 1) := by decide +kernel
theorem dX6_tell_52 : decode cX6_tell 52 = .ok (.invokevirtual 82, 3) := by decide +kernel
theorem dX6_tell_55 : decode cX6_tell 55 = .ok (.ireturn, 1) := by decide +kernel
theorem dX6_tell_56 : decode cX6_tell 56 = .ok (.aload_n 0, 1) := by decide +kernel
theorem dX6_tell_57 : decode cX6_tell 57 = .ok (.iconst 1, 1) := by decide +kernel
theorem dX6_tell_58 : decode cX6_tell 58 = .ok (.invokevirtual 82, 3) := by decide +kernel
theorem dX6_tell_61 : decode cX6_tell 61 = .ok (.ireturn, 1) := by decide +kernel
theorem dX6_tell_62 : decode cX6_tell 62 = .ok (.aload_n 0, 1) := by decide +kernel
theorem dX6_tell_63 : decode cX6_tell 63 = .ok (.getfield 30, 3) := by decide +kernel
theorem dX6_tell_66 : decode cX6_tell 66 = .ok (.ireturn, 1) := by decide +kernel
theorem dX6_tell_67 : decode cX6_tell 67 = .ok (.aload_n 0, 1) := by decide +kernel
theorem dX6_tell_68 : decode cX6_tell 68 = .ok (.getfield 86, 3) := by decide +kernel
theorem dX6_tell_71 : decode cX6_tell 71 = .ok (.ireturn, 1) := by decide +kernel
theorem dX6_tell_72 : decode cX6_tell 72 = .ok (.iconst (-1), 1) := by decide +kernel
theorem dX6_tell_73 : decode cX6_tell 73 = .ok (.ireturn, 1) := by decide +kernel
theorem dX6_replay_0 : decode cX6_replay 0 = .ok (.aload_n 0, 1) := by decide +kernel
theorem dX6_replay_1 : decode cX6_replay 1 = .ok (.iconst 0, 1) := by decide +kernel
theorem dX6_replay_2 : decode cX6_replay 2 = .ok (.putfield 86, 3) := by decide +kernel
theorem dX6_replay_5 : decode cX6_replay 5 = .ok (.aload_n 0, 1) := by decide +kernel
theorem dX6_replay_6 : decode cX6_replay 6 = .ok (.getfield 26, 3) := by decide +kernel
theorem dX6_replay_9 : decode cX6_replay 9 = .ok (.iconst 0, 1) := by decide +kernel
theorem dX6_replay_10 : decode cX6_replay 10 = .ok (.iconst 0, 1) := by decide +kernel
theorem dX6_replay_11 : decode cX6_replay 11 = .ok (.iastore, 1) := by decide +kernel
theorem dX6_replay_12 : decode cX6_replay 12 = .ok (.aload_n 0, 1) := by decide +kernel
theorem dX6_replay_13 : decode cX6_replay 13 = .ok (.getfield 26, 3) := by decide +kernel
theorem dX6_replay_16 : decode cX6_replay 16 = .ok (.iconst 1, 1) := by decide +kernel
theorem dX6_replay_17 : decode cX6_replay 17 = .ok (.iconst 0, 1) := by decide +kernel
theorem dX6_replay_18 : decode cX6_replay 18 = .ok (.iastore, 1) := by decide +kernel
theorem dX6_replay_19 : decode cX6_replay 19 = .ok (.aload_n 0, 1) := by decide +kernel
theorem dX6_replay_20 : decode cX6_replay 20 = .ok (.iconst 0, 1) := by decide +kernel
theorem dX6_replay_21 : decode cX6_replay 21 = .ok (.invokevirtual 89, 3) := by decide +kernel
theorem dX6_replay_24 : decode cX6_replay 24 = .ok (.iconst 0, 1) := by decide +kernel
theorem dX6_replay_25 : decode cX6_replay 25 = .ok (.istore_n 1, 1) := by decide +kernel
theorem dX6_replay_26 : decode cX6_replay 26 = .ok (.iload_n 1, 1) := by decide +kernel
theorem dX6_replay_27 : decode cX6_replay 27 = .ok (.aload_n 0, 1) := by decide +kernel
theorem dX6_replay_28 : decode cX6_replay 28 = .ok (.getfield 30, 3) := by decide +kernel
theorem dX6_replay_31 : decode cX6_replay 31 = .ok (.if_icmp .ge 25, 3) := by decide +kernel
theorem dX6_replay_34 : decode cX6_replay 34 = .ok (.iload_n 1, 1) := by decide +kernel
theorem dX6_replay_35 : decode cX6_replay 35 = .ok (.bipush 120, 2) := by decide +kernel
theorem dX6_replay_37 : decode cX6_replay 37 = .ok (.if_icmp .ge 19, 3) := by decide +kernel
theorem dX6_replay_40 : decode cX6_replay 40 = .ok (.aload_n 0, 1) := by decide +kernel
theorem dX6_replay_41 : decode cX6_replay 41 = .ok (.aload_n 0, 1) := by decide +kernel
theorem dX6_replay_42 : decode cX6_replay 42 = .ok (.getfield 21, 3) := by decide +kernel
theorem dX6_replay_45 : decode cX6_replay 45 = .ok (.iload_n 1, 1) := by decide +kernel
theorem dX6_replay_46 : decode cX6_replay 46 = .ok (.aaload, 1) := by decide +kernel
theorem dX6_replay_47 : decode cX6_replay 47 = .ok (.invokevirtual 68, 3) := by decide +kernel
theorem dX6_replay_50 : decode cX6_replay 50 = .ok (.iinc 1 1, 3) := by decide +kernel
theorem dX6_replay_53 : decode cX6_replay 53 = .ok (.goto (-27), 3) := by decide +kernel
theorem dX6_replay_56 : decode cX6_replay 56 = .ok (.return_, 1) := by decide +kernel
theorem dX6_goTo_0 : decode cX6_goTo 0 = .ok (.aload_n 0, 1) := by decide +kernel
theorem dX6_goTo_1 : decode cX6_goTo 1 = .ok (.iload_n 1, 1) := by decide +kernel
theorem dX6_goTo_2 : decode cX6_goTo 2 = .ok (.putfield 37, 3) := by decide +kernel
theorem dX6_goTo_5 : decode cX6_goTo 5 = .ok (.aload_n 0, 1) := by decide +kernel
theorem dX6_goTo_6 : decode cX6_goTo 6 = .ok (.iconst 0, 1) := by decide +kernel
theorem dX6_goTo_7 : decode cX6_goTo 7 = .ok (.putfield 93, 3) := by decide +kernel
theorem dX6_goTo_10 : decode cX6_goTo 10 = .ok (.aload_n 0, 1) := by decide +kernel
theorem dX6_goTo_11 : decode cX6_goTo 11 = .ok (.invokevirtual 45, 3) := by decide +kernel
theorem dX6_goTo_14 : decode cX6_goTo 14 = .ok (.ifCond .eq 11, 3) := by decide +kernel
theorem dX6_goTo_17 : decode cX6_goTo 17 = .ok (.aload_n 0, 1) := by decide +kernel
theorem dX6_goTo_18 : decode cX6_goTo 18 = .ok (.iconst 3, 1) := by decide +kernel
theorem dX6_goTo_19 : decode cX6_goTo 19 = .ok (.putfield 79, 3) := by decide +kernel
theorem dX6_goTo_22 : decode cX6_goTo 22 = .ok (.goto 21, 3) := by decide +kernel
theorem dX6_goTo_25 : decode cX6_goTo 25 = .ok (.aload_n 0, 1) := by decide +kernel
theorem dX6_goTo_26 : decode cX6_goTo 26 = .ok (.aload_n 0, 1) := by decide +kernel
theorem dX6_goTo_27 : decode cX6_goTo 27 = .ok (.invokevirtual 49, 3) := by decide +kernel
theorem dX6_goTo_30 : decode cX6_goTo 30 = .ok (.ifCond .eq 7, 3) := by decide +kernel
theorem dX6_goTo_33 : decode cX6_goTo 33 = .ok (.iconst 2, 1) := by decide +kernel
theorem dX6_goTo_34 : decode cX6_goTo 34 = .ok (.goto 6, 3) := by decide +kernel
theorem dX6_goTo_37 : decode cX6_goTo 37 = .ok (.iload_n 1, 1) := by decide +kernel
theorem dX6_goTo_38 : decode cX6_goTo 38 = .ok (.iconst 2, 1) := by decide +kernel
theorem dX6_goTo_39 : decode cX6_goTo 39 = .ok (.irem, 1) := by decide +kernel
theorem dX6_goTo_40 : decode cX6_goTo 40 = .ok (.putfield 79, 3) := by decide +kernel
theorem dX6_goTo_43 : decode cX6_goTo 43 = .ok (.return_, 1) := by decide +kernel
theorem dX6_apply_0 : decode cX6_apply 0 = .ok (.aload_n 1, 1) := by decide +kernel
theorem dX6_apply_1 : decode cX6_apply 1 = .ok (.getfield 56, 3) := by decide +kernel
theorem dX6_apply_4 : decode cX6_apply 4 = .ok (.aload_n 0, 1) := by decide +kernel
theorem dX6_apply_5 : decode cX6_apply 5 = .ok (.getfield 37, 3) := by decide +kernel
theorem dX6_apply_8 : decode cX6_apply 8 = .ok (.if_icmp .le 11, 3) := by decide +kernel
theorem dX6_apply_11 : decode cX6_apply 11 = .ok (.aload_n 0, 1) := by decide +kernel
theorem dX6_apply_12 : decode cX6_apply 12 = .ok (.aload_n 1, 1) := by decide +kernel
theorem dX6_apply_13 : decode cX6_apply 13 = .ok (.getfield 56, 3) := by decide +kernel
theorem dX6_apply_16 : decode cX6_apply 16 = .ok (.invokevirtual 89, 3) := by decide +kernel
theorem dX6_apply_19 : decode cX6_apply 19 = .ok (.aload_n 1, 1) := by decide +kernel
theorem dX6_apply_20 : decode cX6_apply 20 = .ok (.iconst 0, 1) := by decide +kernel
theorem dX6_apply_21 : decode cX6_apply 21 = .ok (.putfield 96, 3) := by decide +kernel
theorem dX6_apply_24 : decode cX6_apply 24 = .ok (.aload_n 1, 1) := by decide +kernel
theorem dX6_apply_25 : decode cX6_apply 25 = .ok (.aload_n 1, 1) := by decide +kernel
theorem dX6_apply_26 : decode cX6_apply 26 = .ok (.getfield 56, 3) := by decide +kernel
theorem dX6_apply_29 : decode cX6_apply 29 = .ok (.aload_n 0, 1) := by decide +kernel
theorem dX6_apply_30 : decode cX6_apply 30 = .ok (.getfield 37, 3) := by decide +kernel
theorem dX6_apply_33 : decode cX6_apply 33 = .ok (.if_icmp .lt 29, 3) := by decide +kernel
theorem dX6_apply_36 : decode cX6_apply 36 = .ok (.aload_n 0, 1) := by decide +kernel
theorem dX6_apply_37 : decode cX6_apply 37 = .ok (.invokevirtual 45, 3) := by decide +kernel
theorem dX6_apply_40 : decode cX6_apply 40 = .ok (.ifCond .ne 22, 3) := by decide +kernel
theorem dX6_apply_43 : decode cX6_apply 43 = .ok (.aload_n 1, 1) := by decide +kernel
theorem dX6_apply_44 : decode cX6_apply 44 = .ok (.getfield 59, 3) := by decide +kernel
theorem dX6_apply_47 : decode cX6_apply 47 = .ok (.iconst 2, 1) := by decide +kernel
theorem dX6_apply_48 : decode cX6_apply 48 = .ok (.if_icmp .eq 18, 3) := by decide +kernel
theorem dX6_apply_51 : decode cX6_apply 51 = .ok (.aload_n 0, 1) := by decide +kernel
theorem dX6_apply_52 : decode cX6_apply 52 = .ok (.aload_n 1, 1) := by decide +kernel
theorem dX6_apply_53 : decode cX6_apply 53 = .ok (.getfield 62, 3) := by decide +kernel
theorem dX6_apply_56 : decode cX6_apply 56 = .ok (.invokevirtual 52, 3) := by decide +kernel
theorem dX6_apply_59 : decode cX6_apply 59 = .ok (.ifCond .ne 7, 3) := by decide +kernel
theorem dX6_apply_62 : decode cX6_apply 62 = .ok (.iconst 1, 1) := by decide +kernel
theorem dX6_apply_63 : decode cX6_apply 63 = .ok (.goto 4, 3) := by decide +kernel
theorem dX6_apply_66 : decode cX6_apply 66 = .ok (.iconst 0, 1) := by decide +kernel
theorem dX6_apply_67 : decode cX6_apply 67 = .ok (.putfield 76, 3) := by decide +kernel
theorem dX6_apply_70 : decode cX6_apply 70 = .ok (.aload_n 1, 1) := by decide +kernel
theorem dX6_apply_71 : decode cX6_apply 71 = .ok (.getfield 76, 3) := by decide +kernel
theorem dX6_apply_74 : decode cX6_apply 74 = .ok (.ifCond .eq 14, 3) := by decide +kernel
theorem dX6_apply_77 : decode cX6_apply 77 = .ok (.aload_n 0, 1) := by decide +kernel
theorem dX6_apply_78 : decode cX6_apply 78 = .ok (.dup, 1) := by decide +kernel
theorem dX6_apply_79 : decode cX6_apply 79 = .ok (.getfield 86, 3) := by decide +kernel
theorem dX6_apply_82 : decode cX6_apply 82 = .ok (.iconst 1, 1) := by decide +kernel
theorem dX6_apply_83 : decode cX6_apply 83 = .ok (.iadd, 1) := by decide +kernel
theorem dX6_apply_84 : decode cX6_apply 84 = .ok (.putfield 86, 3) := by decide +kernel
theorem dX6_apply_87 : decode cX6_apply 87 = .ok (.return_, 1) := by decide +kernel
theorem dX6_apply_88 : decode cX6_apply 88 = .ok (.aload_n 1, 1) := by decide +kernel
theorem dX6_apply_89 : decode cX6_apply 89 = .ok (.aload_n 0, 1) := by decide +kernel
theorem dX6_apply_90 : decode cX6_apply 90 = .ok (.aload_n 1, 1) := by decide +kernel
theorem dX6_apply_91 : decode cX6_apply 91 = .ok (.invokevirtual 98, 3) := by decide +kernel
theorem dX6_apply_94 : decode cX6_apply 94 = .ok (.putfield 96, 3) := by decide +kernel
theorem dX6_apply_97 : decode cX6_apply 97 = .ok (.aload_n 1, 1) := by decide +kernel
theorem dX6_apply_98 : decode cX6_apply 98 = .ok (.getfield 62, 3) := by decide +kernel
theorem dX6_apply_101 : decode cX6_apply 101 = .ok (.ifCond .eq 11, 3) := by decide +kernel
theorem dX6_apply_104 : decode cX6_apply 104 = .ok (.aload_n 1, 1) := by decide +kernel
theorem dX6_apply_105 : decode cX6_apply 105 = .ok (.getfield 62, 3) := by decide +kernel
theorem dX6_apply_108 : decode cX6_apply 108 = .ok (.iconst 1, 1) := by decide +kernel
theorem dX6_apply_109 : decode cX6_apply 109 = .ok (.if_icmp .ne 19, 3) := by decide +kernel
theorem dX6_apply_112 : decode cX6_apply 112 = .ok (.aload_n 0, 1) := by decide +kernel
theorem dX6_apply_113 : decode cX6_apply 113 = .ok (.getfield 26, 3) := by decide +kernel
theorem dX6_apply_116 : decode cX6_apply 116 = .ok (.aload_n 1, 1) := by decide +kernel
theorem dX6_apply_117 : decode cX6_apply 117 = .ok (.getfield 62, 3) := by decide +kernel
theorem dX6_apply_120 : decode cX6_apply 120 = .ok (.dup2, 1) := by decide +kernel
theorem dX6_apply_121 : decode cX6_apply 121 = .ok (.iaload, 1) := by decide +kernel
theorem dX6_apply_122 : decode cX6_apply 122 = .ok (.aload_n 1, 1) := by decide +kernel
theorem dX6_apply_123 : decode cX6_apply 123 = .ok (.getfield 96, 3) := by decide +kernel
theorem dX6_apply_126 : decode cX6_apply 126 = .ok (.iadd, 1) := by decide +kernel
theorem dX6_apply_127 : decode cX6_apply 127 = .ok (.iastore, 1) := by decide +kernel
theorem dX6_apply_128 : decode cX6_apply 128 = .ok (.aload_n 0, 1) := by decide +kernel
theorem dX6_apply_129 : decode cX6_apply 129 = .ok (.aload_n 1, 1) := by decide +kernel
theorem dX6_apply_130 : decode cX6_apply 130 = .ok (.invokevirtual 102, 3) := by decide +kernel
theorem dX6_apply_133 : decode cX6_apply 133 = .ok (.ifCond .eq 21, 3) := by decide +kernel
theorem dX6_apply_136 : decode cX6_apply 136 = .ok (.aload_n 0, 1) := by decide +kernel
theorem dX6_apply_137 : decode cX6_apply 137 = .ok (.iconst 1, 1) := by decide +kernel

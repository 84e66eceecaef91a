theorem dX6_apply_138 : decode cX6_apply 138 = .ok (.putfield 93, 3) := by decide +kernel
theorem dX6_apply_141 : decode cX6_apply 141 = .ok (.aload_n 0, 1) := by decide +kernel
theorem dX6_apply_142 : decode cX6_apply 142 = .ok (.iconst 1, 1) := by decide +kernel
theorem dX6_apply_143 : decode cX6_apply 143 = .ok (.aload_n 1, 1) := by decide +kernel
theorem dX6_apply_144 : decode cX6_apply 144 = .ok (.getfield 62, 3) := by decide +kernel
theorem dX6_apply_147 : decode cX6_apply 147 = .ok (.isub, 1) := by decide +kernel
theorem dX6_apply_148 : decode cX6_apply 148 = .ok (.putfield 79, 3) := by decide +kernel
theorem dX6_apply_151 : decode cX6_apply 151 = .ok (.goto 13, 3) := by decide +kernel
theorem dX6_apply_154 : decode cX6_apply 154 = .ok (.aload_n 0, 1) := by decide +kernel
theorem dX6_apply_155 : decode cX6_apply 155 = .ok (.aload_n 0, 1) := by decide +kernel
theorem dX6_apply_156 : decode cX6_apply 156 = .ok (.getfield 37, 3) := by decide +kernel
theorem dX6_apply_159 : decode cX6_apply 159 = .ok (.iconst 1, 1) := by decide +kernel
theorem dX6_apply_160 : decode cX6_apply 160 = .ok (.iadd, 1) := by decide +kernel
theorem dX6_apply_161 : decode cX6_apply 161 = .ok (.invokevirtual 89, 3) := by decide +kernel
theorem dX6_apply_164 : decode cX6_apply 164 = .ok (.return_, 1) := by decide +kernel
theorem dX6_worthOf_0 : decode cX6_worthOf 0 = .ok (.aload_n 0, 1) := by decide +kernel
theorem dX6_worthOf_1 : decode cX6_worthOf 1 = .ok (.getfield 15, 3) := by decide +kernel
theorem dX6_worthOf_4 : decode cX6_worthOf 4 = .ok (.aload_n 0, 1) := by decide +kernel
theorem dX6_worthOf_5 : decode cX6_worthOf 5 = .ok (.getfield 37, 3) := by decide +kernel
theorem dX6_worthOf_8 : decode cX6_worthOf 8 = .ok (.invokevirtual 106, 3) := by decide +kernel
theorem dX6_worthOf_11 : decode cX6_worthOf 11 = .ok (.istore_n 2, 1) := by decide +kernel
theorem dX6_worthOf_12 : decode cX6_worthOf 12 = .ok (.aload_n 1, 1) := by decide +kernel
theorem dX6_worthOf_13 : decode cX6_worthOf 13 = .ok (.getfield 59, 3) := by decide +kernel
theorem dX6_worthOf_16 : decode cX6_worthOf 16 = .ok (.ifCond .ne 13, 3) := by decide +kernel
theorem dX6_worthOf_19 : decode cX6_worthOf 19 = .ok (.iload_n 2, 1) := by decide +kernel
theorem dX6_worthOf_20 : decode cX6_worthOf 20 = .ok (.ifCond .lt 9, 3) := by decide +kernel
theorem dX6_worthOf_23 : decode cX6_worthOf 23 = .ok (.iload_n 2, 1) := by decide +kernel
theorem dX6_worthOf_24 : decode cX6_worthOf 24 = .ok (.bipush 6, 2) := by decide +kernel
theorem dX6_worthOf_26 : decode cX6_worthOf 26 = .ok (.if_icmp .lt 5, 3) := by decide +kernel
theorem dX6_worthOf_29 : decode cX6_worthOf 29 = .ok (.iconst 0, 1) := by decide +kernel
theorem dX6_worthOf_30 : decode cX6_worthOf 30 = .ok (.ireturn, 1) := by decide +kernel
theorem dX6_worthOf_31 : decode cX6_worthOf 31 = .ok (.aload_n 0, 1) := by decide +kernel
theorem dX6_worthOf_32 : decode cX6_worthOf 32 = .ok (.getfield 93, 3) := by decide +kernel
theorem dX6_worthOf_35 : decode cX6_worthOf 35 = .ok (.ifCond .eq 14, 3) := by decide +kernel
theorem dX6_worthOf_38 : decode cX6_worthOf 38 = .ok (.aload_n 0, 1) := by decide +kernel
theorem dX6_worthOf_39 : decode cX6_worthOf 39 = .ok (.invokevirtual 49, 3) := by decide +kernel
theorem dX6_worthOf_42 : decode cX6_worthOf 42 = .ok (.ifCond .ne 7, 3) := by decide +kernel
theorem dX6_worthOf_45 : decode cX6_worthOf 45 = .ok (.iconst 1, 1) := by decide +kernel
theorem dX6_worthOf_46 : decode cX6_worthOf 46 = .ok (.goto 4, 3) := by decide +kernel
theorem dX6_worthOf_49 : decode cX6_worthOf 49 = .ok (.iconst 0, 1) := by decide +kernel
theorem dX6_worthOf_50 : decode cX6_worthOf 50 = .ok (.istore_n 3, 1) := by decide +kernel
theorem dX6_worthOf_51 : decode cX6_worthOf 51 = .ok (.aload_n 1, 1) := by decide +kernel
theorem dX6_worthOf_52 : decode cX6_worthOf 52 = .ok (.getfield 65, 3) := by decide +kernel
theorem dX6_worthOf_55 : decode cX6_worthOf 55 = .ok (.ifCond .eq 29, 3) := by decide +kernel
theorem dX6_worthOf_58 : decode cX6_worthOf 58 = .ok (.iload_n 3, 1) := by decide +kernel
theorem dX6_worthOf_59 : decode cX6_worthOf 59 = .ok (.ifCond .eq 15, 3) := by decide +kernel
theorem dX6_worthOf_62 : decode cX6_worthOf 62 = .ok (.aload_n 0, 1) := by decide +kernel
theorem dX6_worthOf_63 : decode cX6_worthOf 63 = .ok (.getfield 15, 3) := by decide +kernel
theorem dX6_worthOf_66 : decode cX6_worthOf 66 = .ok (.getfield 109, 3) := by decide +kernel
theorem dX6_worthOf_69 : decode cX6_worthOf 69 = .ok (.iload_n 2, 1) := by decide +kernel
theorem dX6_worthOf_70 : decode cX6_worthOf 70 = .ok (.iaload, 1) := by decide +kernel
theorem dX6_worthOf_71 : decode cX6_worthOf 71 = .ok (.goto 12, 3) := by decide +kernel
theorem dX6_worthOf_74 : decode cX6_worthOf 74 = .ok (.aload_n 0, 1) := by decide +kernel
theorem dX6_worthOf_75 : decode cX6_worthOf 75 = .ok (.getfield 15, 3) := by decide +kernel
theorem dX6_worthOf_78 : decode cX6_worthOf 78 = .ok (.getfield 112, 3) := by decide +kernel
theorem dX6_worthOf_81 : decode cX6_worthOf 81 = .ok (.iload_n 2, 1) := by decide +kernel
theorem dX6_worthOf_82 : decode cX6_worthOf 82 = .ok (.iaload, 1) := by decide +kernel
theorem dX6_worthOf_83 : decode cX6_worthOf 83 = .ok (.ireturn, 1) := by decide +kernel
theorem dX6_worthOf_84 : decode cX6_worthOf 84 = .ok (.iload_n 3, 1) := by decide +kernel
theorem dX6_worthOf_85 : decode cX6_worthOf 85 = .ok (.ifCond .eq 7, 3) := by decide +kernel
theorem dX6_worthOf_88 : decode cX6_worthOf 88 = .ok (.iconst 0, 1) := by decide +kernel
theorem dX6_worthOf_89 : decode cX6_worthOf 89 = .ok (.goto 13, 3) := by decide +kernel
theorem dX6_worthOf_92 : decode cX6_worthOf 92 = .ok (.aload_n 0, 1) := by decide +kernel
theorem dX6_worthOf_93 : decode cX6_worthOf 93 = .ok (.getfield 15, 3) := by decide +kernel
theorem dX6_worthOf_96 : decode cX6_worthOf 96 = .ok (.getfield 115, 3) := by decide +kernel
theorem dX6_worthOf_99 : decode cX6_worthOf 99 = .ok (.iload_n 2, 1) := by decide +kernel
theorem dX6_worthOf_100 : decode cX6_worthOf 100 = .ok (.iaload, 1) := by decide +kernel
theorem dX6_worthOf_101 : decode cX6_worthOf 101 = .ok (.ineg, 1) := by decide +kernel
theorem dX6_worthOf_102 : decode cX6_worthOf 102 = .ok (.ireturn, 1) := by decide +kernel
theorem dX6_goesToOther_0 : decode cX6_goesToOther 0 = .ok (.aload_n 0, 1) := by decide +kernel
theorem dX6_goesToOther_1 : decode cX6_goesToOther 1 = .ok (.getfield 93, 3) := by decide +kernel
theorem dX6_goesToOther_4 : decode cX6_goesToOther 4 = .ok (.ifCond .ne 22, 3) := by decide +kernel
theorem dX6_goesToOther_7 : decode cX6_goesToOther 7 = .ok (.aload_n 1, 1) := by decide +kernel
theorem dX6_goesToOther_8 : decode cX6_goesToOther 8 = .ok (.getfield 65, 3) := by decide +kernel
theorem dX6_goesToOther_11 : decode cX6_goesToOther 11 = .ok (.ifCond .ne 15, 3) := by decide +kernel
theorem dX6_goesToOther_14 : decode cX6_goesToOther 14 = .ok (.aload_n 1, 1) := by decide +kernel
theorem dX6_goesToOther_15 : decode cX6_goesToOther 15 = .ok (.getfield 59, 3) := by decide +kernel
theorem dX6_goesToOther_18 : decode cX6_goesToOther 18 = .ok (.iconst 2, 1) := by decide +kernel
theorem dX6_goesToOther_19 : decode cX6_goesToOther 19 = .ok (.if_icmp .eq 7, 3) := by decide +kernel
theorem dX6_goesToOther_22 : decode cX6_goesToOther 22 = .ok (.iconst 1, 1) := by decide +kernel
theorem dX6_goesToOther_23 : decode cX6_goesToOther 23 = .ok (.goto 4, 3) := by decide +kernel
theorem dX6_goesToOther_26 : decode cX6_goesToOther 26 = .ok (.iconst 0, 1) := by decide +kernel
theorem dX6_goesToOther_27 : decode cX6_goesToOther 27 = .ok (.istore_n 2, 1) := by decide +kernel
theorem dX6_goesToOther_28 : decode cX6_goesToOther 28 = .ok (.iload_n 2, 1) := by decide +kernel
theorem dX6_goesToOther_29 : decode cX6_goesToOther 29 = .ok (.ifCond .eq 21, 3) := by decide +kernel
theorem dX6_goesToOther_32 : decode cX6_goesToOther 32 = .ok (.aload_n 0, 1) := by decide +kernel
theorem dX6_goesToOther_33 : decode cX6_goesToOther 33 = .ok (.invokevirtual 49, 3) := by decide +kernel
theorem dX6_goesToOther_36 : decode cX6_goesToOther 36 = .ok (.ifCond .ne 10, 3) := by decide +kernel
theorem dX6_goesToOther_39 : decode cX6_goesToOther 39 = .ok (.aload_n 0, 1) := by decide +kernel
theorem dX6_goesToOther_40 : decode cX6_goesToOther 40 = .ok (.invokevirtual 118, 3) := by decide +kernel
theorem dX6_goesToOther_43 : decode cX6_goesToOther 43 = .ok (.ifCond .eq 7, 3) := by decide +kernel
theorem dX6_goesToOther_46 : decode cX6_goesToOther 46 = .ok (.iconst 1, 1) := by decide +kernel
theorem dX6_goesToOther_47 : decode cX6_goesToOther 47 = .ok (.goto 4, 3) := by decide +kernel
theorem dX6_goesToOther_50 : decode cX6_goesToOther 50 = .ok (.iconst 0, 1) := by decide +kernel
theorem dX6_goesToOther_51 : decode cX6_goesToOther 51 = .ok (.ireturn, 1) := by decide +kernel
theorem dX6_isFor_0 : decode cX6_isFor 0 = .ok (.aload_n 0, 1) := by decide +kernel
theorem dX6_isFor_1 : decode cX6_isFor 1 = .ok (.getfield 79, 3) := by decide +kernel
theorem dX6_isFor_4 : decode cX6_isFor 4 = .ok (.iconst 2, 1) := by decide +kernel
theorem dX6_isFor_5 : decode cX6_isFor 5 = .ok (.if_icmp .eq 11, 3) := by decide +kernel
theorem dX6_isFor_8 : decode cX6_isFor 8 = .ok (.aload_n 0, 1) := by decide +kernel
theorem dX6_isFor_9 : decode cX6_isFor 9 = .ok (.getfield 79, 3) := by decide +kernel
theorem dX6_isFor_12 : decode cX6_isFor 12 = .ok (.iload_n 1, 1) := by decide +kernel
theorem dX6_isFor_13 : decode cX6_isFor 13 = .ok (.if_icmp .ne 7, 3) := by decide +kernel
theorem dX6_isFor_16 : decode cX6_isFor 16 = .ok (.iconst 1, 1) := by decide +kernel
theorem dX6_isFor_17 : decode cX6_isFor 17 = .ok (.goto 4, 3) := by decide +kernel
theorem dX6_isFor_20 : decode cX6_isFor 20 = .ok (.iconst 0, 1) := by decide +kernel
theorem dX6_isFor_21 : decode cX6_isFor 21 = .ok (.ireturn, 1) := by decide +kernel
theorem dX6_isBuzz_0 : decode cX6_isBuzz 0 = .ok (.aload_n 0, 1) := by decide +kernel
theorem dX6_isBuzz_1 : decode cX6_isBuzz 1 = .ok (.getfield 15, 3) := by decide +kernel
theorem dX6_isBuzz_4 : decode cX6_isBuzz 4 = .ok (.aload_n 0, 1) := by decide +kernel
theorem dX6_isBuzz_5 : decode cX6_isBuzz 5 = .ok (.getfield 37, 3) := by decide +kernel
theorem dX6_isBuzz_8 : decode cX6_isBuzz 8 = .ok (.invokevirtual 106, 3) := by decide +kernel
theorem dX6_isBuzz_11 : decode cX6_isBuzz 11 = .ok (.istore_n 1, 1) := by decide +kernel
theorem dX6_isBuzz_12 : decode cX6_isBuzz 12 = .ok (.iload_n 1, 1) := by decide +kernel
theorem dX6_isBuzz_13 : decode cX6_isBuzz 13 = .ok (.ifCond .lt 25, 3) := by decide +kernel
theorem dX6_isBuzz_16 : decode cX6_isBuzz 16 = .ok (.iload_n 1, 1) := by decide +kernel
theorem dX6_isBuzz_17 : decode cX6_isBuzz 17 = .ok (.bipush 6, 2) := by decide +kernel
theorem dX6_isBuzz_19 : decode cX6_isBuzz 19 = .ok (.if_icmp .ge 19, 3) := by decide +kernel
theorem dX6_isBuzz_22 : decode cX6_isBuzz 22 = .ok (.aload_n 0, 1) := by decide +kernel
theorem dX6_isBuzz_23 : decode cX6_isBuzz 23 = .ok (.getfield 15, 3) := by decide +kernel
theorem dX6_isBuzz_26 : decode cX6_isBuzz 26 = .ok (.getfield 121, 3) := by decide +kernel
theorem dX6_isBuzz_29 : decode cX6_isBuzz 29 = .ok (.iload_n 1, 1) := by decide +kernel
theorem dX6_isBuzz_30 : decode cX6_isBuzz 30 = .ok (.baload, 1) := by decide +kernel
theorem dX6_isBuzz_31 : decode cX6_isBuzz 31 = .ok (.ifCond .eq 7, 3) := by decide +kernel
theorem dX6_isBuzz_34 : decode cX6_isBuzz 34 = .ok (.iconst 1, 1) := by decide +kernel
theorem dX6_isBuzz_35 : decode cX6_isBuzz 35 = .ok (.goto 4, 3) := by decide +kernel
theorem dX6_isBuzz_38 : decode cX6_isBuzz 38 = .ok (.iconst 0, 1) := by decide +kernel
theorem dX6_isBuzz_39 : decode cX6_isBuzz 39 = .ok (.ireturn, 1) := by decide +kernel
theorem dX6_hasPass_0 : decode cX6_hasPass 0 = .ok (.aload_n 0, 1) := by decide +kernel
theorem dX6_hasPass_1 : decode cX6_hasPass 1 = .ok (.getfield 15, 3) := by decide +kernel
theorem dX6_hasPass_4 : decode cX6_hasPass 4 = .ok (.aload_n 0, 1) := by decide +kernel
theorem dX6_hasPass_5 : decode cX6_hasPass 5 = .ok (.getfield 37, 3) := by decide +kernel
theorem dX6_hasPass_8 : decode cX6_hasPass 8 = .ok (.invokevirtual 106, 3) := by decide +kernel
theorem dX6_hasPass_11 : decode cX6_hasPass 11 = .ok (.istore_n 1, 1) := by decide +kernel
theorem dX6_hasPass_12 : decode cX6_hasPass 12 = .ok (.iload_n 1, 1) := by decide +kernel
theorem dX6_hasPass_13 : decode cX6_hasPass 13 = .ok (.ifCond .lt 26, 3) := by decide +kernel
theorem dX6_hasPass_16 : decode cX6_hasPass 16 = .ok (.iload_n 1, 1) := by decide +kernel
theorem dX6_hasPass_17 : decode cX6_hasPass 17 = .ok (.bipush 6, 2) := by decide +kernel
theorem dX6_hasPass_19 : decode cX6_hasPass 19 = .ok (.if_icmp .ge 20, 3) := by decide +kernel
theorem dX6_hasPass_22 : decode cX6_hasPass 22 = .ok (.aload_n 0, 1) := by decide +kernel
theorem dX6_hasPass_23 : decode cX6_hasPass 23 = .ok (.getfield 15, 3) := by decide +kernel
theorem dX6_hasPass_26 : decode cX6_hasPass 26 = .ok (.getfield 109, 3) := by decide +kernel
theorem dX6_hasPass_29 : decode cX6_hasPass 29 = .ok (.iload_n 1, 1) := by decide +kernel
theorem dX6_hasPass_30 : decode cX6_hasPass 30 = .ok (.iaload, 1) := by decide +kernel
theorem dX6_hasPass_31 : decode cX6_hasPass 31 = .ok (.iconst (-1), 1) := by decide +kernel
theorem dX6_hasPass_32 : decode cX6_hasPass 32 = .ok (.if_icmp .eq 7, 3) := by decide +kernel
theorem dX6_hasPass_35 : decode cX6_hasPass 35 = .ok (.iconst 1, 1) := by decide +kernel
theorem dX6_hasPass_36 : decode cX6_hasPass 36 = .ok (.goto 4, 3) := by decide +kernel
theorem dX6_hasPass_39 : decode cX6_hasPass 39 = .ok (.iconst 0, 1) := by decide +kernel
theorem dX6_hasPass_40 : decode cX6_hasPass 40 = .ok (.ireturn, 1) := by decide +kernel
theorem dX7_init_0 : decode cX7_init 0 = .ok (.aload_n 0, 1) := by decide +kernel
theorem dX7_init_1 : decode cX7_init 1 = .ok (.invokespecial 1, 3) := by decide +kernel
theorem dX7_init_4 : decode cX7_init 4 = .ok (.aload_n 0, 1) := by decide +kernel
theorem dX7_init_5 : decode cX7_init 5 = .ok (.bipush 20, 2) := by decide +kernel
theorem dX7_init_7 : decode cX7_init 7 = .ok (.newarray .long, 2) := by decide +kernel
theorem dX7_init_9 : decode cX7_init 9 = .ok (.putfield 9, 3) := by decide +kernel
theorem dX7_init_12 : decode cX7_init 12 = .ok (.aload_n 0, 1) := by decide +kernel
theorem dX7_init_13 : decode cX7_init 13 = .ok (.iconst 0, 1) := by decide +kernel
theorem dX7_init_14 : decode cX7_init 14 = .ok (.putfield 13, 3) := by decide +kernel
theorem dX7_init_17 : decode cX7_init 17 = .ok (.aload_n 0, 1) := by decide +kernel
theorem dX7_init_18 : decode cX7_init 18 = .ok (.bipush 7, 2) := by decide +kernel
theorem dX7_init_20 : decode cX7_init 20 = .ok (.anewarray 19, 3) := by decide +kernel
theorem dX7_init_23 : decode cX7_init 23 = .ok (.putfield 21, 3) := by decide +kernel
theorem dX7_init_26 : decode cX7_init 26 = .ok (.iconst 0, 1) := by decide +kernel
theorem dX7_init_27 : decode cX7_init 27 = .ok (.istore_n 1, 1) := by decide +kernel
theorem dX7_init_28 : decode cX7_init 28 = .ok (.iload_n 1, 1) := by decide +kernel
theorem dX7_init_29 : decode cX7_init 29 = .ok (.aload_n 0, 1) := by decide +kernel
theorem dX7_init_30 : decode cX7_init 30 = .ok (.getfield 21, 3) := by decide +kernel
theorem dX7_init_33 : decode cX7_init 33 = .ok (.arraylength, 1) := by decide +kernel
theorem dX7_init_34 : decode cX7_init 34 = .ok (.if_icmp .ge 22, 3) := by decide +kernel
theorem dX7_init_37 : decode cX7_init 37 = .ok (.aload_n 0, 1) := by decide +kernel
theorem dX7_init_38 : decode cX7_init 38 = .ok (.getfield 21, 3) := by decide +kernel
theorem dX7_init_41 : decode cX7_init 41 = .ok (.iload_n 1, 1) := by decide +kernel
theorem dX7_init_42 : decode cX7_init 42 = .ok (.new 19, 3) := by decide +kernel
theorem dX7_init_45 : decode cX7_init 45 = .ok (.dup, 1) := by decide +kernel
theorem dX7_init_46 : decode cX7_init 46 = .ok (.invokespecial 25, 3) := by decide +kernel
theorem dX7_init_49 : decode cX7_init 49 = .ok (.aastore, 1) := by decide +kernel
theorem dX7_init_50 : decode cX7_init 50 = .ok (.iinc 1 1, 3) := by decide +kernel
theorem dX7_init_53 : decode cX7_init 53 = .ok (.goto (-25), 3) := by decide +kernel
theorem dX7_init_56 : decode cX7_init 56 = .ok (.aload_n 0, 1) := by decide +kernel
theorem dX7_init_57 : decode cX7_init 57 = .ok (.iconst 0, 1) := by decide +kernel
theorem dX7_init_58 : decode cX7_init 58 = .ok (.putfield 26, 3) := by decide +kernel
theorem dX7_init_61 : decode cX7_init 61 = .ok (.aload_n 0, 1) := by decide +kernel
theorem dX7_init_62 : decode cX7_init 62 = .ok (.bipush 21, 2) := by decide +kernel
theorem dX7_init_64 : decode cX7_init 64 = .ok (.newarray .int, 2) := by decide +kernel
theorem dX7_init_66 : decode cX7_init 66 = .ok (.putfield 29, 3) := by decide +kernel
theorem dX7_init_69 : decode cX7_init 69 = .ok (.return_, 1) := by decide +kernel
theorem dX7_readFrom_0 : decode cX7_readFrom 0 = .ok (.aload_n 0, 1) := by decide +kernel
theorem dX7_readFrom_1 : decode cX7_readFrom 1 = .ok (.iconst 0, 1) := by decide +kernel
theorem dX7_readFrom_2 : decode cX7_readFrom 2 = .ok (.putfield 13, 3) := by decide +kernel
theorem dX7_readFrom_5 : decode cX7_readFrom 5 = .ok (.aload_n 1, 1) := by decide +kernel
theorem dX7_readFrom_6 : decode cX7_readFrom 6 = .ok (.invokevirtual 33, 3) := by decide +kernel
theorem dX7_readFrom_9 : decode cX7_readFrom 9 = .ok (.iconst 0, 1) := by decide +kernel
theorem dX7_readFrom_10 : decode cX7_readFrom 10 = .ok (.istore_n 2, 1) := by decide +kernel
theorem dX7_readFrom_11 : decode cX7_readFrom 11 = .ok (.iload_n 2, 1) := by decide +kernel
theorem dX7_readFrom_12 : decode cX7_readFrom 12 = .ok (.bipush 20, 2) := by decide +kernel
theorem dX7_readFrom_14 : decode cX7_readFrom 14 = .ok (.if_icmp .gt 95, 3) := by decide +kernel
theorem dX7_readFrom_17 : decode cX7_readFrom 17 = .ok (.aload_n 1, 1) := by decide +kernel
theorem dX7_readFrom_18 : decode cX7_readFrom 18 = .ok (.ldc 38, 2) := by decide +kernel
theorem dX7_readFrom_20 : decode cX7_readFrom 20 = .ok (.invokevirtual 40, 3) := by decide +kernel
theorem dX7_readFrom_23 : decode cX7_readFrom 23 = .ok (.aload_n 1, 1) := by decide +kernel
theorem dX7_readFrom_24 : decode cX7_readFrom 24 = .ok (.getfield 44, 3) := by decide +kernel
theorem dX7_readFrom_27 : decode cX7_readFrom 27 = .ok (.ifCond .ne 16, 3) := by decide +kernel
theorem dX7_readFrom_30 : decode cX7_readFrom 30 = .ok (.aload_n 0, 1) := by decide +kernel
theorem dX7_readFrom_31 : decode cX7_readFrom 31 = .ok (.getfield 13, 3) := by decide +kernel
theorem dX7_readFrom_34 : decode cX7_readFrom 34 = .ok (.ifCond .le 7, 3) := by decide +kernel
theorem dX7_readFrom_37 : decode cX7_readFrom 37 = .ok (.iconst 1, 1) := by decide +kernel
theorem dX7_readFrom_38 : decode cX7_readFrom 38 = .ok (.goto 4, 3) := by decide +kernel
theorem dX7_readFrom_41 : decode cX7_readFrom 41 = .ok (.iconst 0, 1) := by decide +kernel
theorem dX7_readFrom_42 : decode cX7_readFrom 42 = .ok (.ireturn, 1) := by decide +kernel
theorem dX7_readFrom_43 : decode cX7_readFrom 43 = .ok (.aload_n 1, 1) := by decide +kernel
theorem dX7_readFrom_44 : decode cX7_readFrom 44 = .ok (.getfield 44, 3) := by decide +kernel
theorem dX7_readFrom_47 : decode cX7_readFrom 47 = .ok (.iconst 1, 1) := by decide +kernel
theorem dX7_readFrom_48 : decode cX7_readFrom 48 = .ok (.if_icmp .eq 11, 3) := by decide +kernel
theorem dX7_readFrom_51 : decode cX7_readFrom 51 = .ok (.aload_n 1, 1) := by decide +kernel
theorem dX7_readFrom_52 : decode cX7_readFrom 52 = .ok (.getfield 44, 3) := by decide +kernel
theorem dX7_readFrom_55 : decode cX7_readFrom 55 = .ok (.iconst 2, 1) := by decide +kernel
theorem dX7_readFrom_56 : decode cX7_readFrom 56 = .ok (.if_icmp .ne 7, 3) := by decide +kernel
theorem dX7_readFrom_59 : decode cX7_readFrom 59 = .ok (.iconst 1, 1) := by decide +kernel
theorem dX7_readFrom_60 : decode cX7_readFrom 60 = .ok (.goto 4, 3) := by decide +kernel
theorem dX7_readFrom_63 : decode cX7_readFrom 63 = .ok (.iconst 0, 1) := by decide +kernel
theorem dX7_readFrom_64 : decode cX7_readFrom 64 = .ok (.istore_n 3, 1) := by decide +kernel
theorem dX7_readFrom_65 : decode cX7_readFrom 65 = .ok (.iload_n 3, 1) := by decide +kernel
theorem dX7_readFrom_66 : decode cX7_readFrom 66 = .ok (.ifCond .eq 12, 3) := by decide +kernel
theorem dX7_readFrom_69 : decode cX7_readFrom 69 = .ok (.aload_n 0, 1) := by decide +kernel
theorem dX7_readFrom_70 : decode cX7_readFrom 70 = .ok (.getfield 13, 3) := by decide +kernel
theorem dX7_readFrom_73 : decode cX7_readFrom 73 = .ok (.bipush 20, 2) := by decide +kernel
theorem dX7_readFrom_75 : decode cX7_readFrom 75 = .ok (.if_icmp .lt 5, 3) := by decide +kernel
theorem dX7_readFrom_78 : decode cX7_readFrom 78 = .ok (.iconst 0, 1) := by decide +kernel
theorem dX7_readFrom_79 : decode cX7_readFrom 79 = .ok (.ireturn, 1) := by decide +kernel
theorem dX7_readFrom_80 : decode cX7_readFrom 80 = .ok (.aload_n 0, 1) := by decide +kernel
theorem dX7_readFrom_81 : decode cX7_readFrom 81 = .ok (.getfield 9, 3) := by decide +kernel
theorem dX7_readFrom_84 : decode cX7_readFrom 84 = .ok (.aload_n 0, 1) := by decide +kernel
theorem dX7_readFrom_85 : decode cX7_readFrom 85 = .ok (.getfield 13, 3) := by decide +kernel
theorem dX7_readFrom_88 : decode cX7_readFrom 88 = .ok (.aload_n 1, 1) := by decide +kernel
theorem dX7_readFrom_89 : decode cX7_readFrom 89 = .ok (.getfield 47, 3) := by decide +kernel
theorem dX7_readFrom_92 : decode cX7_readFrom 92 = .ok (.lastore, 1) := by decide +kernel
theorem dX7_readFrom_93 : decode cX7_readFrom 93 = .ok (.aload_n 0, 1) := by decide +kernel
theorem dX7_readFrom_94 : decode cX7_readFrom 94 = .ok (.dup, 1) := by decide +kernel
theorem dX7_readFrom_95 : decode cX7_readFrom 95 = .ok (.getfield 13, 3) := by decide +kernel
theorem dX7_readFrom_98 : decode cX7_readFrom 98 = .ok (.iconst 1, 1) := by decide +kernel
theorem dX7_readFrom_99 : decode cX7_readFrom 99 = .ok (.iadd, 1) := by decide +kernel
theorem dX7_readFrom_100 : decode cX7_readFrom 100 = .ok (.putfield 13, 3) := by decide +kernel
theorem dX7_readFrom_103 : decode cX7_readFrom 103 = .ok (.iinc 2 1, 3) := by decide +kernel
theorem dX7_readFrom_106 : decode cX7_readFrom 106 = .ok (.goto (-95), 3) := by decide +kernel
theorem dX7_readFrom_109 : decode cX7_readFrom 109 = .ok (.iconst 0, 1) := by decide +kernel
theorem dX7_readFrom_110 : decode cX7_readFrom 110 = .ok (.ireturn, 1) := by decide +kernel
theorem dX7_accepts_0 : decode cX7_accepts 0 = .ok (.aload_n 0, 1) := by decide +kernel
theorem dX7_accepts_1 : decode cX7_accepts 1 = .ok (.iconst 0, 1) := by decide +kernel
theorem dX7_accepts_2 : decode cX7_accepts 2 = .ok (.putfield 26, 3) := by decide +kernel
theorem dX7_accepts_5 : decode cX7_accepts 5 = .ok (.aload_n 0, 1) := by decide +kernel
theorem dX7_accepts_6 : decode cX7_accepts 6 = .ok (.getfield 21, 3) := by decide +kernel
theorem dX7_accepts_9 : decode cX7_accepts 9 = .ok (.iconst 0, 1) := by decide +kernel
theorem dX7_accepts_10 : decode cX7_accepts 10 = .ok (.aaload, 1) := by decide +kernel
theorem dX7_accepts_11 : decode cX7_accepts 11 = .ok (.invokevirtual 51, 3) := by decide +kernel
theorem dX7_accepts_14 : decode cX7_accepts 14 = .ok (.iconst 0, 1) := by decide +kernel
theorem dX7_accepts_15 : decode cX7_accepts 15 = .ok (.istore_n 2, 1) := by decide +kernel
theorem dX7_accepts_16 : decode cX7_accepts 16 = .ok (.iload_n 2, 1) := by decide +kernel
theorem dX7_accepts_17 : decode cX7_accepts 17 = .ok (.aload_n 1, 1) := by decide +kernel
theorem dX7_accepts_18 : decode cX7_accepts 18 = .ok (.invokevirtual 54, 3) := by decide +kernel
theorem dX7_accepts_21 : decode cX7_accepts 21 = .ok (.if_icmp .ge 31, 3) := by decide +kernel
theorem dX7_accepts_24 : decode cX7_accepts 24 = .ok (.aload_n 0, 1) := by decide +kernel
theorem dX7_accepts_25 : decode cX7_accepts 25 = .ok (.aload_n 1, 1) := by decide +kernel
theorem dX7_accepts_26 : decode cX7_accepts 26 = .ok (.getfield 60, 3) := by decide +kernel
theorem dX7_accepts_29 : decode cX7_accepts 29 = .ok (.iload_n 2, 1) := by decide +kernel
theorem dX7_accepts_30 : decode cX7_accepts 30 = .ok (.baload, 1) := by decide +kernel
theorem dX7_accepts_31 : decode cX7_accepts 31 = .ok (.aload_n 1, 1) := by decide +kernel
theorem dX7_accepts_32 : decode cX7_accepts 32 = .ok (.getfield 64, 3) := by decide +kernel
theorem dX7_accepts_35 : decode cX7_accepts 35 = .ok (.iload_n 2, 1) := by decide +kernel
theorem dX7_accepts_36 : decode cX7_accepts 36 = .ok (.laload, 1) := by decide +kernel
theorem dX7_accepts_37 : decode cX7_accepts 37 = .ok (.aload_n 1, 1) := by decide +kernel
theorem dX7_accepts_38 : decode cX7_accepts 38 = .ok (.getfield 67, 3) := by decide +kernel
theorem dX7_accepts_41 : decode cX7_accepts 41 = .ok (.iload_n 2, 1) := by decide +kernel
theorem dX7_accepts_42 : decode cX7_accepts 42 = .ok (.laload, 1) := by decide +kernel
theorem dX7_accepts_43 : decode cX7_accepts 43 = .ok (.invokevirtual 70, 3) := by decide +kernel
theorem dX7_accepts_46 : decode cX7_accepts 46 = .ok (.iinc 2 1, 3) := by decide +kernel
theorem dX7_accepts_49 : decode cX7_accepts 49 = .ok (.goto (-33), 3) := by decide +kernel
theorem dX7_accepts_52 : decode cX7_accepts 52 = .ok (.aload_n 0, 1) := by decide +kernel
theorem dX7_accepts_53 : decode cX7_accepts 53 = .ok (.getfield 21, 3) := by decide +kernel
theorem dX7_accepts_56 : decode cX7_accepts 56 = .ok (.iconst 0, 1) := by decide +kernel
theorem dX7_accepts_57 : decode cX7_accepts 57 = .ok (.aaload, 1) := by decide +kernel
theorem dX7_accepts_58 : decode cX7_accepts 58 = .ok (.invokevirtual 74, 3) := by decide +kernel
theorem dX7_accepts_61 : decode cX7_accepts 61 = .ok (.aload_n 0, 1) := by decide +kernel
theorem dX7_accepts_62 : decode cX7_accepts 62 = .ok (.getfield 21, 3) := by decide +kernel
theorem dX7_accepts_65 : decode cX7_accepts 65 = .ok (.iconst 0, 1) := by decide +kernel
theorem dX7_accepts_66 : decode cX7_accepts 66 = .ok (.aaload, 1) := by decide +kernel
theorem dX7_accepts_67 : decode cX7_accepts 67 = .ok (.getfield 77, 3) := by decide +kernel
theorem dX7_accepts_70 : decode cX7_accepts 70 = .ok (.iconst 0, 1) := by decide +kernel
theorem dX7_accepts_71 : decode cX7_accepts 71 = .ok (.iaload, 1) := by decide +kernel
theorem dX7_accepts_72 : decode cX7_accepts 72 = .ok (.aload_n 0, 1) := by decide +kernel
theorem dX7_accepts_73 : decode cX7_accepts 73 = .ok (.getfield 13, 3) := by decide +kernel
theorem dX7_accepts_76 : decode cX7_accepts 76 = .ok (.ishr, 1) := by decide +kernel
theorem dX7_accepts_77 : decode cX7_accepts 77 = .ok (.iconst 1, 1) := by decide +kernel
theorem dX7_accepts_78 : decode cX7_accepts 78 = .ok (.iand, 1) := by decide +kernel
theorem dX7_accepts_79 : decode cX7_accepts 79 = .ok (.iconst 1, 1) := by decide +kernel
theorem dX7_accepts_80 : decode cX7_accepts 80 = .ok (.if_icmp .ne 7, 3) := by decide +kernel
theorem dX7_accepts_83 : decode cX7_accepts 83 = .ok (.iconst 1, 1) := by decide +kernel
theorem dX7_accepts_84 : decode cX7_accepts 84 = .ok (.goto 4, 3) := by decide +kernel
theorem dX7_accepts_87 : decode cX7_accepts 87 = .ok (.iconst 0, 1) := by decide +kernel
theorem dX7_accepts_88 : decode cX7_accepts 88 = .ok (.ireturn, 1) := by decide +kernel
theorem dX7_step_0 : decode cX7_step 0 = .ok (.iload_n 1, 1) := by decide +kernel
theorem dX7_step_1 : decode cX7_step 1 = .ok (.lookupswitch 132 #[(40, 75), (41, 124), (44, 97), (91, 75), (93, 124), (123, 75), (124, 82), (125, 124)], 75) := by decide +kernel
theorem dX7_step_76 : decode cX7_step 76 = .ok (.aload_n 0, 1) := by decide +kernel
theorem dX7_step_77 : decode cX7_step 77 = .ok (.invokevirtual 80, 3) := by decide +kernel
theorem dX7_step_80 : decode cX7_step 80 = .ok (.goto 72, 3) := by decide +kernel
theorem dX7_step_83 : decode cX7_step 83 = .ok (.aload_n 0, 1) := by decide +kernel
theorem dX7_step_84 : decode cX7_step 84 = .ok (.getfield 21, 3) := by decide +kernel
theorem dX7_step_87 : decode cX7_step 87 = .ok (.aload_n 0, 1) := by decide +kernel
theorem dX7_step_88 : decode cX7_step 88 = .ok (.getfield 26, 3) := by decide +kernel
theorem dX7_step_91 : decode cX7_step 91 = .ok (.aaload, 1) := by decide +kernel
theorem dX7_step_92 : decode cX7_step 92 = .ok (.invokevirtual 74, 3) := by decide +kernel
theorem dX7_step_95 : decode cX7_step 95 = .ok (.goto 57, 3) := by decide +kernel
theorem dX7_step_98 : decode cX7_step 98 = .ok (.aload_n 0, 1) := by decide +kernel
theorem dX7_step_99 : decode cX7_step 99 = .ok (.getfield 21, 3) := by decide +kernel
theorem dX7_step_102 : decode cX7_step 102 = .ok (.aload_n 0, 1) := by decide +kernel
theorem dX7_step_103 : decode cX7_step 103 = .ok (.getfield 26, 3) := by decide +kernel
theorem dX7_step_106 : decode cX7_step 106 = .ok (.aaload, 1) := by decide +kernel
theorem dX7_step_107 : decode cX7_step 107 = .ok (.invokevirtual 74, 3) := by decide +kernel
theorem dX7_step_110 : decode cX7_step 110 = .ok (.aload_n 0, 1) := by decide +kernel
theorem dX7_step_111 : decode cX7_step 111 = .ok (.getfield 21, 3) := by decide +kernel
theorem dX7_step_114 : decode cX7_step 114 = .ok (.aload_n 0, 1) := by decide +kernel
theorem dX7_step_115 : decode cX7_step 115 = .ok (.getfield 26, 3) := by decide +kernel
theorem dX7_step_118 : decode cX7_step 118 = .ok (.aaload, 1) := by decide +kernel
theorem dX7_step_119 : decode cX7_step 119 = .ok (.invokevirtual 83, 3) := by decide +kernel
theorem dX7_step_122 : decode cX7_step 122 = .ok (.goto 30, 3) := by decide +kernel
theorem dX7_step_125 : decode cX7_step 125 = .ok (.aload_n 0, 1) := by decide +kernel
theorem dX7_step_126 : decode cX7_step 126 = .ok (.iload_n 1, 1) := by decide +kernel
theorem dX7_step_127 : decode cX7_step 127 = .ok (.invokevirtual 86, 3) := by decide +kernel
theorem dX7_step_130 : decode cX7_step 130 = .ok (.goto 22, 3) := by decide +kernel
theorem dX7_step_133 : decode cX7_step 133 = .ok (.aload_n 0, 1) := by decide +kernel
theorem dX7_step_134 : decode cX7_step 134 = .ok (.getfield 21, 3) := by decide +kernel
theorem dX7_step_137 : decode cX7_step 137 = .ok (.aload_n 0, 1) := by decide +kernel
theorem dX7_step_138 : decode cX7_step 138 = .ok (.getfield 26, 3) := by decide +kernel
theorem dX7_step_141 : decode cX7_step 141 = .ok (.aaload, 1) := by decide +kernel
theorem dX7_step_142 : decode cX7_step 142 = .ok (.aload_n 0, 1) := by decide +kernel
theorem dX7_step_143 : decode cX7_step 143 = .ok (.lload_n 2, 1) := by decide +kernel
theorem dX7_step_144 : decode cX7_step 144 = .ok (.lload 4, 2) := by decide +kernel
theorem dX7_step_146 : decode cX7_step 146 = .ok (.invokevirtual 90, 3) := by decide +kernel
theorem dX7_step_149 : decode cX7_step 149 = .ok (.invokevirtual 94, 3) := by decide +kernel
theorem dX7_step_152 : decode cX7_step 152 = .ok (.return_, 1) := by decide +kernel
theorem dX7_openFrame_0 : decode cX7_openFrame 0 = .ok (.aload_n 0, 1) := by decide +kernel
theorem dX7_openFrame_1 : decode cX7_openFrame 1 = .ok (.getfield 26, 3) := by decide +kernel
theorem dX7_openFrame_4 : decode cX7_openFrame 4 = .ok (.iconst 1, 1) := by decide +kernel
theorem dX7_openFrame_5 : decode cX7_openFrame 5 = .ok (.iadd, 1) := by decide +kernel
theorem dX7_openFrame_6 : decode cX7_openFrame 6 = .ok (.aload_n 0, 1) := by decide +kernel
theorem dX7_openFrame_7 : decode cX7_openFrame 7 = .ok (.getfield 21, 3) := by decide +kernel
theorem dX7_openFrame_10 : decode cX7_openFrame 10 = .ok (.arraylength, 1) := by decide +kernel
theorem dX7_openFrame_11 : decode cX7_openFrame 11 = .ok (.if_icmp .ge 25, 3) := by decide +kernel
theorem dX7_openFrame_14 : decode cX7_openFrame 14 = .ok (.aload_n 0, 1) := by decide +kernel
theorem dX7_openFrame_15 : decode cX7_openFrame 15 = .ok (.dup, 1) := by decide +kernel
theorem dX7_openFrame_16 : decode cX7_openFrame 16 = .ok (.getfield 26, 3) := by decide +kernel
theorem dX7_openFrame_19 : decode cX7_openFrame 19 = .ok (.iconst 1, 1) := by decide +kernel
theorem dX7_openFrame_20 : decode cX7_openFrame 20 = .ok (.iadd, 1) := by decide +kernel
theorem dX7_openFrame_21 : decode cX7_openFrame 21 = .ok (.putfield 26, 3) := by decide +kernel
theorem dX7_openFrame_24 : decode cX7_openFrame 24 = .ok (.aload_n 0, 1) := by decide +kernel
theorem dX7_openFrame_25 : decode cX7_openFrame 25 = .ok (.getfield 21, 3) := by decide +kernel
theorem dX7_openFrame_28 : decode cX7_openFrame 28 = .ok (.aload_n 0, 1) := by decide +kernel
theorem dX7_openFrame_29 : decode cX7_openFrame 29 = .ok (.getfield 26, 3) := by decide +kernel
theorem dX7_openFrame_32 : decode cX7_openFrame 32 = .ok (.aaload, 1) := by decide +kernel
theorem dX7_openFrame_33 : decode cX7_openFrame 33 = .ok (.invokevirtual 51, 3) := by decide +kernel
theorem dX7_openFrame_36 : decode cX7_openFrame 36 = .ok (.return_, 1) := by decide +kernel
theorem dX7_closeFrame_0 : decode cX7_closeFrame 0 = .ok (.aload_n 0, 1) := by decide +kernel
theorem dX7_closeFrame_1 : decode cX7_closeFrame 1 = .ok (.getfield 26, 3) := by decide +kernel
theorem dX7_closeFrame_4 : decode cX7_closeFrame 4 = .ok (.iconst 1, 1) := by decide +kernel
theorem dX7_closeFrame_5 : decode cX7_closeFrame 5 = .ok (.if_icmp .lt 15, 3) := by decide +kernel
theorem dX7_closeFrame_8 : decode cX7_closeFrame 8 = .ok (.aload_n 0, 1) := by decide +kernel
theorem dX7_closeFrame_9 : decode cX7_closeFrame 9 = .ok (.getfield 26, 3) := by decide +kernel
theorem dX7_closeFrame_12 : decode cX7_closeFrame 12 = .ok (.aload_n 0, 1) := by decide +kernel
theorem dX7_closeFrame_13 : decode cX7_closeFrame 13 = .ok (.getfield 21, 3) := by decide +kernel
theorem dX7_closeFrame_16 : decode cX7_closeFrame 16 = .ok (.arraylength, 1) := by decide +kernel
theorem dX7_closeFrame_17 : decode cX7_closeFrame 17 = .ok (.if_icmp .lt 4, 3) := by decide +kernel
theorem dX7_closeFrame_20 : decode cX7_closeFrame 20 = .ok (.return_, 1) := by decide +kernel
theorem dX7_closeFrame_21 : decode cX7_closeFrame 21 = .ok (.aload_n 0, 1) := by decide +kernel
theorem dX7_closeFrame_22 : decode cX7_closeFrame 22 = .ok (.getfield 21, 3) := by decide +kernel
theorem dX7_closeFrame_25 : decode cX7_closeFrame 25 = .ok (.aload_n 0, 1) := by decide +kernel
theorem dX7_closeFrame_26 : decode cX7_closeFrame 26 = .ok (.getfield 26, 3) := by decide +kernel
theorem dX7_closeFrame_29 : decode cX7_closeFrame 29 = .ok (.aaload, 1) := by decide +kernel
theorem dX7_closeFrame_30 : decode cX7_closeFrame 30 = .ok (.astore_n 2, 1) := by decide +kernel
theorem dX7_closeFrame_31 : decode cX7_closeFrame 31 = .ok (.aload_n 2, 1) := by decide +kernel
theorem dX7_closeFrame_32 : decode cX7_closeFrame 32 = .ok (.invokevirtual 74, 3) := by decide +kernel
theorem dX7_closeFrame_35 : decode cX7_closeFrame 35 = .ok (.iload_n 1, 1) := by decide +kernel
theorem dX7_closeFrame_36 : decode cX7_closeFrame 36 = .ok (.bipush 125, 2) := by decide +kernel
theorem dX7_closeFrame_38 : decode cX7_closeFrame 38 = .ok (.if_icmp .ne 7, 3) := by decide +kernel
theorem dX7_closeFrame_41 : decode cX7_closeFrame 41 = .ok (.aload_n 2, 1) := by decide +kernel
theorem dX7_closeFrame_42 : decode cX7_closeFrame 42 = .ok (.invokevirtual 83, 3) := by decide +kernel
theorem dX7_closeFrame_45 : decode cX7_closeFrame 45 = .ok (.iconst 0, 1) := by decide +kernel
theorem dX7_closeFrame_46 : decode cX7_closeFrame 46 = .ok (.istore_n 3, 1) := by decide +kernel
theorem dX7_closeFrame_47 : decode cX7_closeFrame 47 = .ok (.iload_n 3, 1) := by decide +kernel
theorem dX7_closeFrame_48 : decode cX7_closeFrame 48 = .ok (.aload_n 0, 1) := by decide +kernel
theorem dX7_closeFrame_49 : decode cX7_closeFrame 49 = .ok (.getfield 29, 3) := by decide +kernel
theorem dX7_closeFrame_52 : decode cX7_closeFrame 52 = .ok (.arraylength, 1) := by decide +kernel
theorem dX7_closeFrame_53 : decode cX7_closeFrame 53 = .ok (.if_icmp .ge 22, 3) := by decide +kernel
theorem dX7_closeFrame_56 : decode cX7_closeFrame 56 = .ok (.aload_n 0, 1) := by decide +kernel
theorem dX7_closeFrame_57 : decode cX7_closeFrame 57 = .ok (.getfield 29, 3) := by decide +kernel
theorem dX7_closeFrame_60 : decode cX7_closeFrame 60 = .ok (.iload_n 3, 1) := by decide +kernel
theorem dX7_closeFrame_61 : decode cX7_closeFrame 61 = .ok (.aload_n 0, 1) := by decide +kernel
theorem dX7_closeFrame_62 : decode cX7_closeFrame 62 = .ok (.aload_n 2, 1) := by decide +kernel
theorem dX7_closeFrame_63 : decode cX7_closeFrame 63 = .ok (.iload_n 1, 1) := by decide +kernel
theorem dX7_closeFrame_64 : decode cX7_closeFrame 64 = .ok (.iload_n 3, 1) := by decide +kernel
theorem dX7_closeFrame_65 : decode cX7_closeFrame 65 = .ok (.invokevirtual 97, 3) := by decide +kernel
theorem dX7_closeFrame_68 : decode cX7_closeFrame 68 = .ok (.iastore, 1) := by decide +kernel
theorem dX7_closeFrame_69 : decode cX7_closeFrame 69 = .ok (.iinc 3 1, 3) := by decide +kernel
theorem dX7_closeFrame_72 : decode cX7_closeFrame 72 = .ok (.goto (-25), 3) := by decide +kernel
theorem dX7_closeFrame_75 : decode cX7_closeFrame 75 = .ok (.aload_n 0, 1) := by decide +kernel
theorem dX7_closeFrame_76 : decode cX7_closeFrame 76 = .ok (.dup, 1) := by decide +kernel
theorem dX7_closeFrame_77 : decode cX7_closeFrame 77 = .ok (.getfield 26, 3) := by decide +kernel
theorem dX7_closeFrame_80 : decode cX7_closeFrame 80 = .ok (.iconst 1, 1) := by decide +kernel
theorem dX7_closeFrame_81 : decode cX7_closeFrame 81 = .ok (.isub, 1) := by decide +kernel
theorem dX7_closeFrame_82 : decode cX7_closeFrame 82 = .ok (.putfield 26, 3) := by decide +kernel
theorem dX7_closeFrame_85 : decode cX7_closeFrame 85 = .ok (.aload_n 0, 1) := by decide +kernel
theorem dX7_closeFrame_86 : decode cX7_closeFrame 86 = .ok (.getfield 21, 3) := by decide +kernel
theorem dX7_closeFrame_89 : decode cX7_closeFrame 89 = .ok (.aload_n 0, 1) := by decide +kernel
theorem dX7_closeFrame_90 : decode cX7_closeFrame 90 = .ok (.getfield 26, 3) := by decide +kernel
theorem dX7_closeFrame_93 : decode cX7_closeFrame 93 = .ok (.aaload, 1) := by decide +kernel
theorem dX7_closeFrame_94 : decode cX7_closeFrame 94 = .ok (.aload_n 0, 1) := by decide +kernel
theorem dX7_closeFrame_95 : decode cX7_closeFrame 95 = .ok (.getfield 29, 3) := by decide +kernel
theorem dX7_closeFrame_98 : decode cX7_closeFrame 98 = .ok (.invokevirtual 101, 3) := by decide +kernel
theorem dX7_closeFrame_101 : decode cX7_closeFrame 101 = .ok (.return_, 1) := by decide +kernel
theorem dX7_endsOf_0 : decode cX7_endsOf 0 = .ok (.iload_n 3, 1) := by decide +kernel
theorem dX7_endsOf_1 : decode cX7_endsOf 1 = .ok (.aload_n 0, 1) := by decide +kernel
theorem dX7_endsOf_2 : decode cX7_endsOf 2 = .ok (.getfield 13, 3) := by decide +kernel
theorem dX7_endsOf_5 : decode cX7_endsOf 5 = .ok (.if_icmp .gt 12, 3) := by decide +kernel
theorem dX7_endsOf_8 : decode cX7_endsOf 8 = .ok (.iload_n 3, 1) := by decide +kernel
theorem dX7_endsOf_9 : decode cX7_endsOf 9 = .ok (.aload_n 1, 1) := by decide +kernel
theorem dX7_endsOf_10 : decode cX7_endsOf 10 = .ok (.getfield 77, 3) := by decide +kernel
theorem dX7_endsOf_13 : decode cX7_endsOf 13 = .ok (.arraylength, 1) := by decide +kernel
theorem dX7_endsOf_14 : decode cX7_endsOf 14 = .ok (.if_icmp .lt 5, 3) := by decide +kernel
theorem dX7_endsOf_17 : decode cX7_endsOf 17 = .ok (.iconst 0, 1) := by decide +kernel
theorem dX7_endsOf_18 : decode cX7_endsOf 18 = .ok (.ireturn, 1) := by decide +kernel
theorem dX7_endsOf_19 : decode cX7_endsOf 19 = .ok (.iload_n 2, 1) := by decide +kernel
theorem dX7_endsOf_20 : decode cX7_endsOf 20 = .ok (.bipush 125, 2) := by decide +kernel
theorem dX7_endsOf_22 : decode cX7_endsOf 22 = .ok (.if_icmp .ne 9, 3) := by decide +kernel
theorem dX7_endsOf_25 : decode cX7_endsOf 25 = .ok (.aload_n 1, 1) := by decide +kernel
theorem dX7_endsOf_26 : decode cX7_endsOf 26 = .ok (.iload_n 3, 1) := by decide +kernel
theorem dX7_endsOf_27 : decode cX7_endsOf 27 = .ok (.invokevirtual 105, 3) := by decide +kernel
theorem dX7_endsOf_30 : decode cX7_endsOf 30 = .ok (.ireturn, 1) := by decide +kernel
theorem dX7_endsOf_31 : decode cX7_endsOf 31 = .ok (.iload_n 2, 1) := by decide +kernel
theorem dX7_endsOf_32 : decode cX7_endsOf 32 = .ok (.bipush 93, 2) := by decide +kernel
theorem dX7_endsOf_34 : decode cX7_endsOf 34 = .ok (.if_icmp .ne 16, 3) := by decide +kernel
theorem dX7_endsOf_37 : decode cX7_endsOf 37 = .ok (.aload_n 1, 1) := by decide +kernel
theorem dX7_endsOf_38 : decode cX7_endsOf 38 = .ok (.getfield 77, 3) := by decide +kernel
theorem dX7_endsOf_41 : decode cX7_endsOf 41 = .ok (.iload_n 3, 1) := by decide +kernel
theorem dX7_endsOf_42 : decode cX7_endsOf 42 = .ok (.iaload, 1) := by decide +kernel
theorem dX7_endsOf_43 : decode cX7_endsOf 43 = .ok (.iconst 1, 1) := by decide +kernel
theorem dX7_endsOf_44 : decode cX7_endsOf 44 = .ok (.iload_n 3, 1) := by decide +kernel
theorem dX7_endsOf_45 : decode cX7_endsOf 45 = .ok (.ishl, 1) := by decide +kernel
theorem dX7_endsOf_46 : decode cX7_endsOf 46 = .ok (.ior, 1) := by decide +kernel
theorem dX7_endsOf_47 : decode cX7_endsOf 47 = .ok (.goto 9, 3) := by decide +kernel
theorem dX7_endsOf_50 : decode cX7_endsOf 50 = .ok (.aload_n 1, 1) := by decide +kernel
theorem dX7_endsOf_51 : decode cX7_endsOf 51 = .ok (.getfield 77, 3) := by decide +kernel
theorem dX7_endsOf_54 : decode cX7_endsOf 54 = .ok (.iload_n 3, 1) := by decide +kernel
theorem dX7_endsOf_55 : decode cX7_endsOf 55 = .ok (.iaload, 1) := by decide +kernel
theorem dX7_endsOf_56 : decode cX7_endsOf 56 = .ok (.ireturn, 1) := by decide +kernel
theorem dX7_placesFrom_0 : decode cX7_placesFrom 0 = .ok (.iconst 0, 1) := by decide +kernel
theorem dX7_placesFrom_1 : decode cX7_placesFrom 1 = .ok (.istore 5, 2) := by decide +kernel
theorem dX7_placesFrom_3 : decode cX7_placesFrom 3 = .ok (.iconst 0, 1) := by decide +kernel
theorem dX7_placesFrom_4 : decode cX7_placesFrom 4 = .ok (.istore 6, 2) := by decide +kernel
theorem dX7_placesFrom_6 : decode cX7_placesFrom 6 = .ok (.iload 6, 2) := by decide +kernel
theorem dX7_placesFrom_8 : decode cX7_placesFrom 8 = .ok (.aload_n 0, 1) := by decide +kernel
theorem dX7_placesFrom_9 : decode cX7_placesFrom 9 = .ok (.getfield 13, 3) := by decide +kernel
theorem dX7_placesFrom_12 : decode cX7_placesFrom 12 = .ok (.if_icmp .ge 42, 3) := by decide +kernel
theorem dX7_placesFrom_15 : decode cX7_placesFrom 15 = .ok (.lload_n 1, 1) := by decide +kernel
theorem dX7_placesFrom_16 : decode cX7_placesFrom 16 = .ok (.aload_n 0, 1) := by decide +kernel
theorem dX7_placesFrom_17 : decode cX7_placesFrom 17 = .ok (.getfield 9, 3) := by decide +kernel
theorem dX7_placesFrom_20 : decode cX7_placesFrom 20 = .ok (.iload 6, 2) := by decide +kernel
theorem dX7_placesFrom_22 : decode cX7_placesFrom 22 = .ok (.laload, 1) := by decide +kernel
theorem dX7_placesFrom_23 : decode cX7_placesFrom 23 = .ok (.lcmp, 1) := by decide +kernel
theorem dX7_placesFrom_24 : decode cX7_placesFrom 24 = .ok (.ifCond .gt 24, 3) := by decide +kernel
theorem dX7_placesFrom_27 : decode cX7_placesFrom 27 = .ok (.aload_n 0, 1) := by decide +kernel
theorem dX7_placesFrom_28 : decode cX7_placesFrom 28 = .ok (.getfield 9, 3) := by decide +kernel
theorem dX7_placesFrom_31 : decode cX7_placesFrom 31 = .ok (.iload 6, 2) := by decide +kernel
theorem dX7_placesFrom_33 : decode cX7_placesFrom 33 = .ok (.laload, 1) := by decide +kernel
theorem dX7_placesFrom_34 : decode cX7_placesFrom 34 = .ok (.lload_n 3, 1) := by decide +kernel
theorem dX7_placesFrom_35 : decode cX7_placesFrom 35 = .ok (.lcmp, 1) := by decide +kernel
theorem dX7_placesFrom_36 : decode cX7_placesFrom 36 = .ok (.ifCond .gt 12, 3) := by decide +kernel
theorem dX7_placesFrom_39 : decode cX7_placesFrom 39 = .ok (.iload 5, 2) := by decide +kernel
theorem dX7_placesFrom_41 : decode cX7_placesFrom 41 = .ok (.iconst 1, 1) := by decide +kernel
theorem dX7_placesFrom_42 : decode cX7_placesFrom 42 = .ok (.iload 6, 2) := by decide +kernel
theorem dX7_placesFrom_44 : decode cX7_placesFrom 44 = .ok (.ishl, 1) := by decide +kernel
theorem dX7_placesFrom_45 : decode cX7_placesFrom 45 = .ok (.ior, 1) := by decide +kernel
theorem dX7_placesFrom_46 : decode cX7_placesFrom 46 = .ok (.istore 5, 2) := by decide +kernel
theorem dX7_placesFrom_48 : decode cX7_placesFrom 48 = .ok (.iinc 6 1, 3) := by decide +kernel
theorem dX7_placesFrom_51 : decode cX7_placesFrom 51 = .ok (.goto (-45), 3) := by decide +kernel
theorem dX7_placesFrom_54 : decode cX7_placesFrom 54 = .ok (.iload 5, 2) := by decide +kernel
theorem dX7_placesFrom_56 : decode cX7_placesFrom 56 = .ok (.ireturn, 1) := by decide +kernel
theorem dX8_init_0 : decode cX8_init 0 = .ok (.aload_n 0, 1) := by decide +kernel
theorem dX8_init_1 : decode cX8_init 1 = .ok (.invokespecial 3, 3) := by decide +kernel
theorem dX8_init_4 : decode cX8_init 4 = .ok (.aload_n 0, 1) := by decide +kernel
theorem dX8_init_5 : decode cX8_init 5 = .ok (.bipush 60, 2) := by decide +kernel
theorem dX8_init_7 : decode cX8_init 7 = .ok (.newarray .int, 2) := by decide +kernel
theorem dX8_init_9 : decode cX8_init 9 = .ok (.putfield 9, 3) := by decide +kernel
theorem dX8_init_12 : decode cX8_init 12 = .ok (.aload_n 0, 1) := by decide +kernel
theorem dX8_init_13 : decode cX8_init 13 = .ok (.bipush 60, 2) := by decide +kernel
theorem dX8_init_15 : decode cX8_init 15 = .ok (.newarray .int, 2) := by decide +kernel
theorem dX8_init_17 : decode cX8_init 17 = .ok (.putfield 15, 3) := by decide +kernel
theorem dX8_init_20 : decode cX8_init 20 = .ok (.aload_n 0, 1) := by decide +kernel
theorem dX8_init_21 : decode cX8_init 21 = .ok (.bipush 60, 2) := by decide +kernel
theorem dX8_init_23 : decode cX8_init 23 = .ok (.newarray .int, 2) := by decide +kernel
theorem dX8_init_25 : decode cX8_init 25 = .ok (.putfield 18, 3) := by decide +kernel
theorem dX8_init_28 : decode cX8_init 28 = .ok (.aload_n 0, 1) := by decide +kernel
theorem dX8_init_29 : decode cX8_init 29 = .ok (.bipush 48, 2) := by decide +kernel
theorem dX8_init_31 : decode cX8_init 31 = .ok (.newarray .int, 2) := by decide +kernel
theorem dX8_init_33 : decode cX8_init 33 = .ok (.putfield 21, 3) := by decide +kernel
theorem dX8_init_36 : decode cX8_init 36 = .ok (.aload_n 0, 1) := by decide +kernel
theorem dX8_init_37 : decode cX8_init 37 = .ok (.bipush 8, 2) := by decide +kernel
theorem dX8_init_39 : decode cX8_init 39 = .ok (.newarray .int, 2) := by decide +kernel
theorem dX8_init_41 : decode cX8_init 41 = .ok (.putfield 24, 3) := by decide +kernel
theorem dX8_init_44 : decode cX8_init 44 = .ok (.return_, 1) := by decide +kernel
theorem dX8_gather_0 : decode cX8_gather 0 = .ok (.aload_n 0, 1) := by decide +kernel
theorem dX8_gather_1 : decode cX8_gather 1 = .ok (.iload_n 3, 1) := by decide +kernel
theorem dX8_gather_2 : decode cX8_gather 2 = .ok (.putfield 27, 3) := by decide +kernel
theorem dX8_gather_5 : decode cX8_gather 5 = .ok (.aload_n 0, 1) := by decide +kernel
theorem dX8_gather_6 : decode cX8_gather 6 = .ok (.iload 4, 2) := by decide +kernel
theorem dX8_gather_8 : decode cX8_gather 8 = .ok (.putfield 31, 3) := by decide +kernel
theorem dX8_gather_11 : decode cX8_gather 11 = .ok (.aload_n 0, 1) := by decide +kernel
theorem dX8_gather_12 : decode cX8_gather 12 = .ok (.iconst 0, 1) := by decide +kernel
theorem dX8_gather_13 : decode cX8_gather 13 = .ok (.putfield 34, 3) := by decide +kernel
theorem dX8_gather_16 : decode cX8_gather 16 = .ok (.aload_n 0, 1) := by decide +kernel
theorem dX8_gather_17 : decode cX8_gather 17 = .ok (.iconst 0, 1) := by decide +kernel
theorem dX8_gather_18 : decode cX8_gather 18 = .ok (.putfield 37, 3) := by decide +kernel
theorem dX8_gather_21 : decode cX8_gather 21 = .ok (.iconst 0, 1) := by decide +kernel
theorem dX8_gather_22 : decode cX8_gather 22 = .ok (.istore 5, 2) := by decide +kernel
theorem dX8_gather_24 : decode cX8_gather 24 = .ok (.iload 5, 2) := by decide +kernel
theorem dX8_gather_26 : decode cX8_gather 26 = .ok (.iload_n 2, 1) := by decide +kernel
theorem dX8_gather_27 : decode cX8_gather 27 = .ok (.if_icmp .ge 99, 3) := by decide +kernel
theorem dX8_gather_30 : decode cX8_gather 30 = .ok (.iload 5, 2) := by decide +kernel
theorem dX8_gather_32 : decode cX8_gather 32 = .ok (.aload_n 1, 1) := by decide +kernel
theorem dX8_gather_33 : decode cX8_gather 33 = .ok (.arraylength, 1) := by decide +kernel
theorem dX8_gather_34 : decode cX8_gather 34 = .ok (.if_icmp .ge 92, 3) := by decide +kernel
theorem dX8_gather_37 : decode cX8_gather 37 = .ok (.aload_n 0, 1) := by decide +kernel
theorem dX8_gather_38 : decode cX8_gather 38 = .ok (.getfield 37, 3) := by decide +kernel
theorem dX8_gather_41 : decode cX8_gather 41 = .ok (.aload_n 0, 1) := by decide +kernel
theorem dX8_gather_42 : decode cX8_gather 42 = .ok (.getfield 9, 3) := by decide +kernel
theorem dX8_gather_45 : decode cX8_gather 45 = .ok (.arraylength, 1) := by decide +kernel
theorem dX8_gather_46 : decode cX8_gather 46 = .ok (.if_icmp .ge 80, 3) := by decide +kernel
theorem dX8_gather_49 : decode cX8_gather 49 = .ok (.aload_n 1, 1) := by decide +kernel
theorem dX8_gather_50 : decode cX8_gather 50 = .ok (.iload 5, 2) := by decide +kernel
theorem dX8_gather_52 : decode cX8_gather 52 = .ok (.aaload, 1) := by decide +kernel
theorem dX8_gather_53 : decode cX8_gather 53 = .ok (.astore 6, 2) := by decide +kernel
theorem dX8_gather_55 : decode cX8_gather 55 = .ok (.aload 6, 2) := by decide +kernel
theorem dX8_gather_57 : decode cX8_gather 57 = .ok (.ifnull 63, 3) := by decide +kernel
theorem dX8_gather_60 : decode cX8_gather 60 = .ok (.aload 6, 2) := by decide +kernel
theorem dX8_gather_62 : decode cX8_gather 62 = .ok (.iload_n 3, 1) := by decide +kernel
theorem dX8_gather_63 : decode cX8_gather 63 = .ok (.iload 4, 2) := by decide +kernel
theorem dX8_gather_65 : decode cX8_gather 65 = .ok (.invokevirtual 40, 3) := by decide +kernel
theorem dX8_gather_68 : decode cX8_gather 68 = .ok (.ifCond .eq 52, 3) := by decide +kernel
theorem dX8_gather_71 : decode cX8_gather 71 = .ok (.aload_n 0, 1) := by decide +kernel
theorem dX8_gather_72 : decode cX8_gather 72 = .ok (.getfield 9, 3) := by decide +kernel
theorem dX8_gather_75 : decode cX8_gather 75 = .ok (.aload_n 0, 1) := by decide +kernel
theorem dX8_gather_76 : decode cX8_gather 76 = .ok (.getfield 37, 3) := by decide +kernel
theorem dX8_gather_79 : decode cX8_gather 79 = .ok (.iload 5, 2) := by decide +kernel
theorem dX8_gather_81 : decode cX8_gather 81 = .ok (.iastore, 1) := by decide +kernel
theorem dX8_gather_82 : decode cX8_gather 82 = .ok (.aload_n 0, 1) := by decide +kernel
theorem dX8_gather_83 : decode cX8_gather 83 = .ok (.getfield 15, 3) := by decide +kernel
theorem dX8_gather_86 : decode cX8_gather 86 = .ok (.aload_n 0, 1) := by decide +kernel
theorem dX8_gather_87 : decode cX8_gather 87 = .ok (.getfield 37, 3) := by decide +kernel
theorem dX8_gather_90 : decode cX8_gather 90 = .ok (.aload 6, 2) := by decide +kernel
theorem dX8_gather_92 : decode cX8_gather 92 = .ok (.getfield 46, 3) := by decide +kernel
theorem dX8_gather_95 : decode cX8_gather 95 = .ok (.iastore, 1) := by decide +kernel
theorem dX8_gather_96 : decode cX8_gather 96 = .ok (.aload_n 0, 1) := by decide +kernel
theorem dX8_gather_97 : decode cX8_gather 97 = .ok (.getfield 18, 3) := by decide +kernel
theorem dX8_gather_100 : decode cX8_gather 100 = .ok (.aload_n 0, 1) := by decide +kernel
theorem dX8_gather_101 : decode cX8_gather 101 = .ok (.getfield 37, 3) := by decide +kernel
theorem dX8_gather_104 : decode cX8_gather 104 = .ok (.aload 6, 2) := by decide +kernel
theorem dX8_gather_106 : decode cX8_gather 106 = .ok (.invokevirtual 49, 3) := by decide +kernel
theorem dX8_gather_109 : decode cX8_gather 109 = .ok (.iastore, 1) := by decide +kernel
theorem dX8_gather_110 : decode cX8_gather 110 = .ok (.aload_n 0, 1) := by decide +kernel
theorem dX8_gather_111 : decode cX8_gather 111 = .ok (.dup, 1) := by decide +kernel
theorem dX8_gather_112 : decode cX8_gather 112 = .ok (.getfield 37, 3) := by decide +kernel
theorem dX8_gather_115 : decode cX8_gather 115 = .ok (.iconst 1, 1) := by decide +kernel
theorem dX8_gather_116 : decode cX8_gather 116 = .ok (.iadd, 1) := by decide +kernel
theorem dX8_gather_117 : decode cX8_gather 117 = .ok (.putfield 37, 3) := by decide +kernel
theorem dX8_gather_120 : decode cX8_gather 120 = .ok (.iinc 5 1, 3) := by decide +kernel
theorem dX8_gather_123 : decode cX8_gather 123 = .ok (.goto (-99), 3) := by decide +kernel
theorem dX8_gather_126 : decode cX8_gather 126 = .ok (.return_, 1) := by decide +kernel
theorem dX8_setBounds_0 : decode cX8_setBounds 0 = .ok (.aload_n 0, 1) := by decide +kernel
theorem dX8_setBounds_1 : decode cX8_setBounds 1 = .ok (.iload_n 1, 1) := by decide +kernel
theorem dX8_setBounds_2 : decode cX8_setBounds 2 = .ok (.putfield 53, 3) := by decide +kernel
theorem dX8_setBounds_5 : decode cX8_setBounds 5 = .ok (.aload_n 0, 1) := by decide +kernel
theorem dX8_setBounds_6 : decode cX8_setBounds 6 = .ok (.iload_n 2, 1) := by decide +kernel
theorem dX8_setBounds_7 : decode cX8_setBounds 7 = .ok (.putfield 56, 3) := by decide +kernel
theorem dX8_setBounds_10 : decode cX8_setBounds 10 = .ok (.aload_n 0, 1) := by decide +kernel
theorem dX8_setBounds_11 : decode cX8_setBounds 11 = .ok (.iload_n 3, 1) := by decide +kernel
theorem dX8_setBounds_12 : decode cX8_setBounds 12 = .ok (.putfield 59, 3) := by decide +kernel
theorem dX8_setBounds_15 : decode cX8_setBounds 15 = .ok (.return_, 1) := by decide +kernel
theorem dX8_search_0 : decode cX8_search 0 = .ok (.aload_n 0, 1) := by decide +kernel
theorem dX8_search_1 : decode cX8_search 1 = .ok (.iconst 0, 1) := by decide +kernel
theorem dX8_search_2 : decode cX8_search 2 = .ok (.putfield 62, 3) := by decide +kernel
theorem dX8_search_5 : decode cX8_search 5 = .ok (.aload_n 0, 1) := by decide +kernel
theorem dX8_search_6 : decode cX8_search 6 = .ok (.iconst 0, 1) := by decide +kernel
theorem dX8_search_7 : decode cX8_search 7 = .ok (.putfield 65, 3) := by decide +kernel
theorem dX8_search_10 : decode cX8_search 10 = .ok (.aload_n 0, 1) := by decide +kernel
theorem dX8_search_11 : decode cX8_search 11 = .ok (.iconst 0, 1) := by decide +kernel
theorem dX8_search_12 : decode cX8_search 12 = .ok (.putfield 68, 3) := by decide +kernel
theorem dX8_search_15 : decode cX8_search 15 = .ok (.aload_n 0, 1) := by decide +kernel
theorem dX8_search_16 : decode cX8_search 16 = .ok (.getfield 24, 3) := by decide +kernel
theorem dX8_search_19 : decode cX8_search 19 = .ok (.iconst 0, 1) := by decide +kernel
theorem dX8_search_20 : decode cX8_search 20 = .ok (.invokestatic 71, 3) := by decide +kernel
theorem dX8_search_23 : decode cX8_search 23 = .ok (.iconst 0, 1) := by decide +kernel
theorem dX8_search_24 : decode cX8_search 24 = .ok (.istore_n 3, 1) := by decide +kernel
theorem dX8_search_25 : decode cX8_search 25 = .ok (.iconst 0, 1) := by decide +kernel
theorem dX8_search_26 : decode cX8_search 26 = .ok (.istore 4, 2) := by decide +kernel
theorem dX8_search_28 : decode cX8_search 28 = .ok (.iload 4, 2) := by decide +kernel
theorem dX8_search_30 : decode cX8_search 30 = .ok (.iconst 2, 1) := by decide +kernel
theorem dX8_search_31 : decode cX8_search 31 = .ok (.iload_n 2, 1) := by decide +kernel
theorem dX8_search_32 : decode cX8_search 32 = .ok (.imul, 1) := by decide +kernel
theorem dX8_search_33 : decode cX8_search 33 = .ok (.if_icmp .gt 144, 3) := by decide +kernel
theorem dX8_search_36 : decode cX8_search 36 = .ok (.aload_n 0, 1) := by decide +kernel
theorem dX8_search_37 : decode cX8_search 37 = .ok (.getfield 62, 3) := by decide +kernel
theorem dX8_search_40 : decode cX8_search 40 = .ok (.iload_n 1, 1) := by decide +kernel
theorem dX8_search_41 : decode cX8_search 41 = .ok (.if_icmp .ge 15, 3) := by decide +kernel
theorem dX8_search_44 : decode cX8_search 44 = .ok (.aload_n 0, 1) := by decide +kernel
theorem dX8_search_45 : decode cX8_search 45 = .ok (.getfield 62, 3) := by decide +kernel
theorem dX8_search_48 : decode cX8_search 48 = .ok (.aload_n 0, 1) := by decide +kernel
theorem dX8_search_49 : decode cX8_search 49 = .ok (.getfield 21, 3) := by decide +kernel
theorem dX8_search_52 : decode cX8_search 52 = .ok (.arraylength, 1) := by decide +kernel
theorem dX8_search_53 : decode cX8_search 53 = .ok (.if_icmp .lt 7, 3) := by decide +kernel
theorem dX8_search_56 : decode cX8_search 56 = .ok (.iconst 1, 1) := by decide +kernel
theorem dX8_search_57 : decode cX8_search 57 = .ok (.goto 4, 3) := by decide +kernel
theorem dX8_search_60 : decode cX8_search 60 = .ok (.iconst 0, 1) := by decide +kernel
theorem dX8_search_61 : decode cX8_search 61 = .ok (.istore 5, 2) := by decide +kernel
theorem dX8_search_63 : decode cX8_search 63 = .ok (.iload 5, 2) := by decide +kernel
theorem dX8_search_65 : decode cX8_search 65 = .ok (.ifCond .eq 35, 3) := by decide +kernel
theorem dX8_search_68 : decode cX8_search 68 = .ok (.aload_n 0, 1) := by decide +kernel
theorem dX8_search_69 : decode cX8_search 69 = .ok (.getfield 56, 3) := by decide +kernel
theorem dX8_search_72 : decode cX8_search 72 = .ok (.aload_n 0, 1) := by decide +kernel
theorem dX8_search_73 : decode cX8_search 73 = .ok (.getfield 65, 3) := by decide +kernel
theorem dX8_search_76 : decode cX8_search 76 = .ok (.if_icmp .gt 24, 3) := by decide +kernel
theorem dX8_search_79 : decode cX8_search 79 = .ok (.aload_n 0, 1) := by decide +kernel
theorem dX8_search_80 : decode cX8_search 80 = .ok (.getfield 65, 3) := by decide +kernel
theorem dX8_search_83 : decode cX8_search 83 = .ok (.aload_n 0, 1) := by decide +kernel
theorem dX8_search_84 : decode cX8_search 84 = .ok (.getfield 59, 3) := by decide +kernel
theorem dX8_search_87 : decode cX8_search 87 = .ok (.if_icmp .gt 13, 3) := by decide +kernel
theorem dX8_search_90 : decode cX8_search 90 = .ok (.aload_n 0, 1) := by decide +kernel
theorem dX8_search_91 : decode cX8_search 91 = .ok (.aload_n 0, 1) := by decide +kernel
theorem dX8_search_92 : decode cX8_search 92 = .ok (.getfield 62, 3) := by decide +kernel
theorem dX8_search_95 : decode cX8_search 95 = .ok (.putfield 34, 3) := by decide +kernel
theorem dX8_search_98 : decode cX8_search 98 = .ok (.iconst 0, 1) := by decide +kernel
theorem dX8_search_99 : decode cX8_search 99 = .ok (.ireturn, 1) := by decide +kernel
theorem dX8_search_100 : decode cX8_search 100 = .ok (.iload 5, 2) := by decide +kernel
theorem dX8_search_102 : decode cX8_search 102 = .ok (.ifCond .eq 10, 3) := by decide +kernel
theorem dX8_search_105 : decode cX8_search 105 = .ok (.aload_n 0, 1) := by decide +kernel
theorem dX8_search_106 : decode cX8_search 106 = .ok (.getfield 37, 3) := by decide +kernel
theorem dX8_search_109 : decode cX8_search 109 = .ok (.goto 8, 3) := by decide +kernel
theorem dX8_search_112 : decode cX8_search 112 = .ok (.aload_n 0, 1) := by decide +kernel
theorem dX8_search_113 : decode cX8_search 113 = .ok (.iload_n 3, 1) := by decide +kernel
theorem dX8_search_114 : decode cX8_search 114 = .ok (.invokevirtual 77, 3) := by decide +kernel
theorem dX8_search_117 : decode cX8_search 117 = .ok (.istore 6, 2) := by decide +kernel
theorem dX8_search_119 : decode cX8_search 119 = .ok (.iload 6, 2) := by decide +kernel
theorem dX8_search_121 : decode cX8_search 121 = .ok (.aload_n 0, 1) := by decide +kernel
theorem dX8_search_122 : decode cX8_search 122 = .ok (.getfield 37, 3) := by decide +kernel
theorem dX8_search_125 : decode cX8_search 125 = .ok (.if_icmp .ge 27, 3) := by decide +kernel
theorem dX8_search_128 : decode cX8_search 128 = .ok (.aload_n 0, 1) := by decide +kernel
theorem dX8_search_129 : decode cX8_search 129 = .ok (.getfield 68, 3) := by decide +kernel
theorem dX8_search_132 : decode cX8_search 132 = .ok (.iload_n 2, 1) := by decide +kernel
theorem dX8_search_133 : decode cX8_search 133 = .ok (.if_icmp .lt 5, 3) := by decide +kernel
theorem dX8_search_136 : decode cX8_search 136 = .ok (.iconst 2, 1) := by decide +kernel
theorem dX8_search_137 : decode cX8_search 137 = .ok (.ireturn, 1) := by decide +kernel
theorem dX8_search_138 : decode cX8_search 138 = .ok (.aload_n 0, 1) := by decide +kernel
theorem dX8_search_139 : decode cX8_search 139 = .ok (.iload 6, 2) := by decide +kernel
theorem dX8_search_141 : decode cX8_search 141 = .ok (.invokevirtual 81, 3) := by decide +kernel
theorem dX8_search_144 : decode cX8_search 144 = .ok (.iload 6, 2) := by decide +kernel
theorem dX8_search_146 : decode cX8_search 146 = .ok (.iconst 1, 1) := by decide +kernel
theorem dX8_search_147 : decode cX8_search 147 = .ok (.iadd, 1) := by decide +kernel
theorem dX8_search_148 : decode cX8_search 148 = .ok (.istore_n 3, 1) := by decide +kernel
theorem dX8_search_149 : decode cX8_search 149 = .ok (.goto 22, 3) := by decide +kernel
theorem dX8_search_152 : decode cX8_search 152 = .ok (.aload_n 0, 1) := by decide +kernel
theorem dX8_search_153 : decode cX8_search 153 = .ok (.getfield 62, 3) := by decide +kernel
theorem dX8_search_156 : decode cX8_search 156 = .ok (.ifCond .le 13, 3) := by decide +kernel
theorem dX8_search_159 : decode cX8_search 159 = .ok (.aload_n 0, 1) := by decide +kernel
theorem dX8_search_160 : decode cX8_search 160 = .ok (.invokevirtual 85, 3) := by decide +kernel
theorem dX8_search_163 : decode cX8_search 163 = .ok (.iconst 1, 1) := by decide +kernel
theorem dX8_search_164 : decode cX8_search 164 = .ok (.iadd, 1) := by decide +kernel
theorem dX8_search_165 : decode cX8_search 165 = .ok (.istore_n 3, 1) := by decide +kernel
theorem dX8_search_166 : decode cX8_search 166 = .ok (.goto 5, 3) := by decide +kernel
theorem dX8_search_169 : decode cX8_search 169 = .ok (.iconst 1, 1) := by decide +kernel
theorem dX8_search_170 : decode cX8_search 170 = .ok (.ireturn, 1) := by decide +kernel
theorem dX8_search_171 : decode cX8_search 171 = .ok (.iinc 4 1, 3) := by decide +kernel
theorem dX8_search_174 : decode cX8_search 174 = .ok (.goto (-146), 3) := by decide +kernel
theorem dX8_search_177 : decode cX8_search 177 = .ok (.iconst 2, 1) := by decide +kernel
theorem dX8_search_178 : decode cX8_search 178 = .ok (.ireturn, 1) := by decide +kernel
theorem dX8_numberAt_0 : decode cX8_numberAt 0 = .ok (.iload_n 1, 1) := by decide +kernel
theorem dX8_numberAt_1 : decode cX8_numberAt 1 = .ok (.ifCond .lt 20, 3) := by decide +kernel
theorem dX8_numberAt_4 : decode cX8_numberAt 4 = .ok (.iload_n 1, 1) := by decide +kernel
theorem dX8_numberAt_5 : decode cX8_numberAt 5 = .ok (.aload_n 0, 1) := by decide +kernel
theorem dX8_numberAt_6 : decode cX8_numberAt 6 = .ok (.getfield 34, 3) := by decide +kernel
theorem dX8_numberAt_9 : decode cX8_numberAt 9 = .ok (.if_icmp .ge 12, 3) := by decide +kernel
theorem dX8_numberAt_12 : decode cX8_numberAt 12 = .ok (.iload_n 1, 1) := by decide +kernel
theorem dX8_numberAt_13 : decode cX8_numberAt 13 = .ok (.aload_n 0, 1) := by decide +kernel
theorem dX8_numberAt_14 : decode cX8_numberAt 14 = .ok (.getfield 21, 3) := by decide +kernel
theorem dX8_numberAt_17 : decode cX8_numberAt 17 = .ok (.arraylength, 1) := by decide +kernel
theorem dX8_numberAt_18 : decode cX8_numberAt 18 = .ok (.if_icmp .lt 5, 3) := by decide +kernel
theorem dX8_numberAt_21 : decode cX8_numberAt 21 = .ok (.iconst (-1), 1) := by decide +kernel
theorem dX8_numberAt_22 : decode cX8_numberAt 22 = .ok (.ireturn, 1) := by decide +kernel
theorem dX8_numberAt_23 : decode cX8_numberAt 23 = .ok (.aload_n 0, 1) := by decide +kernel
theorem dX8_numberAt_24 : decode cX8_numberAt 24 = .ok (.getfield 21, 3) := by decide +kernel
theorem dX8_numberAt_27 : decode cX8_numberAt 27 = .ok (.iload_n 1, 1) := by decide +kernel
theorem dX8_numberAt_28 : decode cX8_numberAt 28 = .ok (.iaload, 1) := by decide +kernel
theorem dX8_numberAt_29 : decode cX8_numberAt 29 = .ok (.istore_n 2, 1) := by decide +kernel
theorem dX8_numberAt_30 : decode cX8_numberAt 30 = .ok (.iload_n 2, 1) := by decide +kernel
theorem dX8_numberAt_31 : decode cX8_numberAt 31 = .ok (.ifCond .lt 21, 3) := by decide +kernel
theorem dX8_numberAt_34 : decode cX8_numberAt 34 = .ok (.iload_n 2, 1) := by decide +kernel
theorem dX8_numberAt_35 : decode cX8_numberAt 35 = .ok (.aload_n 0, 1) := by decide +kernel
theorem dX8_numberAt_36 : decode cX8_numberAt 36 = .ok (.getfield 9, 3) := by decide +kernel
theorem dX8_numberAt_39 : decode cX8_numberAt 39 = .ok (.arraylength, 1) := by decide +kernel
theorem dX8_numberAt_40 : decode cX8_numberAt 40 = .ok (.if_icmp .ge 12, 3) := by decide +kernel
theorem dX8_numberAt_43 : decode cX8_numberAt 43 = .ok (.aload_n 0, 1) := by decide +kernel
theorem dX8_numberAt_44 : decode cX8_numberAt 44 = .ok (.getfield 9, 3) := by decide +kernel
theorem dX8_numberAt_47 : decode cX8_numberAt 47 = .ok (.iload_n 2, 1) := by decide +kernel
theorem dX8_numberAt_48 : decode cX8_numberAt 48 = .ok (.iaload, 1) := by decide +kernel
theorem dX8_numberAt_49 : decode cX8_numberAt 49 = .ok (.goto 4, 3) := by decide +kernel
theorem dX8_numberAt_52 : decode cX8_numberAt 52 = .ok (.iconst (-1), 1) := by decide +kernel
theorem dX8_numberAt_53 : decode cX8_numberAt 53 = .ok (.ireturn, 1) := by decide +kernel
theorem dX8_nextWithRoom_0 : decode cX8_nextWithRoom 0 = .ok (.iload_n 1, 1) := by decide +kernel
theorem dX8_nextWithRoom_1 : decode cX8_nextWithRoom 1 = .ok (.istore_n 2, 1) := by decide +kernel
theorem dX8_nextWithRoom_2 : decode cX8_nextWithRoom 2 = .ok (.iload_n 2, 1) := by decide +kernel
theorem dX8_nextWithRoom_3 : decode cX8_nextWithRoom 3 = .ok (.ifCond .lt 58, 3) := by decide +kernel
theorem dX8_nextWithRoom_6 : decode cX8_nextWithRoom 6 = .ok (.iload_n 2, 1) := by decide +kernel
theorem dX8_nextWithRoom_7 : decode cX8_nextWithRoom 7 = .ok (.aload_n 0, 1) := by decide +kernel
theorem dX8_nextWithRoom_8 : decode cX8_nextWithRoom 8 = .ok (.getfield 37, 3) := by decide +kernel
theorem dX8_nextWithRoom_11 : decode cX8_nextWithRoom 11 = .ok (.if_icmp .ge 50, 3) := by decide +kernel
theorem dX8_nextWithRoom_14 : decode cX8_nextWithRoom 14 = .ok (.iload_n 2, 1) := by decide +kernel
theorem dX8_nextWithRoom_15 : decode cX8_nextWithRoom 15 = .ok (.aload_n 0, 1) := by decide +kernel
theorem dX8_nextWithRoom_16 : decode cX8_nextWithRoom 16 = .ok (.getfield 15, 3) := by decide +kernel
theorem dX8_nextWithRoom_19 : decode cX8_nextWithRoom 19 = .ok (.arraylength, 1) := by decide +kernel
theorem dX8_nextWithRoom_20 : decode cX8_nextWithRoom 20 = .ok (.if_icmp .ge 41, 3) := by decide +kernel
theorem dX8_nextWithRoom_23 : decode cX8_nextWithRoom 23 = .ok (.aload_n 0, 1) := by decide +kernel
theorem dX8_nextWithRoom_24 : decode cX8_nextWithRoom 24 = .ok (.getfield 15, 3) := by decide +kernel
theorem dX8_nextWithRoom_27 : decode cX8_nextWithRoom 27 = .ok (.iload_n 2, 1) := by decide +kernel
theorem dX8_nextWithRoom_28 : decode cX8_nextWithRoom 28 = .ok (.iaload, 1) := by decide +kernel
theorem dX8_nextWithRoom_29 : decode cX8_nextWithRoom 29 = .ok (.istore_n 3, 1) := by decide +kernel
theorem dX8_nextWithRoom_30 : decode cX8_nextWithRoom 30 = .ok (.iload_n 3, 1) := by decide +kernel
theorem dX8_nextWithRoom_31 : decode cX8_nextWithRoom 31 = .ok (.ifCond .lt 24, 3) := by decide +kernel
theorem dX8_nextWithRoom_34 : decode cX8_nextWithRoom 34 = .ok (.iload_n 3, 1) := by decide +kernel
theorem dX8_nextWithRoom_35 : decode cX8_nextWithRoom 35 = .ok (.bipush 8, 2) := by decide +kernel
theorem dX8_nextWithRoom_37 : decode cX8_nextWithRoom 37 = .ok (.if_icmp .ge 18, 3) := by decide +kernel
theorem dX8_nextWithRoom_40 : decode cX8_nextWithRoom 40 = .ok (.aload_n 0, 1) := by decide +kernel
theorem dX8_nextWithRoom_41 : decode cX8_nextWithRoom 41 = .ok (.getfield 24, 3) := by decide +kernel
theorem dX8_nextWithRoom_44 : decode cX8_nextWithRoom 44 = .ok (.iload_n 3, 1) := by decide +kernel
theorem dX8_nextWithRoom_45 : decode cX8_nextWithRoom 45 = .ok (.iaload, 1) := by decide +kernel
theorem dX8_nextWithRoom_46 : decode cX8_nextWithRoom 46 = .ok (.aload_n 0, 1) := by decide +kernel
theorem dX8_nextWithRoom_47 : decode cX8_nextWithRoom 47 = .ok (.getfield 53, 3) := by decide +kernel
theorem dX8_nextWithRoom_50 : decode cX8_nextWithRoom 50 = .ok (.if_icmp .ge 5, 3) := by decide +kernel
theorem dX8_nextWithRoom_53 : decode cX8_nextWithRoom 53 = .ok (.iload_n 2, 1) := by decide +kernel
theorem dX8_nextWithRoom_54 : decode cX8_nextWithRoom 54 = .ok (.ireturn, 1) := by decide +kernel
theorem dX8_nextWithRoom_55 : decode cX8_nextWithRoom 55 = .ok (.iinc 2 1, 3) := by decide +kernel
theorem dX8_nextWithRoom_58 : decode cX8_nextWithRoom 58 = .ok (.goto (-56), 3) := by decide +kernel
theorem dX8_nextWithRoom_61 : decode cX8_nextWithRoom 61 = .ok (.aload_n 0, 1) := by decide +kernel
theorem dX8_nextWithRoom_62 : decode cX8_nextWithRoom 62 = .ok (.getfield 37, 3) := by decide +kernel
theorem dX8_nextWithRoom_65 : decode cX8_nextWithRoom 65 = .ok (.ireturn, 1) := by decide +kernel
theorem dX8_putIn_0 : decode cX8_putIn 0 = .ok (.aload_n 0, 1) := by decide +kernel
theorem dX8_putIn_1 : decode cX8_putIn 1 = .ok (.getfield 62, 3) := by decide +kernel
theorem dX8_putIn_4 : decode cX8_putIn 4 = .ok (.aload_n 0, 1) := by decide +kernel
theorem dX8_putIn_5 : decode cX8_putIn 5 = .ok (.getfield 21, 3) := by decide +kernel
theorem dX8_putIn_8 : decode cX8_putIn 8 = .ok (.arraylength, 1) := by decide +kernel
theorem dX8_putIn_9 : decode cX8_putIn 9 = .ok (.if_icmp .ge 39, 3) := by decide +kernel
theorem dX8_putIn_12 : decode cX8_putIn 12 = .ok (.aload_n 0, 1) := by decide +kernel
theorem dX8_putIn_13 : decode cX8_putIn 13 = .ok (.dup, 1) := by decide +kernel
theorem dX8_putIn_14 : decode cX8_putIn 14 = .ok (.getfield 68, 3) := by decide +kernel
theorem dX8_putIn_17 : decode cX8_putIn 17 = .ok (.iconst 1, 1) := by decide +kernel
theorem dX8_putIn_18 : decode cX8_putIn 18 = .ok (.iadd, 1) := by decide +kernel
theorem dX8_putIn_19 : decode cX8_putIn 19 = .ok (.putfield 68, 3) := by decide +kernel
theorem dX8_putIn_22 : decode cX8_putIn 22 = .ok (.aload_n 0, 1) := by decide +kernel
theorem dX8_putIn_23 : decode cX8_putIn 23 = .ok (.getfield 21, 3) := by decide +kernel
theorem dX8_putIn_26 : decode cX8_putIn 26 = .ok (.aload_n 0, 1) := by decide +kernel
theorem dX8_putIn_27 : decode cX8_putIn 27 = .ok (.getfield 62, 3) := by decide +kernel
theorem dX8_putIn_30 : decode cX8_putIn 30 = .ok (.iload_n 1, 1) := by decide +kernel
theorem dX8_putIn_31 : decode cX8_putIn 31 = .ok (.iastore, 1) := by decide +kernel
theorem dX8_putIn_32 : decode cX8_putIn 32 = .ok (.aload_n 0, 1) := by decide +kernel
theorem dX8_putIn_33 : decode cX8_putIn 33 = .ok (.dup, 1) := by decide +kernel
theorem dX8_putIn_34 : decode cX8_putIn 34 = .ok (.getfield 62, 3) := by decide +kernel
theorem dX8_putIn_37 : decode cX8_putIn 37 = .ok (.iconst 1, 1) := by decide +kernel
theorem dX8_putIn_38 : decode cX8_putIn 38 = .ok (.iadd, 1) := by decide +kernel
theorem dX8_putIn_39 : decode cX8_putIn 39 = .ok (.putfield 62, 3) := by decide +kernel
theorem dX8_putIn_42 : decode cX8_putIn 42 = .ok (.aload_n 0, 1) := by decide +kernel
theorem dX8_putIn_43 : decode cX8_putIn 43 = .ok (.iload_n 1, 1) := by decide +kernel
theorem dX8_putIn_44 : decode cX8_putIn 44 = .ok (.iconst 1, 1) := by decide +kernel
theorem dX8_putIn_45 : decode cX8_putIn 45 = .ok (.invokevirtual 88, 3) := by decide +kernel
theorem dX8_putIn_48 : decode cX8_putIn 48 = .ok (.return_, 1) := by decide +kernel
theorem dX8_takeOut_0 : decode cX8_takeOut 0 = .ok (.aload_n 0, 1) := by decide +kernel
theorem dX8_takeOut_1 : decode cX8_takeOut 1 = .ok (.getfield 62, 3) := by decide +kernel
theorem dX8_takeOut_4 : decode cX8_takeOut 4 = .ok (.iconst 1, 1) := by decide +kernel
theorem dX8_takeOut_5 : decode cX8_takeOut 5 = .ok (.if_icmp .lt 15, 3) := by decide +kernel
theorem dX8_takeOut_8 : decode cX8_takeOut 8 = .ok (.aload_n 0, 1) := by decide +kernel
theorem dX8_takeOut_9 : decode cX8_takeOut 9 = .ok (.getfield 62, 3) := by decide +kernel
theorem dX8_takeOut_12 : decode cX8_takeOut 12 = .ok (.aload_n 0, 1) := by decide +kernel
theorem dX8_takeOut_13 : decode cX8_takeOut 13 = .ok (.getfield 21, 3) := by decide +kernel
theorem dX8_takeOut_16 : decode cX8_takeOut 16 = .ok (.arraylength, 1) := by decide +kernel
theorem dX8_takeOut_17 : decode cX8_takeOut 17 = .ok (.if_icmp .le 8, 3) := by decide +kernel
theorem dX8_takeOut_20 : decode cX8_takeOut 20 = .ok (.aload_n 0, 1) := by decide +kernel
theorem dX8_takeOut_21 : decode cX8_takeOut 21 = .ok (.getfield 37, 3) := by decide +kernel
theorem dX8_takeOut_24 : decode cX8_takeOut 24 = .ok (.ireturn, 1) := by decide +kernel
theorem dX8_takeOut_25 : decode cX8_takeOut 25 = .ok (.aload_n 0, 1) := by decide +kernel
theorem dX8_takeOut_26 : decode cX8_takeOut 26 = .ok (.dup, 1) := by decide +kernel
theorem dX8_takeOut_27 : decode cX8_takeOut 27 = .ok (.getfield 62, 3) := by decide +kernel
theorem dX8_takeOut_30 : decode cX8_takeOut 30 = .ok (.iconst 1, 1) := by decide +kernel
theorem dX8_takeOut_31 : decode cX8_takeOut 31 = .ok (.isub, 1) := by decide +kernel
theorem dX8_takeOut_32 : decode cX8_takeOut 32 = .ok (.putfield 62, 3) := by decide +kernel
theorem dX8_takeOut_35 : decode cX8_takeOut 35 = .ok (.aload_n 0, 1) := by decide +kernel
theorem dX8_takeOut_36 : decode cX8_takeOut 36 = .ok (.aload_n 0, 1) := by decide +kernel
theorem dX8_takeOut_37 : decode cX8_takeOut 37 = .ok (.getfield 21, 3) := by decide +kernel
theorem dX8_takeOut_40 : decode cX8_takeOut 40 = .ok (.aload_n 0, 1) := by decide +kernel
theorem dX8_takeOut_41 : decode cX8_takeOut 41 = .ok (.getfield 62, 3) := by decide +kernel
theorem dX8_takeOut_44 : decode cX8_takeOut 44 = .ok (.iaload, 1) := by decide +kernel
theorem dX8_takeOut_45 : decode cX8_takeOut 45 = .ok (.iconst (-1), 1) := by decide +kernel
theorem dX8_takeOut_46 : decode cX8_takeOut 46 = .ok (.invokevirtual 88, 3) := by decide +kernel
theorem dX8_takeOut_49 : decode cX8_takeOut 49 = .ok (.aload_n 0, 1) := by decide +kernel
theorem dX8_takeOut_50 : decode cX8_takeOut 50 = .ok (.getfield 21, 3) := by decide +kernel
theorem dX8_takeOut_53 : decode cX8_takeOut 53 = .ok (.aload_n 0, 1) := by decide +kernel
theorem dX8_takeOut_54 : decode cX8_takeOut 54 = .ok (.getfield 62, 3) := by decide +kernel
theorem dX8_takeOut_57 : decode cX8_takeOut 57 = .ok (.iaload, 1) := by decide +kernel
theorem dX8_takeOut_58 : decode cX8_takeOut 58 = .ok (.ireturn, 1) := by decide +kernel
theorem dX8_weigh_0 : decode cX8_weigh 0 = .ok (.iload_n 1, 1) := by decide +kernel
theorem dX8_weigh_1 : decode cX8_weigh 1 = .ok (.ifCond .lt 64, 3) := by decide +kernel
theorem dX8_weigh_4 : decode cX8_weigh 4 = .ok (.iload_n 1, 1) := by decide +kernel
theorem dX8_weigh_5 : decode cX8_weigh 5 = .ok (.aload_n 0, 1) := by decide +kernel
theorem dX8_weigh_6 : decode cX8_weigh 6 = .ok (.getfield 15, 3) := by decide +kernel
theorem dX8_weigh_9 : decode cX8_weigh 9 = .ok (.arraylength, 1) := by decide +kernel
theorem dX8_weigh_10 : decode cX8_weigh 10 = .ok (.if_icmp .ge 55, 3) := by decide +kernel
theorem dX8_weigh_13 : decode cX8_weigh 13 = .ok (.aload_n 0, 1) := by decide +kernel
theorem dX8_weigh_14 : decode cX8_weigh 14 = .ok (.getfield 15, 3) := by decide +kernel
theorem dX8_weigh_17 : decode cX8_weigh 17 = .ok (.iload_n 1, 1) := by decide +kernel
theorem dX8_weigh_18 : decode cX8_weigh 18 = .ok (.iaload, 1) := by decide +kernel
theorem dX8_weigh_19 : decode cX8_weigh 19 = .ok (.ifCond .lt 46, 3) := by decide +kernel
theorem dX8_weigh_22 : decode cX8_weigh 22 = .ok (.aload_n 0, 1) := by decide +kernel
theorem dX8_weigh_23 : decode cX8_weigh 23 = .ok (.getfield 15, 3) := by decide +kernel
theorem dX8_weigh_26 : decode cX8_weigh 26 = .ok (.iload_n 1, 1) := by decide +kernel
theorem dX8_weigh_27 : decode cX8_weigh 27 = .ok (.iaload, 1) := by decide +kernel
theorem dX8_weigh_28 : decode cX8_weigh 28 = .ok (.bipush 8, 2) := by decide +kernel
theorem dX8_weigh_30 : decode cX8_weigh 30 = .ok (.if_icmp .ge 35, 3) := by decide +kernel
theorem dX8_weigh_33 : decode cX8_weigh 33 = .ok (.aload_n 0, 1) := by decide +kernel
theorem dX8_weigh_34 : decode cX8_weigh 34 = .ok (.getfield 24, 3) := by decide +kernel
theorem dX8_weigh_37 : decode cX8_weigh 37 = .ok (.aload_n 0, 1) := by decide +kernel
theorem dX8_weigh_38 : decode cX8_weigh 38 = .ok (.getfield 15, 3) := by decide +kernel
theorem dX8_weigh_41 : decode cX8_weigh 41 = .ok (.iload_n 1, 1) := by decide +kernel
theorem dX8_weigh_42 : decode cX8_weigh 42 = .ok (.iaload, 1) := by decide +kernel
theorem dX8_weigh_43 : decode cX8_weigh 43 = .ok (.dup2, 1) := by decide +kernel
theorem dX8_weigh_44 : decode cX8_weigh 44 = .ok (.iaload, 1) := by decide +kernel
theorem dX8_weigh_45 : decode cX8_weigh 45 = .ok (.iload_n 2, 1) := by decide +kernel
theorem dX8_weigh_46 : decode cX8_weigh 46 = .ok (.iadd, 1) := by decide +kernel
theorem dX8_weigh_47 : decode cX8_weigh 47 = .ok (.iastore, 1) := by decide +kernel
theorem dX8_weigh_48 : decode cX8_weigh 48 = .ok (.aload_n 0, 1) := by decide +kernel
theorem dX8_weigh_49 : decode cX8_weigh 49 = .ok (.dup, 1) := by decide +kernel
theorem dX8_weigh_50 : decode cX8_weigh 50 = .ok (.getfield 65, 3) := by decide +kernel
theorem dX8_weigh_53 : decode cX8_weigh 53 = .ok (.iload_n 2, 1) := by decide +kernel
theorem dX8_weigh_54 : decode cX8_weigh 54 = .ok (.aload_n 0, 1) := by decide +kernel
theorem dX8_weigh_55 : decode cX8_weigh 55 = .ok (.getfield 18, 3) := by decide +kernel
theorem dX8_weigh_58 : decode cX8_weigh 58 = .ok (.iload_n 1, 1) := by decide +kernel
theorem dX8_weigh_59 : decode cX8_weigh 59 = .ok (.iaload, 1) := by decide +kernel
theorem dX8_weigh_60 : decode cX8_weigh 60 = .ok (.imul, 1) := by decide +kernel
theorem dX8_weigh_61 : decode cX8_weigh 61 = .ok (.iadd, 1) := by decide +kernel
theorem dX8_weigh_62 : decode cX8_weigh 62 = .ok (.putfield 65, 3) := by decide +kernel
theorem dX8_weigh_65 : decode cX8_weigh 65 = .ok (.return_, 1) := by decide +kernel
theorem dX9_init_0 : decode cX9_init 0 = .ok (.aload_n 0, 1) := by decide +kernel
theorem dX9_init_1 : decode cX9_init 1 = .ok (.invokespecial 3, 3) := by decide +kernel
theorem dX9_init_4 : decode cX9_init 4 = .ok (.aload_n 0, 1) := by decide +kernel
theorem dX9_init_5 : decode cX9_init 5 = .ok (.iload_n 1, 1) := by decide +kernel
theorem dX9_init_6 : decode cX9_init 6 = .ok (.putfield 9, 3) := by decide +kernel
theorem dX9_init_9 : decode cX9_init 9 = .ok (.aload_n 0, 1) := by decide +kernel
theorem dX9_init_10 : decode cX9_init 10 = .ok (.aload_n 2, 1) := by decide +kernel
theorem dX9_init_11 : decode cX9_init 11 = .ok (.putfield 15, 3) := by decide +kernel
theorem dX9_init_14 : decode cX9_init 14 = .ok (.return_, 1) := by decide +kernel
theorem dX9_hard_0 : decode cX9_hard 0 = .ok (.aload_n 0, 1) := by decide +kernel
theorem dX9_hard_1 : decode cX9_hard 1 = .ok (.getfield 19, 3) := by decide +kernel
theorem dX9_hard_4 : decode cX9_hard 4 = .ok (.ifCond .le 18, 3) := by decide +kernel
theorem dX9_hard_7 : decode cX9_hard 7 = .ok (.aload_n 0, 1) := by decide +kernel
theorem dX9_hard_8 : decode cX9_hard 8 = .ok (.getfield 22, 3) := by decide +kernel
theorem dX9_hard_11 : decode cX9_hard 11 = .ok (.bipush 100, 2) := by decide +kernel
theorem dX9_hard_13 : decode cX9_hard 13 = .ok (.imul, 1) := by decide +kernel
theorem dX9_hard_14 : decode cX9_hard 14 = .ok (.aload_n 0, 1) := by decide +kernel
theorem dX9_hard_15 : decode cX9_hard 15 = .ok (.getfield 19, 3) := by decide +kernel
theorem dX9_hard_18 : decode cX9_hard 18 = .ok (.idiv, 1) := by decide +kernel
theorem dX9_hard_19 : decode cX9_hard 19 = .ok (.goto 5, 3) := by decide +kernel
theorem dX9_hard_22 : decode cX9_hard 22 = .ok (.bipush 50, 2) := by decide +kernel
theorem dX9_hard_24 : decode cX9_hard 24 = .ok (.ireturn, 1) := by decide +kernel
theorem dX9_isSeenBy_0 : decode cX9_isSeenBy 0 = .ok (.aload_n 0, 1) := by decide +kernel
theorem dX9_isSeenBy_1 : decode cX9_isSeenBy 1 = .ok (.getfield 25, 3) := by decide +kernel
theorem dX9_isSeenBy_4 : decode cX9_isSeenBy 4 = .ok (.iload_n 1, 1) := by decide +kernel
theorem dX9_isSeenBy_5 : decode cX9_isSeenBy 5 = .ok (.ishr, 1) := by decide +kernel
theorem dX9_isSeenBy_6 : decode cX9_isSeenBy 6 = .ok (.iconst 1, 1) := by decide +kernel
theorem dX9_isSeenBy_7 : decode cX9_isSeenBy 7 = .ok (.iand, 1) := by decide +kernel
theorem dX9_isSeenBy_8 : decode cX9_isSeenBy 8 = .ok (.iconst 1, 1) := by decide +kernel
theorem dX9_isSeenBy_9 : decode cX9_isSeenBy 9 = .ok (.if_icmp .ne 7, 3) := by decide +kernel
theorem dX9_isSeenBy_12 : decode cX9_isSeenBy 12 = .ok (.iconst 1, 1) := by decide +kernel
theorem dX9_isSeenBy_13 : decode cX9_isSeenBy 13 = .ok (.goto 4, 3) := by decide +kernel
theorem dX9_isSeenBy_16 : decode cX9_isSeenBy 16 = .ok (.iconst 0, 1) := by decide +kernel
theorem dX9_isSeenBy_17 : decode cX9_isSeenBy 17 = .ok (.ireturn, 1) := by decide +kernel
theorem dX9_isFreeFor_0 : decode cX9_isFreeFor 0 = .ok (.aload_n 0, 1) := by decide +kernel
theorem dX9_isFreeFor_1 : decode cX9_isFreeFor 1 = .ok (.getfield 28, 3) := by decide +kernel
theorem dX9_isFreeFor_4 : decode cX9_isFreeFor 4 = .ok (.ifCond .ne 23, 3) := by decide +kernel
theorem dX9_isFreeFor_7 : decode cX9_isFreeFor 7 = .ok (.aload_n 0, 1) := by decide +kernel
theorem dX9_isFreeFor_8 : decode cX9_isFreeFor 8 = .ok (.iload_n 1, 1) := by decide +kernel
theorem dX9_isFreeFor_9 : decode cX9_isFreeFor 9 = .ok (.invokevirtual 32, 3) := by decide +kernel
theorem dX9_isFreeFor_12 : decode cX9_isFreeFor 12 = .ok (.ifCond .ne 15, 3) := by decide +kernel
theorem dX9_isFreeFor_15 : decode cX9_isFreeFor 15 = .ok (.aload_n 0, 1) := by decide +kernel
theorem dX9_isFreeFor_16 : decode cX9_isFreeFor 16 = .ok (.iload_n 2, 1) := by decide +kernel
theorem dX9_isFreeFor_17 : decode cX9_isFreeFor 17 = .ok (.invokevirtual 32, 3) := by decide +kernel
theorem dX9_isFreeFor_20 : decode cX9_isFreeFor 20 = .ok (.ifCond .ne 7, 3) := by decide +kernel
theorem dX9_isFreeFor_23 : decode cX9_isFreeFor 23 = .ok (.iconst 1, 1) := by decide +kernel
theorem dX9_isFreeFor_24 : decode cX9_isFreeFor 24 = .ok (.goto 4, 3) := by decide +kernel
theorem dX9_isFreeFor_27 : decode cX9_isFreeFor 27 = .ok (.iconst 0, 1) := by decide +kernel
theorem dX9_isFreeFor_28 : decode cX9_isFreeFor 28 = .ok (.ireturn, 1) := by decide +kernel
theorem dX9_addPlay_0 : decode cX9_addPlay 0 = .ok (.aload_n 0, 1) := by decide +kernel
theorem dX9_addPlay_1 : decode cX9_addPlay 1 = .ok (.dup, 1) := by decide +kernel
theorem dX9_addPlay_2 : decode cX9_addPlay 2 = .ok (.getfield 19, 3) := by decide +kernel
theorem dX9_addPlay_5 : decode cX9_addPlay 5 = .ok (.iconst 1, 1) := by decide +kernel
theorem dX9_addPlay_6 : decode cX9_addPlay 6 = .ok (.iadd, 1) := by decide +kernel
theorem dX9_addPlay_7 : decode cX9_addPlay 7 = .ok (.putfield 19, 3) := by decide +kernel
theorem dX9_addPlay_10 : decode cX9_addPlay 10 = .ok (.iload_n 1, 1) := by decide +kernel
theorem dX9_addPlay_11 : decode cX9_addPlay 11 = .ok (.ifCond .eq 13, 3) := by decide +kernel
theorem dX9_addPlay_14 : decode cX9_addPlay 14 = .ok (.aload_n 0, 1) := by decide +kernel
theorem dX9_addPlay_15 : decode cX9_addPlay 15 = .ok (.dup, 1) := by decide +kernel
theorem dX9_addPlay_16 : decode cX9_addPlay 16 = .ok (.getfield 22, 3) := by decide +kernel
theorem dX9_addPlay_19 : decode cX9_addPlay 19 = .ok (.iconst 1, 1) := by decide +kernel
theorem dX9_addPlay_20 : decode cX9_addPlay 20 = .ok (.iadd, 1) := by decide +kernel
theorem dX9_addPlay_21 : decode cX9_addPlay 21 = .ok (.putfield 22, 3) := by decide +kernel
theorem dX9_addPlay_24 : decode cX9_addPlay 24 = .ok (.aload_n 0, 1) := by decide +kernel
theorem dX9_addPlay_25 : decode cX9_addPlay 25 = .ok (.dup, 1) := by decide +kernel
theorem dX9_addPlay_26 : decode cX9_addPlay 26 = .ok (.getfield 25, 3) := by decide +kernel
theorem dX9_addPlay_29 : decode cX9_addPlay 29 = .ok (.iconst 1, 1) := by decide +kernel
theorem dX9_addPlay_30 : decode cX9_addPlay 30 = .ok (.iload_n 2, 1) := by decide +kernel
theorem dX9_addPlay_31 : decode cX9_addPlay 31 = .ok (.ishl, 1) := by decide +kernel
theorem dX9_addPlay_32 : decode cX9_addPlay 32 = .ok (.iconst 1, 1) := by decide +kernel
theorem dX9_addPlay_33 : decode cX9_addPlay 33 = .ok (.iload_n 3, 1) := by decide +kernel
theorem dX9_addPlay_34 : decode cX9_addPlay 34 = .ok (.ishl, 1) := by decide +kernel
theorem dX9_addPlay_35 : decode cX9_addPlay 35 = .ok (.ior, 1) := by decide +kernel
theorem dX9_addPlay_36 : decode cX9_addPlay 36 = .ok (.ior, 1) := by decide +kernel
theorem dX9_addPlay_37 : decode cX9_addPlay 37 = .ok (.putfield 25, 3) := by decide +kernel
theorem dX9_addPlay_40 : decode cX9_addPlay 40 = .ok (.return_, 1) := by decide +kernel
theorem dX9_tell_0 : decode cX9_tell 0 = .ok (.iload_n 1, 1) := by decide +kernel
theorem dX9_tell_1 : decode cX9_tell 1 = .ok (.tableswitch 80 0 5 #[39, 44, 49, 54, 59, 72], 39) := by decide +kernel
theorem dX9_tell_40 : decode cX9_tell 40 = .ok (.aload_n 0, 1) := by decide +kernel
theorem dX9_tell_41 : decode cX9_tell 41 = .ok (.getfield 9, 3) := by decide +kernel
theorem dX9_tell_44 : decode cX9_tell 44 = .ok (.ireturn, 1) := by decide +kernel
theorem dX9_tell_45 : decode cX9_tell 45 = .ok (.aload_n 0, 1) := by decide +kernel
theorem dX9_tell_46 : decode cX9_tell 46 = .ok (.getfield 19, 3) := by decide +kernel
theorem dX9_tell_49 : decode cX9_tell 49 = .ok (.ireturn, 1) := by decide +kernel
theorem dX9_tell_50 : decode cX9_tell 50 = .ok (.aload_n 0, 1) := by decide +kernel
theorem dX9_tell_51 : decode cX9_tell 51 = .ok (.getfield 22, 3) := by decide +kernel
theorem dX9_tell_54 : decode cX9_tell 54 = .ok (.ireturn, 1) := by decide +kernel
theorem dX9_tell_55 : decode cX9_tell 55 = .ok (.aload_n 0, 1) := by decide +kernel
theorem dX9_tell_56 : decode cX9_tell 56 = .ok (.invokevirtual 36, 3) := by decide +kernel
theorem dX9_tell_59 : decode cX9_tell 59 = .ok (.ireturn, 1) := by decide +kernel
theorem dX9_tell_60 : decode cX9_tell 60 = .ok (.aload_n 0, 1) := by decide +kernel
theorem dX9_tell_61 : decode cX9_tell 61 = .ok (.getfield 28, 3) := by decide +kernel
theorem dX9_tell_64 : decode cX9_tell 64 = .ok (.ifCond .eq 7, 3) := by decide +kernel
theorem dX9_tell_67 : decode cX9_tell 67 = .ok (.iconst 1, 1) := by decide +kernel
theorem dX9_tell_68 : decode cX9_tell 68 = .ok (.goto 4, 3) := by decide +kernel
theorem dX9_tell_71 : decode cX9_tell 71 = .ok (.iconst 0, 1) := by decide +kernel
theorem dX9_tell_72 : decode cX9_tell 72 = .ok (.ireturn, 1) := by decide +kernel
theorem dX9_tell_73 : decode cX9_tell 73 = .ok (.aload_n 0, 1) := by decide +kernel
theorem dX9_tell_74 : decode cX9_tell 74 = .ok (.getfield 25, 3) := by decide +kernel
theorem dX9_tell_77 : decode cX9_tell 77 = .ok (.invokestatic 40, 3) := by decide +kernel
theorem dX9_tell_80 : decode cX9_tell 80 = .ok (.ireturn, 1) := by decide +kernel
theorem dX9_tell_81 : decode cX9_tell 81 = .ok (.iconst (-1), 1) := by decide +kernel
theorem dX9_tell_82 : decode cX9_tell 82 = .ok (.ireturn, 1) := by decide +kernel
theorem dX10_init_0 : decode cX10_init 0 = .ok (.aload_n 0, 1) := by decide +kernel
theorem dX10_init_1 : decode cX10_init 1 = .ok (.invokespecial 3, 3) := by decide +kernel
theorem dX10_init_4 : decode cX10_init 4 = .ok (.aload_n 0, 1) := by decide +kernel
theorem dX10_init_5 : decode cX10_init 5 = .ok (.sipush 260, 3) := by decide +kernel
theorem dX10_init_8 : decode cX10_init 8 = .ok (.newarray .short, 2) := by decide +kernel
theorem dX10_init_10 : decode cX10_init 10 = .ok (.putfield 11, 3) := by decide +kernel
theorem dX10_init_13 : decode cX10_init 13 = .ok (.aload_n 0, 1) := by decide +kernel
theorem dX10_init_14 : decode cX10_init 14 = .ok (.iconst 0, 1) := by decide +kernel
theorem dX10_init_15 : decode cX10_init 15 = .ok (.putfield 15, 3) := by decide +kernel
theorem dX10_init_18 : decode cX10_init 18 = .ok (.return_, 1) := by decide +kernel
theorem dX10_hasRoomFor_0 : decode cX10_hasRoomFor 0 = .ok (.aload_n 0, 1) := by decide +kernel
theorem dX10_hasRoomFor_1 : decode cX10_hasRoomFor 1 = .ok (.getfield 15, 3) := by decide +kernel
theorem dX10_hasRoomFor_4 : decode cX10_hasRoomFor 4 = .ok (.iload_n 1, 1) := by decide +kernel
theorem dX10_hasRoomFor_5 : decode cX10_hasRoomFor 5 = .ok (.iadd, 1) := by decide +kernel
theorem dX10_hasRoomFor_6 : decode cX10_hasRoomFor 6 = .ok (.sipush 260, 3) := by decide +kernel
theorem dX10_hasRoomFor_9 : decode cX10_hasRoomFor 9 = .ok (.if_icmp .gt 7, 3) := by decide +kernel
theorem dX10_hasRoomFor_12 : decode cX10_hasRoomFor 12 = .ok (.iconst 1, 1) := by decide +kernel
theorem dX10_hasRoomFor_13 : decode cX10_hasRoomFor 13 = .ok (.goto 4, 3) := by decide +kernel
theorem dX10_hasRoomFor_16 : decode cX10_hasRoomFor 16 = .ok (.iconst 0, 1) := by decide +kernel
theorem dX10_hasRoomFor_17 : decode cX10_hasRoomFor 17 = .ok (.ireturn, 1) := by decide +kernel
theorem dX10_addNumber_0 : decode cX10_addNumber 0 = .ok (.bipush 24, 2) := by decide +kernel
theorem dX10_addNumber_2 : decode cX10_addNumber 2 = .ok (.istore_n 2, 1) := by decide +kernel
theorem dX10_addNumber_3 : decode cX10_addNumber 3 = .ok (.iload_n 2, 1) := by decide +kernel
theorem dX10_addNumber_4 : decode cX10_addNumber 4 = .ok (.ifCond .lt 46, 3) := by decide +kernel
theorem dX10_addNumber_7 : decode cX10_addNumber 7 = .ok (.aload_n 0, 1) := by decide +kernel
theorem dX10_addNumber_8 : decode cX10_addNumber 8 = .ok (.getfield 15, 3) := by decide +kernel
theorem dX10_addNumber_11 : decode cX10_addNumber 11 = .ok (.sipush 260, 3) := by decide +kernel
theorem dX10_addNumber_14 : decode cX10_addNumber 14 = .ok (.if_icmp .ge 36, 3) := by decide +kernel
theorem dX10_addNumber_17 : decode cX10_addNumber 17 = .ok (.aload_n 0, 1) := by decide +kernel
theorem dX10_addNumber_18 : decode cX10_addNumber 18 = .ok (.getfield 11, 3) := by decide +kernel
theorem dX10_addNumber_21 : decode cX10_addNumber 21 = .ok (.aload_n 0, 1) := by decide +kernel
theorem dX10_addNumber_22 : decode cX10_addNumber 22 = .ok (.getfield 15, 3) := by decide +kernel
theorem dX10_addNumber_25 : decode cX10_addNumber 25 = .ok (.iload_n 1, 1) := by decide +kernel
theorem dX10_addNumber_26 : decode cX10_addNumber 26 = .ok (.iload_n 2, 1) := by decide +kernel
theorem dX10_addNumber_27 : decode cX10_addNumber 27 = .ok (.iushr, 1) := by decide +kernel
theorem dX10_addNumber_28 : decode cX10_addNumber 28 = .ok (.sipush 255, 3) := by decide +kernel
theorem dX10_addNumber_31 : decode cX10_addNumber 31 = .ok (.iand, 1) := by decide +kernel
theorem dX10_addNumber_32 : decode cX10_addNumber 32 = .ok (.i2s, 1) := by decide +kernel
theorem dX10_addNumber_33 : decode cX10_addNumber 33 = .ok (.sastore, 1) := by decide +kernel
theorem dX10_addNumber_34 : decode cX10_addNumber 34 = .ok (.aload_n 0, 1) := by decide +kernel
theorem dX10_addNumber_35 : decode cX10_addNumber 35 = .ok (.dup, 1) := by decide +kernel
theorem dX10_addNumber_36 : decode cX10_addNumber 36 = .ok (.getfield 15, 3) := by decide +kernel
theorem dX10_addNumber_39 : decode cX10_addNumber 39 = .ok (.iconst 1, 1) := by decide +kernel
theorem dX10_addNumber_40 : decode cX10_addNumber 40 = .ok (.iadd, 1) := by decide +kernel
theorem dX10_addNumber_41 : decode cX10_addNumber 41 = .ok (.putfield 15, 3) := by decide +kernel
theorem dX10_addNumber_44 : decode cX10_addNumber 44 = .ok (.iinc 2 (-8), 3) := by decide +kernel
theorem dX10_addNumber_47 : decode cX10_addNumber 47 = .ok (.goto (-44), 3) := by decide +kernel
theorem dX10_addNumber_50 : decode cX10_addNumber 50 = .ok (.return_, 1) := by decide +kernel
theorem dX10_cutTo_0 : decode cX10_cutTo 0 = .ok (.iload_n 1, 1) := by decide +kernel
theorem dX10_cutTo_1 : decode cX10_cutTo 1 = .ok (.ifCond .lt 11, 3) := by decide +kernel
theorem dX10_cutTo_4 : decode cX10_cutTo 4 = .ok (.iload_n 1, 1) := by decide +kernel
theorem dX10_cutTo_5 : decode cX10_cutTo 5 = .ok (.aload_n 0, 1) := by decide +kernel
theorem dX10_cutTo_6 : decode cX10_cutTo 6 = .ok (.getfield 15, 3) := by decide +kernel
theorem dX10_cutTo_9 : decode cX10_cutTo 9 = .ok (.if_icmp .le 5, 3) := by decide +kernel
theorem dX10_cutTo_12 : decode cX10_cutTo 12 = .ok (.iconst 0, 1) := by decide +kernel
theorem dX10_cutTo_13 : decode cX10_cutTo 13 = .ok (.ireturn, 1) := by decide +kernel
theorem dX10_cutTo_14 : decode cX10_cutTo 14 = .ok (.aload_n 0, 1) := by decide +kernel
theorem dX10_cutTo_15 : decode cX10_cutTo 15 = .ok (.iload_n 1, 1) := by decide +kernel
theorem dX10_cutTo_16 : decode cX10_cutTo 16 = .ok (.putfield 15, 3) := by decide +kernel
theorem dX10_cutTo_19 : decode cX10_cutTo 19 = .ok (.iconst 1, 1) := by decide +kernel
theorem dX10_cutTo_20 : decode cX10_cutTo 20 = .ok (.ireturn, 1) := by decide +kernel
theorem dX10_wipe_0 : decode cX10_wipe 0 = .ok (.aload_n 0, 1) := by decide +kernel
theorem dX10_wipe_1 : decode cX10_wipe 1 = .ok (.iconst 0, 1) := by decide +kernel
theorem dX10_wipe_2 : decode cX10_wipe 2 = .ok (.putfield 15, 3) := by decide +kernel
theorem dX10_wipe_5 : decode cX10_wipe 5 = .ok (.return_, 1) := by decide +kernel
theorem dX10_rewind_0 : decode cX10_rewind 0 = .ok (.aload_n 0, 1) := by decide +kernel
theorem dX10_rewind_1 : decode cX10_rewind 1 = .ok (.iconst 3, 1) := by decide +kernel
theorem dX10_rewind_2 : decode cX10_rewind 2 = .ok (.putfield 19, 3) := by decide +kernel
theorem dX10_rewind_5 : decode cX10_rewind 5 = .ok (.aload_n 0, 1) := by decide +kernel
theorem dX10_rewind_6 : decode cX10_rewind 6 = .ok (.iconst 0, 1) := by decide +kernel
theorem dX10_rewind_7 : decode cX10_rewind 7 = .ok (.putfield 22, 3) := by decide +kernel
theorem dX10_rewind_10 : decode cX10_rewind 10 = .ok (.aload_n 0, 1) := by decide +kernel
theorem dX10_rewind_11 : decode cX10_rewind 11 = .ok (.lconst 0, 1) := by decide +kernel
theorem dX10_rewind_12 : decode cX10_rewind 12 = .ok (.putfield 25, 3) := by decide +kernel
theorem dX10_rewind_15 : decode cX10_rewind 15 = .ok (.aload_n 0, 1) := by decide +kernel
theorem dX10_rewind_16 : decode cX10_rewind 16 = .ok (.iconst 0, 1) := by decide +kernel
theorem dX10_rewind_17 : decode cX10_rewind 17 = .ok (.putfield 29, 3) := by decide +kernel
theorem dX10_rewind_20 : decode cX10_rewind 20 = .ok (.return_, 1) := by decide +kernel
theorem dX10_readNext_0 : decode cX10_readNext 0 = .ok (.aload_n 0, 1) := by decide +kernel
theorem dX10_readNext_1 : decode cX10_readNext 1 = .ok (.invokevirtual 32, 3) := by decide +kernel
theorem dX10_readNext_4 : decode cX10_readNext 4 = .ok (.aload_n 0, 1) := by decide +kernel
theorem dX10_readNext_5 : decode cX10_readNext 5 = .ok (.lconst 0, 1) := by decide +kernel
theorem dX10_readNext_6 : decode cX10_readNext 6 = .ok (.putfield 25, 3) := by decide +kernel
theorem dX10_readNext_9 : decode cX10_readNext 9 = .ok (.aload_n 0, 1) := by decide +kernel
theorem dX10_readNext_10 : decode cX10_readNext 10 = .ok (.getfield 29, 3) := by decide +kernel
theorem dX10_readNext_13 : decode cX10_readNext 13 = .ok (.aload_n 0, 1) := by decide +kernel
theorem dX10_readNext_14 : decode cX10_readNext 14 = .ok (.getfield 15, 3) := by decide +kernel
theorem dX10_readNext_17 : decode cX10_readNext 17 = .ok (.if_icmp .ge 13, 3) := by decide +kernel
theorem dX10_readNext_20 : decode cX10_readNext 20 = .ok (.aload_n 0, 1) := by decide +kernel
theorem dX10_readNext_21 : decode cX10_readNext 21 = .ok (.getfield 29, 3) := by decide +kernel
theorem dX10_readNext_24 : decode cX10_readNext 24 = .ok (.sipush 200, 3) := by decide +kernel
theorem dX10_readNext_27 : decode cX10_readNext 27 = .ok (.if_icmp .lt 47, 3) := by decide +kernel
theorem dX10_readNext_30 : decode cX10_readNext 30 = .ok (.aload_n 0, 1) := by decide +kernel
theorem dX10_readNext_31 : decode cX10_readNext 31 = .ok (.aload_n 0, 1) := by decide +kernel
theorem dX10_readNext_32 : decode cX10_readNext 32 = .ok (.getfield 15, 3) := by decide +kernel
theorem dX10_readNext_35 : decode cX10_readNext 35 = .ok (.sipush 200, 3) := by decide +kernel
theorem dX10_readNext_38 : decode cX10_readNext 38 = .ok (.if_icmp .le 7, 3) := by decide +kernel
theorem dX10_readNext_41 : decode cX10_readNext 41 = .ok (.iconst 3, 1) := by decide +kernel
theorem dX10_readNext_42 : decode cX10_readNext 42 = .ok (.goto 4, 3) := by decide +kernel
theorem dX10_readNext_45 : decode cX10_readNext 45 = .ok (.iconst 0, 1) := by decide +kernel
theorem dX10_readNext_46 : decode cX10_readNext 46 = .ok (.putfield 19, 3) := by decide +kernel
theorem dX10_readNext_49 : decode cX10_readNext 49 = .ok (.aload_n 0, 1) := by decide +kernel
theorem dX10_readNext_50 : decode cX10_readNext 50 = .ok (.aload_n 0, 1) := by decide +kernel
theorem dX10_readNext_51 : decode cX10_readNext 51 = .ok (.getfield 15, 3) := by decide +kernel
theorem dX10_readNext_54 : decode cX10_readNext 54 = .ok (.sipush 200, 3) := by decide +kernel
theorem dX10_readNext_57 : decode cX10_readNext 57 = .ok (.if_icmp .le 9, 3) := by decide +kernel
theorem dX10_readNext_60 : decode cX10_readNext 60 = .ok (.sipush 200, 3) := by decide +kernel
theorem dX10_readNext_63 : decode cX10_readNext 63 = .ok (.goto 7, 3) := by decide +kernel
theorem dX10_readNext_66 : decode cX10_readNext 66 = .ok (.aload_n 0, 1) := by decide +kernel
theorem dX10_readNext_67 : decode cX10_readNext 67 = .ok (.getfield 15, 3) := by decide +kernel
theorem dX10_readNext_70 : decode cX10_readNext 70 = .ok (.putfield 22, 3) := by decide +kernel
theorem dX10_readNext_73 : decode cX10_readNext 73 = .ok (.return_, 1) := by decide +kernel
theorem dX10_readNext_74 : decode cX10_readNext 74 = .ok (.aload_n 0, 1) := by decide +kernel
theorem dX10_readNext_75 : decode cX10_readNext 75 = .ok (.aload_n 0, 1) := by decide +kernel
theorem dX10_readNext_76 : decode cX10_readNext 76 = .ok (.getfield 29, 3) := by decide +kernel
theorem dX10_readNext_79 : decode cX10_readNext 79 = .ok (.putfield 22, 3) := by decide +kernel
theorem dX10_readNext_82 : decode cX10_readNext 82 = .ok (.aload_n 0, 1) := by decide +kernel
theorem dX10_readNext_83 : decode cX10_readNext 83 = .ok (.aload_n 0, 1) := by decide +kernel
theorem dX10_readNext_84 : decode cX10_readNext 84 = .ok (.getfield 22, 3) := by decide +kernel
theorem dX10_readNext_87 : decode cX10_readNext 87 = .ok (.invokevirtual 35, 3) := by decide +kernel
theorem dX10_readNext_90 : decode cX10_readNext 90 = .ok (.invokestatic 39, 3) := by decide +kernel
theorem dX10_readNext_93 : decode cX10_readNext 93 = .ok (.ifCond .ne 17, 3) := by decide +kernel
theorem dX10_readNext_96 : decode cX10_readNext 96 = .ok (.aload_n 0, 1) := by decide +kernel
theorem dX10_readNext_97 : decode cX10_readNext 97 = .ok (.aload_n 0, 1) := by decide +kernel
theorem dX10_readNext_98 : decode cX10_readNext 98 = .ok (.getfield 22, 3) := by decide +kernel
theorem dX10_readNext_101 : decode cX10_readNext 101 = .ok (.invokevirtual 35, 3) := by decide +kernel
theorem dX10_readNext_104 : decode cX10_readNext 104 = .ok (.invokestatic 43, 3) := by decide +kernel
theorem dX10_readNext_107 : decode cX10_readNext 107 = .ok (.ifCond .eq 10, 3) := by decide +kernel
theorem dX10_readNext_110 : decode cX10_readNext 110 = .ok (.aload_n 0, 1) := by decide +kernel
theorem dX10_readNext_111 : decode cX10_readNext 111 = .ok (.invokevirtual 46, 3) := by decide +kernel
theorem dX10_readNext_114 : decode cX10_readNext 114 = .ok (.goto 8, 3) := by decide +kernel
theorem dX10_readNext_117 : decode cX10_readNext 117 = .ok (.aload_n 0, 1) := by decide +kernel
theorem dX10_readNext_118 : decode cX10_readNext 118 = .ok (.aload_n 1, 1) := by decide +kernel
theorem dX10_readNext_119 : decode cX10_readNext 119 = .ok (.invokevirtual 49, 3) := by decide +kernel
theorem dX10_readNext_122 : decode cX10_readNext 122 = .ok (.return_, 1) := by decide +kernel
theorem dX10_isWord_0 : decode cX10_isWord 0 = .ok (.aload_n 0, 1) := by decide +kernel
theorem dX10_isWord_1 : decode cX10_isWord 1 = .ok (.getfield 19, 3) := by decide +kernel
theorem dX10_isWord_4 : decode cX10_isWord 4 = .ok (.iconst 1, 1) := by decide +kernel
theorem dX10_isWord_5 : decode cX10_isWord 5 = .ok (.if_icmp .ne 19, 3) := by decide +kernel
theorem dX10_isWord_8 : decode cX10_isWord 8 = .ok (.aload_n 0, 1) := by decide +kernel
theorem dX10_isWord_9 : decode cX10_isWord 9 = .ok (.getfield 29, 3) := by decide +kernel
theorem dX10_isWord_12 : decode cX10_isWord 12 = .ok (.aload_n 0, 1) := by decide +kernel
theorem dX10_isWord_13 : decode cX10_isWord 13 = .ok (.getfield 22, 3) := by decide +kernel
theorem dX10_isWord_16 : decode cX10_isWord 16 = .ok (.isub, 1) := by decide +kernel
theorem dX10_isWord_17 : decode cX10_isWord 17 = .ok (.aload_n 1, 1) := by decide +kernel
theorem dX10_isWord_18 : decode cX10_isWord 18 = .ok (.invokevirtual 53, 3) := by decide +kernel
theorem dX10_isWord_21 : decode cX10_isWord 21 = .ok (.if_icmp .eq 5, 3) := by decide +kernel
theorem dX10_isWord_24 : decode cX10_isWord 24 = .ok (.iconst 0, 1) := by decide +kernel
theorem dX10_isWord_25 : decode cX10_isWord 25 = .ok (.ireturn, 1) := by decide +kernel
theorem dX10_isWord_26 : decode cX10_isWord 26 = .ok (.iconst 0, 1) := by decide +kernel
theorem dX10_isWord_27 : decode cX10_isWord 27 = .ok (.istore_n 2, 1) := by decide +kernel
theorem dX10_isWord_28 : decode cX10_isWord 28 = .ok (.iload_n 2, 1) := by decide +kernel
theorem dX10_isWord_29 : decode cX10_isWord 29 = .ok (.aload_n 1, 1) := by decide +kernel
theorem dX10_isWord_30 : decode cX10_isWord 30 = .ok (.invokevirtual 53, 3) := by decide +kernel
theorem dX10_isWord_33 : decode cX10_isWord 33 = .ok (.if_icmp .ge 29, 3) := by decide +kernel
theorem dX10_isWord_36 : decode cX10_isWord 36 = .ok (.aload_n 0, 1) := by decide +kernel
theorem dX10_isWord_37 : decode cX10_isWord 37 = .ok (.aload_n 0, 1) := by decide +kernel
theorem dX10_isWord_38 : decode cX10_isWord 38 = .ok (.getfield 22, 3) := by decide +kernel
theorem dX10_isWord_41 : decode cX10_isWord 41 = .ok (.iload_n 2, 1) := by decide +kernel
theorem dX10_isWord_42 : decode cX10_isWord 42 = .ok (.iadd, 1) := by decide +kernel
theorem dX10_isWord_43 : decode cX10_isWord 43 = .ok (.invokevirtual 35, 3) := by decide +kernel
theorem dX10_isWord_46 : decode cX10_isWord 46 = .ok (.aload_n 1, 1) := by decide +kernel
theorem dX10_isWord_47 : decode cX10_isWord 47 = .ok (.iload_n 2, 1) := by decide +kernel
theorem dX10_isWord_48 : decode cX10_isWord 48 = .ok (.invokevirtual 59, 3) := by decide +kernel
theorem dX10_isWord_51 : decode cX10_isWord 51 = .ok (.if_icmp .eq 5, 3) := by decide +kernel
theorem dX10_isWord_54 : decode cX10_isWord 54 = .ok (.iconst 0, 1) := by decide +kernel
theorem dX10_isWord_55 : decode cX10_isWord 55 = .ok (.ireturn, 1) := by decide +kernel
theorem dX10_isWord_56 : decode cX10_isWord 56 = .ok (.iinc 2 1, 3) := by decide +kernel
theorem dX10_isWord_59 : decode cX10_isWord 59 = .ok (.goto (-31), 3) := by decide +kernel
theorem dX10_isWord_62 : decode cX10_isWord 62 = .ok (.iconst 1, 1) := by decide +kernel
theorem dX10_isWord_63 : decode cX10_isWord 63 = .ok (.ireturn, 1) := by decide +kernel
theorem dX10_skipBlanks_0 : decode cX10_skipBlanks 0 = .ok (.aload_n 0, 1) := by decide +kernel
theorem dX10_skipBlanks_1 : decode cX10_skipBlanks 1 = .ok (.getfield 29, 3) := by decide +kernel
theorem dX10_skipBlanks_4 : decode cX10_skipBlanks 4 = .ok (.aload_n 0, 1) := by decide +kernel
theorem dX10_skipBlanks_5 : decode cX10_skipBlanks 5 = .ok (.getfield 15, 3) := by decide +kernel
theorem dX10_skipBlanks_8 : decode cX10_skipBlanks 8 = .ok (.if_icmp .ge 29, 3) := by decide +kernel
theorem dX10_skipBlanks_11 : decode cX10_skipBlanks 11 = .ok (.aload_n 0, 1) := by decide +kernel
theorem dX10_skipBlanks_12 : decode cX10_skipBlanks 12 = .ok (.aload_n 0, 1) := by decide +kernel
theorem dX10_skipBlanks_13 : decode cX10_skipBlanks 13 = .ok (.getfield 29, 3) := by decide +kernel
theorem dX10_skipBlanks_16 : decode cX10_skipBlanks 16 = .ok (.invokevirtual 35, 3) := by decide +kernel
theorem dX10_skipBlanks_19 : decode cX10_skipBlanks 19 = .ok (.bipush 32, 2) := by decide +kernel
theorem dX10_skipBlanks_21 : decode cX10_skipBlanks 21 = .ok (.if_icmp .ne 16, 3) := by decide +kernel
theorem dX10_skipBlanks_24 : decode cX10_skipBlanks 24 = .ok (.aload_n 0, 1) := by decide +kernel
theorem dX10_skipBlanks_25 : decode cX10_skipBlanks 25 = .ok (.dup, 1) := by decide +kernel
theorem dX10_skipBlanks_26 : decode cX10_skipBlanks 26 = .ok (.getfield 29, 3) := by decide +kernel
theorem dX10_skipBlanks_29 : decode cX10_skipBlanks 29 = .ok (.iconst 1, 1) := by decide +kernel
theorem dX10_skipBlanks_30 : decode cX10_skipBlanks 30 = .ok (.iadd, 1) := by decide +kernel
theorem dX10_skipBlanks_31 : decode cX10_skipBlanks 31 = .ok (.putfield 29, 3) := by decide +kernel
theorem dX10_skipBlanks_34 : decode cX10_skipBlanks 34 = .ok (.goto (-34), 3) := by decide +kernel
theorem dX10_skipBlanks_37 : decode cX10_skipBlanks 37 = .ok (.return_, 1) := by decide +kernel
theorem dX10_readRun_0 : decode cX10_readRun 0 = .ok (.iconst 0, 1) := by decide +kernel
theorem dX10_readRun_1 : decode cX10_readRun 1 = .ok (.istore_n 1, 1) := by decide +kernel
theorem dX10_readRun_2 : decode cX10_readRun 2 = .ok (.iconst 0, 1) := by decide +kernel
theorem dX10_readRun_3 : decode cX10_readRun 3 = .ok (.istore_n 2, 1) := by decide +kernel
theorem dX10_readRun_4 : decode cX10_readRun 4 = .ok (.lconst 0, 1) := by decide +kernel
theorem dX10_readRun_5 : decode cX10_readRun 5 = .ok (.lstore_n 3, 1) := by decide +kernel
theorem dX10_readRun_6 : decode cX10_readRun 6 = .ok (.iconst 0, 1) := by decide +kernel
theorem dX10_readRun_7 : decode cX10_readRun 7 = .ok (.istore 5, 2) := by decide +kernel
theorem dX10_readRun_9 : decode cX10_readRun 9 = .ok (.aload_n 0, 1) := by decide +kernel
theorem dX10_readRun_10 : decode cX10_readRun 10 = .ok (.getfield 22, 3) := by decide +kernel
theorem dX10_readRun_13 : decode cX10_readRun 13 = .ok (.istore 6, 2) := by decide +kernel
theorem dX10_readRun_15 : decode cX10_readRun 15 = .ok (.iload 6, 2) := by decide +kernel
theorem dX10_readRun_17 : decode cX10_readRun 17 = .ok (.aload_n 0, 1) := by decide +kernel
theorem dX10_readRun_18 : decode cX10_readRun 18 = .ok (.getfield 15, 3) := by decide +kernel
theorem dX10_readRun_21 : decode cX10_readRun 21 = .ok (.if_icmp .ge 70, 3) := by decide +kernel
theorem dX10_readRun_24 : decode cX10_readRun 24 = .ok (.aload_n 0, 1) := by decide +kernel
theorem dX10_readRun_25 : decode cX10_readRun 25 = .ok (.iload 6, 2) := by decide +kernel
theorem dX10_readRun_27 : decode cX10_readRun 27 = .ok (.invokevirtual 35, 3) := by decide +kernel
theorem dX10_readRun_30 : decode cX10_readRun 30 = .ok (.istore 7, 2) := by decide +kernel
theorem dX10_readRun_32 : decode cX10_readRun 32 = .ok (.iload 7, 2) := by decide +kernel
theorem dX10_readRun_34 : decode cX10_readRun 34 = .ok (.invokestatic 39, 3) := by decide +kernel
theorem dX10_readRun_37 : decode cX10_readRun 37 = .ok (.ifCond .eq 24, 3) := by decide +kernel
theorem dX10_readRun_40 : decode cX10_readRun 40 = .ok (.iinc 1 1, 3) := by decide +kernel
theorem dX10_readRun_43 : decode cX10_readRun 43 = .ok (.lload_n 3, 1) := by decide +kernel
theorem dX10_readRun_44 : decode cX10_readRun 44 = .ok (.ldc2_w 63, 3) := by decide +kernel
theorem dX10_readRun_47 : decode cX10_readRun 47 = .ok (.lmul, 1) := by decide +kernel
theorem dX10_readRun_48 : decode cX10_readRun 48 = .ok (.iload 7, 2) := by decide +kernel
theorem dX10_readRun_50 : decode cX10_readRun 50 = .ok (.bipush 97, 2) := by decide +kernel
theorem dX10_readRun_52 : decode cX10_readRun 52 = .ok (.isub, 1) := by decide +kernel
theorem dX10_readRun_53 : decode cX10_readRun 53 = .ok (.iconst 1, 1) := by decide +kernel
theorem dX10_readRun_54 : decode cX10_readRun 54 = .ok (.iadd, 1) := by decide +kernel
theorem dX10_readRun_55 : decode cX10_readRun 55 = .ok (.i2l, 1) := by decide +kernel
theorem dX10_readRun_56 : decode cX10_readRun 56 = .ok (.ladd, 1) := by decide +kernel
theorem dX10_readRun_57 : decode cX10_readRun 57 = .ok (.lstore_n 3, 1) := by decide +kernel
theorem dX10_readRun_58 : decode cX10_readRun 58 = .ok (.goto 27, 3) := by decide +kernel
theorem dX10_readRun_61 : decode cX10_readRun 61 = .ok (.iload 7, 2) := by decide +kernel
theorem dX10_readRun_63 : decode cX10_readRun 63 = .ok (.invokestatic 43, 3) := by decide +kernel
theorem dX10_readRun_66 : decode cX10_readRun 66 = .ok (.ifCond .eq 25, 3) := by decide +kernel
theorem dX10_readRun_69 : decode cX10_readRun 69 = .ok (.iinc 2 1, 3) := by decide +kernel
theorem dX10_readRun_72 : decode cX10_readRun 72 = .ok (.iload 5, 2) := by decide +kernel
theorem dX10_readRun_74 : decode cX10_readRun 74 = .ok (.bipush 10, 2) := by decide +kernel
theorem dX10_readRun_76 : decode cX10_readRun 76 = .ok (.imul, 1) := by decide +kernel
theorem dX10_readRun_77 : decode cX10_readRun 77 = .ok (.iload 7, 2) := by decide +kernel
theorem dX10_readRun_79 : decode cX10_readRun 79 = .ok (.bipush 48, 2) := by decide +kernel
theorem dX10_readRun_81 : decode cX10_readRun 81 = .ok (.isub, 1) := by decide +kernel
theorem dX10_readRun_82 : decode cX10_readRun 82 = .ok (.iadd, 1) := by decide +kernel
theorem dX10_readRun_83 : decode cX10_readRun 83 = .ok (.istore 5, 2) := by decide +kernel
theorem dX10_readRun_85 : decode cX10_readRun 85 = .ok (.iinc 6 1, 3) := by decide +kernel
theorem dX10_readRun_88 : decode cX10_readRun 88 = .ok (.goto (-73), 3) := by decide +kernel
theorem dX10_readRun_91 : decode cX10_readRun 91 = .ok (.aload_n 0, 1) := by decide +kernel
theorem dX10_readRun_92 : decode cX10_readRun 92 = .ok (.aload_n 0, 1) := by decide +kernel
theorem dX10_readRun_93 : decode cX10_readRun 93 = .ok (.getfield 22, 3) := by decide +kernel
theorem dX10_readRun_96 : decode cX10_readRun 96 = .ok (.iload_n 1, 1) := by decide +kernel
theorem dX10_readRun_97 : decode cX10_readRun 97 = .ok (.iadd, 1) := by decide +kernel
theorem dX10_readRun_98 : decode cX10_readRun 98 = .ok (.iload_n 2, 1) := by decide +kernel
theorem dX10_readRun_99 : decode cX10_readRun 99 = .ok (.iadd, 1) := by decide +kernel
theorem dX10_readRun_100 : decode cX10_readRun 100 = .ok (.putfield 29, 3) := by decide +kernel
theorem dX10_readRun_103 : decode cX10_readRun 103 = .ok (.aload_n 0, 1) := by decide +kernel
theorem dX10_readRun_104 : decode cX10_readRun 104 = .ok (.iload_n 1, 1) := by decide +kernel
theorem dX10_readRun_105 : decode cX10_readRun 105 = .ok (.iload_n 2, 1) := by decide +kernel
theorem dX10_readRun_106 : decode cX10_readRun 106 = .ok (.lload_n 3, 1) := by decide +kernel
theorem dX10_readRun_107 : decode cX10_readRun 107 = .ok (.iload 5, 2) := by decide +kernel
theorem dX10_readRun_109 : decode cX10_readRun 109 = .ok (.invokevirtual 65, 3) := by decide +kernel
theorem dX10_readRun_112 : decode cX10_readRun 112 = .ok (.return_, 1) := by decide +kernel
theorem dX10_setRun_0 : decode cX10_setRun 0 = .ok (.iload_n 2, 1) := by decide +kernel
theorem dX10_setRun_1 : decode cX10_setRun 1 = .ok (.ifCond .ne 23, 3) := by decide +kernel
theorem dX10_setRun_4 : decode cX10_setRun 4 = .ok (.iload_n 1, 1) := by decide +kernel
theorem dX10_setRun_5 : decode cX10_setRun 5 = .ok (.bipush 12, 2) := by decide +kernel
theorem dX10_setRun_7 : decode cX10_setRun 7 = .ok (.if_icmp .gt 17, 3) := by decide +kernel
theorem dX10_setRun_10 : decode cX10_setRun 10 = .ok (.aload_n 0, 1) := by decide +kernel
theorem dX10_setRun_11 : decode cX10_setRun 11 = .ok (.iconst 1, 1) := by decide +kernel
theorem dX10_setRun_12 : decode cX10_setRun 12 = .ok (.putfield 19, 3) := by decide +kernel
theorem dX10_setRun_15 : decode cX10_setRun 15 = .ok (.aload_n 0, 1) := by decide +kernel
theorem dX10_setRun_16 : decode cX10_setRun 16 = .ok (.lload_n 3, 1) := by decide +kernel
theorem dX10_setRun_17 : decode cX10_setRun 17 = .ok (.lneg, 1) := by decide +kernel
theorem dX10_setRun_18 : decode cX10_setRun 18 = .ok (.putfield 25, 3) := by decide +kernel
theorem dX10_setRun_21 : decode cX10_setRun 21 = .ok (.goto 33, 3) := by decide +kernel
theorem dX10_setRun_24 : decode cX10_setRun 24 = .ok (.iload_n 1, 1) := by decide +kernel
theorem dX10_setRun_25 : decode cX10_setRun 25 = .ok (.ifCond .ne 24, 3) := by decide +kernel
theorem dX10_setRun_28 : decode cX10_setRun 28 = .ok (.iload_n 2, 1) := by decide +kernel
theorem dX10_setRun_29 : decode cX10_setRun 29 = .ok (.bipush 6, 2) := by decide +kernel
theorem dX10_setRun_31 : decode cX10_setRun 31 = .ok (.if_icmp .gt 18, 3) := by decide +kernel
theorem dX10_setRun_34 : decode cX10_setRun 34 = .ok (.aload_n 0, 1) := by decide +kernel
theorem dX10_setRun_35 : decode cX10_setRun 35 = .ok (.iconst 2, 1) := by decide +kernel
theorem dX10_setRun_36 : decode cX10_setRun 36 = .ok (.putfield 19, 3) := by decide +kernel
theorem dX10_setRun_39 : decode cX10_setRun 39 = .ok (.aload_n 0, 1) := by decide +kernel
theorem dX10_setRun_40 : decode cX10_setRun 40 = .ok (.iload 5, 2) := by decide +kernel
theorem dX10_setRun_42 : decode cX10_setRun 42 = .ok (.i2l, 1) := by decide +kernel
theorem dX10_setRun_43 : decode cX10_setRun 43 = .ok (.putfield 25, 3) := by decide +kernel
theorem dX10_setRun_46 : decode cX10_setRun 46 = .ok (.goto 8, 3) := by decide +kernel
theorem dX10_setRun_49 : decode cX10_setRun 49 = .ok (.aload_n 0, 1) := by decide +kernel
theorem dX10_setRun_50 : decode cX10_setRun 50 = .ok (.iconst 3, 1) := by decide +kernel
theorem dX10_setRun_51 : decode cX10_setRun 51 = .ok (.putfield 19, 3) := by decide +kernel
theorem dX10_setRun_54 : decode cX10_setRun 54 = .ok (.return_, 1) := by decide +kernel
theorem dX10_readSign_0 : decode cX10_readSign 0 = .ok (.aload_n 0, 1) := by decide +kernel
theorem dX10_readSign_1 : decode cX10_readSign 1 = .ok (.aload_n 0, 1) := by decide +kernel
theorem dX10_readSign_2 : decode cX10_readSign 2 = .ok (.getfield 22, 3) := by decide +kernel
theorem dX10_readSign_5 : decode cX10_readSign 5 = .ok (.invokevirtual 35, 3) := by decide +kernel
theorem dX10_readSign_8 : decode cX10_readSign 8 = .ok (.istore_n 2, 1) := by decide +kernel
theorem dX10_readSign_9 : decode cX10_readSign 9 = .ok (.iload_n 2, 1) := by decide +kernel
theorem dX10_readSign_10 : decode cX10_readSign 10 = .ok (.bipush 46, 2) := by decide +kernel
theorem dX10_readSign_12 : decode cX10_readSign 12 = .ok (.if_icmp .ne 22, 3) := by decide +kernel
theorem dX10_readSign_15 : decode cX10_readSign 15 = .ok (.aload_n 0, 1) := by decide +kernel
theorem dX10_readSign_16 : decode cX10_readSign 16 = .ok (.aload_n 0, 1) := by decide +kernel
theorem dX10_readSign_17 : decode cX10_readSign 17 = .ok (.getfield 22, 3) := by decide +kernel
theorem dX10_readSign_20 : decode cX10_readSign 20 = .ok (.iconst 1, 1) := by decide +kernel
theorem dX10_readSign_21 : decode cX10_readSign 21 = .ok (.iadd, 1) := by decide +kernel
theorem dX10_readSign_22 : decode cX10_readSign 22 = .ok (.invokevirtual 35, 3) := by decide +kernel
theorem dX10_readSign_25 : decode cX10_readSign 25 = .ok (.bipush 46, 2) := by decide +kernel
theorem dX10_readSign_27 : decode cX10_readSign 27 = .ok (.if_icmp .eq 7, 3) := by decide +kernel
theorem dX10_readSign_30 : decode cX10_readSign 30 = .ok (.iconst 1, 1) := by decide +kernel
theorem dX10_readSign_31 : decode cX10_readSign 31 = .ok (.goto 4, 3) := by decide +kernel
theorem dX10_readSign_34 : decode cX10_readSign 34 = .ok (.iconst 0, 1) := by decide +kernel
theorem dX10_readSign_35 : decode cX10_readSign 35 = .ok (.istore_n 3, 1) := by decide +kernel
theorem dX10_readSign_36 : decode cX10_readSign 36 = .ok (.iload_n 3, 1) := by decide +kernel
theorem dX10_readSign_37 : decode cX10_readSign 37 = .ok (.ifCond .ne 16, 3) := by decide +kernel
theorem dX10_readSign_40 : decode cX10_readSign 40 = .ok (.aload_n 1, 1) := by decide +kernel
theorem dX10_readSign_41 : decode cX10_readSign 41 = .ok (.iload_n 2, 1) := by decide +kernel
theorem dX10_readSign_42 : decode cX10_readSign 42 = .ok (.i2c, 1) := by decide +kernel
theorem dX10_readSign_43 : decode cX10_readSign 43 = .ok (.invokevirtual 69, 3) := by decide +kernel
theorem dX10_readSign_46 : decode cX10_readSign 46 = .ok (.ifCond .lt 7, 3) := by decide +kernel
theorem dX10_readSign_49 : decode cX10_readSign 49 = .ok (.iconst 1, 1) := by decide +kernel
theorem dX10_readSign_50 : decode cX10_readSign 50 = .ok (.goto 4, 3) := by decide +kernel
theorem dX10_readSign_53 : decode cX10_readSign 53 = .ok (.iconst 0, 1) := by decide +kernel
theorem dX10_readSign_54 : decode cX10_readSign 54 = .ok (.istore 4, 2) := by decide +kernel
theorem dX10_readSign_56 : decode cX10_readSign 56 = .ok (.aload_n 0, 1) := by decide +kernel
theorem dX10_readSign_57 : decode cX10_readSign 57 = .ok (.iload 4, 2) := by decide +kernel
theorem dX10_readSign_59 : decode cX10_readSign 59 = .ok (.ifCond .eq 7, 3) := by decide +kernel
theorem dX10_readSign_62 : decode cX10_readSign 62 = .ok (.iload_n 2, 1) := by decide +kernel
theorem dX10_readSign_63 : decode cX10_readSign 63 = .ok (.goto 4, 3) := by decide +kernel
theorem dX10_readSign_66 : decode cX10_readSign 66 = .ok (.iconst 3, 1) := by decide +kernel
theorem dX10_readSign_67 : decode cX10_readSign 67 = .ok (.putfield 19, 3) := by decide +kernel
theorem dX10_readSign_70 : decode cX10_readSign 70 = .ok (.aload_n 0, 1) := by decide +kernel
theorem dX10_readSign_71 : decode cX10_readSign 71 = .ok (.aload_n 0, 1) := by decide +kernel
theorem dX10_readSign_72 : decode cX10_readSign 72 = .ok (.getfield 22, 3) := by decide +kernel
theorem dX10_readSign_75 : decode cX10_readSign 75 = .ok (.iload_n 2, 1) := by decide +kernel
theorem dX10_readSign_76 : decode cX10_readSign 76 = .ok (.bipush 46, 2) := by decide +kernel
theorem dX10_readSign_78 : decode cX10_readSign 78 = .ok (.if_icmp .ne 11, 3) := by decide +kernel
theorem dX10_readSign_81 : decode cX10_readSign 81 = .ok (.iload_n 3, 1) := by decide +kernel
theorem dX10_readSign_82 : decode cX10_readSign 82 = .ok (.ifCond .ne 7, 3) := by decide +kernel
theorem dX10_readSign_85 : decode cX10_readSign 85 = .ok (.iconst 2, 1) := by decide +kernel
theorem dX10_readSign_86 : decode cX10_readSign 86 = .ok (.goto 4, 3) := by decide +kernel
theorem dX10_readSign_89 : decode cX10_readSign 89 = .ok (.iconst 1, 1) := by decide +kernel
theorem dX10_readSign_90 : decode cX10_readSign 90 = .ok (.iadd, 1) := by decide +kernel
theorem dX10_readSign_91 : decode cX10_readSign 91 = .ok (.putfield 29, 3) := by decide +kernel
theorem dX10_readSign_94 : decode cX10_readSign 94 = .ok (.return_, 1) := by decide +kernel
theorem dX10_byteAt_0 : decode cX10_byteAt 0 = .ok (.iload_n 1, 1) := by decide +kernel
theorem dX10_byteAt_1 : decode cX10_byteAt 1 = .ok (.ifCond .lt 29, 3) := by decide +kernel
theorem dX10_byteAt_4 : decode cX10_byteAt 4 = .ok (.iload_n 1, 1) := by decide +kernel
theorem dX10_byteAt_5 : decode cX10_byteAt 5 = .ok (.aload_n 0, 1) := by decide +kernel
theorem dX10_byteAt_6 : decode cX10_byteAt 6 = .ok (.getfield 15, 3) := by decide +kernel
theorem dX10_byteAt_9 : decode cX10_byteAt 9 = .ok (.if_icmp .ge 21, 3) := by decide +kernel
theorem dX10_byteAt_12 : decode cX10_byteAt 12 = .ok (.iload_n 1, 1) := by decide +kernel
theorem dX10_byteAt_13 : decode cX10_byteAt 13 = .ok (.aload_n 0, 1) := by decide +kernel
theorem dX10_byteAt_14 : decode cX10_byteAt 14 = .ok (.getfield 11, 3) := by decide +kernel
theorem dX10_byteAt_17 : decode cX10_byteAt 17 = .ok (.arraylength, 1) := by decide +kernel
theorem dX10_byteAt_18 : decode cX10_byteAt 18 = .ok (.if_icmp .ge 12, 3) := by decide +kernel
theorem dX10_byteAt_21 : decode cX10_byteAt 21 = .ok (.aload_n 0, 1) := by decide +kernel
theorem dX10_byteAt_22 : decode cX10_byteAt 22 = .ok (.getfield 11, 3) := by decide +kernel
theorem dX10_byteAt_25 : decode cX10_byteAt 25 = .ok (.iload_n 1, 1) := by decide +kernel
theorem dX10_byteAt_26 : decode cX10_byteAt 26 = .ok (.saload, 1) := by decide +kernel
theorem dX10_byteAt_27 : decode cX10_byteAt 27 = .ok (.goto 4, 3) := by decide +kernel
theorem dX10_byteAt_30 : decode cX10_byteAt 30 = .ok (.iconst (-1), 1) := by decide +kernel
theorem dX10_byteAt_31 : decode cX10_byteAt 31 = .ok (.ireturn, 1) := by decide +kernel
theorem dX10_isLetter_0 : decode cX10_isLetter 0 = .ok (.iload_n 0, 1) := by decide +kernel
theorem dX10_isLetter_1 : decode cX10_isLetter 1 = .ok (.bipush 97, 2) := by decide +kernel
theorem dX10_isLetter_3 : decode cX10_isLetter 3 = .ok (.if_icmp .lt 13, 3) := by decide +kernel
theorem dX10_isLetter_6 : decode cX10_isLetter 6 = .ok (.iload_n 0, 1) := by decide +kernel
theorem dX10_isLetter_7 : decode cX10_isLetter 7 = .ok (.bipush 122, 2) := by decide +kernel
theorem dX10_isLetter_9 : decode cX10_isLetter 9 = .ok (.if_icmp .gt 7, 3) := by decide +kernel
theorem dX10_isLetter_12 : decode cX10_isLetter 12 = .ok (.iconst 1, 1) := by decide +kernel
theorem dX10_isLetter_13 : decode cX10_isLetter 13 = .ok (.goto 4, 3) := by decide +kernel
theorem dX10_isLetter_16 : decode cX10_isLetter 16 = .ok (.iconst 0, 1) := by decide +kernel
theorem dX10_isLetter_17 : decode cX10_isLetter 17 = .ok (.ireturn, 1) := by decide +kernel
theorem dX10_isDigit_0 : decode cX10_isDigit 0 = .ok (.iload_n 0, 1) := by decide +kernel
theorem dX10_isDigit_1 : decode cX10_isDigit 1 = .ok (.bipush 48, 2) := by decide +kernel
theorem dX10_isDigit_3 : decode cX10_isDigit 3 = .ok (.if_icmp .lt 13, 3) := by decide +kernel
theorem dX10_isDigit_6 : decode cX10_isDigit 6 = .ok (.iload_n 0, 1) := by decide +kernel
theorem dX10_isDigit_7 : decode cX10_isDigit 7 = .ok (.bipush 57, 2) := by decide +kernel
theorem dX10_isDigit_9 : decode cX10_isDigit 9 = .ok (.if_icmp .gt 7, 3) := by decide +kernel
theorem dX10_isDigit_12 : decode cX10_isDigit 12 = .ok (.iconst 1, 1) := by decide +kernel
theorem dX10_isDigit_13 : decode cX10_isDigit 13 = .ok (.goto 4, 3) := by decide +kernel
theorem dX10_isDigit_16 : decode cX10_isDigit 16 = .ok (.iconst 0, 1) := by decide +kernel
theorem dX10_isDigit_17 : decode cX10_isDigit 17 = .ok (.ireturn, 1) := by decide +kernel
theorem dX11_init_0 : decode cX11_init 0 = .ok (.aload_n 0, 1) := by decide +kernel
theorem dX11_init_1 : decode cX11_init 1 = .ok (.invokespecial 1, 3) := by decide +kernel
theorem dX11_init_4 : decode cX11_init 4 = .ok (.aload_n 0, 1) := by decide +kernel
theorem dX11_init_5 : decode cX11_init 5 = .ok (.new 7, 3) := by decide +kernel
theorem dX11_init_8 : decode cX11_init 8 = .ok (.dup, 1) := by decide +kernel
theorem dX11_init_9 : decode cX11_init 9 = .ok (.invokespecial 9, 3) := by decide +kernel
theorem dX11_init_12 : decode cX11_init 12 = .ok (.putfield 10, 3) := by decide +kernel
theorem dX11_init_15 : decode cX11_init 15 = .ok (.aload_n 0, 1) := by decide +kernel
theorem dX11_init_16 : decode cX11_init 16 = .ok (.new 16, 3) := by decide +kernel
theorem dX11_init_19 : decode cX11_init 19 = .ok (.dup, 1) := by decide +kernel
theorem dX11_init_20 : decode cX11_init 20 = .ok (.invokespecial 18, 3) := by decide +kernel
theorem dX11_init_23 : decode cX11_init 23 = .ok (.putfield 19, 3) := by decide +kernel
theorem dX11_init_26 : decode cX11_init 26 = .ok (.aload_n 0, 1) := by decide +kernel
theorem dX11_init_27 : decode cX11_init 27 = .ok (.new 23, 3) := by decide +kernel
theorem dX11_init_30 : decode cX11_init 30 = .ok (.dup, 1) := by decide +kernel
theorem dX11_init_31 : decode cX11_init 31 = .ok (.invokespecial 25, 3) := by decide +kernel
theorem dX11_init_34 : decode cX11_init 34 = .ok (.putfield 26, 3) := by decide +kernel
theorem dX11_init_37 : decode cX11_init 37 = .ok (.aload_n 0, 1) := by decide +kernel
theorem dX11_init_38 : decode cX11_init 38 = .ok (.bipush 60, 2) := by decide +kernel
theorem dX11_init_40 : decode cX11_init 40 = .ok (.anewarray 30, 3) := by decide +kernel
theorem dX11_init_43 : decode cX11_init 43 = .ok (.putfield 32, 3) := by decide +kernel
theorem dX11_init_46 : decode cX11_init 46 = .ok (.aload_n 0, 1) := by decide +kernel
theorem dX11_init_47 : decode cX11_init 47 = .ok (.iconst 0, 1) := by decide +kernel
theorem dX11_init_48 : decode cX11_init 48 = .ok (.putfield 36, 3) := by decide +kernel
theorem dX11_init_51 : decode cX11_init 51 = .ok (.aload_n 0, 1) := by decide +kernel
theorem dX11_init_52 : decode cX11_init 52 = .ok (.new 40, 3) := by decide +kernel
theorem dX11_init_55 : decode cX11_init 55 = .ok (.dup, 1) := by decide +kernel
theorem dX11_init_56 : decode cX11_init 56 = .ok (.invokespecial 42, 3) := by decide +kernel
theorem dX11_init_59 : decode cX11_init 59 = .ok (.putfield 43, 3) := by decide +kernel
theorem dX11_init_62 : decode cX11_init 62 = .ok (.aload_n 0, 1) := by decide +kernel
theorem dX11_init_63 : decode cX11_init 63 = .ok (.new 40, 3) := by decide +kernel
theorem dX11_init_66 : decode cX11_init 66 = .ok (.dup, 1) := by decide +kernel
theorem dX11_init_67 : decode cX11_init 67 = .ok (.invokespecial 42, 3) := by decide +kernel
theorem dX11_init_70 : decode cX11_init 70 = .ok (.putfield 47, 3) := by decide +kernel
theorem dX11_init_73 : decode cX11_init 73 = .ok (.aload_n 0, 1) := by decide +kernel
theorem dX11_init_74 : decode cX11_init 74 = .ok (.iconst 0, 1) := by decide +kernel
theorem dX11_init_75 : decode cX11_init 75 = .ok (.putfield 50, 3) := by decide +kernel
theorem dX11_init_78 : decode cX11_init 78 = .ok (.aload_n 0, 1) := by decide +kernel
theorem dX11_init_79 : decode cX11_init 79 = .ok (.new 53, 3) := by decide +kernel
theorem dX11_init_82 : decode cX11_init 82 = .ok (.dup, 1) := by decide +kernel
theorem dX11_init_83 : decode cX11_init 83 = .ok (.invokespecial 55, 3) := by decide +kernel
theorem dX11_init_86 : decode cX11_init 86 = .ok (.putfield 56, 3) := by decide +kernel
theorem dX11_init_89 : decode cX11_init 89 = .ok (.aload_n 0, 1) := by decide +kernel
theorem dX11_init_90 : decode cX11_init 90 = .ok (.new 60, 3) := by decide +kernel
theorem dX11_init_93 : decode cX11_init 93 = .ok (.dup, 1) := by decide +kernel
theorem dX11_init_94 : decode cX11_init 94 = .ok (.aload_n 0, 1) := by decide +kernel
theorem dX11_init_95 : decode cX11_init 95 = .ok (.getfield 43, 3) := by decide +kernel
theorem dX11_init_98 : decode cX11_init 98 = .ok (.invokespecial 62, 3) := by decide +kernel
theorem dX11_init_101 : decode cX11_init 101 = .ok (.putfield 65, 3) := by decide +kernel
theorem dX11_init_104 : decode cX11_init 104 = .ok (.aload_n 0, 1) := by decide +kernel
theorem dX11_init_105 : decode cX11_init 105 = .ok (.new 69, 3) := by decide +kernel
theorem dX11_init_108 : decode cX11_init 108 = .ok (.dup, 1) := by decide +kernel
theorem dX11_init_109 : decode cX11_init 109 = .ok (.invokespecial 71, 3) := by decide +kernel
theorem dX11_init_112 : decode cX11_init 112 = .ok (.putfield 72, 3) := by decide +kernel
theorem dX11_init_115 : decode cX11_init 115 = .ok (.return_, 1) := by decide +kernel
theorem dX11_feed_0 : decode cX11_feed 0 = .ok (.aload_n 0, 1) := by decide +kernel
theorem dX11_feed_1 : decode cX11_feed 1 = .ok (.getfield 10, 3) := by decide +kernel
theorem dX11_feed_4 : decode cX11_feed 4 = .ok (.bipush 20, 2) := by decide +kernel
theorem dX11_feed_6 : decode cX11_feed 6 = .ok (.invokevirtual 76, 3) := by decide +kernel
theorem dX11_feed_9 : decode cX11_feed 9 = .ok (.ifCond .ne 5, 3) := by decide +kernel
theorem dX11_feed_12 : decode cX11_feed 12 = .ok (.iconst (-1), 1) := by decide +kernel
theorem dX11_feed_13 : decode cX11_feed 13 = .ok (.ireturn, 1) := by decide +kernel
theorem dX11_feed_14 : decode cX11_feed 14 = .ok (.aload_n 0, 1) := by decide +kernel
theorem dX11_feed_15 : decode cX11_feed 15 = .ok (.getfield 10, 3) := by decide +kernel
theorem dX11_feed_18 : decode cX11_feed 18 = .ok (.iload_n 1, 1) := by decide +kernel
theorem dX11_feed_19 : decode cX11_feed 19 = .ok (.invokevirtual 80, 3) := by decide +kernel
theorem dX11_feed_22 : decode cX11_feed 22 = .ok (.aload_n 0, 1) := by decide +kernel
theorem dX11_feed_23 : decode cX11_feed 23 = .ok (.getfield 10, 3) := by decide +kernel
theorem dX11_feed_26 : decode cX11_feed 26 = .ok (.iload_n 2, 1) := by decide +kernel
theorem dX11_feed_27 : decode cX11_feed 27 = .ok (.invokevirtual 80, 3) := by decide +kernel
theorem dX11_feed_30 : decode cX11_feed 30 = .ok (.aload_n 0, 1) := by decide +kernel
theorem dX11_feed_31 : decode cX11_feed 31 = .ok (.getfield 10, 3) := by decide +kernel
theorem dX11_feed_34 : decode cX11_feed 34 = .ok (.iload_n 3, 1) := by decide +kernel
theorem dX11_feed_35 : decode cX11_feed 35 = .ok (.invokevirtual 80, 3) := by decide +kernel
theorem dX11_feed_38 : decode cX11_feed 38 = .ok (.aload_n 0, 1) := by decide +kernel
theorem dX11_feed_39 : decode cX11_feed 39 = .ok (.getfield 10, 3) := by decide +kernel
theorem dX11_feed_42 : decode cX11_feed 42 = .ok (.iload 4, 2) := by decide +kernel
theorem dX11_feed_44 : decode cX11_feed 44 = .ok (.invokevirtual 80, 3) := by decide +kernel
theorem dX11_feed_47 : decode cX11_feed 47 = .ok (.aload_n 0, 1) := by decide +kernel
theorem dX11_feed_48 : decode cX11_feed 48 = .ok (.getfield 10, 3) := by decide +kernel
theorem dX11_feed_51 : decode cX11_feed 51 = .ok (.iload 5, 2) := by decide +kernel
theorem dX11_feed_53 : decode cX11_feed 53 = .ok (.invokevirtual 80, 3) := by decide +kernel
theorem dX11_feed_56 : decode cX11_feed 56 = .ok (.aload_n 0, 1) := by decide +kernel
theorem dX11_feed_57 : decode cX11_feed 57 = .ok (.getfield 10, 3) := by decide +kernel
theorem dX11_feed_60 : decode cX11_feed 60 = .ok (.getfield 84, 3) := by decide +kernel
theorem dX11_feed_63 : decode cX11_feed 63 = .ok (.ireturn, 1) := by decide +kernel
theorem dX11_end_0 : decode cX11_end 0 = .ok (.aload_n 0, 1) := by decide +kernel
theorem dX11_end_1 : decode cX11_end 1 = .ok (.getfield 10, 3) := by decide +kernel
theorem dX11_end_4 : decode cX11_end 4 = .ok (.iload_n 1, 1) := by decide +kernel
theorem dX11_end_5 : decode cX11_end 5 = .ok (.invokevirtual 87, 3) := by decide +kernel
theorem dX11_end_8 : decode cX11_end 8 = .ok (.ireturn, 1) := by decide +kernel
theorem dX11_question_0 : decode cX11_question 0 = .ok (.aload_n 0, 1) := by decide +kernel
theorem dX11_question_1 : decode cX11_question 1 = .ok (.getfield 36, 3) := by decide +kernel
theorem dX11_question_4 : decode cX11_question 4 = .ok (.bipush 60, 2) := by decide +kernel
theorem dX11_question_6 : decode cX11_question 6 = .ok (.if_icmp .ge 13, 3) := by decide +kernel
theorem dX11_question_9 : decode cX11_question 9 = .ok (.iload_n 1, 1) := by decide +kernel
theorem dX11_question_10 : decode cX11_question 10 = .ok (.ifCond .lt 9, 3) := by decide +kernel
theorem dX11_question_13 : decode cX11_question 13 = .ok (.iload_n 1, 1) := by decide +kernel
theorem dX11_question_14 : decode cX11_question 14 = .ok (.bipush 8, 2) := by decide +kernel
theorem dX11_question_16 : decode cX11_question 16 = .ok (.if_icmp .lt 14, 3) := by decide +kernel
theorem dX11_question_19 : decode cX11_question 19 = .ok (.aload_n 0, 1) := by decide +kernel
theorem dX11_question_20 : decode cX11_question 20 = .ok (.getfield 10, 3) := by decide +kernel
theorem dX11_question_23 : decode cX11_question 23 = .ok (.invokevirtual 90, 3) := by decide +kernel
theorem dX11_question_26 : decode cX11_question 26 = .ok (.sipush (-300), 3) := by decide +kernel
theorem dX11_question_29 : decode cX11_question 29 = .ok (.ireturn, 1) := by decide +kernel
theorem dX11_question_30 : decode cX11_question 30 = .ok (.aload_n 0, 1) := by decide +kernel
theorem dX11_question_31 : decode cX11_question 31 = .ok (.getfield 19, 3) := by decide +kernel
theorem dX11_question_34 : decode cX11_question 34 = .ok (.aload_n 0, 1) := by decide +kernel
theorem dX11_question_35 : decode cX11_question 35 = .ok (.getfield 10, 3) := by decide +kernel
theorem dX11_question_38 : decode cX11_question 38 = .ok (.invokevirtual 93, 3) := by decide +kernel
theorem dX11_question_41 : decode cX11_question 41 = .ok (.aload_n 0, 1) := by decide +kernel
theorem dX11_question_42 : decode cX11_question 42 = .ok (.getfield 10, 3) := by decide +kernel
theorem dX11_question_45 : decode cX11_question 45 = .ok (.invokevirtual 90, 3) := by decide +kernel
theorem dX11_question_48 : decode cX11_question 48 = .ok (.aload_n 0, 1) := by decide +kernel
theorem dX11_question_49 : decode cX11_question 49 = .ok (.aload_n 0, 1) := by decide +kernel
theorem dX11_question_50 : decode cX11_question 50 = .ok (.getfield 19, 3) := by decide +kernel
theorem dX11_question_53 : decode cX11_question 53 = .ok (.getfield 97, 3) := by decide +kernel
theorem dX11_question_56 : decode cX11_question 56 = .ok (.putfield 50, 3) := by decide +kernel
theorem dX11_question_59 : decode cX11_question 59 = .ok (.aload_n 0, 1) := by decide +kernel
theorem dX11_question_60 : decode cX11_question 60 = .ok (.getfield 50, 3) := by decide +kernel
theorem dX11_question_63 : decode cX11_question 63 = .ok (.ifCond .eq 13, 3) := by decide +kernel
theorem dX11_question_66 : decode cX11_question 66 = .ok (.iconst (-1), 1) := by decide +kernel
theorem dX11_question_67 : decode cX11_question 67 = .ok (.aload_n 0, 1) := by decide +kernel
theorem dX11_question_68 : decode cX11_question 68 = .ok (.getfield 19, 3) := by decide +kernel
theorem dX11_question_71 : decode cX11_question 71 = .ok (.getfield 100, 3) := by decide +kernel
theorem dX11_question_74 : decode cX11_question 74 = .ok (.isub, 1) := by decide +kernel
theorem dX11_question_75 : decode cX11_question 75 = .ok (.ireturn, 1) := by decide +kernel
theorem dX11_question_76 : decode cX11_question 76 = .ok (.aload_n 0, 1) := by decide +kernel
theorem dX11_question_77 : decode cX11_question 77 = .ok (.getfield 32, 3) := by decide +kernel
theorem dX11_question_80 : decode cX11_question 80 = .ok (.aload_n 0, 1) := by decide +kernel
theorem dX11_question_81 : decode cX11_question 81 = .ok (.getfield 36, 3) := by decide +kernel
theorem dX11_question_84 : decode cX11_question 84 = .ok (.new 30, 3) := by decide +kernel
theorem dX11_question_87 : decode cX11_question 87 = .ok (.dup, 1) := by decide +kernel
theorem dX11_question_88 : decode cX11_question 88 = .ok (.iload_n 1, 1) := by decide +kernel
theorem dX11_question_89 : decode cX11_question 89 = .ok (.aload_n 0, 1) := by decide +kernel
theorem dX11_question_90 : decode cX11_question 90 = .ok (.getfield 19, 3) := by decide +kernel
theorem dX11_question_93 : decode cX11_question 93 = .ok (.invokevirtual 103, 3) := by decide +kernel
theorem dX11_question_96 : decode cX11_question 96 = .ok (.invokespecial 107, 3) := by decide +kernel
theorem dX11_question_99 : decode cX11_question 99 = .ok (.aastore, 1) := by decide +kernel
theorem dX11_question_100 : decode cX11_question 100 = .ok (.aload_n 0, 1) := by decide +kernel
theorem dX11_question_101 : decode cX11_question 101 = .ok (.dup, 1) := by decide +kernel
theorem dX11_question_102 : decode cX11_question 102 = .ok (.getfield 36, 3) := by decide +kernel
theorem dX11_question_105 : decode cX11_question 105 = .ok (.iconst 1, 1) := by decide +kernel
theorem dX11_question_106 : decode cX11_question 106 = .ok (.iadd, 1) := by decide +kernel
theorem dX11_question_107 : decode cX11_question 107 = .ok (.putfield 36, 3) := by decide +kernel
theorem dX11_question_110 : decode cX11_question 110 = .ok (.aload_n 0, 1) := by decide +kernel
theorem dX11_question_111 : decode cX11_question 111 = .ok (.getfield 36, 3) := by decide +kernel
theorem dX11_question_114 : decode cX11_question 114 = .ok (.iconst 1, 1) := by decide +kernel
theorem dX11_question_115 : decode cX11_question 115 = .ok (.isub, 1) := by decide +kernel
theorem dX11_question_116 : decode cX11_question 116 = .ok (.ireturn, 1) := by decide +kernel
theorem dX11_takes_0 : decode cX11_takes 0 = .ok (.aload_n 0, 1) := by decide +kernel
theorem dX11_takes_1 : decode cX11_takes 1 = .ok (.getfield 26, 3) := by decide +kernel
theorem dX11_takes_4 : decode cX11_takes 4 = .ok (.aload_n 0, 1) := by decide +kernel
theorem dX11_takes_5 : decode cX11_takes 5 = .ok (.getfield 10, 3) := by decide +kernel
theorem dX11_takes_8 : decode cX11_takes 8 = .ok (.invokevirtual 110, 3) := by decide +kernel
theorem dX11_takes_11 : decode cX11_takes 11 = .ok (.istore_n 2, 1) := by decide +kernel
theorem dX11_takes_12 : decode cX11_takes 12 = .ok (.aload_n 0, 1) := by decide +kernel
theorem dX11_takes_13 : decode cX11_takes 13 = .ok (.getfield 10, 3) := by decide +kernel
theorem dX11_takes_16 : decode cX11_takes 16 = .ok (.invokevirtual 90, 3) := by decide +kernel
theorem dX11_takes_19 : decode cX11_takes 19 = .ok (.aload_n 0, 1) := by decide +kernel
theorem dX11_takes_20 : decode cX11_takes 20 = .ok (.iload_n 1, 1) := by decide +kernel
theorem dX11_takes_21 : decode cX11_takes 21 = .ok (.invokevirtual 113, 3) := by decide +kernel
theorem dX11_takes_24 : decode cX11_takes 24 = .ok (.astore_n 3, 1) := by decide +kernel
theorem dX11_takes_25 : decode cX11_takes 25 = .ok (.aload_n 3, 1) := by decide +kernel
theorem dX11_takes_26 : decode cX11_takes 26 = .ok (.ifnull 7, 3) := by decide +kernel
theorem dX11_takes_29 : decode cX11_takes 29 = .ok (.iload_n 2, 1) := by decide +kernel
theorem dX11_takes_30 : decode cX11_takes 30 = .ok (.ifCond .ne 5, 3) := by decide +kernel
theorem dX11_takes_33 : decode cX11_takes 33 = .ok (.iconst (-1), 1) := by decide +kernel
theorem dX11_takes_34 : decode cX11_takes 34 = .ok (.ireturn, 1) := by decide +kernel
theorem dX11_takes_35 : decode cX11_takes 35 = .ok (.aload_n 0, 1) := by decide +kernel
theorem dX11_takes_36 : decode cX11_takes 36 = .ok (.getfield 26, 3) := by decide +kernel
theorem dX11_takes_39 : decode cX11_takes 39 = .ok (.aload_n 3, 1) := by decide +kernel
theorem dX11_takes_40 : decode cX11_takes 40 = .ok (.getfield 117, 3) := by decide +kernel
theorem dX11_takes_43 : decode cX11_takes 43 = .ok (.invokevirtual 121, 3) := by decide +kernel
theorem dX11_takes_46 : decode cX11_takes 46 = .ok (.ifCond .eq 7, 3) := by decide +kernel
theorem dX11_takes_49 : decode cX11_takes 49 = .ok (.iconst 1, 1) := by decide +kernel
theorem dX11_takes_50 : decode cX11_takes 50 = .ok (.goto 4, 3) := by decide +kernel
theorem dX11_takes_53 : decode cX11_takes 53 = .ok (.iconst 0, 1) := by decide +kernel
theorem dX11_takes_54 : decode cX11_takes 54 = .ok (.ireturn, 1) := by decide +kernel
theorem dX11_strike_0 : decode cX11_strike 0 = .ok (.aload_n 0, 1) := by decide +kernel
theorem dX11_strike_1 : decode cX11_strike 1 = .ok (.iload_n 1, 1) := by decide +kernel
theorem dX11_strike_2 : decode cX11_strike 2 = .ok (.invokevirtual 113, 3) := by decide +kernel
theorem dX11_strike_5 : decode cX11_strike 5 = .ok (.astore_n 3, 1) := by decide +kernel
theorem dX11_strike_6 : decode cX11_strike 6 = .ok (.aload_n 3, 1) := by decide +kernel
theorem dX11_strike_7 : decode cX11_strike 7 = .ok (.ifnull 21, 3) := by decide +kernel
theorem dX11_strike_10 : decode cX11_strike 10 = .ok (.aload_n 0, 1) := by decide +kernel
theorem dX11_strike_11 : decode cX11_strike 11 = .ok (.getfield 65, 3) := by decide +kernel
theorem dX11_strike_14 : decode cX11_strike 14 = .ok (.getfield 125, 3) := by decide +kernel
theorem dX11_strike_17 : decode cX11_strike 17 = .ok (.ifCond .ne 11, 3) := by decide +kernel
theorem dX11_strike_20 : decode cX11_strike 20 = .ok (.aload_n 3, 1) := by decide +kernel
theorem dX11_strike_21 : decode cX11_strike 21 = .ok (.getfield 129, 3) := by decide +kernel
theorem dX11_strike_24 : decode cX11_strike 24 = .ok (.iload_n 2, 1) := by decide +kernel
theorem dX11_strike_25 : decode cX11_strike 25 = .ok (.if_icmp .ne 5, 3) := by decide +kernel
theorem dX11_strike_28 : decode cX11_strike 28 = .ok (.iconst 0, 1) := by decide +kernel
theorem dX11_strike_29 : decode cX11_strike 29 = .ok (.ireturn, 1) := by decide +kernel
theorem dX11_strike_30 : decode cX11_strike 30 = .ok (.aload_n 3, 1) := by decide +kernel
theorem dX11_strike_31 : decode cX11_strike 31 = .ok (.iload_n 2, 1) := by decide +kernel
theorem dX11_strike_32 : decode cX11_strike 32 = .ok (.putfield 129, 3) := by decide +kernel
theorem dX11_strike_35 : decode cX11_strike 35 = .ok (.iconst 1, 1) := by decide +kernel
theorem dX11_strike_36 : decode cX11_strike 36 = .ok (.ireturn, 1) := by decide +kernel
theorem dX11_asked_0 : decode cX11_asked 0 = .ok (.aload_n 0, 1) := by decide +kernel
theorem dX11_asked_1 : decode cX11_asked 1 = .ok (.iload_n 1, 1) := by decide +kernel
theorem dX11_asked_2 : decode cX11_asked 2 = .ok (.invokevirtual 113, 3) := by decide +kernel
theorem dX11_asked_5 : decode cX11_asked 5 = .ok (.astore_n 3, 1) := by decide +kernel
theorem dX11_asked_6 : decode cX11_asked 6 = .ok (.aload_n 3, 1) := by decide +kernel
theorem dX11_asked_7 : decode cX11_asked 7 = .ok (.ifnull 12, 3) := by decide +kernel
theorem dX11_asked_10 : decode cX11_asked 10 = .ok (.iload_n 2, 1) := by decide +kernel
theorem dX11_asked_11 : decode cX11_asked 11 = .ok (.ifCond .lt 8, 3) := by decide +kernel
theorem dX11_asked_14 : decode cX11_asked 14 = .ok (.iload_n 2, 1) := by decide +kernel
theorem dX11_asked_15 : decode cX11_asked 15 = .ok (.iconst 5, 1) := by decide +kernel
theorem dX11_asked_16 : decode cX11_asked 16 = .ok (.if_icmp .le 13, 3) := by decide +kernel
theorem dX11_asked_19 : decode cX11_asked 19 = .ok (.new 132, 3) := by decide +kernel
theorem dX11_asked_22 : decode cX11_asked 22 = .ok (.dup, 1) := by decide +kernel
theorem dX11_asked_23 : decode cX11_asked 23 = .ok (.ldc 134, 2) := by decide +kernel
theorem dX11_asked_25 : decode cX11_asked 25 = .ok (.invokespecial 136, 3) := by decide +kernel
theorem dX11_asked_28 : decode cX11_asked 28 = .ok (.athrow, 1) := by decide +kernel
theorem dX11_asked_29 : decode cX11_asked 29 = .ok (.aload_n 3, 1) := by decide +kernel
theorem dX11_asked_30 : decode cX11_asked 30 = .ok (.iload_n 2, 1) := by decide +kernel
theorem dX11_asked_31 : decode cX11_asked 31 = .ok (.invokevirtual 139, 3) := by decide +kernel
theorem dX11_asked_34 : decode cX11_asked 34 = .ok (.ireturn, 1) := by decide +kernel
theorem dX11_seen_0 : decode cX11_seen 0 = .ok (.aload_n 0, 1) := by decide +kernel
theorem dX11_seen_1 : decode cX11_seen 1 = .ok (.iload_n 2, 1) := by decide +kernel
theorem dX11_seen_2 : decode cX11_seen 2 = .ok (.invokevirtual 113, 3) := by decide +kernel
theorem dX11_seen_5 : decode cX11_seen 5 = .ok (.astore_n 3, 1) := by decide +kernel
theorem dX11_seen_6 : decode cX11_seen 6 = .ok (.aload_n 3, 1) := by decide +kernel
theorem dX11_seen_7 : decode cX11_seen 7 = .ok (.ifnull 22, 3) := by decide +kernel
theorem dX11_seen_10 : decode cX11_seen 10 = .ok (.iload_n 1, 1) := by decide +kernel
theorem dX11_seen_11 : decode cX11_seen 11 = .ok (.invokestatic 143, 3) := by decide +kernel
theorem dX11_seen_14 : decode cX11_seen 14 = .ok (.ifCond .eq 15, 3) := by decide +kernel
theorem dX11_seen_17 : decode cX11_seen 17 = .ok (.aload_n 3, 1) := by decide +kernel
theorem dX11_seen_18 : decode cX11_seen 18 = .ok (.iload_n 1, 1) := by decide +kernel
theorem dX11_seen_19 : decode cX11_seen 19 = .ok (.invokevirtual 146, 3) := by decide +kernel
theorem dX11_seen_22 : decode cX11_seen 22 = .ok (.ifCond .eq 7, 3) := by decide +kernel
theorem dX11_seen_25 : decode cX11_seen 25 = .ok (.iconst 1, 1) := by decide +kernel
theorem dX11_seen_26 : decode cX11_seen 26 = .ok (.goto 4, 3) := by decide +kernel
theorem dX11_seen_29 : decode cX11_seen 29 = .ok (.iconst 0, 1) := by decide +kernel
theorem dX11_seen_30 : decode cX11_seen 30 = .ok (.ireturn, 1) := by decide +kernel
theorem dX11_law_0 : decode cX11_law 0 = .ok (.aload_n 0, 1) := by decide +kernel
theorem dX11_law_1 : decode cX11_law 1 = .ok (.getfield 65, 3) := by decide +kernel
theorem dX11_law_4 : decode cX11_law 4 = .ok (.getfield 125, 3) := by decide +kernel
theorem dX11_law_7 : decode cX11_law 7 = .ok (.ifCond .eq 14, 3) := by decide +kernel
theorem dX11_law_10 : decode cX11_law 10 = .ok (.aload_n 0, 1) := by decide +kernel
theorem dX11_law_11 : decode cX11_law 11 = .ok (.getfield 10, 3) := by decide +kernel
theorem dX11_law_14 : decode cX11_law 14 = .ok (.invokevirtual 90, 3) := by decide +kernel
theorem dX11_law_17 : decode cX11_law 17 = .ok (.sipush (-300), 3) := by decide +kernel
theorem dX11_law_20 : decode cX11_law 20 = .ok (.ireturn, 1) := by decide +kernel
theorem dX11_law_21 : decode cX11_law 21 = .ok (.aload_n 0, 1) := by decide +kernel
theorem dX11_law_22 : decode cX11_law 22 = .ok (.getfield 47, 3) := by decide +kernel
theorem dX11_law_25 : decode cX11_law 25 = .ok (.aload_n 0, 1) := by decide +kernel
theorem dX11_law_26 : decode cX11_law 26 = .ok (.getfield 10, 3) := by decide +kernel
theorem dX11_law_29 : decode cX11_law 29 = .ok (.invokevirtual 149, 3) := by decide +kernel
theorem dX11_law_32 : decode cX11_law 32 = .ok (.aload_n 0, 1) := by decide +kernel
theorem dX11_law_33 : decode cX11_law 33 = .ok (.getfield 10, 3) := by decide +kernel
theorem dX11_law_36 : decode cX11_law 36 = .ok (.invokevirtual 90, 3) := by decide +kernel
theorem dX11_law_39 : decode cX11_law 39 = .ok (.aload_n 0, 1) := by decide +kernel
theorem dX11_law_40 : decode cX11_law 40 = .ok (.aload_n 0, 1) := by decide +kernel
theorem dX11_law_41 : decode cX11_law 41 = .ok (.getfield 47, 3) := by decide +kernel
theorem dX11_law_44 : decode cX11_law 44 = .ok (.getfield 150, 3) := by decide +kernel
theorem dX11_law_47 : decode cX11_law 47 = .ok (.putfield 50, 3) := by decide +kernel
theorem dX11_law_50 : decode cX11_law 50 = .ok (.aload_n 0, 1) := by decide +kernel
theorem dX11_law_51 : decode cX11_law 51 = .ok (.getfield 50, 3) := by decide +kernel
theorem dX11_law_54 : decode cX11_law 54 = .ok (.ifCond .eq 13, 3) := by decide +kernel
theorem dX11_law_57 : decode cX11_law 57 = .ok (.iconst (-1), 1) := by decide +kernel
theorem dX11_law_58 : decode cX11_law 58 = .ok (.aload_n 0, 1) := by decide +kernel
theorem dX11_law_59 : decode cX11_law 59 = .ok (.getfield 47, 3) := by decide +kernel
theorem dX11_law_62 : decode cX11_law 62 = .ok (.getfield 151, 3) := by decide +kernel
theorem dX11_law_65 : decode cX11_law 65 = .ok (.isub, 1) := by decide +kernel
theorem dX11_law_66 : decode cX11_law 66 = .ok (.ireturn, 1) := by decide +kernel
theorem dX11_law_67 : decode cX11_law 67 = .ok (.aload_n 0, 1) := by decide +kernel
theorem dX11_law_68 : decode cX11_law 68 = .ok (.getfield 43, 3) := by decide +kernel

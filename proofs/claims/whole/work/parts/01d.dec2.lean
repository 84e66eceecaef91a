theorem dX11_law_71 : decode cX11_law 71 = .ok (.astore_n 1, 1) := by decide +kernel
theorem dX11_law_72 : decode cX11_law 72 = .ok (.aload_n 0, 1) := by decide +kernel
theorem dX11_law_73 : decode cX11_law 73 = .ok (.aload_n 0, 1) := by decide +kernel
theorem dX11_law_74 : decode cX11_law 74 = .ok (.getfield 47, 3) := by decide +kernel
theorem dX11_law_77 : decode cX11_law 77 = .ok (.putfield 43, 3) := by decide +kernel
theorem dX11_law_80 : decode cX11_law 80 = .ok (.aload_n 0, 1) := by decide +kernel
theorem dX11_law_81 : decode cX11_law 81 = .ok (.aload_n 1, 1) := by decide +kernel
theorem dX11_law_82 : decode cX11_law 82 = .ok (.putfield 47, 3) := by decide +kernel
theorem dX11_law_85 : decode cX11_law 85 = .ok (.aload_n 0, 1) := by decide +kernel
theorem dX11_law_86 : decode cX11_law 86 = .ok (.getfield 43, 3) := by decide +kernel
theorem dX11_law_89 : decode cX11_law 89 = .ok (.getfield 152, 3) := by decide +kernel
theorem dX11_law_92 : decode cX11_law 92 = .ok (.ireturn, 1) := by decide +kernel
theorem dX11_fault_0 : decode cX11_fault 0 = .ok (.aload_n 0, 1) := by decide +kernel
theorem dX11_fault_1 : decode cX11_fault 1 = .ok (.getfield 50, 3) := by decide +kernel
theorem dX11_fault_4 : decode cX11_fault 4 = .ok (.ireturn, 1) := by decide +kernel
theorem dX11_pack_0 : decode cX11_pack 0 = .ok (.iload_n 1, 1) := by decide +kernel
theorem dX11_pack_1 : decode cX11_pack 1 = .ok (.invokestatic 143, 3) := by decide +kernel
theorem dX11_pack_4 : decode cX11_pack 4 = .ok (.ifCond .eq 15, 3) := by decide +kernel
theorem dX11_pack_7 : decode cX11_pack 7 = .ok (.iload_n 2, 1) := by decide +kernel
theorem dX11_pack_8 : decode cX11_pack 8 = .ok (.invokestatic 143, 3) := by decide +kernel
theorem dX11_pack_11 : decode cX11_pack 11 = .ok (.ifCond .eq 8, 3) := by decide +kernel
theorem dX11_pack_14 : decode cX11_pack 14 = .ok (.iload_n 1, 1) := by decide +kernel
theorem dX11_pack_15 : decode cX11_pack 15 = .ok (.iload_n 2, 1) := by decide +kernel
theorem dX11_pack_16 : decode cX11_pack 16 = .ok (.if_icmp .ne 13, 3) := by decide +kernel
theorem dX11_pack_19 : decode cX11_pack 19 = .ok (.new 155, 3) := by decide +kernel
theorem dX11_pack_22 : decode cX11_pack 22 = .ok (.dup, 1) := by decide +kernel
theorem dX11_pack_23 : decode cX11_pack 23 = .ok (.ldc 157, 2) := by decide +kernel
theorem dX11_pack_25 : decode cX11_pack 25 = .ok (.invokespecial 159, 3) := by decide +kernel
theorem dX11_pack_28 : decode cX11_pack 28 = .ok (.athrow, 1) := by decide +kernel
theorem dX11_pack_29 : decode cX11_pack 29 = .ok (.iload_n 3, 1) := by decide +kernel
theorem dX11_pack_30 : decode cX11_pack 30 = .ok (.iconst 1, 1) := by decide +kernel
theorem dX11_pack_31 : decode cX11_pack 31 = .ok (.if_icmp .lt 29, 3) := by decide +kernel
theorem dX11_pack_34 : decode cX11_pack 34 = .ok (.iload_n 3, 1) := by decide +kernel
theorem dX11_pack_35 : decode cX11_pack 35 = .ok (.bipush 48, 2) := by decide +kernel
theorem dX11_pack_37 : decode cX11_pack 37 = .ok (.if_icmp .gt 23, 3) := by decide +kernel
theorem dX11_pack_40 : decode cX11_pack 40 = .ok (.iload 4, 2) := by decide +kernel
theorem dX11_pack_42 : decode cX11_pack 42 = .ok (.iload 5, 2) := by decide +kernel
theorem dX11_pack_44 : decode cX11_pack 44 = .ok (.if_icmp .gt 16, 3) := by decide +kernel
theorem dX11_pack_47 : decode cX11_pack 47 = .ok (.iload 6, 2) := by decide +kernel
theorem dX11_pack_49 : decode cX11_pack 49 = .ok (.iconst 1, 1) := by decide +kernel
theorem dX11_pack_50 : decode cX11_pack 50 = .ok (.if_icmp .lt 10, 3) := by decide +kernel
theorem dX11_pack_53 : decode cX11_pack 53 = .ok (.iload 6, 2) := by decide +kernel
theorem dX11_pack_55 : decode cX11_pack 55 = .ok (.ldc 160, 2) := by decide +kernel
theorem dX11_pack_57 : decode cX11_pack 57 = .ok (.if_icmp .le 13, 3) := by decide +kernel
theorem dX11_pack_60 : decode cX11_pack 60 = .ok (.new 155, 3) := by decide +kernel
theorem dX11_pack_63 : decode cX11_pack 63 = .ok (.dup, 1) := by decide +kernel
theorem dX11_pack_64 : decode cX11_pack 64 = .ok (.ldc 161, 2) := by decide +kernel
theorem dX11_pack_66 : decode cX11_pack 66 = .ok (.invokespecial 159, 3) := by decide +kernel
theorem dX11_pack_69 : decode cX11_pack 69 = .ok (.athrow, 1) := by decide +kernel
theorem dX11_pack_70 : decode cX11_pack 70 = .ok (.aload_n 0, 1) := by decide +kernel
theorem dX11_pack_71 : decode cX11_pack 71 = .ok (.getfield 43, 3) := by decide +kernel
theorem dX11_pack_74 : decode cX11_pack 74 = .ok (.getfield 152, 3) := by decide +kernel
theorem dX11_pack_77 : decode cX11_pack 77 = .ok (.ifCond .eq 13, 3) := by decide +kernel
theorem dX11_pack_80 : decode cX11_pack 80 = .ok (.aload_n 0, 1) := by decide +kernel
theorem dX11_pack_81 : decode cX11_pack 81 = .ok (.getfield 65, 3) := by decide +kernel
theorem dX11_pack_84 : decode cX11_pack 84 = .ok (.getfield 125, 3) := by decide +kernel
theorem dX11_pack_87 : decode cX11_pack 87 = .ok (.ifCond .eq 13, 3) := by decide +kernel
theorem dX11_pack_90 : decode cX11_pack 90 = .ok (.new 163, 3) := by decide +kernel
theorem dX11_pack_93 : decode cX11_pack 93 = .ok (.dup, 1) := by decide +kernel
theorem dX11_pack_94 : decode cX11_pack 94 = .ok (.ldc 165, 2) := by decide +kernel
theorem dX11_pack_96 : decode cX11_pack 96 = .ok (.invokespecial 167, 3) := by decide +kernel
theorem dX11_pack_99 : decode cX11_pack 99 = .ok (.athrow, 1) := by decide +kernel
theorem dX11_pack_100 : decode cX11_pack 100 = .ok (.aload_n 0, 1) := by decide +kernel
theorem dX11_pack_101 : decode cX11_pack 101 = .ok (.getfield 56, 3) := by decide +kernel
theorem dX11_pack_104 : decode cX11_pack 104 = .ok (.aload_n 0, 1) := by decide +kernel
theorem dX11_pack_105 : decode cX11_pack 105 = .ok (.getfield 32, 3) := by decide +kernel
theorem dX11_pack_108 : decode cX11_pack 108 = .ok (.aload_n 0, 1) := by decide +kernel
theorem dX11_pack_109 : decode cX11_pack 109 = .ok (.getfield 36, 3) := by decide +kernel
theorem dX11_pack_112 : decode cX11_pack 112 = .ok (.iload_n 1, 1) := by decide +kernel
theorem dX11_pack_113 : decode cX11_pack 113 = .ok (.iload_n 2, 1) := by decide +kernel
theorem dX11_pack_114 : decode cX11_pack 114 = .ok (.invokevirtual 168, 3) := by decide +kernel
theorem dX11_pack_117 : decode cX11_pack 117 = .ok (.aload_n 0, 1) := by decide +kernel
theorem dX11_pack_118 : decode cX11_pack 118 = .ok (.getfield 56, 3) := by decide +kernel
theorem dX11_pack_121 : decode cX11_pack 121 = .ok (.iload_n 3, 1) := by decide +kernel
theorem dX11_pack_122 : decode cX11_pack 122 = .ok (.iload 4, 2) := by decide +kernel
theorem dX11_pack_124 : decode cX11_pack 124 = .ok (.iload 5, 2) := by decide +kernel
theorem dX11_pack_126 : decode cX11_pack 126 = .ok (.invokevirtual 172, 3) := by decide +kernel
theorem dX11_pack_129 : decode cX11_pack 129 = .ok (.aload_n 0, 1) := by decide +kernel
theorem dX11_pack_130 : decode cX11_pack 130 = .ok (.getfield 56, 3) := by decide +kernel
theorem dX11_pack_133 : decode cX11_pack 133 = .ok (.aload_n 0, 1) := by decide +kernel
theorem dX11_pack_134 : decode cX11_pack 134 = .ok (.getfield 43, 3) := by decide +kernel
theorem dX11_pack_137 : decode cX11_pack 137 = .ok (.getfield 152, 3) := by decide +kernel
theorem dX11_pack_140 : decode cX11_pack 140 = .ok (.iload 6, 2) := by decide +kernel
theorem dX11_pack_142 : decode cX11_pack 142 = .ok (.invokevirtual 176, 3) := by decide +kernel
theorem dX11_pack_145 : decode cX11_pack 145 = .ok (.ireturn, 1) := by decide +kernel
theorem dX11_packed_0 : decode cX11_packed 0 = .ok (.aload_n 0, 1) := by decide +kernel
theorem dX11_packed_1 : decode cX11_packed 1 = .ok (.getfield 56, 3) := by decide +kernel
theorem dX11_packed_4 : decode cX11_packed 4 = .ok (.iload_n 1, 1) := by decide +kernel
theorem dX11_packed_5 : decode cX11_packed 5 = .ok (.invokevirtual 180, 3) := by decide +kernel
theorem dX11_packed_8 : decode cX11_packed 8 = .ok (.ireturn, 1) := by decide +kernel
theorem dX11_begin_0 : decode cX11_begin 0 = .ok (.aload_n 0, 1) := by decide +kernel
theorem dX11_begin_1 : decode cX11_begin 1 = .ok (.getfield 65, 3) := by decide +kernel
theorem dX11_begin_4 : decode cX11_begin 4 = .ok (.getfield 125, 3) := by decide +kernel
theorem dX11_begin_7 : decode cX11_begin 7 = .ok (.ifCond .ne 37, 3) := by decide +kernel
theorem dX11_begin_10 : decode cX11_begin 10 = .ok (.aload_n 0, 1) := by decide +kernel
theorem dX11_begin_11 : decode cX11_begin 11 = .ok (.getfield 56, 3) := by decide +kernel
theorem dX11_begin_14 : decode cX11_begin 14 = .ok (.getfield 183, 3) := by decide +kernel
theorem dX11_begin_17 : decode cX11_begin 17 = .ok (.ifCond .eq 27, 3) := by decide +kernel
theorem dX11_begin_20 : decode cX11_begin 20 = .ok (.aload_n 0, 1) := by decide +kernel
theorem dX11_begin_21 : decode cX11_begin 21 = .ok (.getfield 56, 3) := by decide +kernel
theorem dX11_begin_24 : decode cX11_begin 24 = .ok (.getfield 183, 3) := by decide +kernel
theorem dX11_begin_27 : decode cX11_begin 27 = .ok (.aload_n 0, 1) := by decide +kernel
theorem dX11_begin_28 : decode cX11_begin 28 = .ok (.getfield 43, 3) := by decide +kernel
theorem dX11_begin_31 : decode cX11_begin 31 = .ok (.getfield 152, 3) := by decide +kernel
theorem dX11_begin_34 : decode cX11_begin 34 = .ok (.if_icmp .ne 10, 3) := by decide +kernel
theorem dX11_begin_37 : decode cX11_begin 37 = .ok (.aload_n 0, 1) := by decide +kernel
theorem dX11_begin_38 : decode cX11_begin 38 = .ok (.invokevirtual 184, 3) := by decide +kernel
theorem dX11_begin_41 : decode cX11_begin 41 = .ok (.ifCond .eq 5, 3) := by decide +kernel
theorem dX11_begin_44 : decode cX11_begin 44 = .ok (.iconst 0, 1) := by decide +kernel
theorem dX11_begin_45 : decode cX11_begin 45 = .ok (.ireturn, 1) := by decide +kernel
theorem dX11_begin_46 : decode cX11_begin 46 = .ok (.aload_n 0, 1) := by decide +kernel
theorem dX11_begin_47 : decode cX11_begin 47 = .ok (.getfield 65, 3) := by decide +kernel
theorem dX11_begin_50 : decode cX11_begin 50 = .ok (.aload_n 0, 1) := by decide +kernel
theorem dX11_begin_51 : decode cX11_begin 51 = .ok (.getfield 43, 3) := by decide +kernel
theorem dX11_begin_54 : decode cX11_begin 54 = .ok (.invokevirtual 188, 3) := by decide +kernel
theorem dX11_begin_57 : decode cX11_begin 57 = .ok (.iconst 1, 1) := by decide +kernel
theorem dX11_begin_58 : decode cX11_begin 58 = .ok (.ireturn, 1) := by decide +kernel
theorem dX11_answer_0 : decode cX11_answer 0 = .ok (.aload_n 0, 1) := by decide +kernel
theorem dX11_answer_1 : decode cX11_answer 1 = .ok (.getfield 26, 3) := by decide +kernel
theorem dX11_answer_4 : decode cX11_answer 4 = .ok (.aload_n 0, 1) := by decide +kernel
theorem dX11_answer_5 : decode cX11_answer 5 = .ok (.getfield 10, 3) := by decide +kernel
theorem dX11_answer_8 : decode cX11_answer 8 = .ok (.invokevirtual 110, 3) := by decide +kernel
theorem dX11_answer_11 : decode cX11_answer 11 = .ok (.istore_n 2, 1) := by decide +kernel
theorem dX11_answer_12 : decode cX11_answer 12 = .ok (.aload_n 0, 1) := by decide +kernel
theorem dX11_answer_13 : decode cX11_answer 13 = .ok (.getfield 10, 3) := by decide +kernel
theorem dX11_answer_16 : decode cX11_answer 16 = .ok (.invokevirtual 90, 3) := by decide +kernel
theorem dX11_answer_19 : decode cX11_answer 19 = .ok (.aload_n 0, 1) := by decide +kernel
theorem dX11_answer_20 : decode cX11_answer 20 = .ok (.getfield 65, 3) := by decide +kernel
theorem dX11_answer_23 : decode cX11_answer 23 = .ok (.iconst 0, 1) := by decide +kernel
theorem dX11_answer_24 : decode cX11_answer 24 = .ok (.iload_n 1, 1) := by decide +kernel
theorem dX11_answer_25 : decode cX11_answer 25 = .ok (.invokevirtual 191, 3) := by decide +kernel
theorem dX11_answer_28 : decode cX11_answer 28 = .ok (.ifCond .ne 5, 3) := by decide +kernel
theorem dX11_answer_31 : decode cX11_answer 31 = .ok (.iconst (-1), 1) := by decide +kernel
theorem dX11_answer_32 : decode cX11_answer 32 = .ok (.ireturn, 1) := by decide +kernel
theorem dX11_answer_33 : decode cX11_answer 33 = .ok (.aload_n 0, 1) := by decide +kernel
theorem dX11_answer_34 : decode cX11_answer 34 = .ok (.aload_n 0, 1) := by decide +kernel
theorem dX11_answer_35 : decode cX11_answer 35 = .ok (.getfield 56, 3) := by decide +kernel
theorem dX11_answer_38 : decode cX11_answer 38 = .ok (.aload_n 0, 1) := by decide +kernel
theorem dX11_answer_39 : decode cX11_answer 39 = .ok (.getfield 65, 3) := by decide +kernel
theorem dX11_answer_42 : decode cX11_answer 42 = .ok (.getfield 195, 3) := by decide +kernel
theorem dX11_answer_45 : decode cX11_answer 45 = .ok (.invokevirtual 180, 3) := by decide +kernel
theorem dX11_answer_48 : decode cX11_answer 48 = .ok (.invokevirtual 113, 3) := by decide +kernel
theorem dX11_answer_51 : decode cX11_answer 51 = .ok (.astore_n 3, 1) := by decide +kernel
theorem dX11_answer_52 : decode cX11_answer 52 = .ok (.iload_n 2, 1) := by decide +kernel
theorem dX11_answer_53 : decode cX11_answer 53 = .ok (.ifCond .eq 25, 3) := by decide +kernel
theorem dX11_answer_56 : decode cX11_answer 56 = .ok (.aload_n 3, 1) := by decide +kernel
theorem dX11_answer_57 : decode cX11_answer 57 = .ok (.ifnull 21, 3) := by decide +kernel
theorem dX11_answer_60 : decode cX11_answer 60 = .ok (.aload_n 0, 1) := by decide +kernel
theorem dX11_answer_61 : decode cX11_answer 61 = .ok (.getfield 26, 3) := by decide +kernel
theorem dX11_answer_64 : decode cX11_answer 64 = .ok (.aload_n 3, 1) := by decide +kernel
theorem dX11_answer_65 : decode cX11_answer 65 = .ok (.getfield 117, 3) := by decide +kernel
theorem dX11_answer_68 : decode cX11_answer 68 = .ok (.invokevirtual 121, 3) := by decide +kernel
theorem dX11_answer_71 : decode cX11_answer 71 = .ok (.ifCond .eq 7, 3) := by decide +kernel
theorem dX11_answer_74 : decode cX11_answer 74 = .ok (.iconst 1, 1) := by decide +kernel
theorem dX11_answer_75 : decode cX11_answer 75 = .ok (.goto 4, 3) := by decide +kernel
theorem dX11_answer_78 : decode cX11_answer 78 = .ok (.iconst 0, 1) := by decide +kernel
theorem dX11_answer_79 : decode cX11_answer 79 = .ok (.istore 4, 2) := by decide +kernel
theorem dX11_answer_81 : decode cX11_answer 81 = .ok (.aload_n 0, 1) := by decide +kernel
theorem dX11_answer_82 : decode cX11_answer 82 = .ok (.getfield 65, 3) := by decide +kernel
theorem dX11_answer_85 : decode cX11_answer 85 = .ok (.iconst 0, 1) := by decide +kernel
theorem dX11_answer_86 : decode cX11_answer 86 = .ok (.iload_n 1, 1) := by decide +kernel
theorem dX11_answer_87 : decode cX11_answer 87 = .ok (.iload 4, 2) := by decide +kernel
theorem dX11_answer_89 : decode cX11_answer 89 = .ok (.invokevirtual 198, 3) := by decide +kernel
theorem dX11_answer_92 : decode cX11_answer 92 = .ok (.iload 4, 2) := by decide +kernel
theorem dX11_answer_94 : decode cX11_answer 94 = .ok (.ifCond .eq 7, 3) := by decide +kernel
theorem dX11_answer_97 : decode cX11_answer 97 = .ok (.iconst 1, 1) := by decide +kernel
theorem dX11_answer_98 : decode cX11_answer 98 = .ok (.goto 4, 3) := by decide +kernel
theorem dX11_answer_101 : decode cX11_answer 101 = .ok (.iconst 0, 1) := by decide +kernel
theorem dX11_answer_102 : decode cX11_answer 102 = .ok (.ireturn, 1) := by decide +kernel
theorem dX11_nothing_0 : decode cX11_nothing 0 = .ok (.aload_n 0, 1) := by decide +kernel
theorem dX11_nothing_1 : decode cX11_nothing 1 = .ok (.getfield 65, 3) := by decide +kernel
theorem dX11_nothing_4 : decode cX11_nothing 4 = .ok (.iconst 1, 1) := by decide +kernel
theorem dX11_nothing_5 : decode cX11_nothing 5 = .ok (.iload_n 1, 1) := by decide +kernel
theorem dX11_nothing_6 : decode cX11_nothing 6 = .ok (.invokevirtual 191, 3) := by decide +kernel
theorem dX11_nothing_9 : decode cX11_nothing 9 = .ok (.ifCond .ne 5, 3) := by decide +kernel
theorem dX11_nothing_12 : decode cX11_nothing 12 = .ok (.iconst 0, 1) := by decide +kernel
theorem dX11_nothing_13 : decode cX11_nothing 13 = .ok (.ireturn, 1) := by decide +kernel
theorem dX11_nothing_14 : decode cX11_nothing 14 = .ok (.aload_n 0, 1) := by decide +kernel
theorem dX11_nothing_15 : decode cX11_nothing 15 = .ok (.getfield 65, 3) := by decide +kernel
theorem dX11_nothing_18 : decode cX11_nothing 18 = .ok (.iconst 1, 1) := by decide +kernel
theorem dX11_nothing_19 : decode cX11_nothing 19 = .ok (.iload_n 1, 1) := by decide +kernel
theorem dX11_nothing_20 : decode cX11_nothing 20 = .ok (.iconst 0, 1) := by decide +kernel
theorem dX11_nothing_21 : decode cX11_nothing 21 = .ok (.invokevirtual 198, 3) := by decide +kernel
theorem dX11_nothing_24 : decode cX11_nothing 24 = .ok (.iconst 1, 1) := by decide +kernel
theorem dX11_nothing_25 : decode cX11_nothing 25 = .ok (.ireturn, 1) := by decide +kernel
theorem dX11_dead_0 : decode cX11_dead 0 = .ok (.aload_n 0, 1) := by decide +kernel
theorem dX11_dead_1 : decode cX11_dead 1 = .ok (.getfield 65, 3) := by decide +kernel
theorem dX11_dead_4 : decode cX11_dead 4 = .ok (.iconst 2, 1) := by decide +kernel
theorem dX11_dead_5 : decode cX11_dead 5 = .ok (.iconst (-1), 1) := by decide +kernel
theorem dX11_dead_6 : decode cX11_dead 6 = .ok (.invokevirtual 191, 3) := by decide +kernel
theorem dX11_dead_9 : decode cX11_dead 9 = .ok (.ifCond .ne 5, 3) := by decide +kernel
theorem dX11_dead_12 : decode cX11_dead 12 = .ok (.iconst 0, 1) := by decide +kernel
theorem dX11_dead_13 : decode cX11_dead 13 = .ok (.ireturn, 1) := by decide +kernel
theorem dX11_dead_14 : decode cX11_dead 14 = .ok (.aload_n 0, 1) := by decide +kernel
theorem dX11_dead_15 : decode cX11_dead 15 = .ok (.getfield 65, 3) := by decide +kernel
theorem dX11_dead_18 : decode cX11_dead 18 = .ok (.iconst 2, 1) := by decide +kernel
theorem dX11_dead_19 : decode cX11_dead 19 = .ok (.iconst (-1), 1) := by decide +kernel
theorem dX11_dead_20 : decode cX11_dead 20 = .ok (.iconst 0, 1) := by decide +kernel
theorem dX11_dead_21 : decode cX11_dead 21 = .ok (.invokevirtual 198, 3) := by decide +kernel
theorem dX11_dead_24 : decode cX11_dead 24 = .ok (.iconst 1, 1) := by decide +kernel
theorem dX11_dead_25 : decode cX11_dead 25 = .ok (.ireturn, 1) := by decide +kernel
theorem dX11_appeal_0 : decode cX11_appeal 0 = .ok (.aload_n 0, 1) := by decide +kernel
theorem dX11_appeal_1 : decode cX11_appeal 1 = .ok (.getfield 65, 3) := by decide +kernel
theorem dX11_appeal_4 : decode cX11_appeal 4 = .ok (.iload_n 1, 1) := by decide +kernel
theorem dX11_appeal_5 : decode cX11_appeal 5 = .ok (.iload_n 2, 1) := by decide +kernel
theorem dX11_appeal_6 : decode cX11_appeal 6 = .ok (.invokevirtual 202, 3) := by decide +kernel
theorem dX11_appeal_9 : decode cX11_appeal 9 = .ok (.ireturn, 1) := by decide +kernel
theorem dX11_undo_0 : decode cX11_undo 0 = .ok (.aload_n 0, 1) := by decide +kernel
theorem dX11_undo_1 : decode cX11_undo 1 = .ok (.getfield 65, 3) := by decide +kernel
theorem dX11_undo_4 : decode cX11_undo 4 = .ok (.invokevirtual 206, 3) := by decide +kernel
theorem dX11_undo_7 : decode cX11_undo 7 = .ok (.ireturn, 1) := by decide +kernel
theorem dX11_now_0 : decode cX11_now 0 = .ok (.aload_n 0, 1) := by decide +kernel
theorem dX11_now_1 : decode cX11_now 1 = .ok (.getfield 65, 3) := by decide +kernel
theorem dX11_now_4 : decode cX11_now 4 = .ok (.getfield 125, 3) := by decide +kernel
theorem dX11_now_7 : decode cX11_now 7 = .ok (.ifCond .eq 14, 3) := by decide +kernel
theorem dX11_now_10 : decode cX11_now 10 = .ok (.aload_n 0, 1) := by decide +kernel
theorem dX11_now_11 : decode cX11_now 11 = .ok (.getfield 65, 3) := by decide +kernel
theorem dX11_now_14 : decode cX11_now 14 = .ok (.iload_n 1, 1) := by decide +kernel
theorem dX11_now_15 : decode cX11_now 15 = .ok (.invokevirtual 209, 3) := by decide +kernel
theorem dX11_now_18 : decode cX11_now 18 = .ok (.goto 4, 3) := by decide +kernel
theorem dX11_now_21 : decode cX11_now 21 = .ok (.iconst (-1), 1) := by decide +kernel
theorem dX11_now_22 : decode cX11_now 22 = .ok (.ireturn, 1) := by decide +kernel
theorem dX11_event_0 : decode cX11_event 0 = .ok (.aload_n 0, 1) := by decide +kernel
theorem dX11_event_1 : decode cX11_event 1 = .ok (.getfield 65, 3) := by decide +kernel
theorem dX11_event_4 : decode cX11_event 4 = .ok (.iload_n 1, 1) := by decide +kernel
theorem dX11_event_5 : decode cX11_event 5 = .ok (.invokevirtual 210, 3) := by decide +kernel
theorem dX11_event_8 : decode cX11_event 8 = .ok (.astore_n 3, 1) := by decide +kernel
theorem dX11_event_9 : decode cX11_event 9 = .ok (.aload_n 3, 1) := by decide +kernel
theorem dX11_event_10 : decode cX11_event 10 = .ok (.ifnull 12, 3) := by decide +kernel
theorem dX11_event_13 : decode cX11_event 13 = .ok (.iload_n 2, 1) := by decide +kernel
theorem dX11_event_14 : decode cX11_event 14 = .ok (.ifCond .lt 8, 3) := by decide +kernel
theorem dX11_event_17 : decode cX11_event 17 = .ok (.iload_n 2, 1) := by decide +kernel
theorem dX11_event_18 : decode cX11_event 18 = .ok (.iconst 5, 1) := by decide +kernel
theorem dX11_event_19 : decode cX11_event 19 = .ok (.if_icmp .le 13, 3) := by decide +kernel
theorem dX11_event_22 : decode cX11_event 22 = .ok (.new 132, 3) := by decide +kernel
theorem dX11_event_25 : decode cX11_event 25 = .ok (.dup, 1) := by decide +kernel
theorem dX11_event_26 : decode cX11_event 26 = .ok (.ldc 214, 2) := by decide +kernel
theorem dX11_event_28 : decode cX11_event 28 = .ok (.invokespecial 136, 3) := by decide +kernel
theorem dX11_event_31 : decode cX11_event 31 = .ok (.athrow, 1) := by decide +kernel
theorem dX11_event_32 : decode cX11_event 32 = .ok (.aload_n 3, 1) := by decide +kernel
theorem dX11_event_33 : decode cX11_event 33 = .ok (.iload_n 2, 1) := by decide +kernel
theorem dX11_event_34 : decode cX11_event 34 = .ok (.invokevirtual 216, 3) := by decide +kernel
theorem dX11_event_37 : decode cX11_event 37 = .ok (.ireturn, 1) := by decide +kernel
theorem dX11_finish_0 : decode cX11_finish 0 = .ok (.aload_n 0, 1) := by decide +kernel
theorem dX11_finish_1 : decode cX11_finish 1 = .ok (.getfield 65, 3) := by decide +kernel
theorem dX11_finish_4 : decode cX11_finish 4 = .ok (.getfield 125, 3) := by decide +kernel
theorem dX11_finish_7 : decode cX11_finish 7 = .ok (.ifCond .eq 13, 3) := by decide +kernel
theorem dX11_finish_10 : decode cX11_finish 10 = .ok (.aload_n 0, 1) := by decide +kernel
theorem dX11_finish_11 : decode cX11_finish 11 = .ok (.getfield 65, 3) := by decide +kernel
theorem dX11_finish_14 : decode cX11_finish 14 = .ok (.invokevirtual 219, 3) := by decide +kernel
theorem dX11_finish_17 : decode cX11_finish 17 = .ok (.ifCond .ne 5, 3) := by decide +kernel
theorem dX11_finish_20 : decode cX11_finish 20 = .ok (.iconst 0, 1) := by decide +kernel
theorem dX11_finish_21 : decode cX11_finish 21 = .ok (.ireturn, 1) := by decide +kernel
theorem dX11_finish_22 : decode cX11_finish 22 = .ok (.aload_n 0, 1) := by decide +kernel
theorem dX11_finish_23 : decode cX11_finish 23 = .ok (.getfield 72, 3) := by decide +kernel
theorem dX11_finish_26 : decode cX11_finish 26 = .ok (.aload_n 0, 1) := by decide +kernel
theorem dX11_finish_27 : decode cX11_finish 27 = .ok (.getfield 56, 3) := by decide +kernel
theorem dX11_finish_30 : decode cX11_finish 30 = .ok (.getfield 222, 3) := by decide +kernel
theorem dX11_finish_33 : decode cX11_finish 33 = .ok (.aload_n 0, 1) := by decide +kernel
theorem dX11_finish_34 : decode cX11_finish 34 = .ok (.getfield 56, 3) := by decide +kernel
theorem dX11_finish_37 : decode cX11_finish 37 = .ok (.getfield 225, 3) := by decide +kernel
theorem dX11_finish_40 : decode cX11_finish 40 = .ok (.aload_n 0, 1) := by decide +kernel
theorem dX11_finish_41 : decode cX11_finish 41 = .ok (.getfield 65, 3) := by decide +kernel
theorem dX11_finish_44 : decode cX11_finish 44 = .ok (.iconst 0, 1) := by decide +kernel
theorem dX11_finish_45 : decode cX11_finish 45 = .ok (.invokevirtual 228, 3) := by decide +kernel
theorem dX11_finish_48 : decode cX11_finish 48 = .ok (.aload_n 0, 1) := by decide +kernel
theorem dX11_finish_49 : decode cX11_finish 49 = .ok (.getfield 65, 3) := by decide +kernel
theorem dX11_finish_52 : decode cX11_finish 52 = .ok (.iconst 1, 1) := by decide +kernel
theorem dX11_finish_53 : decode cX11_finish 53 = .ok (.invokevirtual 228, 3) := by decide +kernel
theorem dX11_finish_56 : decode cX11_finish 56 = .ok (.invokevirtual 231, 3) := by decide +kernel
theorem dX11_finish_59 : decode cX11_finish 59 = .ok (.iconst 0, 1) := by decide +kernel
theorem dX11_finish_60 : decode cX11_finish 60 = .ok (.istore_n 1, 1) := by decide +kernel
theorem dX11_finish_61 : decode cX11_finish 61 = .ok (.iload_n 1, 1) := by decide +kernel
theorem dX11_finish_62 : decode cX11_finish 62 = .ok (.aload_n 0, 1) := by decide +kernel
theorem dX11_finish_63 : decode cX11_finish 63 = .ok (.getfield 56, 3) := by decide +kernel
theorem dX11_finish_66 : decode cX11_finish 66 = .ok (.getfield 183, 3) := by decide +kernel
theorem dX11_finish_69 : decode cX11_finish 69 = .ok (.if_icmp .ge 52, 3) := by decide +kernel
theorem dX11_finish_72 : decode cX11_finish 72 = .ok (.aload_n 0, 1) := by decide +kernel
theorem dX11_finish_73 : decode cX11_finish 73 = .ok (.aload_n 0, 1) := by decide +kernel
theorem dX11_finish_74 : decode cX11_finish 74 = .ok (.getfield 56, 3) := by decide +kernel
theorem dX11_finish_77 : decode cX11_finish 77 = .ok (.iload_n 1, 1) := by decide +kernel
theorem dX11_finish_78 : decode cX11_finish 78 = .ok (.invokevirtual 180, 3) := by decide +kernel
theorem dX11_finish_81 : decode cX11_finish 81 = .ok (.invokevirtual 113, 3) := by decide +kernel
theorem dX11_finish_84 : decode cX11_finish 84 = .ok (.astore_n 2, 1) := by decide +kernel
theorem dX11_finish_85 : decode cX11_finish 85 = .ok (.aload_n 2, 1) := by decide +kernel
theorem dX11_finish_86 : decode cX11_finish 86 = .ok (.ifnull 29, 3) := by decide +kernel
theorem dX11_finish_89 : decode cX11_finish 89 = .ok (.aload_n 2, 1) := by decide +kernel
theorem dX11_finish_90 : decode cX11_finish 90 = .ok (.aload_n 0, 1) := by decide +kernel
theorem dX11_finish_91 : decode cX11_finish 91 = .ok (.getfield 65, 3) := by decide +kernel
theorem dX11_finish_94 : decode cX11_finish 94 = .ok (.iload_n 1, 1) := by decide +kernel
theorem dX11_finish_95 : decode cX11_finish 95 = .ok (.invokevirtual 235, 3) := by decide +kernel
theorem dX11_finish_98 : decode cX11_finish 98 = .ok (.aload_n 0, 1) := by decide +kernel
theorem dX11_finish_99 : decode cX11_finish 99 = .ok (.getfield 56, 3) := by decide +kernel
theorem dX11_finish_102 : decode cX11_finish 102 = .ok (.getfield 222, 3) := by decide +kernel
theorem dX11_finish_105 : decode cX11_finish 105 = .ok (.aload_n 0, 1) := by decide +kernel
theorem dX11_finish_106 : decode cX11_finish 106 = .ok (.getfield 56, 3) := by decide +kernel
theorem dX11_finish_109 : decode cX11_finish 109 = .ok (.getfield 225, 3) := by decide +kernel
theorem dX11_finish_112 : decode cX11_finish 112 = .ok (.invokevirtual 238, 3) := by decide +kernel
theorem dX11_finish_115 : decode cX11_finish 115 = .ok (.iinc 1 1, 3) := by decide +kernel
theorem dX11_finish_118 : decode cX11_finish 118 = .ok (.goto (-57), 3) := by decide +kernel
theorem dX11_finish_121 : decode cX11_finish 121 = .ok (.aload_n 0, 1) := by decide +kernel
theorem dX11_finish_122 : decode cX11_finish 122 = .ok (.getfield 65, 3) := by decide +kernel
theorem dX11_finish_125 : decode cX11_finish 125 = .ok (.invokevirtual 242, 3) := by decide +kernel
theorem dX11_finish_128 : decode cX11_finish 128 = .ok (.iconst 1, 1) := by decide +kernel
theorem dX11_finish_129 : decode cX11_finish 129 = .ok (.ireturn, 1) := by decide +kernel
theorem dX11_call_0 : decode cX11_call 0 = .ok (.aload_n 0, 1) := by decide +kernel
theorem dX11_call_1 : decode cX11_call 1 = .ok (.getfield 65, 3) := by decide +kernel
theorem dX11_call_4 : decode cX11_call 4 = .ok (.getfield 125, 3) := by decide +kernel
theorem dX11_call_7 : decode cX11_call 7 = .ok (.istore_n 1, 1) := by decide +kernel
theorem dX11_call_8 : decode cX11_call 8 = .ok (.aload_n 0, 1) := by decide +kernel
theorem dX11_call_9 : decode cX11_call 9 = .ok (.getfield 65, 3) := by decide +kernel
theorem dX11_call_12 : decode cX11_call 12 = .ok (.invokevirtual 242, 3) := by decide +kernel
theorem dX11_call_15 : decode cX11_call 15 = .ok (.iload_n 1, 1) := by decide +kernel
theorem dX11_call_16 : decode cX11_call 16 = .ok (.ireturn, 1) := by decide +kernel
theorem dX11_table_0 : decode cX11_table 0 = .ok (.aload_n 0, 1) := by decide +kernel
theorem dX11_table_1 : decode cX11_table 1 = .ok (.getfield 72, 3) := by decide +kernel
theorem dX11_table_4 : decode cX11_table 4 = .ok (.iload_n 1, 1) := by decide +kernel
theorem dX11_table_5 : decode cX11_table 5 = .ok (.invokevirtual 245, 3) := by decide +kernel
theorem dX11_table_8 : decode cX11_table 8 = .ok (.istore_n 3, 1) := by decide +kernel
theorem dX11_table_9 : decode cX11_table 9 = .ok (.iload_n 3, 1) := by decide +kernel
theorem dX11_table_10 : decode cX11_table 10 = .ok (.invokestatic 143, 3) := by decide +kernel
theorem dX11_table_13 : decode cX11_table 13 = .ok (.ifCond .eq 15, 3) := by decide +kernel
theorem dX11_table_16 : decode cX11_table 16 = .ok (.aload_n 0, 1) := by decide +kernel
theorem dX11_table_17 : decode cX11_table 17 = .ok (.getfield 72, 3) := by decide +kernel
theorem dX11_table_20 : decode cX11_table 20 = .ok (.iload_n 3, 1) := by decide +kernel
theorem dX11_table_21 : decode cX11_table 21 = .ok (.iload_n 2, 1) := by decide +kernel
theorem dX11_table_22 : decode cX11_table 22 = .ok (.invokevirtual 248, 3) := by decide +kernel
theorem dX11_table_25 : decode cX11_table 25 = .ok (.goto 4, 3) := by decide +kernel
theorem dX11_table_28 : decode cX11_table 28 = .ok (.iconst (-1), 1) := by decide +kernel
theorem dX11_table_29 : decode cX11_table 29 = .ok (.ireturn, 1) := by decide +kernel
theorem dX11_count_0 : decode cX11_count 0 = .ok (.iload_n 1, 1) := by decide +kernel
theorem dX11_count_1 : decode cX11_count 1 = .ok (.tableswitch 96 0 6 #[43, 48, 56, 64, 72, 80, 88], 43) := by decide +kernel
theorem dX11_count_44 : decode cX11_count 44 = .ok (.aload_n 0, 1) := by decide +kernel
theorem dX11_count_45 : decode cX11_count 45 = .ok (.getfield 36, 3) := by decide +kernel
theorem dX11_count_48 : decode cX11_count 48 = .ok (.ireturn, 1) := by decide +kernel
theorem dX11_count_49 : decode cX11_count 49 = .ok (.aload_n 0, 1) := by decide +kernel
theorem dX11_count_50 : decode cX11_count 50 = .ok (.getfield 43, 3) := by decide +kernel
theorem dX11_count_53 : decode cX11_count 53 = .ok (.getfield 152, 3) := by decide +kernel
theorem dX11_count_56 : decode cX11_count 56 = .ok (.ireturn, 1) := by decide +kernel
theorem dX11_count_57 : decode cX11_count 57 = .ok (.aload_n 0, 1) := by decide +kernel
theorem dX11_count_58 : decode cX11_count 58 = .ok (.getfield 43, 3) := by decide +kernel
theorem dX11_count_61 : decode cX11_count 61 = .ok (.getfield 250, 3) := by decide +kernel
theorem dX11_count_64 : decode cX11_count 64 = .ok (.ireturn, 1) := by decide +kernel
theorem dX11_count_65 : decode cX11_count 65 = .ok (.aload_n 0, 1) := by decide +kernel
theorem dX11_count_66 : decode cX11_count 66 = .ok (.getfield 56, 3) := by decide +kernel
theorem dX11_count_69 : decode cX11_count 69 = .ok (.getfield 183, 3) := by decide +kernel
theorem dX11_count_72 : decode cX11_count 72 = .ok (.ireturn, 1) := by decide +kernel
theorem dX11_count_73 : decode cX11_count 73 = .ok (.aload_n 0, 1) := by decide +kernel
theorem dX11_count_74 : decode cX11_count 74 = .ok (.getfield 56, 3) := by decide +kernel
theorem dX11_count_77 : decode cX11_count 77 = .ok (.getfield 253, 3) := by decide +kernel
theorem dX11_count_80 : decode cX11_count 80 = .ok (.ireturn, 1) := by decide +kernel
theorem dX11_count_81 : decode cX11_count 81 = .ok (.aload_n 0, 1) := by decide +kernel
theorem dX11_count_82 : decode cX11_count 82 = .ok (.getfield 72, 3) := by decide +kernel
theorem dX11_count_85 : decode cX11_count 85 = .ok (.getfield 256, 3) := by decide +kernel
theorem dX11_count_88 : decode cX11_count 88 = .ok (.ireturn, 1) := by decide +kernel
theorem dX11_count_89 : decode cX11_count 89 = .ok (.aload_n 0, 1) := by decide +kernel
theorem dX11_count_90 : decode cX11_count 90 = .ok (.getfield 10, 3) := by decide +kernel
theorem dX11_count_93 : decode cX11_count 93 = .ok (.getfield 84, 3) := by decide +kernel
theorem dX11_count_96 : decode cX11_count 96 = .ok (.ireturn, 1) := by decide +kernel
theorem dX11_count_97 : decode cX11_count 97 = .ok (.iconst (-1), 1) := by decide +kernel
theorem dX11_count_98 : decode cX11_count 98 = .ok (.ireturn, 1) := by decide +kernel
theorem dX11_questionAt_0 : decode cX11_questionAt 0 = .ok (.iload_n 1, 1) := by decide +kernel
theorem dX11_questionAt_1 : decode cX11_questionAt 1 = .ok (.ifCond .lt 29, 3) := by decide +kernel
theorem dX11_questionAt_4 : decode cX11_questionAt 4 = .ok (.iload_n 1, 1) := by decide +kernel
theorem dX11_questionAt_5 : decode cX11_questionAt 5 = .ok (.aload_n 0, 1) := by decide +kernel
theorem dX11_questionAt_6 : decode cX11_questionAt 6 = .ok (.getfield 36, 3) := by decide +kernel
theorem dX11_questionAt_9 : decode cX11_questionAt 9 = .ok (.if_icmp .ge 21, 3) := by decide +kernel
theorem dX11_questionAt_12 : decode cX11_questionAt 12 = .ok (.iload_n 1, 1) := by decide +kernel
theorem dX11_questionAt_13 : decode cX11_questionAt 13 = .ok (.aload_n 0, 1) := by decide +kernel
theorem dX11_questionAt_14 : decode cX11_questionAt 14 = .ok (.getfield 32, 3) := by decide +kernel
theorem dX11_questionAt_17 : decode cX11_questionAt 17 = .ok (.arraylength, 1) := by decide +kernel
theorem dX11_questionAt_18 : decode cX11_questionAt 18 = .ok (.if_icmp .ge 12, 3) := by decide +kernel
theorem dX11_questionAt_21 : decode cX11_questionAt 21 = .ok (.aload_n 0, 1) := by decide +kernel
theorem dX11_questionAt_22 : decode cX11_questionAt 22 = .ok (.getfield 32, 3) := by decide +kernel
theorem dX11_questionAt_25 : decode cX11_questionAt 25 = .ok (.iload_n 1, 1) := by decide +kernel
theorem dX11_questionAt_26 : decode cX11_questionAt 26 = .ok (.aaload, 1) := by decide +kernel
theorem dX11_questionAt_27 : decode cX11_questionAt 27 = .ok (.goto 4, 3) := by decide +kernel
theorem dX11_questionAt_30 : decode cX11_questionAt 30 = .ok (.aconst_null, 1) := by decide +kernel
theorem dX11_questionAt_31 : decode cX11_questionAt 31 = .ok (.areturn, 1) := by decide +kernel
theorem dX11_isPackSpoilt_0 : decode cX11_isPackSpoilt 0 = .ok (.iconst 0, 1) := by decide +kernel
theorem dX11_isPackSpoilt_1 : decode cX11_isPackSpoilt 1 = .ok (.istore_n 1, 1) := by decide +kernel
theorem dX11_isPackSpoilt_2 : decode cX11_isPackSpoilt 2 = .ok (.iload_n 1, 1) := by decide +kernel
theorem dX11_isPackSpoilt_3 : decode cX11_isPackSpoilt 3 = .ok (.aload_n 0, 1) := by decide +kernel
theorem dX11_isPackSpoilt_4 : decode cX11_isPackSpoilt 4 = .ok (.getfield 56, 3) := by decide +kernel
theorem dX11_isPackSpoilt_7 : decode cX11_isPackSpoilt 7 = .ok (.getfield 183, 3) := by decide +kernel
theorem dX11_isPackSpoilt_10 : decode cX11_isPackSpoilt 10 = .ok (.if_icmp .ge 49, 3) := by decide +kernel
theorem dX11_isPackSpoilt_13 : decode cX11_isPackSpoilt 13 = .ok (.aload_n 0, 1) := by decide +kernel
theorem dX11_isPackSpoilt_14 : decode cX11_isPackSpoilt 14 = .ok (.aload_n 0, 1) := by decide +kernel
theorem dX11_isPackSpoilt_15 : decode cX11_isPackSpoilt 15 = .ok (.getfield 56, 3) := by decide +kernel
theorem dX11_isPackSpoilt_18 : decode cX11_isPackSpoilt 18 = .ok (.iload_n 1, 1) := by decide +kernel
theorem dX11_isPackSpoilt_19 : decode cX11_isPackSpoilt 19 = .ok (.invokevirtual 180, 3) := by decide +kernel
theorem dX11_isPackSpoilt_22 : decode cX11_isPackSpoilt 22 = .ok (.invokevirtual 113, 3) := by decide +kernel
theorem dX11_isPackSpoilt_25 : decode cX11_isPackSpoilt 25 = .ok (.astore_n 2, 1) := by decide +kernel
theorem dX11_isPackSpoilt_26 : decode cX11_isPackSpoilt 26 = .ok (.aload_n 2, 1) := by decide +kernel
theorem dX11_isPackSpoilt_27 : decode cX11_isPackSpoilt 27 = .ok (.ifnull 24, 3) := by decide +kernel
theorem dX11_isPackSpoilt_30 : decode cX11_isPackSpoilt 30 = .ok (.aload_n 2, 1) := by decide +kernel
theorem dX11_isPackSpoilt_31 : decode cX11_isPackSpoilt 31 = .ok (.aload_n 0, 1) := by decide +kernel
theorem dX11_isPackSpoilt_32 : decode cX11_isPackSpoilt 32 = .ok (.getfield 56, 3) := by decide +kernel
theorem dX11_isPackSpoilt_35 : decode cX11_isPackSpoilt 35 = .ok (.getfield 222, 3) := by decide +kernel
theorem dX11_isPackSpoilt_38 : decode cX11_isPackSpoilt 38 = .ok (.aload_n 0, 1) := by decide +kernel
theorem dX11_isPackSpoilt_39 : decode cX11_isPackSpoilt 39 = .ok (.getfield 56, 3) := by decide +kernel
theorem dX11_isPackSpoilt_42 : decode cX11_isPackSpoilt 42 = .ok (.getfield 225, 3) := by decide +kernel
theorem dX11_isPackSpoilt_45 : decode cX11_isPackSpoilt 45 = .ok (.invokevirtual 259, 3) := by decide +kernel
theorem dX11_isPackSpoilt_48 : decode cX11_isPackSpoilt 48 = .ok (.ifCond .ne 5, 3) := by decide +kernel
theorem dX11_isPackSpoilt_51 : decode cX11_isPackSpoilt 51 = .ok (.iconst 1, 1) := by decide +kernel
theorem dX11_isPackSpoilt_52 : decode cX11_isPackSpoilt 52 = .ok (.ireturn, 1) := by decide +kernel
theorem dX11_isPackSpoilt_53 : decode cX11_isPackSpoilt 53 = .ok (.iinc 1 1, 3) := by decide +kernel
theorem dX11_isPackSpoilt_56 : decode cX11_isPackSpoilt 56 = .ok (.goto (-54), 3) := by decide +kernel
theorem dX11_isPackSpoilt_59 : decode cX11_isPackSpoilt 59 = .ok (.iconst 0, 1) := by decide +kernel
theorem dX11_isPackSpoilt_60 : decode cX11_isPackSpoilt 60 = .ok (.ireturn, 1) := by decide +kernel
theorem dX11_isTeam_0 : decode cX11_isTeam 0 = .ok (.iload_n 0, 1) := by decide +kernel
theorem dX11_isTeam_1 : decode cX11_isTeam 1 = .ok (.ifCond .lt 13, 3) := by decide +kernel
theorem dX11_isTeam_4 : decode cX11_isTeam 4 = .ok (.iload_n 0, 1) := by decide +kernel
theorem dX11_isTeam_5 : decode cX11_isTeam 5 = .ok (.bipush 12, 2) := by decide +kernel
theorem dX11_isTeam_7 : decode cX11_isTeam 7 = .ok (.if_icmp .ge 7, 3) := by decide +kernel
theorem dX11_isTeam_10 : decode cX11_isTeam 10 = .ok (.iconst 1, 1) := by decide +kernel
theorem dX11_isTeam_11 : decode cX11_isTeam 11 = .ok (.goto 4, 3) := by decide +kernel
theorem dX11_isTeam_14 : decode cX11_isTeam 14 = .ok (.iconst 0, 1) := by decide +kernel
theorem dX11_isTeam_15 : decode cX11_isTeam 15 = .ok (.ireturn, 1) := by decide +kernel
theorem dX12_init_0 : decode cX12_init 0 = .ok (.aload_n 0, 1) := by decide +kernel
theorem dX12_init_1 : decode cX12_init 1 = .ok (.invokespecial 1, 3) := by decide +kernel
theorem dX12_init_4 : decode cX12_init 4 = .ok (.aload_n 0, 1) := by decide +kernel
theorem dX12_init_5 : decode cX12_init 5 = .ok (.sipush 260, 3) := by decide +kernel
theorem dX12_init_8 : decode cX12_init 8 = .ok (.newarray .int, 2) := by decide +kernel
theorem dX12_init_10 : decode cX12_init 10 = .ok (.putfield 7, 3) := by decide +kernel
theorem dX12_init_13 : decode cX12_init 13 = .ok (.aload_n 0, 1) := by decide +kernel
theorem dX12_init_14 : decode cX12_init 14 = .ok (.sipush 25200, 3) := by decide +kernel
theorem dX12_init_17 : decode cX12_init 17 = .ok (.newarray .int, 2) := by decide +kernel
theorem dX12_init_19 : decode cX12_init 19 = .ok (.putfield 13, 3) := by decide +kernel
theorem dX12_init_22 : decode cX12_init 22 = .ok (.aload_n 0, 1) := by decide +kernel
theorem dX12_init_23 : decode cX12_init 23 = .ok (.sipush 25200, 3) := by decide +kernel
theorem dX12_init_26 : decode cX12_init 26 = .ok (.newarray .int, 2) := by decide +kernel
theorem dX12_init_28 : decode cX12_init 28 = .ok (.putfield 16, 3) := by decide +kernel
theorem dX12_init_31 : decode cX12_init 31 = .ok (.aload_n 0, 1) := by decide +kernel
theorem dX12_init_32 : decode cX12_init 32 = .ok (.sipush 25200, 3) := by decide +kernel
theorem dX12_init_35 : decode cX12_init 35 = .ok (.newarray .int, 2) := by decide +kernel
theorem dX12_init_37 : decode cX12_init 37 = .ok (.putfield 19, 3) := by decide +kernel
theorem dX12_init_40 : decode cX12_init 40 = .ok (.aload_n 0, 1) := by decide +kernel
theorem dX12_init_41 : decode cX12_init 41 = .ok (.sipush 25200, 3) := by decide +kernel
theorem dX12_init_44 : decode cX12_init 44 = .ok (.newarray .long, 2) := by decide +kernel
theorem dX12_init_46 : decode cX12_init 46 = .ok (.putfield 22, 3) := by decide +kernel
theorem dX12_init_49 : decode cX12_init 49 = .ok (.aload_n 0, 1) := by decide +kernel
theorem dX12_init_50 : decode cX12_init 50 = .ok (.sipush 25200, 3) := by decide +kernel
theorem dX12_init_53 : decode cX12_init 53 = .ok (.newarray .long, 2) := by decide +kernel
theorem dX12_init_55 : decode cX12_init 55 = .ok (.putfield 26, 3) := by decide +kernel
theorem dX12_init_58 : decode cX12_init 58 = .ok (.aload_n 0, 1) := by decide +kernel
theorem dX12_init_59 : decode cX12_init 59 = .ok (.bipush 60, 2) := by decide +kernel
theorem dX12_init_61 : decode cX12_init 61 = .ok (.newarray .int, 2) := by decide +kernel
theorem dX12_init_63 : decode cX12_init 63 = .ok (.putfield 29, 3) := by decide +kernel
theorem dX12_init_66 : decode cX12_init 66 = .ok (.aload_n 0, 1) := by decide +kernel
theorem dX12_init_67 : decode cX12_init 67 = .ok (.bipush 60, 2) := by decide +kernel
theorem dX12_init_69 : decode cX12_init 69 = .ok (.newarray .int, 2) := by decide +kernel
theorem dX12_init_71 : decode cX12_init 71 = .ok (.putfield 32, 3) := by decide +kernel
theorem dX12_init_74 : decode cX12_init 74 = .ok (.aload_n 0, 1) := by decide +kernel
theorem dX12_init_75 : decode cX12_init 75 = .ok (.bipush 60, 2) := by decide +kernel
theorem dX12_init_77 : decode cX12_init 77 = .ok (.newarray .int, 2) := by decide +kernel
theorem dX12_init_79 : decode cX12_init 79 = .ok (.putfield 35, 3) := by decide +kernel
theorem dX12_init_82 : decode cX12_init 82 = .ok (.aload_n 0, 1) := by decide +kernel
theorem dX12_init_83 : decode cX12_init 83 = .ok (.bipush 60, 2) := by decide +kernel
theorem dX12_init_85 : decode cX12_init 85 = .ok (.newarray .int, 2) := by decide +kernel
theorem dX12_init_87 : decode cX12_init 87 = .ok (.putfield 38, 3) := by decide +kernel
theorem dX12_init_90 : decode cX12_init 90 = .ok (.aload_n 0, 1) := by decide +kernel
theorem dX12_init_91 : decode cX12_init 91 = .ok (.bipush 60, 2) := by decide +kernel
theorem dX12_init_93 : decode cX12_init 93 = .ok (.newarray .boolean, 2) := by decide +kernel
theorem dX12_init_95 : decode cX12_init 95 = .ok (.putfield 41, 3) := by decide +kernel
theorem dX12_init_98 : decode cX12_init 98 = .ok (.aload_n 0, 1) := by decide +kernel
theorem dX12_init_99 : decode cX12_init 99 = .ok (.bipush 20, 2) := by decide +kernel
theorem dX12_init_101 : decode cX12_init 101 = .ok (.newarray .boolean, 2) := by decide +kernel
theorem dX12_init_103 : decode cX12_init 103 = .ok (.putfield 45, 3) := by decide +kernel
theorem dX12_init_106 : decode cX12_init 106 = .ok (.aload_n 0, 1) := by decide +kernel
theorem dX12_init_107 : decode cX12_init 107 = .ok (.bipush 20, 2) := by decide +kernel
theorem dX12_init_109 : decode cX12_init 109 = .ok (.newarray .long, 2) := by decide +kernel
theorem dX12_init_111 : decode cX12_init 111 = .ok (.putfield 48, 3) := by decide +kernel
theorem dX12_init_114 : decode cX12_init 114 = .ok (.aload_n 0, 1) := by decide +kernel
theorem dX12_init_115 : decode cX12_init 115 = .ok (.sipush 256, 3) := by decide +kernel
theorem dX12_init_118 : decode cX12_init 118 = .ok (.newarray .int, 2) := by decide +kernel
theorem dX12_init_120 : decode cX12_init 120 = .ok (.putfield 51, 3) := by decide +kernel
theorem dX12_init_123 : decode cX12_init 123 = .ok (.aload_n 0, 1) := by decide +kernel
theorem dX12_init_124 : decode cX12_init 124 = .ok (.bipush 6, 2) := by decide +kernel
theorem dX12_init_126 : decode cX12_init 126 = .ok (.newarray .int, 2) := by decide +kernel
theorem dX12_init_128 : decode cX12_init 128 = .ok (.putfield 54, 3) := by decide +kernel
theorem dX12_init_131 : decode cX12_init 131 = .ok (.aload_n 0, 1) := by decide +kernel
theorem dX12_init_132 : decode cX12_init 132 = .ok (.bipush 6, 2) := by decide +kernel
theorem dX12_init_134 : decode cX12_init 134 = .ok (.newarray .int, 2) := by decide +kernel
theorem dX12_init_136 : decode cX12_init 136 = .ok (.putfield 57, 3) := by decide +kernel
theorem dX12_init_139 : decode cX12_init 139 = .ok (.aload_n 0, 1) := by decide +kernel
theorem dX12_init_140 : decode cX12_init 140 = .ok (.bipush 6, 2) := by decide +kernel
theorem dX12_init_142 : decode cX12_init 142 = .ok (.newarray .int, 2) := by decide +kernel
theorem dX12_init_144 : decode cX12_init 144 = .ok (.putfield 60, 3) := by decide +kernel
theorem dX12_init_147 : decode cX12_init 147 = .ok (.aload_n 0, 1) := by decide +kernel
theorem dX12_init_148 : decode cX12_init 148 = .ok (.bipush 6, 2) := by decide +kernel
theorem dX12_init_150 : decode cX12_init 150 = .ok (.newarray .int, 2) := by decide +kernel
theorem dX12_init_152 : decode cX12_init 152 = .ok (.putfield 63, 3) := by decide +kernel
theorem dX12_init_155 : decode cX12_init 155 = .ok (.aload_n 0, 1) := by decide +kernel
theorem dX12_init_156 : decode cX12_init 156 = .ok (.bipush 6, 2) := by decide +kernel
theorem dX12_init_158 : decode cX12_init 158 = .ok (.newarray .boolean, 2) := by decide +kernel
theorem dX12_init_160 : decode cX12_init 160 = .ok (.putfield 66, 3) := by decide +kernel
theorem dX12_init_163 : decode cX12_init 163 = .ok (.aload_n 0, 1) := by decide +kernel
theorem dX12_init_164 : decode cX12_init 164 = .ok (.bipush 6, 2) := by decide +kernel
theorem dX12_init_166 : decode cX12_init 166 = .ok (.newarray .int, 2) := by decide +kernel
theorem dX12_init_168 : decode cX12_init 168 = .ok (.putfield 69, 3) := by decide +kernel
theorem dX12_init_171 : decode cX12_init 171 = .ok (.aload_n 0, 1) := by decide +kernel
theorem dX12_init_172 : decode cX12_init 172 = .ok (.bipush 6, 2) := by decide +kernel
theorem dX12_init_174 : decode cX12_init 174 = .ok (.newarray .int, 2) := by decide +kernel
theorem dX12_init_176 : decode cX12_init 176 = .ok (.putfield 72, 3) := by decide +kernel
theorem dX12_init_179 : decode cX12_init 179 = .ok (.aload_n 0, 1) := by decide +kernel
theorem dX12_init_180 : decode cX12_init 180 = .ok (.bipush 6, 2) := by decide +kernel
theorem dX12_init_182 : decode cX12_init 182 = .ok (.newarray .int, 2) := by decide +kernel
theorem dX12_init_184 : decode cX12_init 184 = .ok (.putfield 75, 3) := by decide +kernel
theorem dX12_init_187 : decode cX12_init 187 = .ok (.aload_n 0, 1) := by decide +kernel
theorem dX12_init_188 : decode cX12_init 188 = .ok (.bipush 6, 2) := by decide +kernel
theorem dX12_init_190 : decode cX12_init 190 = .ok (.newarray .int, 2) := by decide +kernel
theorem dX12_init_192 : decode cX12_init 192 = .ok (.putfield 78, 3) := by decide +kernel
theorem dX12_init_195 : decode cX12_init 195 = .ok (.aload_n 0, 1) := by decide +kernel
theorem dX12_init_196 : decode cX12_init 196 = .ok (.bipush 6, 2) := by decide +kernel
theorem dX12_init_198 : decode cX12_init 198 = .ok (.newarray .boolean, 2) := by decide +kernel
theorem dX12_init_200 : decode cX12_init 200 = .ok (.putfield 81, 3) := by decide +kernel
theorem dX12_init_203 : decode cX12_init 203 = .ok (.aload_n 0, 1) := by decide +kernel
theorem dX12_init_204 : decode cX12_init 204 = .ok (.bipush 48, 2) := by decide +kernel
theorem dX12_init_206 : decode cX12_init 206 = .ok (.newarray .int, 2) := by decide +kernel
theorem dX12_init_208 : decode cX12_init 208 = .ok (.putfield 84, 3) := by decide +kernel
theorem dX12_init_211 : decode cX12_init 211 = .ok (.aload_n 0, 1) := by decide +kernel
theorem dX12_init_212 : decode cX12_init 212 = .ok (.bipush 49, 2) := by decide +kernel
theorem dX12_init_214 : decode cX12_init 214 = .ok (.newarray .int, 2) := by decide +kernel
theorem dX12_init_216 : decode cX12_init 216 = .ok (.putfield 87, 3) := by decide +kernel
theorem dX12_init_219 : decode cX12_init 219 = .ok (.aload_n 0, 1) := by decide +kernel
theorem dX12_init_220 : decode cX12_init 220 = .ok (.bipush 8, 2) := by decide +kernel
theorem dX12_init_222 : decode cX12_init 222 = .ok (.newarray .int, 2) := by decide +kernel
theorem dX12_init_224 : decode cX12_init 224 = .ok (.putfield 90, 3) := by decide +kernel
theorem dX12_init_227 : decode cX12_init 227 = .ok (.aload_n 0, 1) := by decide +kernel
theorem dX12_init_228 : decode cX12_init 228 = .ok (.bipush 120, 2) := by decide +kernel
theorem dX12_init_230 : decode cX12_init 230 = .ok (.newarray .int, 2) := by decide +kernel
theorem dX12_init_232 : decode cX12_init 232 = .ok (.putfield 93, 3) := by decide +kernel
theorem dX12_init_235 : decode cX12_init 235 = .ok (.aload_n 0, 1) := by decide +kernel
theorem dX12_init_236 : decode cX12_init 236 = .ok (.bipush 120, 2) := by decide +kernel
theorem dX12_init_238 : decode cX12_init 238 = .ok (.newarray .int, 2) := by decide +kernel
theorem dX12_init_240 : decode cX12_init 240 = .ok (.putfield 96, 3) := by decide +kernel
theorem dX12_init_243 : decode cX12_init 243 = .ok (.aload_n 0, 1) := by decide +kernel
theorem dX12_init_244 : decode cX12_init 244 = .ok (.bipush 120, 2) := by decide +kernel
theorem dX12_init_246 : decode cX12_init 246 = .ok (.newarray .int, 2) := by decide +kernel
theorem dX12_init_248 : decode cX12_init 248 = .ok (.putfield 99, 3) := by decide +kernel
theorem dX12_init_251 : decode cX12_init 251 = .ok (.aload_n 0, 1) := by decide +kernel
theorem dX12_init_252 : decode cX12_init 252 = .ok (.bipush 120, 2) := by decide +kernel
theorem dX12_init_254 : decode cX12_init 254 = .ok (.newarray .int, 2) := by decide +kernel
theorem dX12_init_256 : decode cX12_init 256 = .ok (.putfield 102, 3) := by decide +kernel
theorem dX12_init_259 : decode cX12_init 259 = .ok (.aload_n 0, 1) := by decide +kernel
theorem dX12_init_260 : decode cX12_init 260 = .ok (.bipush 120, 2) := by decide +kernel
theorem dX12_init_262 : decode cX12_init 262 = .ok (.newarray .boolean, 2) := by decide +kernel
theorem dX12_init_264 : decode cX12_init 264 = .ok (.putfield 105, 3) := by decide +kernel
theorem dX12_init_267 : decode cX12_init 267 = .ok (.aload_n 0, 1) := by decide +kernel
theorem dX12_init_268 : decode cX12_init 268 = .ok (.bipush 120, 2) := by decide +kernel
theorem dX12_init_270 : decode cX12_init 270 = .ok (.newarray .boolean, 2) := by decide +kernel
theorem dX12_init_272 : decode cX12_init 272 = .ok (.putfield 108, 3) := by decide +kernel
theorem dX12_init_275 : decode cX12_init 275 = .ok (.aload_n 0, 1) := by decide +kernel
theorem dX12_init_276 : decode cX12_init 276 = .ok (.bipush 12, 2) := by decide +kernel
theorem dX12_init_278 : decode cX12_init 278 = .ok (.newarray .int, 2) := by decide +kernel
theorem dX12_init_280 : decode cX12_init 280 = .ok (.putfield 111, 3) := by decide +kernel
theorem dX12_init_283 : decode cX12_init 283 = .ok (.aload_n 0, 1) := by decide +kernel
theorem dX12_init_284 : decode cX12_init 284 = .ok (.bipush 12, 2) := by decide +kernel
theorem dX12_init_286 : decode cX12_init 286 = .ok (.newarray .int, 2) := by decide +kernel
theorem dX12_init_288 : decode cX12_init 288 = .ok (.putfield 114, 3) := by decide +kernel
theorem dX12_init_291 : decode cX12_init 291 = .ok (.aload_n 0, 1) := by decide +kernel
theorem dX12_init_292 : decode cX12_init 292 = .ok (.bipush 12, 2) := by decide +kernel
theorem dX12_init_294 : decode cX12_init 294 = .ok (.newarray .int, 2) := by decide +kernel
theorem dX12_init_296 : decode cX12_init 296 = .ok (.putfield 117, 3) := by decide +kernel
theorem dX12_init_299 : decode cX12_init 299 = .ok (.aload_n 0, 1) := by decide +kernel
theorem dX12_init_300 : decode cX12_init 300 = .ok (.bipush 12, 2) := by decide +kernel
theorem dX12_init_302 : decode cX12_init 302 = .ok (.newarray .int, 2) := by decide +kernel
theorem dX12_init_304 : decode cX12_init 304 = .ok (.putfield 120, 3) := by decide +kernel
theorem dX12_init_307 : decode cX12_init 307 = .ok (.return_, 1) := by decide +kernel
theorem dX12_thrown_0 : decode cX12_thrown 0 = .ok (.aload_n 0, 1) := by decide +kernel
theorem dX12_thrown_1 : decode cX12_thrown 1 = .ok (.getfield 123, 3) := by decide +kernel
theorem dX12_thrown_4 : decode cX12_thrown 4 = .ok (.ireturn, 1) := by decide +kernel
theorem dX12_come_0 : decode cX12_come 0 = .ok (.bipush 24, 2) := by decide +kernel
theorem dX12_come_2 : decode cX12_come 2 = .ok (.istore_n 2, 1) := by decide +kernel
theorem dX12_come_3 : decode cX12_come 3 = .ok (.iload_n 2, 1) := by decide +kernel
theorem dX12_come_4 : decode cX12_come 4 = .ok (.ifCond .lt 35, 3) := by decide +kernel
theorem dX12_come_7 : decode cX12_come 7 = .ok (.aload_n 0, 1) := by decide +kernel
theorem dX12_come_8 : decode cX12_come 8 = .ok (.getfield 7, 3) := by decide +kernel
theorem dX12_come_11 : decode cX12_come 11 = .ok (.aload_n 0, 1) := by decide +kernel
theorem dX12_come_12 : decode cX12_come 12 = .ok (.getfield 127, 3) := by decide +kernel
theorem dX12_come_15 : decode cX12_come 15 = .ok (.iload_n 1, 1) := by decide +kernel
theorem dX12_come_16 : decode cX12_come 16 = .ok (.iload_n 2, 1) := by decide +kernel
theorem dX12_come_17 : decode cX12_come 17 = .ok (.iushr, 1) := by decide +kernel
theorem dX12_come_18 : decode cX12_come 18 = .ok (.sipush 255, 3) := by decide +kernel
theorem dX12_come_21 : decode cX12_come 21 = .ok (.iand, 1) := by decide +kernel
theorem dX12_come_22 : decode cX12_come 22 = .ok (.iastore, 1) := by decide +kernel
theorem dX12_come_23 : decode cX12_come 23 = .ok (.aload_n 0, 1) := by decide +kernel
theorem dX12_come_24 : decode cX12_come 24 = .ok (.dup, 1) := by decide +kernel
theorem dX12_come_25 : decode cX12_come 25 = .ok (.getfield 127, 3) := by decide +kernel
theorem dX12_come_28 : decode cX12_come 28 = .ok (.iconst 1, 1) := by decide +kernel
theorem dX12_come_29 : decode cX12_come 29 = .ok (.iadd, 1) := by decide +kernel
theorem dX12_come_30 : decode cX12_come 30 = .ok (.putfield 127, 3) := by decide +kernel
theorem dX12_come_33 : decode cX12_come 33 = .ok (.iinc 2 (-8), 3) := by decide +kernel
theorem dX12_come_36 : decode cX12_come 36 = .ok (.goto (-33), 3) := by decide +kernel
theorem dX12_come_39 : decode cX12_come 39 = .ok (.return_, 1) := by decide +kernel
theorem dX12_feed_0 : decode cX12_feed 0 = .ok (.aload_n 0, 1) := by decide +kernel
theorem dX12_feed_1 : decode cX12_feed 1 = .ok (.iconst 0, 1) := by decide +kernel
theorem dX12_feed_2 : decode cX12_feed 2 = .ok (.putfield 123, 3) := by decide +kernel
theorem dX12_feed_5 : decode cX12_feed 5 = .ok (.aload_n 0, 1) := by decide +kernel
theorem dX12_feed_6 : decode cX12_feed 6 = .ok (.getfield 127, 3) := by decide +kernel
theorem dX12_feed_9 : decode cX12_feed 9 = .ok (.bipush 20, 2) := by decide +kernel
theorem dX12_feed_11 : decode cX12_feed 11 = .ok (.iadd, 1) := by decide +kernel
theorem dX12_feed_12 : decode cX12_feed 12 = .ok (.sipush 260, 3) := by decide +kernel
theorem dX12_feed_15 : decode cX12_feed 15 = .ok (.if_icmp .le 5, 3) := by decide +kernel
theorem dX12_feed_18 : decode cX12_feed 18 = .ok (.iconst (-1), 1) := by decide +kernel
theorem dX12_feed_19 : decode cX12_feed 19 = .ok (.ireturn, 1) := by decide +kernel
theorem dX12_feed_20 : decode cX12_feed 20 = .ok (.aload_n 0, 1) := by decide +kernel
theorem dX12_feed_21 : decode cX12_feed 21 = .ok (.iload_n 1, 1) := by decide +kernel
theorem dX12_feed_22 : decode cX12_feed 22 = .ok (.invokevirtual 130, 3) := by decide +kernel
theorem dX12_feed_25 : decode cX12_feed 25 = .ok (.aload_n 0, 1) := by decide +kernel
theorem dX12_feed_26 : decode cX12_feed 26 = .ok (.iload_n 2, 1) := by decide +kernel
theorem dX12_feed_27 : decode cX12_feed 27 = .ok (.invokevirtual 130, 3) := by decide +kernel
theorem dX12_feed_30 : decode cX12_feed 30 = .ok (.aload_n 0, 1) := by decide +kernel
theorem dX12_feed_31 : decode cX12_feed 31 = .ok (.iload_n 3, 1) := by decide +kernel
theorem dX12_feed_32 : decode cX12_feed 32 = .ok (.invokevirtual 130, 3) := by decide +kernel
theorem dX12_feed_35 : decode cX12_feed 35 = .ok (.aload_n 0, 1) := by decide +kernel
theorem dX12_feed_36 : decode cX12_feed 36 = .ok (.iload 4, 2) := by decide +kernel
theorem dX12_feed_38 : decode cX12_feed 38 = .ok (.invokevirtual 130, 3) := by decide +kernel
theorem dX12_feed_41 : decode cX12_feed 41 = .ok (.aload_n 0, 1) := by decide +kernel
theorem dX12_feed_42 : decode cX12_feed 42 = .ok (.iload 5, 2) := by decide +kernel
theorem dX12_feed_44 : decode cX12_feed 44 = .ok (.invokevirtual 130, 3) := by decide +kernel
theorem dX12_feed_47 : decode cX12_feed 47 = .ok (.aload_n 0, 1) := by decide +kernel
theorem dX12_feed_48 : decode cX12_feed 48 = .ok (.getfield 127, 3) := by decide +kernel
theorem dX12_feed_51 : decode cX12_feed 51 = .ok (.ireturn, 1) := by decide +kernel
theorem dX12_end_0 : decode cX12_end 0 = .ok (.aload_n 0, 1) := by decide +kernel
theorem dX12_end_1 : decode cX12_end 1 = .ok (.iconst 0, 1) := by decide +kernel
theorem dX12_end_2 : decode cX12_end 2 = .ok (.putfield 123, 3) := by decide +kernel
theorem dX12_end_5 : decode cX12_end 5 = .ok (.iload_n 1, 1) := by decide +kernel
theorem dX12_end_6 : decode cX12_end 6 = .ok (.ifCond .lt 11, 3) := by decide +kernel
theorem dX12_end_9 : decode cX12_end 9 = .ok (.iload_n 1, 1) := by decide +kernel
theorem dX12_end_10 : decode cX12_end 10 = .ok (.aload_n 0, 1) := by decide +kernel
theorem dX12_end_11 : decode cX12_end 11 = .ok (.getfield 127, 3) := by decide +kernel
theorem dX12_end_14 : decode cX12_end 14 = .ok (.if_icmp .le 5, 3) := by decide +kernel
theorem dX12_end_17 : decode cX12_end 17 = .ok (.iconst 0, 1) := by decide +kernel
theorem dX12_end_18 : decode cX12_end 18 = .ok (.ireturn, 1) := by decide +kernel
theorem dX12_end_19 : decode cX12_end 19 = .ok (.aload_n 0, 1) := by decide +kernel
theorem dX12_end_20 : decode cX12_end 20 = .ok (.iload_n 1, 1) := by decide +kernel
theorem dX12_end_21 : decode cX12_end 21 = .ok (.putfield 127, 3) := by decide +kernel
theorem dX12_end_24 : decode cX12_end 24 = .ok (.iconst 1, 1) := by decide +kernel
theorem dX12_end_25 : decode cX12_end 25 = .ok (.ireturn, 1) := by decide +kernel
theorem dX12_at_0 : decode cX12_at 0 = .ok (.iload_n 1, 1) := by decide +kernel
theorem dX12_at_1 : decode cX12_at 1 = .ok (.aload_n 0, 1) := by decide +kernel
theorem dX12_at_2 : decode cX12_at 2 = .ok (.getfield 134, 3) := by decide +kernel
theorem dX12_at_5 : decode cX12_at 5 = .ok (.if_icmp .ge 12, 3) := by decide +kernel
theorem dX12_at_8 : decode cX12_at 8 = .ok (.aload_n 0, 1) := by decide +kernel
theorem dX12_at_9 : decode cX12_at 9 = .ok (.getfield 7, 3) := by decide +kernel
theorem dX12_at_12 : decode cX12_at 12 = .ok (.iload_n 1, 1) := by decide +kernel
theorem dX12_at_13 : decode cX12_at 13 = .ok (.iaload, 1) := by decide +kernel
theorem dX12_at_14 : decode cX12_at 14 = .ok (.goto 4, 3) := by decide +kernel
theorem dX12_at_17 : decode cX12_at 17 = .ok (.iconst 0, 1) := by decide +kernel
theorem dX12_at_18 : decode cX12_at 18 = .ok (.ireturn, 1) := by decide +kernel
theorem dX12_isDigit_0 : decode cX12_isDigit 0 = .ok (.iload_n 0, 1) := by decide +kernel
theorem dX12_isDigit_1 : decode cX12_isDigit 1 = .ok (.bipush 48, 2) := by decide +kernel
theorem dX12_isDigit_3 : decode cX12_isDigit 3 = .ok (.if_icmp .lt 13, 3) := by decide +kernel
theorem dX12_isDigit_6 : decode cX12_isDigit 6 = .ok (.iload_n 0, 1) := by decide +kernel
theorem dX12_isDigit_7 : decode cX12_isDigit 7 = .ok (.bipush 57, 2) := by decide +kernel
theorem dX12_isDigit_9 : decode cX12_isDigit 9 = .ok (.if_icmp .gt 7, 3) := by decide +kernel
theorem dX12_isDigit_12 : decode cX12_isDigit 12 = .ok (.iconst 1, 1) := by decide +kernel
theorem dX12_isDigit_13 : decode cX12_isDigit 13 = .ok (.goto 4, 3) := by decide +kernel
theorem dX12_isDigit_16 : decode cX12_isDigit 16 = .ok (.iconst 0, 1) := by decide +kernel
theorem dX12_isDigit_17 : decode cX12_isDigit 17 = .ok (.ireturn, 1) := by decide +kernel
theorem dX12_isLetter_0 : decode cX12_isLetter 0 = .ok (.iload_n 0, 1) := by decide +kernel
theorem dX12_isLetter_1 : decode cX12_isLetter 1 = .ok (.bipush 97, 2) := by decide +kernel
theorem dX12_isLetter_3 : decode cX12_isLetter 3 = .ok (.if_icmp .lt 13, 3) := by decide +kernel
theorem dX12_isLetter_6 : decode cX12_isLetter 6 = .ok (.iload_n 0, 1) := by decide +kernel
theorem dX12_isLetter_7 : decode cX12_isLetter 7 = .ok (.bipush 122, 2) := by decide +kernel
theorem dX12_isLetter_9 : decode cX12_isLetter 9 = .ok (.if_icmp .gt 7, 3) := by decide +kernel
theorem dX12_isLetter_12 : decode cX12_isLetter 12 = .ok (.iconst 1, 1) := by decide +kernel
theorem dX12_isLetter_13 : decode cX12_isLetter 13 = .ok (.goto 4, 3) := by decide +kernel
theorem dX12_isLetter_16 : decode cX12_isLetter 16 = .ok (.iconst 0, 1) := by decide +kernel
theorem dX12_isLetter_17 : decode cX12_isLetter 17 = .ok (.ireturn, 1) := by decide +kernel
theorem dX12_go_0 : decode cX12_go 0 = .ok (.aload_n 0, 1) := by decide +kernel
theorem dX12_go_1 : decode cX12_go 1 = .ok (.getfield 137, 3) := by decide +kernel
theorem dX12_go_4 : decode cX12_go 4 = .ok (.aload_n 0, 1) := by decide +kernel
theorem dX12_go_5 : decode cX12_go 5 = .ok (.getfield 134, 3) := by decide +kernel
theorem dX12_go_8 : decode cX12_go 8 = .ok (.if_icmp .ge 30, 3) := by decide +kernel
theorem dX12_go_11 : decode cX12_go 11 = .ok (.aload_n 0, 1) := by decide +kernel
theorem dX12_go_12 : decode cX12_go 12 = .ok (.getfield 7, 3) := by decide +kernel
theorem dX12_go_15 : decode cX12_go 15 = .ok (.aload_n 0, 1) := by decide +kernel
theorem dX12_go_16 : decode cX12_go 16 = .ok (.getfield 137, 3) := by decide +kernel
theorem dX12_go_19 : decode cX12_go 19 = .ok (.iaload, 1) := by decide +kernel
theorem dX12_go_20 : decode cX12_go 20 = .ok (.bipush 32, 2) := by decide +kernel
theorem dX12_go_22 : decode cX12_go 22 = .ok (.if_icmp .ne 16, 3) := by decide +kernel
theorem dX12_go_25 : decode cX12_go 25 = .ok (.aload_n 0, 1) := by decide +kernel
theorem dX12_go_26 : decode cX12_go 26 = .ok (.dup, 1) := by decide +kernel
theorem dX12_go_27 : decode cX12_go 27 = .ok (.getfield 137, 3) := by decide +kernel
theorem dX12_go_30 : decode cX12_go 30 = .ok (.iconst 1, 1) := by decide +kernel
theorem dX12_go_31 : decode cX12_go 31 = .ok (.iadd, 1) := by decide +kernel
theorem dX12_go_32 : decode cX12_go 32 = .ok (.putfield 137, 3) := by decide +kernel
theorem dX12_go_35 : decode cX12_go 35 = .ok (.goto (-35), 3) := by decide +kernel
theorem dX12_go_38 : decode cX12_go 38 = .ok (.aload_n 0, 1) := by decide +kernel
theorem dX12_go_39 : decode cX12_go 39 = .ok (.aload_n 0, 1) := by decide +kernel
theorem dX12_go_40 : decode cX12_go 40 = .ok (.getfield 137, 3) := by decide +kernel
theorem dX12_go_43 : decode cX12_go 43 = .ok (.putfield 140, 3) := by decide +kernel
theorem dX12_go_46 : decode cX12_go 46 = .ok (.aload_n 0, 1) := by decide +kernel
theorem dX12_go_47 : decode cX12_go 47 = .ok (.getfield 134, 3) := by decide +kernel
theorem dX12_go_50 : decode cX12_go 50 = .ok (.sipush 200, 3) := by decide +kernel
theorem dX12_go_53 : decode cX12_go 53 = .ok (.if_icmp .le 26, 3) := by decide +kernel
theorem dX12_go_56 : decode cX12_go 56 = .ok (.aload_n 0, 1) := by decide +kernel
theorem dX12_go_57 : decode cX12_go 57 = .ok (.getfield 140, 3) := by decide +kernel
theorem dX12_go_60 : decode cX12_go 60 = .ok (.sipush 200, 3) := by decide +kernel
theorem dX12_go_63 : decode cX12_go 63 = .ok (.if_icmp .lt 16, 3) := by decide +kernel
theorem dX12_go_66 : decode cX12_go 66 = .ok (.aload_n 0, 1) := by decide +kernel
theorem dX12_go_67 : decode cX12_go 67 = .ok (.sipush 200, 3) := by decide +kernel
theorem dX12_go_70 : decode cX12_go 70 = .ok (.putfield 140, 3) := by decide +kernel
theorem dX12_go_73 : decode cX12_go 73 = .ok (.aload_n 0, 1) := by decide +kernel
theorem dX12_go_74 : decode cX12_go 74 = .ok (.iconst 1, 1) := by decide +kernel
theorem dX12_go_75 : decode cX12_go 75 = .ok (.putfield 143, 3) := by decide +kernel
theorem dX12_go_78 : decode cX12_go 78 = .ok (.return_, 1) := by decide +kernel
theorem dX12_go_79 : decode cX12_go 79 = .ok (.aload_n 0, 1) := by decide +kernel
theorem dX12_go_80 : decode cX12_go 80 = .ok (.getfield 137, 3) := by decide +kernel
theorem dX12_go_83 : decode cX12_go 83 = .ok (.aload_n 0, 1) := by decide +kernel
theorem dX12_go_84 : decode cX12_go 84 = .ok (.getfield 134, 3) := by decide +kernel
theorem dX12_go_87 : decode cX12_go 87 = .ok (.if_icmp .lt 9, 3) := by decide +kernel
theorem dX12_go_90 : decode cX12_go 90 = .ok (.aload_n 0, 1) := by decide +kernel
theorem dX12_go_91 : decode cX12_go 91 = .ok (.iconst 0, 1) := by decide +kernel
theorem dX12_go_92 : decode cX12_go 92 = .ok (.putfield 143, 3) := by decide +kernel
theorem dX12_go_95 : decode cX12_go 95 = .ok (.return_, 1) := by decide +kernel
theorem dX12_go_96 : decode cX12_go 96 = .ok (.aload_n 0, 1) := by decide +kernel
theorem dX12_go_97 : decode cX12_go 97 = .ok (.getfield 7, 3) := by decide +kernel
theorem dX12_go_100 : decode cX12_go 100 = .ok (.aload_n 0, 1) := by decide +kernel
theorem dX12_go_101 : decode cX12_go 101 = .ok (.getfield 137, 3) := by decide +kernel
theorem dX12_go_104 : decode cX12_go 104 = .ok (.iaload, 1) := by decide +kernel
theorem dX12_go_105 : decode cX12_go 105 = .ok (.istore_n 2, 1) := by decide +kernel
theorem dX12_go_106 : decode cX12_go 106 = .ok (.iload_n 2, 1) := by decide +kernel
theorem dX12_go_107 : decode cX12_go 107 = .ok (.invokestatic 146, 3) := by decide +kernel
theorem dX12_go_110 : decode cX12_go 110 = .ok (.ifCond .ne 10, 3) := by decide +kernel
theorem dX12_go_113 : decode cX12_go 113 = .ok (.iload_n 2, 1) := by decide +kernel
theorem dX12_go_114 : decode cX12_go 114 = .ok (.invokestatic 150, 3) := by decide +kernel
theorem dX12_go_117 : decode cX12_go 117 = .ok (.ifCond .eq 8, 3) := by decide +kernel
theorem dX12_go_120 : decode cX12_go 120 = .ok (.aload_n 0, 1) := by decide +kernel
theorem dX12_go_121 : decode cX12_go 121 = .ok (.invokevirtual 153, 3) := by decide +kernel
theorem dX12_go_124 : decode cX12_go 124 = .ok (.return_, 1) := by decide +kernel
theorem dX12_go_125 : decode cX12_go 125 = .ok (.iload_n 1, 1) := by decide +kernel
theorem dX12_go_126 : decode cX12_go 126 = .ok (.ifCond .eq 59, 3) := by decide +kernel
theorem dX12_go_129 : decode cX12_go 129 = .ok (.iload_n 2, 1) := by decide +kernel
theorem dX12_go_130 : decode cX12_go 130 = .ok (.bipush 124, 2) := by decide +kernel
theorem dX12_go_132 : decode cX12_go 132 = .ok (.if_icmp .eq 45, 3) := by decide +kernel
theorem dX12_go_135 : decode cX12_go 135 = .ok (.iload_n 2, 1) := by decide +kernel
theorem dX12_go_136 : decode cX12_go 136 = .ok (.bipush 91, 2) := by decide +kernel
theorem dX12_go_138 : decode cX12_go 138 = .ok (.if_icmp .eq 39, 3) := by decide +kernel
theorem dX12_go_141 : decode cX12_go 141 = .ok (.iload_n 2, 1) := by decide +kernel
theorem dX12_go_142 : decode cX12_go 142 = .ok (.bipush 93, 2) := by decide +kernel
theorem dX12_go_144 : decode cX12_go 144 = .ok (.if_icmp .eq 33, 3) := by decide +kernel
theorem dX12_go_147 : decode cX12_go 147 = .ok (.iload_n 2, 1) := by decide +kernel
theorem dX12_go_148 : decode cX12_go 148 = .ok (.bipush 40, 2) := by decide +kernel
theorem dX12_go_150 : decode cX12_go 150 = .ok (.if_icmp .eq 27, 3) := by decide +kernel
theorem dX12_go_153 : decode cX12_go 153 = .ok (.iload_n 2, 1) := by decide +kernel
theorem dX12_go_154 : decode cX12_go 154 = .ok (.bipush 41, 2) := by decide +kernel
theorem dX12_go_156 : decode cX12_go 156 = .ok (.if_icmp .eq 21, 3) := by decide +kernel
theorem dX12_go_159 : decode cX12_go 159 = .ok (.iload_n 2, 1) := by decide +kernel
theorem dX12_go_160 : decode cX12_go 160 = .ok (.bipush 123, 2) := by decide +kernel
theorem dX12_go_162 : decode cX12_go 162 = .ok (.if_icmp .eq 15, 3) := by decide +kernel
theorem dX12_go_165 : decode cX12_go 165 = .ok (.iload_n 2, 1) := by decide +kernel
theorem dX12_go_166 : decode cX12_go 166 = .ok (.bipush 125, 2) := by decide +kernel
theorem dX12_go_168 : decode cX12_go 168 = .ok (.if_icmp .eq 9, 3) := by decide +kernel
theorem dX12_go_171 : decode cX12_go 171 = .ok (.iload_n 2, 1) := by decide +kernel
theorem dX12_go_172 : decode cX12_go 172 = .ok (.bipush 44, 2) := by decide +kernel
theorem dX12_go_174 : decode cX12_go 174 = .ok (.if_icmp .ne 7, 3) := by decide +kernel
theorem dX12_go_177 : decode cX12_go 177 = .ok (.iconst 1, 1) := by decide +kernel
theorem dX12_go_178 : decode cX12_go 178 = .ok (.goto 18, 3) := by decide +kernel
theorem dX12_go_181 : decode cX12_go 181 = .ok (.iconst 0, 1) := by decide +kernel
theorem dX12_go_182 : decode cX12_go 182 = .ok (.goto 14, 3) := by decide +kernel
theorem dX12_go_185 : decode cX12_go 185 = .ok (.iload_n 2, 1) := by decide +kernel
theorem dX12_go_186 : decode cX12_go 186 = .ok (.bipush 59, 2) := by decide +kernel
theorem dX12_go_188 : decode cX12_go 188 = .ok (.if_icmp .ne 7, 3) := by decide +kernel
theorem dX12_go_191 : decode cX12_go 191 = .ok (.iconst 1, 1) := by decide +kernel
theorem dX12_go_192 : decode cX12_go 192 = .ok (.goto 4, 3) := by decide +kernel
theorem dX12_go_195 : decode cX12_go 195 = .ok (.iconst 0, 1) := by decide +kernel
theorem dX12_go_196 : decode cX12_go 196 = .ok (.istore_n 3, 1) := by decide +kernel
theorem dX12_go_197 : decode cX12_go 197 = .ok (.aload_n 0, 1) := by decide +kernel
theorem dX12_go_198 : decode cX12_go 198 = .ok (.iload_n 2, 1) := by decide +kernel
theorem dX12_go_199 : decode cX12_go 199 = .ok (.putfield 156, 3) := by decide +kernel
theorem dX12_go_202 : decode cX12_go 202 = .ok (.aload_n 0, 1) := by decide +kernel
theorem dX12_go_203 : decode cX12_go 203 = .ok (.dup, 1) := by decide +kernel
theorem dX12_go_204 : decode cX12_go 204 = .ok (.getfield 137, 3) := by decide +kernel
theorem dX12_go_207 : decode cX12_go 207 = .ok (.iconst 1, 1) := by decide +kernel
theorem dX12_go_208 : decode cX12_go 208 = .ok (.iadd, 1) := by decide +kernel
theorem dX12_go_209 : decode cX12_go 209 = .ok (.putfield 137, 3) := by decide +kernel
theorem dX12_go_212 : decode cX12_go 212 = .ok (.iload_n 1, 1) := by decide +kernel
theorem dX12_go_213 : decode cX12_go 213 = .ok (.ifCond .eq 34, 3) := by decide +kernel
theorem dX12_go_216 : decode cX12_go 216 = .ok (.iload_n 2, 1) := by decide +kernel
theorem dX12_go_217 : decode cX12_go 217 = .ok (.bipush 46, 2) := by decide +kernel
theorem dX12_go_219 : decode cX12_go 219 = .ok (.if_icmp .ne 28, 3) := by decide +kernel
theorem dX12_go_222 : decode cX12_go 222 = .ok (.aload_n 0, 1) := by decide +kernel
theorem dX12_go_223 : decode cX12_go 223 = .ok (.aload_n 0, 1) := by decide +kernel
theorem dX12_go_224 : decode cX12_go 224 = .ok (.getfield 137, 3) := by decide +kernel
theorem dX12_go_227 : decode cX12_go 227 = .ok (.invokevirtual 159, 3) := by decide +kernel
theorem dX12_go_230 : decode cX12_go 230 = .ok (.bipush 46, 2) := by decide +kernel
theorem dX12_go_232 : decode cX12_go 232 = .ok (.if_icmp .ne 15, 3) := by decide +kernel
theorem dX12_go_235 : decode cX12_go 235 = .ok (.iconst 1, 1) := by decide +kernel
theorem dX12_go_236 : decode cX12_go 236 = .ok (.istore_n 3, 1) := by decide +kernel
theorem dX12_go_237 : decode cX12_go 237 = .ok (.aload_n 0, 1) := by decide +kernel
theorem dX12_go_238 : decode cX12_go 238 = .ok (.dup, 1) := by decide +kernel
theorem dX12_go_239 : decode cX12_go 239 = .ok (.getfield 137, 3) := by decide +kernel
theorem dX12_go_242 : decode cX12_go 242 = .ok (.iconst 1, 1) := by decide +kernel
theorem dX12_go_243 : decode cX12_go 243 = .ok (.iadd, 1) := by decide +kernel
theorem dX12_go_244 : decode cX12_go 244 = .ok (.putfield 137, 3) := by decide +kernel
theorem dX12_go_247 : decode cX12_go 247 = .ok (.aload_n 0, 1) := by decide +kernel
theorem dX12_go_248 : decode cX12_go 248 = .ok (.iload_n 3, 1) := by decide +kernel
theorem dX12_go_249 : decode cX12_go 249 = .ok (.ifCond .eq 7, 3) := by decide +kernel
theorem dX12_go_252 : decode cX12_go 252 = .ok (.iconst 4, 1) := by decide +kernel
theorem dX12_go_253 : decode cX12_go 253 = .ok (.goto 4, 3) := by decide +kernel
theorem dX12_go_256 : decode cX12_go 256 = .ok (.iconst 1, 1) := by decide +kernel
theorem dX12_go_257 : decode cX12_go 257 = .ok (.putfield 143, 3) := by decide +kernel
theorem dX12_go_260 : decode cX12_go 260 = .ok (.return_, 1) := by decide +kernel
theorem dX12_readWord_0 : decode cX12_readWord 0 = .ok (.aload_n 0, 1) := by decide +kernel
theorem dX12_readWord_1 : decode cX12_readWord 1 = .ok (.getfield 7, 3) := by decide +kernel
theorem dX12_readWord_4 : decode cX12_readWord 4 = .ok (.aload_n 0, 1) := by decide +kernel
theorem dX12_readWord_5 : decode cX12_readWord 5 = .ok (.getfield 137, 3) := by decide +kernel
theorem dX12_readWord_8 : decode cX12_readWord 8 = .ok (.iaload, 1) := by decide +kernel
theorem dX12_readWord_9 : decode cX12_readWord 9 = .ok (.invokestatic 146, 3) := by decide +kernel
theorem dX12_readWord_12 : decode cX12_readWord 12 = .ok (.istore_n 1, 1) := by decide +kernel
theorem dX12_readWord_13 : decode cX12_readWord 13 = .ok (.iconst 1, 1) := by decide +kernel
theorem dX12_readWord_14 : decode cX12_readWord 14 = .ok (.istore_n 2, 1) := by decide +kernel
theorem dX12_readWord_15 : decode cX12_readWord 15 = .ok (.aload_n 0, 1) := by decide +kernel
theorem dX12_readWord_16 : decode cX12_readWord 16 = .ok (.lconst 0, 1) := by decide +kernel
theorem dX12_readWord_17 : decode cX12_readWord 17 = .ok (.putfield 163, 3) := by decide +kernel
theorem dX12_readWord_20 : decode cX12_readWord 20 = .ok (.aload_n 0, 1) := by decide +kernel
theorem dX12_readWord_21 : decode cX12_readWord 21 = .ok (.aload_n 0, 1) := by decide +kernel
theorem dX12_readWord_22 : decode cX12_readWord 22 = .ok (.getfield 137, 3) := by decide +kernel
theorem dX12_readWord_25 : decode cX12_readWord 25 = .ok (.invokevirtual 159, 3) := by decide +kernel
theorem dX12_readWord_28 : decode cX12_readWord 28 = .ok (.invokestatic 146, 3) := by decide +kernel
theorem dX12_readWord_31 : decode cX12_readWord 31 = .ok (.ifCond .ne 17, 3) := by decide +kernel
theorem dX12_readWord_34 : decode cX12_readWord 34 = .ok (.aload_n 0, 1) := by decide +kernel
theorem dX12_readWord_35 : decode cX12_readWord 35 = .ok (.aload_n 0, 1) := by decide +kernel
theorem dX12_readWord_36 : decode cX12_readWord 36 = .ok (.getfield 137, 3) := by decide +kernel
theorem dX12_readWord_39 : decode cX12_readWord 39 = .ok (.invokevirtual 159, 3) := by decide +kernel
theorem dX12_readWord_42 : decode cX12_readWord 42 = .ok (.invokestatic 150, 3) := by decide +kernel
theorem dX12_readWord_45 : decode cX12_readWord 45 = .ok (.ifCond .eq 99, 3) := by decide +kernel
theorem dX12_readWord_48 : decode cX12_readWord 48 = .ok (.aload_n 0, 1) := by decide +kernel
theorem dX12_readWord_49 : decode cX12_readWord 49 = .ok (.getfield 7, 3) := by decide +kernel
theorem dX12_readWord_52 : decode cX12_readWord 52 = .ok (.aload_n 0, 1) := by decide +kernel
theorem dX12_readWord_53 : decode cX12_readWord 53 = .ok (.getfield 137, 3) := by decide +kernel
theorem dX12_readWord_56 : decode cX12_readWord 56 = .ok (.iaload, 1) := by decide +kernel
theorem dX12_readWord_57 : decode cX12_readWord 57 = .ok (.istore_n 3, 1) := by decide +kernel
theorem dX12_readWord_58 : decode cX12_readWord 58 = .ok (.iload_n 2, 1) := by decide +kernel
theorem dX12_readWord_59 : decode cX12_readWord 59 = .ok (.ifCond .eq 15, 3) := by decide +kernel
theorem dX12_readWord_62 : decode cX12_readWord 62 = .ok (.iload_n 3, 1) := by decide +kernel
theorem dX12_readWord_63 : decode cX12_readWord 63 = .ok (.invokestatic 146, 3) := by decide +kernel
theorem dX12_readWord_66 : decode cX12_readWord 66 = .ok (.iload_n 1, 1) := by decide +kernel
theorem dX12_readWord_67 : decode cX12_readWord 67 = .ok (.if_icmp .ne 7, 3) := by decide +kernel
theorem dX12_readWord_70 : decode cX12_readWord 70 = .ok (.iconst 1, 1) := by decide +kernel
theorem dX12_readWord_71 : decode cX12_readWord 71 = .ok (.goto 4, 3) := by decide +kernel
theorem dX12_readWord_74 : decode cX12_readWord 74 = .ok (.iconst 0, 1) := by decide +kernel
theorem dX12_readWord_75 : decode cX12_readWord 75 = .ok (.istore_n 2, 1) := by decide +kernel
theorem dX12_readWord_76 : decode cX12_readWord 76 = .ok (.aload_n 0, 1) := by decide +kernel
theorem dX12_readWord_77 : decode cX12_readWord 77 = .ok (.getfield 137, 3) := by decide +kernel
theorem dX12_readWord_80 : decode cX12_readWord 80 = .ok (.aload_n 0, 1) := by decide +kernel
theorem dX12_readWord_81 : decode cX12_readWord 81 = .ok (.getfield 140, 3) := by decide +kernel
theorem dX12_readWord_84 : decode cX12_readWord 84 = .ok (.isub, 1) := by decide +kernel
theorem dX12_readWord_85 : decode cX12_readWord 85 = .ok (.bipush 12, 2) := by decide +kernel
theorem dX12_readWord_87 : decode cX12_readWord 87 = .ok (.if_icmp .ge 44, 3) := by decide +kernel
theorem dX12_readWord_90 : decode cX12_readWord 90 = .ok (.aload_n 0, 1) := by decide +kernel
theorem dX12_readWord_91 : decode cX12_readWord 91 = .ok (.iload_n 1, 1) := by decide +kernel
theorem dX12_readWord_92 : decode cX12_readWord 92 = .ok (.ifCond .eq 21, 3) := by decide +kernel
theorem dX12_readWord_95 : decode cX12_readWord 95 = .ok (.ldc2_w 167, 3) := by decide +kernel
theorem dX12_readWord_98 : decode cX12_readWord 98 = .ok (.aload_n 0, 1) := by decide +kernel
theorem dX12_readWord_99 : decode cX12_readWord 99 = .ok (.getfield 163, 3) := by decide +kernel
theorem dX12_readWord_102 : decode cX12_readWord 102 = .ok (.lmul, 1) := by decide +kernel
theorem dX12_readWord_103 : decode cX12_readWord 103 = .ok (.iload_n 3, 1) := by decide +kernel
theorem dX12_readWord_104 : decode cX12_readWord 104 = .ok (.i2l, 1) := by decide +kernel
theorem dX12_readWord_105 : decode cX12_readWord 105 = .ok (.ladd, 1) := by decide +kernel
theorem dX12_readWord_106 : decode cX12_readWord 106 = .ok (.ldc2_w 169, 3) := by decide +kernel
theorem dX12_readWord_109 : decode cX12_readWord 109 = .ok (.lsub, 1) := by decide +kernel
theorem dX12_readWord_110 : decode cX12_readWord 110 = .ok (.goto 18, 3) := by decide +kernel
theorem dX12_readWord_113 : decode cX12_readWord 113 = .ok (.ldc2_w 171, 3) := by decide +kernel
theorem dX12_readWord_116 : decode cX12_readWord 116 = .ok (.aload_n 0, 1) := by decide +kernel
theorem dX12_readWord_117 : decode cX12_readWord 117 = .ok (.getfield 163, 3) := by decide +kernel
theorem dX12_readWord_120 : decode cX12_readWord 120 = .ok (.lmul, 1) := by decide +kernel
theorem dX12_readWord_121 : decode cX12_readWord 121 = .ok (.iload_n 3, 1) := by decide +kernel
theorem dX12_readWord_122 : decode cX12_readWord 122 = .ok (.i2l, 1) := by decide +kernel
theorem dX12_readWord_123 : decode cX12_readWord 123 = .ok (.ladd, 1) := by decide +kernel
theorem dX12_readWord_124 : decode cX12_readWord 124 = .ok (.ldc2_w 173, 3) := by decide +kernel
theorem dX12_readWord_127 : decode cX12_readWord 127 = .ok (.lsub, 1) := by decide +kernel
theorem dX12_readWord_128 : decode cX12_readWord 128 = .ok (.putfield 163, 3) := by decide +kernel
theorem dX12_readWord_131 : decode cX12_readWord 131 = .ok (.aload_n 0, 1) := by decide +kernel
theorem dX12_readWord_132 : decode cX12_readWord 132 = .ok (.dup, 1) := by decide +kernel
theorem dX12_readWord_133 : decode cX12_readWord 133 = .ok (.getfield 137, 3) := by decide +kernel
theorem dX12_readWord_136 : decode cX12_readWord 136 = .ok (.iconst 1, 1) := by decide +kernel
theorem dX12_readWord_137 : decode cX12_readWord 137 = .ok (.iadd, 1) := by decide +kernel
theorem dX12_readWord_138 : decode cX12_readWord 138 = .ok (.putfield 137, 3) := by decide +kernel
theorem dX12_readWord_141 : decode cX12_readWord 141 = .ok (.goto (-121), 3) := by decide +kernel
theorem dX12_readWord_144 : decode cX12_readWord 144 = .ok (.aload_n 0, 1) := by decide +kernel
theorem dX12_readWord_145 : decode cX12_readWord 145 = .ok (.iload_n 2, 1) := by decide +kernel
theorem dX12_readWord_146 : decode cX12_readWord 146 = .ok (.ifCond .eq 26, 3) := by decide +kernel
theorem dX12_readWord_149 : decode cX12_readWord 149 = .ok (.aload_n 0, 1) := by decide +kernel
theorem dX12_readWord_150 : decode cX12_readWord 150 = .ok (.getfield 137, 3) := by decide +kernel
theorem dX12_readWord_153 : decode cX12_readWord 153 = .ok (.aload_n 0, 1) := by decide +kernel
theorem dX12_readWord_154 : decode cX12_readWord 154 = .ok (.getfield 140, 3) := by decide +kernel
theorem dX12_readWord_157 : decode cX12_readWord 157 = .ok (.isub, 1) := by decide +kernel
theorem dX12_readWord_158 : decode cX12_readWord 158 = .ok (.iload_n 1, 1) := by decide +kernel
theorem dX12_readWord_159 : decode cX12_readWord 159 = .ok (.ifCond .eq 8, 3) := by decide +kernel
theorem dX12_readWord_162 : decode cX12_readWord 162 = .ok (.bipush 12, 2) := by decide +kernel
theorem dX12_readWord_164 : decode cX12_readWord 164 = .ok (.goto 5, 3) := by decide +kernel
theorem dX12_readWord_167 : decode cX12_readWord 167 = .ok (.bipush 6, 2) := by decide +kernel
theorem dX12_readWord_169 : decode cX12_readWord 169 = .ok (.if_icmp .le 7, 3) := by decide +kernel
theorem dX12_readWord_172 : decode cX12_readWord 172 = .ok (.iconst 1, 1) := by decide +kernel
theorem dX12_readWord_173 : decode cX12_readWord 173 = .ok (.goto 12, 3) := by decide +kernel
theorem dX12_readWord_176 : decode cX12_readWord 176 = .ok (.iload_n 1, 1) := by decide +kernel
theorem dX12_readWord_177 : decode cX12_readWord 177 = .ok (.ifCond .eq 7, 3) := by decide +kernel
theorem dX12_readWord_180 : decode cX12_readWord 180 = .ok (.iconst 2, 1) := by decide +kernel
theorem dX12_readWord_181 : decode cX12_readWord 181 = .ok (.goto 4, 3) := by decide +kernel
theorem dX12_readWord_184 : decode cX12_readWord 184 = .ok (.iconst 3, 1) := by decide +kernel
theorem dX12_readWord_185 : decode cX12_readWord 185 = .ok (.putfield 143, 3) := by decide +kernel
theorem dX12_readWord_188 : decode cX12_readWord 188 = .ok (.return_, 1) := by decide +kernel
theorem dX12_bad_0 : decode cX12_bad 0 = .ok (.aload_n 0, 1) := by decide +kernel
theorem dX12_bad_1 : decode cX12_bad 1 = .ok (.aload_n 0, 1) := by decide +kernel
theorem dX12_bad_2 : decode cX12_bad 2 = .ok (.getfield 143, 3) := by decide +kernel
theorem dX12_bad_5 : decode cX12_bad 5 = .ok (.iconst 1, 1) := by decide +kernel
theorem dX12_bad_6 : decode cX12_bad 6 = .ok (.if_icmp .ne 7, 3) := by decide +kernel
theorem dX12_bad_9 : decode cX12_bad 9 = .ok (.iconst 1, 1) := by decide +kernel
theorem dX12_bad_10 : decode cX12_bad 10 = .ok (.goto 4, 3) := by decide +kernel
theorem dX12_bad_13 : decode cX12_bad 13 = .ok (.iload_n 1, 1) := by decide +kernel
theorem dX12_bad_14 : decode cX12_bad 14 = .ok (.putfield 175, 3) := by decide +kernel
theorem dX12_bad_17 : decode cX12_bad 17 = .ok (.aload_n 0, 1) := by decide +kernel
theorem dX12_bad_18 : decode cX12_bad 18 = .ok (.aload_n 0, 1) := by decide +kernel
theorem dX12_bad_19 : decode cX12_bad 19 = .ok (.getfield 140, 3) := by decide +kernel
theorem dX12_bad_22 : decode cX12_bad 22 = .ok (.putfield 178, 3) := by decide +kernel
theorem dX12_bad_25 : decode cX12_bad 25 = .ok (.iconst 0, 1) := by decide +kernel
theorem dX12_bad_26 : decode cX12_bad 26 = .ok (.ireturn, 1) := by decide +kernel
theorem dX12_isSign_0 : decode cX12_isSign 0 = .ok (.aload_n 0, 1) := by decide +kernel
theorem dX12_isSign_1 : decode cX12_isSign 1 = .ok (.getfield 143, 3) := by decide +kernel
theorem dX12_isSign_4 : decode cX12_isSign 4 = .ok (.iconst 4, 1) := by decide +kernel
theorem dX12_isSign_5 : decode cX12_isSign 5 = .ok (.if_icmp .ne 15, 3) := by decide +kernel
theorem dX12_isSign_8 : decode cX12_isSign 8 = .ok (.aload_n 0, 1) := by decide +kernel
theorem dX12_isSign_9 : decode cX12_isSign 9 = .ok (.getfield 156, 3) := by decide +kernel
theorem dX12_isSign_12 : decode cX12_isSign 12 = .ok (.iload_n 1, 1) := by decide +kernel
theorem dX12_isSign_13 : decode cX12_isSign 13 = .ok (.if_icmp .ne 7, 3) := by decide +kernel
theorem dX12_isSign_16 : decode cX12_isSign 16 = .ok (.iconst 1, 1) := by decide +kernel
theorem dX12_isSign_17 : decode cX12_isSign 17 = .ok (.goto 4, 3) := by decide +kernel
theorem dX12_isSign_20 : decode cX12_isSign 20 = .ok (.iconst 0, 1) := by decide +kernel
theorem dX12_isSign_21 : decode cX12_isSign 21 = .ok (.ireturn, 1) := by decide +kernel
theorem dX12_node_0 : decode cX12_node 0 = .ok (.sipush 420, 3) := by decide +kernel
theorem dX12_node_3 : decode cX12_node 3 = .ok (.aload_n 0, 1) := by decide +kernel
theorem dX12_node_4 : decode cX12_node 4 = .ok (.getfield 181, 3) := by decide +kernel
theorem dX12_node_7 : decode cX12_node 7 = .ok (.imul, 1) := by decide +kernel
theorem dX12_node_8 : decode cX12_node 8 = .ok (.aload_n 0, 1) := by decide +kernel
theorem dX12_node_9 : decode cX12_node 9 = .ok (.getfield 184, 3) := by decide +kernel
theorem dX12_node_12 : decode cX12_node 12 = .ok (.iadd, 1) := by decide +kernel
theorem dX12_node_13 : decode cX12_node 13 = .ok (.istore 6, 2) := by decide +kernel
theorem dX12_node_15 : decode cX12_node 15 = .ok (.aload_n 0, 1) := by decide +kernel
theorem dX12_node_16 : decode cX12_node 16 = .ok (.dup, 1) := by decide +kernel
theorem dX12_node_17 : decode cX12_node 17 = .ok (.getfield 184, 3) := by decide +kernel
theorem dX12_node_20 : decode cX12_node 20 = .ok (.iconst 1, 1) := by decide +kernel
theorem dX12_node_21 : decode cX12_node 21 = .ok (.iadd, 1) := by decide +kernel
theorem dX12_node_22 : decode cX12_node 22 = .ok (.putfield 184, 3) := by decide +kernel
theorem dX12_node_25 : decode cX12_node 25 = .ok (.aload_n 0, 1) := by decide +kernel
theorem dX12_node_26 : decode cX12_node 26 = .ok (.getfield 13, 3) := by decide +kernel
theorem dX12_node_29 : decode cX12_node 29 = .ok (.iload 6, 2) := by decide +kernel
theorem dX12_node_31 : decode cX12_node 31 = .ok (.iload_n 1, 1) := by decide +kernel
theorem dX12_node_32 : decode cX12_node 32 = .ok (.iastore, 1) := by decide +kernel
theorem dX12_node_33 : decode cX12_node 33 = .ok (.aload_n 0, 1) := by decide +kernel
theorem dX12_node_34 : decode cX12_node 34 = .ok (.getfield 16, 3) := by decide +kernel
theorem dX12_node_37 : decode cX12_node 37 = .ok (.iload 6, 2) := by decide +kernel
theorem dX12_node_39 : decode cX12_node 39 = .ok (.iconst (-1), 1) := by decide +kernel
theorem dX12_node_40 : decode cX12_node 40 = .ok (.iastore, 1) := by decide +kernel
theorem dX12_node_41 : decode cX12_node 41 = .ok (.aload_n 0, 1) := by decide +kernel
theorem dX12_node_42 : decode cX12_node 42 = .ok (.getfield 19, 3) := by decide +kernel
theorem dX12_node_45 : decode cX12_node 45 = .ok (.iload 6, 2) := by decide +kernel
theorem dX12_node_47 : decode cX12_node 47 = .ok (.iconst (-1), 1) := by decide +kernel
theorem dX12_node_48 : decode cX12_node 48 = .ok (.iastore, 1) := by decide +kernel
theorem dX12_node_49 : decode cX12_node 49 = .ok (.aload_n 0, 1) := by decide +kernel
theorem dX12_node_50 : decode cX12_node 50 = .ok (.getfield 22, 3) := by decide +kernel
theorem dX12_node_53 : decode cX12_node 53 = .ok (.iload 6, 2) := by decide +kernel
theorem dX12_node_55 : decode cX12_node 55 = .ok (.lload_n 2, 1) := by decide +kernel
theorem dX12_node_56 : decode cX12_node 56 = .ok (.lastore, 1) := by decide +kernel
theorem dX12_node_57 : decode cX12_node 57 = .ok (.aload_n 0, 1) := by decide +kernel
theorem dX12_node_58 : decode cX12_node 58 = .ok (.getfield 26, 3) := by decide +kernel
theorem dX12_node_61 : decode cX12_node 61 = .ok (.iload 6, 2) := by decide +kernel
theorem dX12_node_63 : decode cX12_node 63 = .ok (.lload 4, 2) := by decide +kernel
theorem dX12_node_65 : decode cX12_node 65 = .ok (.lastore, 1) := by decide +kernel
theorem dX12_node_66 : decode cX12_node 66 = .ok (.iload 6, 2) := by decide +kernel
theorem dX12_node_68 : decode cX12_node 68 = .ok (.ireturn, 1) := by decide +kernel
theorem dX12_hang_0 : decode cX12_hang 0 = .ok (.iload_n 2, 1) := by decide +kernel
theorem dX12_hang_1 : decode cX12_hang 1 = .ok (.iconst (-1), 1) := by decide +kernel
theorem dX12_hang_2 : decode cX12_hang 2 = .ok (.if_icmp .ne 13, 3) := by decide +kernel
theorem dX12_hang_5 : decode cX12_hang 5 = .ok (.aload_n 0, 1) := by decide +kernel
theorem dX12_hang_6 : decode cX12_hang 6 = .ok (.getfield 16, 3) := by decide +kernel
theorem dX12_hang_9 : decode cX12_hang 9 = .ok (.iload_n 1, 1) := by decide +kernel
theorem dX12_hang_10 : decode cX12_hang 10 = .ok (.iload_n 3, 1) := by decide +kernel
theorem dX12_hang_11 : decode cX12_hang 11 = .ok (.iastore, 1) := by decide +kernel
theorem dX12_hang_12 : decode cX12_hang 12 = .ok (.goto 10, 3) := by decide +kernel
theorem dX12_hang_15 : decode cX12_hang 15 = .ok (.aload_n 0, 1) := by decide +kernel
theorem dX12_hang_16 : decode cX12_hang 16 = .ok (.getfield 19, 3) := by decide +kernel
theorem dX12_hang_19 : decode cX12_hang 19 = .ok (.iload_n 2, 1) := by decide +kernel
theorem dX12_hang_20 : decode cX12_hang 20 = .ok (.iload_n 3, 1) := by decide +kernel
theorem dX12_hang_21 : decode cX12_hang 21 = .ok (.iastore, 1) := by decide +kernel
theorem dX12_hang_22 : decode cX12_hang 22 = .ok (.return_, 1) := by decide +kernel
theorem dX12_isPart_0 : decode cX12_isPart 0 = .ok (.aload_n 0, 1) := by decide +kernel
theorem dX12_isPart_1 : decode cX12_isPart 1 = .ok (.getfield 143, 3) := by decide +kernel
theorem dX12_isPart_4 : decode cX12_isPart 4 = .ok (.iconst 2, 1) := by decide +kernel
theorem dX12_isPart_5 : decode cX12_isPart 5 = .ok (.if_icmp .eq 38, 3) := by decide +kernel
theorem dX12_isPart_8 : decode cX12_isPart 8 = .ok (.aload_n 0, 1) := by decide +kernel
theorem dX12_isPart_9 : decode cX12_isPart 9 = .ok (.getfield 143, 3) := by decide +kernel
theorem dX12_isPart_12 : decode cX12_isPart 12 = .ok (.iconst 3, 1) := by decide +kernel
theorem dX12_isPart_13 : decode cX12_isPart 13 = .ok (.if_icmp .eq 30, 3) := by decide +kernel
theorem dX12_isPart_16 : decode cX12_isPart 16 = .ok (.aload_n 0, 1) := by decide +kernel
theorem dX12_isPart_17 : decode cX12_isPart 17 = .ok (.bipush 91, 2) := by decide +kernel
theorem dX12_isPart_19 : decode cX12_isPart 19 = .ok (.invokevirtual 187, 3) := by decide +kernel
theorem dX12_isPart_22 : decode cX12_isPart 22 = .ok (.ifCond .ne 21, 3) := by decide +kernel
theorem dX12_isPart_25 : decode cX12_isPart 25 = .ok (.aload_n 0, 1) := by decide +kernel
theorem dX12_isPart_26 : decode cX12_isPart 26 = .ok (.bipush 40, 2) := by decide +kernel
theorem dX12_isPart_28 : decode cX12_isPart 28 = .ok (.invokevirtual 187, 3) := by decide +kernel
theorem dX12_isPart_31 : decode cX12_isPart 31 = .ok (.ifCond .ne 12, 3) := by decide +kernel
theorem dX12_isPart_34 : decode cX12_isPart 34 = .ok (.aload_n 0, 1) := by decide +kernel
theorem dX12_isPart_35 : decode cX12_isPart 35 = .ok (.bipush 123, 2) := by decide +kernel
theorem dX12_isPart_37 : decode cX12_isPart 37 = .ok (.invokevirtual 187, 3) := by decide +kernel
theorem dX12_isPart_40 : decode cX12_isPart 40 = .ok (.ifCond .eq 7, 3) := by decide +kernel
theorem dX12_isPart_43 : decode cX12_isPart 43 = .ok (.iconst 1, 1) := by decide +kernel
theorem dX12_isPart_44 : decode cX12_isPart 44 = .ok (.goto 4, 3) := by decide +kernel
theorem dX12_isPart_47 : decode cX12_isPart 47 = .ok (.iconst 0, 1) := by decide +kernel
theorem dX12_isPart_48 : decode cX12_isPart 48 = .ok (.ireturn, 1) := by decide +kernel
theorem dX12_readForm_0 : decode cX12_readForm 0 = .ok (.aload_n 0, 1) := by decide +kernel
theorem dX12_readForm_1 : decode cX12_readForm 1 = .ok (.iconst 0, 1) := by decide +kernel
theorem dX12_readForm_2 : decode cX12_readForm 2 = .ok (.lconst 0, 1) := by decide +kernel
theorem dX12_readForm_3 : decode cX12_readForm 3 = .ok (.lconst 0, 1) := by decide +kernel
theorem dX12_readForm_4 : decode cX12_readForm 4 = .ok (.invokevirtual 190, 3) := by decide +kernel
theorem dX12_readForm_7 : decode cX12_readForm 7 = .ok (.istore_n 1, 1) := by decide +kernel
theorem dX12_readForm_8 : decode cX12_readForm 8 = .ok (.iconst (-1), 1) := by decide +kernel
theorem dX12_readForm_9 : decode cX12_readForm 9 = .ok (.istore_n 2, 1) := by decide +kernel
theorem dX12_readForm_10 : decode cX12_readForm 10 = .ok (.iconst 1, 1) := by decide +kernel
theorem dX12_readForm_11 : decode cX12_readForm 11 = .ok (.istore_n 3, 1) := by decide +kernel
theorem dX12_readForm_12 : decode cX12_readForm 12 = .ok (.iload_n 3, 1) := by decide +kernel
theorem dX12_readForm_13 : decode cX12_readForm 13 = .ok (.ifCond .eq 47, 3) := by decide +kernel
theorem dX12_readForm_16 : decode cX12_readForm 16 = .ok (.aload_n 0, 1) := by decide +kernel
theorem dX12_readForm_17 : decode cX12_readForm 17 = .ok (.invokevirtual 194, 3) := by decide +kernel
theorem dX12_readForm_20 : decode cX12_readForm 20 = .ok (.istore 4, 2) := by decide +kernel
theorem dX12_readForm_22 : decode cX12_readForm 22 = .ok (.iload 4, 2) := by decide +kernel
theorem dX12_readForm_24 : decode cX12_readForm 24 = .ok (.iconst (-1), 1) := by decide +kernel
theorem dX12_readForm_25 : decode cX12_readForm 25 = .ok (.if_icmp .ne 5, 3) := by decide +kernel
theorem dX12_readForm_28 : decode cX12_readForm 28 = .ok (.iconst (-1), 1) := by decide +kernel
theorem dX12_readForm_29 : decode cX12_readForm 29 = .ok (.ireturn, 1) := by decide +kernel
theorem dX12_readForm_30 : decode cX12_readForm 30 = .ok (.aload_n 0, 1) := by decide +kernel
theorem dX12_readForm_31 : decode cX12_readForm 31 = .ok (.iload_n 1, 1) := by decide +kernel
theorem dX12_readForm_32 : decode cX12_readForm 32 = .ok (.iload_n 2, 1) := by decide +kernel
theorem dX12_readForm_33 : decode cX12_readForm 33 = .ok (.iload 4, 2) := by decide +kernel
theorem dX12_readForm_35 : decode cX12_readForm 35 = .ok (.invokevirtual 198, 3) := by decide +kernel
theorem dX12_readForm_38 : decode cX12_readForm 38 = .ok (.iload 4, 2) := by decide +kernel
theorem dX12_readForm_40 : decode cX12_readForm 40 = .ok (.istore_n 2, 1) := by decide +kernel
theorem dX12_readForm_41 : decode cX12_readForm 41 = .ok (.aload_n 0, 1) := by decide +kernel
theorem dX12_readForm_42 : decode cX12_readForm 42 = .ok (.bipush 124, 2) := by decide +kernel
theorem dX12_readForm_44 : decode cX12_readForm 44 = .ok (.invokevirtual 187, 3) := by decide +kernel
theorem dX12_readForm_47 : decode cX12_readForm 47 = .ok (.istore_n 3, 1) := by decide +kernel
theorem dX12_readForm_48 : decode cX12_readForm 48 = .ok (.iload_n 3, 1) := by decide +kernel
theorem dX12_readForm_49 : decode cX12_readForm 49 = .ok (.ifCond .eq 8, 3) := by decide +kernel
theorem dX12_readForm_52 : decode cX12_readForm 52 = .ok (.aload_n 0, 1) := by decide +kernel
theorem dX12_readForm_53 : decode cX12_readForm 53 = .ok (.iconst 1, 1) := by decide +kernel
theorem dX12_readForm_54 : decode cX12_readForm 54 = .ok (.invokevirtual 202, 3) := by decide +kernel
theorem dX12_readForm_57 : decode cX12_readForm 57 = .ok (.goto (-45), 3) := by decide +kernel
theorem dX12_readForm_60 : decode cX12_readForm 60 = .ok (.iload_n 1, 1) := by decide +kernel
theorem dX12_readForm_61 : decode cX12_readForm 61 = .ok (.ireturn, 1) := by decide +kernel
theorem dX12_readRow_0 : decode cX12_readRow 0 = .ok (.aload_n 0, 1) := by decide +kernel
theorem dX12_readRow_1 : decode cX12_readRow 1 = .ok (.iconst 1, 1) := by decide +kernel
theorem dX12_readRow_2 : decode cX12_readRow 2 = .ok (.lconst 0, 1) := by decide +kernel
theorem dX12_readRow_3 : decode cX12_readRow 3 = .ok (.lconst 0, 1) := by decide +kernel
theorem dX12_readRow_4 : decode cX12_readRow 4 = .ok (.invokevirtual 190, 3) := by decide +kernel
theorem dX12_readRow_7 : decode cX12_readRow 7 = .ok (.istore_n 1, 1) := by decide +kernel
theorem dX12_readRow_8 : decode cX12_readRow 8 = .ok (.iconst (-1), 1) := by decide +kernel
theorem dX12_readRow_9 : decode cX12_readRow 9 = .ok (.istore_n 2, 1) := by decide +kernel
theorem dX12_readRow_10 : decode cX12_readRow 10 = .ok (.aload_n 0, 1) := by decide +kernel
theorem dX12_readRow_11 : decode cX12_readRow 11 = .ok (.invokevirtual 206, 3) := by decide +kernel
theorem dX12_readRow_14 : decode cX12_readRow 14 = .ok (.istore_n 3, 1) := by decide +kernel
theorem dX12_readRow_15 : decode cX12_readRow 15 = .ok (.iload_n 3, 1) := by decide +kernel
theorem dX12_readRow_16 : decode cX12_readRow 16 = .ok (.iconst (-1), 1) := by decide +kernel
theorem dX12_readRow_17 : decode cX12_readRow 17 = .ok (.if_icmp .ne 5, 3) := by decide +kernel
theorem dX12_readRow_20 : decode cX12_readRow 20 = .ok (.iconst (-1), 1) := by decide +kernel
theorem dX12_readRow_21 : decode cX12_readRow 21 = .ok (.ireturn, 1) := by decide +kernel
theorem dX12_readRow_22 : decode cX12_readRow 22 = .ok (.aload_n 0, 1) := by decide +kernel
theorem dX12_readRow_23 : decode cX12_readRow 23 = .ok (.iload_n 1, 1) := by decide +kernel
theorem dX12_readRow_24 : decode cX12_readRow 24 = .ok (.iload_n 2, 1) := by decide +kernel
theorem dX12_readRow_25 : decode cX12_readRow 25 = .ok (.iload_n 3, 1) := by decide +kernel
theorem dX12_readRow_26 : decode cX12_readRow 26 = .ok (.invokevirtual 198, 3) := by decide +kernel
theorem dX12_readRow_29 : decode cX12_readRow 29 = .ok (.iload_n 3, 1) := by decide +kernel
theorem dX12_readRow_30 : decode cX12_readRow 30 = .ok (.istore_n 2, 1) := by decide +kernel
theorem dX12_readRow_31 : decode cX12_readRow 31 = .ok (.aload_n 0, 1) := by decide +kernel
theorem dX12_readRow_32 : decode cX12_readRow 32 = .ok (.invokevirtual 209, 3) := by decide +kernel
theorem dX12_readRow_35 : decode cX12_readRow 35 = .ok (.ifCond .ne (-25), 3) := by decide +kernel
theorem dX12_readRow_38 : decode cX12_readRow 38 = .ok (.iload_n 1, 1) := by decide +kernel
theorem dX12_readRow_39 : decode cX12_readRow 39 = .ok (.ireturn, 1) := by decide +kernel
theorem dX12_none_0 : decode cX12_none 0 = .ok (.aload_n 0, 1) := by decide +kernel
theorem dX12_none_1 : decode cX12_none 1 = .ok (.iload_n 1, 1) := by decide +kernel
theorem dX12_none_2 : decode cX12_none 2 = .ok (.invokevirtual 213, 3) := by decide +kernel
theorem dX12_none_5 : decode cX12_none 5 = .ok (.pop, 1) := by decide +kernel
theorem dX12_none_6 : decode cX12_none 6 = .ok (.iconst (-1), 1) := by decide +kernel
theorem dX12_none_7 : decode cX12_none 7 = .ok (.ireturn, 1) := by decide +kernel
theorem dX12_readPart_0 : decode cX12_readPart 0 = .ok (.aload_n 0, 1) := by decide +kernel
theorem dX12_readPart_1 : decode cX12_readPart 1 = .ok (.invokevirtual 209, 3) := by decide +kernel
theorem dX12_readPart_4 : decode cX12_readPart 4 = .ok (.ifCond .ne 9, 3) := by decide +kernel
theorem dX12_readPart_7 : decode cX12_readPart 7 = .ok (.aload_n 0, 1) := by decide +kernel
theorem dX12_readPart_8 : decode cX12_readPart 8 = .ok (.iconst 1, 1) := by decide +kernel
theorem dX12_readPart_9 : decode cX12_readPart 9 = .ok (.invokevirtual 216, 3) := by decide +kernel
theorem dX12_readPart_12 : decode cX12_readPart 12 = .ok (.ireturn, 1) := by decide +kernel
theorem dX12_readPart_13 : decode cX12_readPart 13 = .ok (.aload_n 0, 1) := by decide +kernel
theorem dX12_readPart_14 : decode cX12_readPart 14 = .ok (.getfield 143, 3) := by decide +kernel
theorem dX12_readPart_17 : decode cX12_readPart 17 = .ok (.iconst 2, 1) := by decide +kernel
theorem dX12_readPart_18 : decode cX12_readPart 18 = .ok (.if_icmp .ne 24, 3) := by decide +kernel
theorem dX12_readPart_21 : decode cX12_readPart 21 = .ok (.aload_n 0, 1) := by decide +kernel
theorem dX12_readPart_22 : decode cX12_readPart 22 = .ok (.iconst 2, 1) := by decide +kernel
theorem dX12_readPart_23 : decode cX12_readPart 23 = .ok (.aload_n 0, 1) := by decide +kernel
theorem dX12_readPart_24 : decode cX12_readPart 24 = .ok (.getfield 163, 3) := by decide +kernel
theorem dX12_readPart_27 : decode cX12_readPart 27 = .ok (.aload_n 0, 1) := by decide +kernel
theorem dX12_readPart_28 : decode cX12_readPart 28 = .ok (.getfield 163, 3) := by decide +kernel
theorem dX12_readPart_31 : decode cX12_readPart 31 = .ok (.invokevirtual 190, 3) := by decide +kernel
theorem dX12_readPart_34 : decode cX12_readPart 34 = .ok (.istore_n 1, 1) := by decide +kernel
theorem dX12_readPart_35 : decode cX12_readPart 35 = .ok (.aload_n 0, 1) := by decide +kernel
theorem dX12_readPart_36 : decode cX12_readPart 36 = .ok (.iconst 1, 1) := by decide +kernel
theorem dX12_readPart_37 : decode cX12_readPart 37 = .ok (.invokevirtual 202, 3) := by decide +kernel
theorem dX12_readPart_40 : decode cX12_readPart 40 = .ok (.iload_n 1, 1) := by decide +kernel
theorem dX12_readPart_41 : decode cX12_readPart 41 = .ok (.ireturn, 1) := by decide +kernel
theorem dX12_readPart_42 : decode cX12_readPart 42 = .ok (.aload_n 0, 1) := by decide +kernel
theorem dX12_readPart_43 : decode cX12_readPart 43 = .ok (.getfield 143, 3) := by decide +kernel
theorem dX12_readPart_46 : decode cX12_readPart 46 = .ok (.iconst 3, 1) := by decide +kernel
theorem dX12_readPart_47 : decode cX12_readPart 47 = .ok (.if_icmp .ne 96, 3) := by decide +kernel
theorem dX12_readPart_50 : decode cX12_readPart 50 = .ok (.aload_n 0, 1) := by decide +kernel
theorem dX12_readPart_51 : decode cX12_readPart 51 = .ok (.iconst 3, 1) := by decide +kernel
theorem dX12_readPart_52 : decode cX12_readPart 52 = .ok (.aload_n 0, 1) := by decide +kernel
theorem dX12_readPart_53 : decode cX12_readPart 53 = .ok (.getfield 163, 3) := by decide +kernel
theorem dX12_readPart_56 : decode cX12_readPart 56 = .ok (.aload_n 0, 1) := by decide +kernel
theorem dX12_readPart_57 : decode cX12_readPart 57 = .ok (.getfield 163, 3) := by decide +kernel
theorem dX12_readPart_60 : decode cX12_readPart 60 = .ok (.invokevirtual 190, 3) := by decide +kernel
theorem dX12_readPart_63 : decode cX12_readPart 63 = .ok (.istore_n 1, 1) := by decide +kernel
theorem dX12_readPart_64 : decode cX12_readPart 64 = .ok (.aload_n 0, 1) := by decide +kernel
theorem dX12_readPart_65 : decode cX12_readPart 65 = .ok (.iconst 1, 1) := by decide +kernel
theorem dX12_readPart_66 : decode cX12_readPart 66 = .ok (.invokevirtual 202, 3) := by decide +kernel
theorem dX12_readPart_69 : decode cX12_readPart 69 = .ok (.aload_n 0, 1) := by decide +kernel
theorem dX12_readPart_70 : decode cX12_readPart 70 = .ok (.bipush 46, 2) := by decide +kernel
theorem dX12_readPart_72 : decode cX12_readPart 72 = .ok (.invokevirtual 187, 3) := by decide +kernel
theorem dX12_readPart_75 : decode cX12_readPart 75 = .ok (.ifCond .ne 5, 3) := by decide +kernel
theorem dX12_readPart_78 : decode cX12_readPart 78 = .ok (.iload_n 1, 1) := by decide +kernel
theorem dX12_readPart_79 : decode cX12_readPart 79 = .ok (.ireturn, 1) := by decide +kernel
theorem dX12_readPart_80 : decode cX12_readPart 80 = .ok (.aload_n 0, 1) := by decide +kernel
theorem dX12_readPart_81 : decode cX12_readPart 81 = .ok (.iconst 1, 1) := by decide +kernel
theorem dX12_readPart_82 : decode cX12_readPart 82 = .ok (.invokevirtual 202, 3) := by decide +kernel
theorem dX12_readPart_85 : decode cX12_readPart 85 = .ok (.aload_n 0, 1) := by decide +kernel
theorem dX12_readPart_86 : decode cX12_readPart 86 = .ok (.getfield 143, 3) := by decide +kernel
theorem dX12_readPart_89 : decode cX12_readPart 89 = .ok (.iconst 3, 1) := by decide +kernel
theorem dX12_readPart_90 : decode cX12_readPart 90 = .ok (.if_icmp .eq 9, 3) := by decide +kernel
theorem dX12_readPart_93 : decode cX12_readPart 93 = .ok (.aload_n 0, 1) := by decide +kernel
theorem dX12_readPart_94 : decode cX12_readPart 94 = .ok (.iconst 1, 1) := by decide +kernel
theorem dX12_readPart_95 : decode cX12_readPart 95 = .ok (.invokevirtual 216, 3) := by decide +kernel
theorem dX12_readPart_98 : decode cX12_readPart 98 = .ok (.ireturn, 1) := by decide +kernel
theorem dX12_readPart_99 : decode cX12_readPart 99 = .ok (.aload_n 0, 1) := by decide +kernel
theorem dX12_readPart_100 : decode cX12_readPart 100 = .ok (.getfield 163, 3) := by decide +kernel
theorem dX12_readPart_103 : decode cX12_readPart 103 = .ok (.aload_n 0, 1) := by decide +kernel
theorem dX12_readPart_104 : decode cX12_readPart 104 = .ok (.getfield 22, 3) := by decide +kernel
theorem dX12_readPart_107 : decode cX12_readPart 107 = .ok (.iload_n 1, 1) := by decide +kernel
theorem dX12_readPart_108 : decode cX12_readPart 108 = .ok (.laload, 1) := by decide +kernel
theorem dX12_readPart_109 : decode cX12_readPart 109 = .ok (.lcmp, 1) := by decide +kernel
theorem dX12_readPart_110 : decode cX12_readPart 110 = .ok (.ifCond .ge 9, 3) := by decide +kernel
theorem dX12_readPart_113 : decode cX12_readPart 113 = .ok (.aload_n 0, 1) := by decide +kernel
theorem dX12_readPart_114 : decode cX12_readPart 114 = .ok (.iconst 2, 1) := by decide +kernel
theorem dX12_readPart_115 : decode cX12_readPart 115 = .ok (.invokevirtual 216, 3) := by decide +kernel
theorem dX12_readPart_118 : decode cX12_readPart 118 = .ok (.ireturn, 1) := by decide +kernel
theorem dX12_readPart_119 : decode cX12_readPart 119 = .ok (.aload_n 0, 1) := by decide +kernel
theorem dX12_readPart_120 : decode cX12_readPart 120 = .ok (.getfield 13, 3) := by decide +kernel
theorem dX12_readPart_123 : decode cX12_readPart 123 = .ok (.iload_n 1, 1) := by decide +kernel
theorem dX12_readPart_124 : decode cX12_readPart 124 = .ok (.iconst 4, 1) := by decide +kernel
theorem dX12_readPart_125 : decode cX12_readPart 125 = .ok (.iastore, 1) := by decide +kernel
theorem dX12_readPart_126 : decode cX12_readPart 126 = .ok (.aload_n 0, 1) := by decide +kernel
theorem dX12_readPart_127 : decode cX12_readPart 127 = .ok (.getfield 26, 3) := by decide +kernel
theorem dX12_readPart_130 : decode cX12_readPart 130 = .ok (.iload_n 1, 1) := by decide +kernel
theorem dX12_readPart_131 : decode cX12_readPart 131 = .ok (.aload_n 0, 1) := by decide +kernel
theorem dX12_readPart_132 : decode cX12_readPart 132 = .ok (.getfield 163, 3) := by decide +kernel
theorem dX12_readPart_135 : decode cX12_readPart 135 = .ok (.lastore, 1) := by decide +kernel
theorem dX12_readPart_136 : decode cX12_readPart 136 = .ok (.aload_n 0, 1) := by decide +kernel
theorem dX12_readPart_137 : decode cX12_readPart 137 = .ok (.iconst 1, 1) := by decide +kernel
theorem dX12_readPart_138 : decode cX12_readPart 138 = .ok (.invokevirtual 202, 3) := by decide +kernel
theorem dX12_readPart_141 : decode cX12_readPart 141 = .ok (.iload_n 1, 1) := by decide +kernel
theorem dX12_readPart_142 : decode cX12_readPart 142 = .ok (.ireturn, 1) := by decide +kernel
theorem dX12_readPart_143 : decode cX12_readPart 143 = .ok (.aload_n 0, 1) := by decide +kernel
theorem dX12_readPart_144 : decode cX12_readPart 144 = .ok (.getfield 219, 3) := by decide +kernel
theorem dX12_readPart_147 : decode cX12_readPart 147 = .ok (.bipush 6, 2) := by decide +kernel
theorem dX12_readPart_149 : decode cX12_readPart 149 = .ok (.if_icmp .ne 9, 3) := by decide +kernel
theorem dX12_readPart_152 : decode cX12_readPart 152 = .ok (.aload_n 0, 1) := by decide +kernel
theorem dX12_readPart_153 : decode cX12_readPart 153 = .ok (.iconst 3, 1) := by decide +kernel
theorem dX12_readPart_154 : decode cX12_readPart 154 = .ok (.invokevirtual 216, 3) := by decide +kernel
theorem dX12_readPart_157 : decode cX12_readPart 157 = .ok (.ireturn, 1) := by decide +kernel
theorem dX12_readPart_158 : decode cX12_readPart 158 = .ok (.aload_n 0, 1) := by decide +kernel
theorem dX12_readPart_159 : decode cX12_readPart 159 = .ok (.dup, 1) := by decide +kernel
theorem dX12_readPart_160 : decode cX12_readPart 160 = .ok (.getfield 219, 3) := by decide +kernel
theorem dX12_readPart_163 : decode cX12_readPart 163 = .ok (.iconst 1, 1) := by decide +kernel
theorem dX12_readPart_164 : decode cX12_readPart 164 = .ok (.iadd, 1) := by decide +kernel
theorem dX12_readPart_165 : decode cX12_readPart 165 = .ok (.putfield 219, 3) := by decide +kernel
theorem dX12_readPart_168 : decode cX12_readPart 168 = .ok (.aload_n 0, 1) := by decide +kernel
theorem dX12_readPart_169 : decode cX12_readPart 169 = .ok (.getfield 156, 3) := by decide +kernel
theorem dX12_readPart_172 : decode cX12_readPart 172 = .ok (.istore_n 1, 1) := by decide +kernel
theorem dX12_readPart_173 : decode cX12_readPart 173 = .ok (.aload_n 0, 1) := by decide +kernel
theorem dX12_readPart_174 : decode cX12_readPart 174 = .ok (.iload_n 1, 1) := by decide +kernel
theorem dX12_readPart_175 : decode cX12_readPart 175 = .ok (.bipush 91, 2) := by decide +kernel
theorem dX12_readPart_177 : decode cX12_readPart 177 = .ok (.if_icmp .ne 7, 3) := by decide +kernel
theorem dX12_readPart_180 : decode cX12_readPart 180 = .ok (.iconst 5, 1) := by decide +kernel
theorem dX12_readPart_181 : decode cX12_readPart 181 = .ok (.goto 16, 3) := by decide +kernel
theorem dX12_readPart_184 : decode cX12_readPart 184 = .ok (.iload_n 1, 1) := by decide +kernel
theorem dX12_readPart_185 : decode cX12_readPart 185 = .ok (.bipush 40, 2) := by decide +kernel
theorem dX12_readPart_187 : decode cX12_readPart 187 = .ok (.if_icmp .ne 8, 3) := by decide +kernel
theorem dX12_readPart_190 : decode cX12_readPart 190 = .ok (.bipush 6, 2) := by decide +kernel
theorem dX12_readPart_192 : decode cX12_readPart 192 = .ok (.goto 5, 3) := by decide +kernel
theorem dX12_readPart_195 : decode cX12_readPart 195 = .ok (.bipush 7, 2) := by decide +kernel
theorem dX12_readPart_197 : decode cX12_readPart 197 = .ok (.lconst 0, 1) := by decide +kernel
theorem dX12_readPart_198 : decode cX12_readPart 198 = .ok (.lconst 0, 1) := by decide +kernel
theorem dX12_readPart_199 : decode cX12_readPart 199 = .ok (.invokevirtual 190, 3) := by decide +kernel
theorem dX12_readPart_202 : decode cX12_readPart 202 = .ok (.istore_n 2, 1) := by decide +kernel
theorem dX12_readPart_203 : decode cX12_readPart 203 = .ok (.aload_n 0, 1) := by decide +kernel
theorem dX12_readPart_204 : decode cX12_readPart 204 = .ok (.iconst 1, 1) := by decide +kernel
theorem dX12_readPart_205 : decode cX12_readPart 205 = .ok (.invokevirtual 202, 3) := by decide +kernel
theorem dX12_readPart_208 : decode cX12_readPart 208 = .ok (.iconst (-1), 1) := by decide +kernel
theorem dX12_readPart_209 : decode cX12_readPart 209 = .ok (.istore_n 3, 1) := by decide +kernel
theorem dX12_readPart_210 : decode cX12_readPart 210 = .ok (.iconst 0, 1) := by decide +kernel
theorem dX12_readPart_211 : decode cX12_readPart 211 = .ok (.istore 4, 2) := by decide +kernel
theorem dX12_readPart_213 : decode cX12_readPart 213 = .ok (.iconst 1, 1) := by decide +kernel
theorem dX12_readPart_214 : decode cX12_readPart 214 = .ok (.istore 5, 2) := by decide +kernel
theorem dX12_readPart_216 : decode cX12_readPart 216 = .ok (.iload 5, 2) := by decide +kernel
theorem dX12_readPart_218 : decode cX12_readPart 218 = .ok (.ifCond .eq 83, 3) := by decide +kernel
theorem dX12_readPart_221 : decode cX12_readPart 221 = .ok (.aload_n 0, 1) := by decide +kernel
theorem dX12_readPart_222 : decode cX12_readPart 222 = .ok (.invokevirtual 222, 3) := by decide +kernel
theorem dX12_readPart_225 : decode cX12_readPart 225 = .ok (.istore 6, 2) := by decide +kernel
theorem dX12_readPart_227 : decode cX12_readPart 227 = .ok (.iload 6, 2) := by decide +kernel
theorem dX12_readPart_229 : decode cX12_readPart 229 = .ok (.iconst (-1), 1) := by decide +kernel
theorem dX12_readPart_230 : decode cX12_readPart 230 = .ok (.if_icmp .ne 5, 3) := by decide +kernel
theorem dX12_readPart_233 : decode cX12_readPart 233 = .ok (.iconst (-1), 1) := by decide +kernel
theorem dX12_readPart_234 : decode cX12_readPart 234 = .ok (.ireturn, 1) := by decide +kernel
theorem dX12_readPart_235 : decode cX12_readPart 235 = .ok (.aload_n 0, 1) := by decide +kernel
theorem dX12_readPart_236 : decode cX12_readPart 236 = .ok (.iload_n 2, 1) := by decide +kernel
theorem dX12_readPart_237 : decode cX12_readPart 237 = .ok (.iload_n 3, 1) := by decide +kernel
theorem dX12_readPart_238 : decode cX12_readPart 238 = .ok (.iload 6, 2) := by decide +kernel
theorem dX12_readPart_240 : decode cX12_readPart 240 = .ok (.invokevirtual 198, 3) := by decide +kernel
theorem dX12_readPart_243 : decode cX12_readPart 243 = .ok (.iload 6, 2) := by decide +kernel
theorem dX12_readPart_245 : decode cX12_readPart 245 = .ok (.istore_n 3, 1) := by decide +kernel
theorem dX12_readPart_246 : decode cX12_readPart 246 = .ok (.iinc 4 1, 3) := by decide +kernel
theorem dX12_readPart_249 : decode cX12_readPart 249 = .ok (.iload_n 1, 1) := by decide +kernel
theorem dX12_readPart_250 : decode cX12_readPart 250 = .ok (.bipush 123, 2) := by decide +kernel
theorem dX12_readPart_252 : decode cX12_readPart 252 = .ok (.if_icmp .ne 16, 3) := by decide +kernel
theorem dX12_readPart_255 : decode cX12_readPart 255 = .ok (.aload_n 0, 1) := by decide +kernel
theorem dX12_readPart_256 : decode cX12_readPart 256 = .ok (.bipush 44, 2) := by decide +kernel
theorem dX12_readPart_258 : decode cX12_readPart 258 = .ok (.invokevirtual 187, 3) := by decide +kernel
theorem dX12_readPart_261 : decode cX12_readPart 261 = .ok (.ifCond .eq 7, 3) := by decide +kernel
theorem dX12_readPart_264 : decode cX12_readPart 264 = .ok (.iconst 1, 1) := by decide +kernel
theorem dX12_readPart_265 : decode cX12_readPart 265 = .ok (.goto 4, 3) := by decide +kernel
theorem dX12_readPart_268 : decode cX12_readPart 268 = .ok (.iconst 0, 1) := by decide +kernel
theorem dX12_readPart_269 : decode cX12_readPart 269 = .ok (.istore 5, 2) := by decide +kernel
theorem dX12_readPart_271 : decode cX12_readPart 271 = .ok (.iload 5, 2) := by decide +kernel
theorem dX12_readPart_273 : decode cX12_readPart 273 = .ok (.ifCond .eq 15, 3) := by decide +kernel
theorem dX12_readPart_276 : decode cX12_readPart 276 = .ok (.iload 4, 2) := by decide +kernel
theorem dX12_readPart_278 : decode cX12_readPart 278 = .ok (.iconst 5, 1) := by decide +kernel
theorem dX12_readPart_279 : decode cX12_readPart 279 = .ok (.if_icmp .ne 9, 3) := by decide +kernel
theorem dX12_readPart_282 : decode cX12_readPart 282 = .ok (.aload_n 0, 1) := by decide +kernel
theorem dX12_readPart_283 : decode cX12_readPart 283 = .ok (.iconst 3, 1) := by decide +kernel
theorem dX12_readPart_284 : decode cX12_readPart 284 = .ok (.invokevirtual 216, 3) := by decide +kernel
theorem dX12_readPart_287 : decode cX12_readPart 287 = .ok (.ireturn, 1) := by decide +kernel
theorem dX12_readPart_288 : decode cX12_readPart 288 = .ok (.iload 5, 2) := by decide +kernel
theorem dX12_readPart_290 : decode cX12_readPart 290 = .ok (.ifCond .eq 8, 3) := by decide +kernel
theorem dX12_readPart_293 : decode cX12_readPart 293 = .ok (.aload_n 0, 1) := by decide +kernel
theorem dX12_readPart_294 : decode cX12_readPart 294 = .ok (.iconst 1, 1) := by decide +kernel
theorem dX12_readPart_295 : decode cX12_readPart 295 = .ok (.invokevirtual 202, 3) := by decide +kernel
theorem dX12_readPart_298 : decode cX12_readPart 298 = .ok (.goto (-82), 3) := by decide +kernel
theorem dX12_readPart_301 : decode cX12_readPart 301 = .ok (.aload_n 0, 1) := by decide +kernel
theorem dX12_readPart_302 : decode cX12_readPart 302 = .ok (.iload_n 1, 1) := by decide +kernel
theorem dX12_readPart_303 : decode cX12_readPart 303 = .ok (.bipush 91, 2) := by decide +kernel
theorem dX12_readPart_305 : decode cX12_readPart 305 = .ok (.if_icmp .ne 8, 3) := by decide +kernel
theorem dX12_readPart_308 : decode cX12_readPart 308 = .ok (.bipush 93, 2) := by decide +kernel
theorem dX12_readPart_310 : decode cX12_readPart 310 = .ok (.goto 16, 3) := by decide +kernel
theorem dX12_readPart_313 : decode cX12_readPart 313 = .ok (.iload_n 1, 1) := by decide +kernel
theorem dX12_readPart_314 : decode cX12_readPart 314 = .ok (.bipush 40, 2) := by decide +kernel
theorem dX12_readPart_316 : decode cX12_readPart 316 = .ok (.if_icmp .ne 8, 3) := by decide +kernel
theorem dX12_readPart_319 : decode cX12_readPart 319 = .ok (.bipush 41, 2) := by decide +kernel
theorem dX12_readPart_321 : decode cX12_readPart 321 = .ok (.goto 5, 3) := by decide +kernel
theorem dX12_readPart_324 : decode cX12_readPart 324 = .ok (.bipush 125, 2) := by decide +kernel
theorem dX12_readPart_326 : decode cX12_readPart 326 = .ok (.invokevirtual 187, 3) := by decide +kernel
theorem dX12_readPart_329 : decode cX12_readPart 329 = .ok (.ifCond .ne 9, 3) := by decide +kernel
theorem dX12_readPart_332 : decode cX12_readPart 332 = .ok (.aload_n 0, 1) := by decide +kernel
theorem dX12_readPart_333 : decode cX12_readPart 333 = .ok (.iconst 1, 1) := by decide +kernel
theorem dX12_readPart_334 : decode cX12_readPart 334 = .ok (.invokevirtual 216, 3) := by decide +kernel
theorem dX12_readPart_337 : decode cX12_readPart 337 = .ok (.ireturn, 1) := by decide +kernel
theorem dX12_readPart_338 : decode cX12_readPart 338 = .ok (.aload_n 0, 1) := by decide +kernel
theorem dX12_readPart_339 : decode cX12_readPart 339 = .ok (.dup, 1) := by decide +kernel
theorem dX12_readPart_340 : decode cX12_readPart 340 = .ok (.getfield 219, 3) := by decide +kernel
theorem dX12_readPart_343 : decode cX12_readPart 343 = .ok (.iconst 1, 1) := by decide +kernel
theorem dX12_readPart_344 : decode cX12_readPart 344 = .ok (.isub, 1) := by decide +kernel
theorem dX12_readPart_345 : decode cX12_readPart 345 = .ok (.putfield 219, 3) := by decide +kernel
theorem dX12_readPart_348 : decode cX12_readPart 348 = .ok (.aload_n 0, 1) := by decide +kernel
theorem dX12_readPart_349 : decode cX12_readPart 349 = .ok (.iconst 1, 1) := by decide +kernel
theorem dX12_readPart_350 : decode cX12_readPart 350 = .ok (.invokevirtual 202, 3) := by decide +kernel
theorem dX12_readPart_353 : decode cX12_readPart 353 = .ok (.iload_n 2, 1) := by decide +kernel
theorem dX12_readPart_354 : decode cX12_readPart 354 = .ok (.ireturn, 1) := by decide +kernel
theorem dX12_question_0 : decode cX12_question 0 = .ok (.aload_n 0, 1) := by decide +kernel
theorem dX12_question_1 : decode cX12_question 1 = .ok (.iconst 0, 1) := by decide +kernel
theorem dX12_question_2 : decode cX12_question 2 = .ok (.putfield 123, 3) := by decide +kernel
theorem dX12_question_5 : decode cX12_question 5 = .ok (.aload_n 0, 1) := by decide +kernel
theorem dX12_question_6 : decode cX12_question 6 = .ok (.aload_n 0, 1) := by decide +kernel
theorem dX12_question_7 : decode cX12_question 7 = .ok (.getfield 127, 3) := by decide +kernel
theorem dX12_question_10 : decode cX12_question 10 = .ok (.putfield 134, 3) := by decide +kernel
theorem dX12_question_13 : decode cX12_question 13 = .ok (.aload_n 0, 1) := by decide +kernel
theorem dX12_question_14 : decode cX12_question 14 = .ok (.iconst 0, 1) := by decide +kernel
theorem dX12_question_15 : decode cX12_question 15 = .ok (.putfield 127, 3) := by decide +kernel
theorem dX12_question_18 : decode cX12_question 18 = .ok (.aload_n 0, 1) := by decide +kernel
theorem dX12_question_19 : decode cX12_question 19 = .ok (.getfield 181, 3) := by decide +kernel
theorem dX12_question_22 : decode cX12_question 22 = .ok (.bipush 60, 2) := by decide +kernel
theorem dX12_question_24 : decode cX12_question 24 = .ok (.if_icmp .eq 13, 3) := by decide +kernel
theorem dX12_question_27 : decode cX12_question 27 = .ok (.iload_n 1, 1) := by decide +kernel
theorem dX12_question_28 : decode cX12_question 28 = .ok (.ifCond .lt 9, 3) := by decide +kernel
theorem dX12_question_31 : decode cX12_question 31 = .ok (.iload_n 1, 1) := by decide +kernel
theorem dX12_question_32 : decode cX12_question 32 = .ok (.bipush 8, 2) := by decide +kernel
theorem dX12_question_34 : decode cX12_question 34 = .ok (.if_icmp .lt 7, 3) := by decide +kernel
theorem dX12_question_37 : decode cX12_question 37 = .ok (.sipush (-300), 3) := by decide +kernel
theorem dX12_question_40 : decode cX12_question 40 = .ok (.ireturn, 1) := by decide +kernel
theorem dX12_question_41 : decode cX12_question 41 = .ok (.aload_n 0, 1) := by decide +kernel
theorem dX12_question_42 : decode cX12_question 42 = .ok (.iconst 0, 1) := by decide +kernel
theorem dX12_question_43 : decode cX12_question 43 = .ok (.putfield 137, 3) := by decide +kernel
theorem dX12_question_46 : decode cX12_question 46 = .ok (.aload_n 0, 1) := by decide +kernel
theorem dX12_question_47 : decode cX12_question 47 = .ok (.iconst 0, 1) := by decide +kernel
theorem dX12_question_48 : decode cX12_question 48 = .ok (.putfield 184, 3) := by decide +kernel
theorem dX12_question_51 : decode cX12_question 51 = .ok (.aload_n 0, 1) := by decide +kernel
theorem dX12_question_52 : decode cX12_question 52 = .ok (.iconst 0, 1) := by decide +kernel
theorem dX12_question_53 : decode cX12_question 53 = .ok (.putfield 219, 3) := by decide +kernel
theorem dX12_question_56 : decode cX12_question 56 = .ok (.aload_n 0, 1) := by decide +kernel
theorem dX12_question_57 : decode cX12_question 57 = .ok (.iconst 0, 1) := by decide +kernel
theorem dX12_question_58 : decode cX12_question 58 = .ok (.putfield 175, 3) := by decide +kernel
theorem dX12_question_61 : decode cX12_question 61 = .ok (.aload_n 0, 1) := by decide +kernel
theorem dX12_question_62 : decode cX12_question 62 = .ok (.iconst 1, 1) := by decide +kernel
theorem dX12_question_63 : decode cX12_question 63 = .ok (.invokevirtual 202, 3) := by decide +kernel
theorem dX12_question_66 : decode cX12_question 66 = .ok (.aload_n 0, 1) := by decide +kernel
theorem dX12_question_67 : decode cX12_question 67 = .ok (.invokevirtual 222, 3) := by decide +kernel
theorem dX12_question_70 : decode cX12_question 70 = .ok (.istore_n 2, 1) := by decide +kernel
theorem dX12_question_71 : decode cX12_question 71 = .ok (.iload_n 2, 1) := by decide +kernel
theorem dX12_question_72 : decode cX12_question 72 = .ok (.iconst (-1), 1) := by decide +kernel
theorem dX12_question_73 : decode cX12_question 73 = .ok (.if_icmp .eq 16, 3) := by decide +kernel
theorem dX12_question_76 : decode cX12_question 76 = .ok (.aload_n 0, 1) := by decide +kernel
theorem dX12_question_77 : decode cX12_question 77 = .ok (.getfield 143, 3) := by decide +kernel
theorem dX12_question_80 : decode cX12_question 80 = .ok (.ifCond .eq 9, 3) := by decide +kernel
theorem dX12_question_83 : decode cX12_question 83 = .ok (.aload_n 0, 1) := by decide +kernel
theorem dX12_question_84 : decode cX12_question 84 = .ok (.iconst 1, 1) := by decide +kernel
theorem dX12_question_85 : decode cX12_question 85 = .ok (.invokevirtual 216, 3) := by decide +kernel
theorem dX12_question_88 : decode cX12_question 88 = .ok (.istore_n 2, 1) := by decide +kernel
theorem dX12_question_89 : decode cX12_question 89 = .ok (.iload_n 2, 1) := by decide +kernel
theorem dX12_question_90 : decode cX12_question 90 = .ok (.iconst (-1), 1) := by decide +kernel
theorem dX12_question_91 : decode cX12_question 91 = .ok (.if_icmp .ne 10, 3) := by decide +kernel
theorem dX12_question_94 : decode cX12_question 94 = .ok (.iconst (-1), 1) := by decide +kernel
theorem dX12_question_95 : decode cX12_question 95 = .ok (.aload_n 0, 1) := by decide +kernel
theorem dX12_question_96 : decode cX12_question 96 = .ok (.getfield 178, 3) := by decide +kernel
theorem dX12_question_99 : decode cX12_question 99 = .ok (.isub, 1) := by decide +kernel
theorem dX12_question_100 : decode cX12_question 100 = .ok (.ireturn, 1) := by decide +kernel
theorem dX12_question_101 : decode cX12_question 101 = .ok (.aload_n 0, 1) := by decide +kernel
theorem dX12_question_102 : decode cX12_question 102 = .ok (.getfield 29, 3) := by decide +kernel
theorem dX12_question_105 : decode cX12_question 105 = .ok (.aload_n 0, 1) := by decide +kernel
theorem dX12_question_106 : decode cX12_question 106 = .ok (.getfield 181, 3) := by decide +kernel
theorem dX12_question_109 : decode cX12_question 109 = .ok (.iload_n 1, 1) := by decide +kernel
theorem dX12_question_110 : decode cX12_question 110 = .ok (.iastore, 1) := by decide +kernel
theorem dX12_question_111 : decode cX12_question 111 = .ok (.aload_n 0, 1) := by decide +kernel
theorem dX12_question_112 : decode cX12_question 112 = .ok (.getfield 32, 3) := by decide +kernel
theorem dX12_question_115 : decode cX12_question 115 = .ok (.aload_n 0, 1) := by decide +kernel
theorem dX12_question_116 : decode cX12_question 116 = .ok (.getfield 181, 3) := by decide +kernel
theorem dX12_question_119 : decode cX12_question 119 = .ok (.iconst 0, 1) := by decide +kernel
theorem dX12_question_120 : decode cX12_question 120 = .ok (.iastore, 1) := by decide +kernel
theorem dX12_question_121 : decode cX12_question 121 = .ok (.aload_n 0, 1) := by decide +kernel
theorem dX12_question_122 : decode cX12_question 122 = .ok (.getfield 35, 3) := by decide +kernel
theorem dX12_question_125 : decode cX12_question 125 = .ok (.aload_n 0, 1) := by decide +kernel
theorem dX12_question_126 : decode cX12_question 126 = .ok (.getfield 181, 3) := by decide +kernel
theorem dX12_question_129 : decode cX12_question 129 = .ok (.iconst 0, 1) := by decide +kernel
theorem dX12_question_130 : decode cX12_question 130 = .ok (.iastore, 1) := by decide +kernel
theorem dX12_question_131 : decode cX12_question 131 = .ok (.aload_n 0, 1) := by decide +kernel
theorem dX12_question_132 : decode cX12_question 132 = .ok (.getfield 38, 3) := by decide +kernel
theorem dX12_question_135 : decode cX12_question 135 = .ok (.aload_n 0, 1) := by decide +kernel
theorem dX12_question_136 : decode cX12_question 136 = .ok (.getfield 181, 3) := by decide +kernel
theorem dX12_question_139 : decode cX12_question 139 = .ok (.iconst 0, 1) := by decide +kernel
theorem dX12_question_140 : decode cX12_question 140 = .ok (.iastore, 1) := by decide +kernel
theorem dX12_question_141 : decode cX12_question 141 = .ok (.aload_n 0, 1) := by decide +kernel
theorem dX12_question_142 : decode cX12_question 142 = .ok (.getfield 41, 3) := by decide +kernel
theorem dX12_question_145 : decode cX12_question 145 = .ok (.aload_n 0, 1) := by decide +kernel
theorem dX12_question_146 : decode cX12_question 146 = .ok (.getfield 181, 3) := by decide +kernel
theorem dX12_question_149 : decode cX12_question 149 = .ok (.iconst 0, 1) := by decide +kernel
theorem dX12_question_150 : decode cX12_question 150 = .ok (.bastore, 1) := by decide +kernel
theorem dX12_question_151 : decode cX12_question 151 = .ok (.aload_n 0, 1) := by decide +kernel
theorem dX12_question_152 : decode cX12_question 152 = .ok (.dup, 1) := by decide +kernel
theorem dX12_question_153 : decode cX12_question 153 = .ok (.getfield 181, 3) := by decide +kernel
theorem dX12_question_156 : decode cX12_question 156 = .ok (.iconst 1, 1) := by decide +kernel
theorem dX12_question_157 : decode cX12_question 157 = .ok (.iadd, 1) := by decide +kernel
theorem dX12_question_158 : decode cX12_question 158 = .ok (.putfield 181, 3) := by decide +kernel
theorem dX12_question_161 : decode cX12_question 161 = .ok (.aload_n 0, 1) := by decide +kernel
theorem dX12_question_162 : decode cX12_question 162 = .ok (.getfield 181, 3) := by decide +kernel
theorem dX12_question_165 : decode cX12_question 165 = .ok (.iconst 1, 1) := by decide +kernel
theorem dX12_question_166 : decode cX12_question 166 = .ok (.isub, 1) := by decide +kernel
theorem dX12_question_167 : decode cX12_question 167 = .ok (.ireturn, 1) := by decide +kernel
theorem dX12_readAnswer_0 : decode cX12_readAnswer 0 = .ok (.aload_n 0, 1) := by decide +kernel
theorem dX12_readAnswer_1 : decode cX12_readAnswer 1 = .ok (.aload_n 0, 1) := by decide +kernel
theorem dX12_readAnswer_2 : decode cX12_readAnswer 2 = .ok (.getfield 127, 3) := by decide +kernel
theorem dX12_readAnswer_5 : decode cX12_readAnswer 5 = .ok (.putfield 134, 3) := by decide +kernel
theorem dX12_readAnswer_8 : decode cX12_readAnswer 8 = .ok (.aload_n 0, 1) := by decide +kernel
theorem dX12_readAnswer_9 : decode cX12_readAnswer 9 = .ok (.iconst 0, 1) := by decide +kernel
theorem dX12_readAnswer_10 : decode cX12_readAnswer 10 = .ok (.putfield 127, 3) := by decide +kernel
theorem dX12_readAnswer_13 : decode cX12_readAnswer 13 = .ok (.aload_n 0, 1) := by decide +kernel
theorem dX12_readAnswer_14 : decode cX12_readAnswer 14 = .ok (.iconst 0, 1) := by decide +kernel
theorem dX12_readAnswer_15 : decode cX12_readAnswer 15 = .ok (.putfield 137, 3) := by decide +kernel
theorem dX12_readAnswer_18 : decode cX12_readAnswer 18 = .ok (.aload_n 0, 1) := by decide +kernel
theorem dX12_readAnswer_19 : decode cX12_readAnswer 19 = .ok (.iconst 0, 1) := by decide +kernel
theorem dX12_readAnswer_20 : decode cX12_readAnswer 20 = .ok (.putfield 225, 3) := by decide +kernel
theorem dX12_readAnswer_23 : decode cX12_readAnswer 23 = .ok (.aload_n 0, 1) := by decide +kernel
theorem dX12_readAnswer_24 : decode cX12_readAnswer 24 = .ok (.getfield 134, 3) := by decide +kernel
theorem dX12_readAnswer_27 : decode cX12_readAnswer 27 = .ok (.sipush 200, 3) := by decide +kernel
theorem dX12_readAnswer_30 : decode cX12_readAnswer 30 = .ok (.if_icmp .le 5, 3) := by decide +kernel
theorem dX12_readAnswer_33 : decode cX12_readAnswer 33 = .ok (.iconst 0, 1) := by decide +kernel
theorem dX12_readAnswer_34 : decode cX12_readAnswer 34 = .ok (.ireturn, 1) := by decide +kernel
theorem dX12_readAnswer_35 : decode cX12_readAnswer 35 = .ok (.aload_n 0, 1) := by decide +kernel
theorem dX12_readAnswer_36 : decode cX12_readAnswer 36 = .ok (.getfield 137, 3) := by decide +kernel
theorem dX12_readAnswer_39 : decode cX12_readAnswer 39 = .ok (.aload_n 0, 1) := by decide +kernel
theorem dX12_readAnswer_40 : decode cX12_readAnswer 40 = .ok (.getfield 134, 3) := by decide +kernel
theorem dX12_readAnswer_43 : decode cX12_readAnswer 43 = .ok (.if_icmp .ge 30, 3) := by decide +kernel
theorem dX12_readAnswer_46 : decode cX12_readAnswer 46 = .ok (.aload_n 0, 1) := by decide +kernel
theorem dX12_readAnswer_47 : decode cX12_readAnswer 47 = .ok (.getfield 7, 3) := by decide +kernel
theorem dX12_readAnswer_50 : decode cX12_readAnswer 50 = .ok (.aload_n 0, 1) := by decide +kernel
theorem dX12_readAnswer_51 : decode cX12_readAnswer 51 = .ok (.getfield 137, 3) := by decide +kernel
theorem dX12_readAnswer_54 : decode cX12_readAnswer 54 = .ok (.iaload, 1) := by decide +kernel
theorem dX12_readAnswer_55 : decode cX12_readAnswer 55 = .ok (.bipush 32, 2) := by decide +kernel
theorem dX12_readAnswer_57 : decode cX12_readAnswer 57 = .ok (.if_icmp .ne 16, 3) := by decide +kernel
theorem dX12_readAnswer_60 : decode cX12_readAnswer 60 = .ok (.aload_n 0, 1) := by decide +kernel
theorem dX12_readAnswer_61 : decode cX12_readAnswer 61 = .ok (.dup, 1) := by decide +kernel
theorem dX12_readAnswer_62 : decode cX12_readAnswer 62 = .ok (.getfield 137, 3) := by decide +kernel
theorem dX12_readAnswer_65 : decode cX12_readAnswer 65 = .ok (.iconst 1, 1) := by decide +kernel
theorem dX12_readAnswer_66 : decode cX12_readAnswer 66 = .ok (.iadd, 1) := by decide +kernel
theorem dX12_readAnswer_67 : decode cX12_readAnswer 67 = .ok (.putfield 137, 3) := by decide +kernel
theorem dX12_readAnswer_70 : decode cX12_readAnswer 70 = .ok (.goto (-35), 3) := by decide +kernel
theorem dX12_readAnswer_73 : decode cX12_readAnswer 73 = .ok (.aload_n 0, 1) := by decide +kernel
theorem dX12_readAnswer_74 : decode cX12_readAnswer 74 = .ok (.getfield 137, 3) := by decide +kernel
theorem dX12_readAnswer_77 : decode cX12_readAnswer 77 = .ok (.aload_n 0, 1) := by decide +kernel
theorem dX12_readAnswer_78 : decode cX12_readAnswer 78 = .ok (.getfield 134, 3) := by decide +kernel
theorem dX12_readAnswer_81 : decode cX12_readAnswer 81 = .ok (.if_icmp .lt 16, 3) := by decide +kernel
theorem dX12_readAnswer_84 : decode cX12_readAnswer 84 = .ok (.aload_n 0, 1) := by decide +kernel
theorem dX12_readAnswer_85 : decode cX12_readAnswer 85 = .ok (.getfield 225, 3) := by decide +kernel
theorem dX12_readAnswer_88 : decode cX12_readAnswer 88 = .ok (.ifCond .le 7, 3) := by decide +kernel
theorem dX12_readAnswer_91 : decode cX12_readAnswer 91 = .ok (.iconst 1, 1) := by decide +kernel
theorem dX12_readAnswer_92 : decode cX12_readAnswer 92 = .ok (.goto 4, 3) := by decide +kernel
theorem dX12_readAnswer_95 : decode cX12_readAnswer 95 = .ok (.iconst 0, 1) := by decide +kernel
theorem dX12_readAnswer_96 : decode cX12_readAnswer 96 = .ok (.ireturn, 1) := by decide +kernel
theorem dX12_readAnswer_97 : decode cX12_readAnswer 97 = .ok (.aload_n 0, 1) := by decide +kernel
theorem dX12_readAnswer_98 : decode cX12_readAnswer 98 = .ok (.aload_n 0, 1) := by decide +kernel
theorem dX12_readAnswer_99 : decode cX12_readAnswer 99 = .ok (.getfield 137, 3) := by decide +kernel
theorem dX12_readAnswer_102 : decode cX12_readAnswer 102 = .ok (.putfield 140, 3) := by decide +kernel
theorem dX12_readAnswer_105 : decode cX12_readAnswer 105 = .ok (.aload_n 0, 1) := by decide +kernel
theorem dX12_readAnswer_106 : decode cX12_readAnswer 106 = .ok (.getfield 225, 3) := by decide +kernel
theorem dX12_readAnswer_109 : decode cX12_readAnswer 109 = .ok (.bipush 20, 2) := by decide +kernel
theorem dX12_readAnswer_111 : decode cX12_readAnswer 111 = .ok (.if_icmp .eq 33, 3) := by decide +kernel
theorem dX12_readAnswer_114 : decode cX12_readAnswer 114 = .ok (.aload_n 0, 1) := by decide +kernel
theorem dX12_readAnswer_115 : decode cX12_readAnswer 115 = .ok (.getfield 7, 3) := by decide +kernel
theorem dX12_readAnswer_118 : decode cX12_readAnswer 118 = .ok (.aload_n 0, 1) := by decide +kernel
theorem dX12_readAnswer_119 : decode cX12_readAnswer 119 = .ok (.getfield 137, 3) := by decide +kernel
theorem dX12_readAnswer_122 : decode cX12_readAnswer 122 = .ok (.iaload, 1) := by decide +kernel
theorem dX12_readAnswer_123 : decode cX12_readAnswer 123 = .ok (.invokestatic 146, 3) := by decide +kernel
theorem dX12_readAnswer_126 : decode cX12_readAnswer 126 = .ok (.ifCond .ne 20, 3) := by decide +kernel
theorem dX12_readAnswer_129 : decode cX12_readAnswer 129 = .ok (.aload_n 0, 1) := by decide +kernel
theorem dX12_readAnswer_130 : decode cX12_readAnswer 130 = .ok (.getfield 7, 3) := by decide +kernel
theorem dX12_readAnswer_133 : decode cX12_readAnswer 133 = .ok (.aload_n 0, 1) := by decide +kernel
theorem dX12_readAnswer_134 : decode cX12_readAnswer 134 = .ok (.getfield 137, 3) := by decide +kernel
theorem dX12_readAnswer_137 : decode cX12_readAnswer 137 = .ok (.iaload, 1) := by decide +kernel
theorem dX12_readAnswer_138 : decode cX12_readAnswer 138 = .ok (.invokestatic 150, 3) := by decide +kernel
theorem dX12_readAnswer_141 : decode cX12_readAnswer 141 = .ok (.ifCond .ne 5, 3) := by decide +kernel
theorem dX12_readAnswer_144 : decode cX12_readAnswer 144 = .ok (.iconst 0, 1) := by decide +kernel
theorem dX12_readAnswer_145 : decode cX12_readAnswer 145 = .ok (.ireturn, 1) := by decide +kernel
theorem dX12_readAnswer_146 : decode cX12_readAnswer 146 = .ok (.aload_n 0, 1) := by decide +kernel
theorem dX12_readAnswer_147 : decode cX12_readAnswer 147 = .ok (.invokevirtual 153, 3) := by decide +kernel
theorem dX12_readAnswer_150 : decode cX12_readAnswer 150 = .ok (.aload_n 0, 1) := by decide +kernel
theorem dX12_readAnswer_151 : decode cX12_readAnswer 151 = .ok (.getfield 143, 3) := by decide +kernel
theorem dX12_readAnswer_154 : decode cX12_readAnswer 154 = .ok (.iconst 1, 1) := by decide +kernel
theorem dX12_readAnswer_155 : decode cX12_readAnswer 155 = .ok (.if_icmp .eq 28, 3) := by decide +kernel
theorem dX12_readAnswer_158 : decode cX12_readAnswer 158 = .ok (.aload_n 0, 1) := by decide +kernel
theorem dX12_readAnswer_159 : decode cX12_readAnswer 159 = .ok (.getfield 137, 3) := by decide +kernel
theorem dX12_readAnswer_162 : decode cX12_readAnswer 162 = .ok (.aload_n 0, 1) := by decide +kernel
theorem dX12_readAnswer_163 : decode cX12_readAnswer 163 = .ok (.getfield 134, 3) := by decide +kernel
theorem dX12_readAnswer_166 : decode cX12_readAnswer 166 = .ok (.if_icmp .ge 19, 3) := by decide +kernel
theorem dX12_readAnswer_169 : decode cX12_readAnswer 169 = .ok (.aload_n 0, 1) := by decide +kernel
theorem dX12_readAnswer_170 : decode cX12_readAnswer 170 = .ok (.getfield 7, 3) := by decide +kernel
theorem dX12_readAnswer_173 : decode cX12_readAnswer 173 = .ok (.aload_n 0, 1) := by decide +kernel
theorem dX12_readAnswer_174 : decode cX12_readAnswer 174 = .ok (.getfield 137, 3) := by decide +kernel
theorem dX12_readAnswer_177 : decode cX12_readAnswer 177 = .ok (.iaload, 1) := by decide +kernel
theorem dX12_readAnswer_178 : decode cX12_readAnswer 178 = .ok (.bipush 32, 2) := by decide +kernel
theorem dX12_readAnswer_180 : decode cX12_readAnswer 180 = .ok (.if_icmp .eq 5, 3) := by decide +kernel
theorem dX12_readAnswer_183 : decode cX12_readAnswer 183 = .ok (.iconst 0, 1) := by decide +kernel
theorem dX12_readAnswer_184 : decode cX12_readAnswer 184 = .ok (.ireturn, 1) := by decide +kernel
theorem dX12_readAnswer_185 : decode cX12_readAnswer 185 = .ok (.aload_n 0, 1) := by decide +kernel
theorem dX12_readAnswer_186 : decode cX12_readAnswer 186 = .ok (.getfield 45, 3) := by decide +kernel
theorem dX12_readAnswer_189 : decode cX12_readAnswer 189 = .ok (.aload_n 0, 1) := by decide +kernel
theorem dX12_readAnswer_190 : decode cX12_readAnswer 190 = .ok (.getfield 225, 3) := by decide +kernel
theorem dX12_readAnswer_193 : decode cX12_readAnswer 193 = .ok (.aload_n 0, 1) := by decide +kernel
theorem dX12_readAnswer_194 : decode cX12_readAnswer 194 = .ok (.getfield 143, 3) := by decide +kernel
theorem dX12_readAnswer_197 : decode cX12_readAnswer 197 = .ok (.iconst 2, 1) := by decide +kernel
theorem dX12_readAnswer_198 : decode cX12_readAnswer 198 = .ok (.if_icmp .ne 7, 3) := by decide +kernel
theorem dX12_readAnswer_201 : decode cX12_readAnswer 201 = .ok (.iconst 1, 1) := by decide +kernel
theorem dX12_readAnswer_202 : decode cX12_readAnswer 202 = .ok (.goto 4, 3) := by decide +kernel
theorem dX12_readAnswer_205 : decode cX12_readAnswer 205 = .ok (.iconst 0, 1) := by decide +kernel
theorem dX12_readAnswer_206 : decode cX12_readAnswer 206 = .ok (.bastore, 1) := by decide +kernel
theorem dX12_readAnswer_207 : decode cX12_readAnswer 207 = .ok (.aload_n 0, 1) := by decide +kernel
theorem dX12_readAnswer_208 : decode cX12_readAnswer 208 = .ok (.getfield 48, 3) := by decide +kernel
theorem dX12_readAnswer_211 : decode cX12_readAnswer 211 = .ok (.aload_n 0, 1) := by decide +kernel
theorem dX12_readAnswer_212 : decode cX12_readAnswer 212 = .ok (.getfield 225, 3) := by decide +kernel
theorem dX12_readAnswer_215 : decode cX12_readAnswer 215 = .ok (.aload_n 0, 1) := by decide +kernel
theorem dX12_readAnswer_216 : decode cX12_readAnswer 216 = .ok (.getfield 163, 3) := by decide +kernel
theorem dX12_readAnswer_219 : decode cX12_readAnswer 219 = .ok (.lastore, 1) := by decide +kernel
theorem dX12_readAnswer_220 : decode cX12_readAnswer 220 = .ok (.aload_n 0, 1) := by decide +kernel
theorem dX12_readAnswer_221 : decode cX12_readAnswer 221 = .ok (.dup, 1) := by decide +kernel
theorem dX12_readAnswer_222 : decode cX12_readAnswer 222 = .ok (.getfield 225, 3) := by decide +kernel
theorem dX12_readAnswer_225 : decode cX12_readAnswer 225 = .ok (.iconst 1, 1) := by decide +kernel
theorem dX12_readAnswer_226 : decode cX12_readAnswer 226 = .ok (.iadd, 1) := by decide +kernel
theorem dX12_readAnswer_227 : decode cX12_readAnswer 227 = .ok (.putfield 225, 3) := by decide +kernel
theorem dX12_readAnswer_230 : decode cX12_readAnswer 230 = .ok (.goto (-195), 3) := by decide +kernel
theorem dX12_leads_0 : decode cX12_leads 0 = .ok (.iconst 0, 1) := by decide +kernel
theorem dX12_leads_1 : decode cX12_leads 1 = .ok (.istore_n 3, 1) := by decide +kernel
theorem dX12_leads_2 : decode cX12_leads 2 = .ok (.aload_n 0, 1) := by decide +kernel
theorem dX12_leads_3 : decode cX12_leads 3 = .ok (.getfield 13, 3) := by decide +kernel
theorem dX12_leads_6 : decode cX12_leads 6 = .ok (.iload_n 1, 1) := by decide +kernel
theorem dX12_leads_7 : decode cX12_leads 7 = .ok (.iaload, 1) := by decide +kernel
theorem dX12_leads_8 : decode cX12_leads 8 = .ok (.tableswitch 161 0 7 #[48, 86, 161, 161, 161, 128, 142, 154], 48) := by decide +kernel
theorem dX12_leads_56 : decode cX12_leads 56 = .ok (.aload_n 0, 1) := by decide +kernel
theorem dX12_leads_57 : decode cX12_leads 57 = .ok (.getfield 16, 3) := by decide +kernel
theorem dX12_leads_60 : decode cX12_leads 60 = .ok (.iload_n 1, 1) := by decide +kernel
theorem dX12_leads_61 : decode cX12_leads 61 = .ok (.iaload, 1) := by decide +kernel
theorem dX12_leads_62 : decode cX12_leads 62 = .ok (.istore 4, 2) := by decide +kernel
theorem dX12_leads_64 : decode cX12_leads 64 = .ok (.iload 4, 2) := by decide +kernel
theorem dX12_leads_66 : decode cX12_leads 66 = .ok (.iconst (-1), 1) := by decide +kernel
theorem dX12_leads_67 : decode cX12_leads 67 = .ok (.if_icmp .eq 25, 3) := by decide +kernel
theorem dX12_leads_70 : decode cX12_leads 70 = .ok (.iload_n 3, 1) := by decide +kernel
theorem dX12_leads_71 : decode cX12_leads 71 = .ok (.aload_n 0, 1) := by decide +kernel
theorem dX12_leads_72 : decode cX12_leads 72 = .ok (.iload 4, 2) := by decide +kernel
theorem dX12_leads_74 : decode cX12_leads 74 = .ok (.iload_n 2, 1) := by decide +kernel
theorem dX12_leads_75 : decode cX12_leads 75 = .ok (.invokevirtual 228, 3) := by decide +kernel
theorem dX12_leads_78 : decode cX12_leads 78 = .ok (.ior, 1) := by decide +kernel
theorem dX12_leads_79 : decode cX12_leads 79 = .ok (.istore_n 3, 1) := by decide +kernel
theorem dX12_leads_80 : decode cX12_leads 80 = .ok (.aload_n 0, 1) := by decide +kernel
theorem dX12_leads_81 : decode cX12_leads 81 = .ok (.getfield 19, 3) := by decide +kernel
theorem dX12_leads_84 : decode cX12_leads 84 = .ok (.iload 4, 2) := by decide +kernel
theorem dX12_leads_86 : decode cX12_leads 86 = .ok (.iaload, 1) := by decide +kernel
theorem dX12_leads_87 : decode cX12_leads 87 = .ok (.istore 4, 2) := by decide +kernel
theorem dX12_leads_89 : decode cX12_leads 89 = .ok (.goto (-25), 3) := by decide +kernel
theorem dX12_leads_92 : decode cX12_leads 92 = .ok (.iload_n 3, 1) := by decide +kernel
theorem dX12_leads_93 : decode cX12_leads 93 = .ok (.ireturn, 1) := by decide +kernel
theorem dX12_leads_94 : decode cX12_leads 94 = .ok (.iload_n 2, 1) := by decide +kernel
theorem dX12_leads_95 : decode cX12_leads 95 = .ok (.istore_n 3, 1) := by decide +kernel
theorem dX12_leads_96 : decode cX12_leads 96 = .ok (.aload_n 0, 1) := by decide +kernel
theorem dX12_leads_97 : decode cX12_leads 97 = .ok (.getfield 16, 3) := by decide +kernel
theorem dX12_leads_100 : decode cX12_leads 100 = .ok (.iload_n 1, 1) := by decide +kernel
theorem dX12_leads_101 : decode cX12_leads 101 = .ok (.iaload, 1) := by decide +kernel
theorem dX12_leads_102 : decode cX12_leads 102 = .ok (.istore 4, 2) := by decide +kernel
theorem dX12_leads_104 : decode cX12_leads 104 = .ok (.iload 4, 2) := by decide +kernel
theorem dX12_leads_106 : decode cX12_leads 106 = .ok (.iconst (-1), 1) := by decide +kernel
theorem dX12_leads_107 : decode cX12_leads 107 = .ok (.if_icmp .eq 27, 3) := by decide +kernel
theorem dX12_leads_110 : decode cX12_leads 110 = .ok (.iload_n 3, 1) := by decide +kernel
theorem dX12_leads_111 : decode cX12_leads 111 = .ok (.ifCond .eq 23, 3) := by decide +kernel
theorem dX12_leads_114 : decode cX12_leads 114 = .ok (.aload_n 0, 1) := by decide +kernel
theorem dX12_leads_115 : decode cX12_leads 115 = .ok (.iload 4, 2) := by decide +kernel
theorem dX12_leads_117 : decode cX12_leads 117 = .ok (.iload_n 3, 1) := by decide +kernel
theorem dX12_leads_118 : decode cX12_leads 118 = .ok (.invokevirtual 228, 3) := by decide +kernel
theorem dX12_leads_121 : decode cX12_leads 121 = .ok (.istore_n 3, 1) := by decide +kernel
theorem dX12_leads_122 : decode cX12_leads 122 = .ok (.aload_n 0, 1) := by decide +kernel
theorem dX12_leads_123 : decode cX12_leads 123 = .ok (.getfield 19, 3) := by decide +kernel
theorem dX12_leads_126 : decode cX12_leads 126 = .ok (.iload 4, 2) := by decide +kernel
theorem dX12_leads_128 : decode cX12_leads 128 = .ok (.iaload, 1) := by decide +kernel
theorem dX12_leads_129 : decode cX12_leads 129 = .ok (.istore 4, 2) := by decide +kernel
theorem dX12_leads_131 : decode cX12_leads 131 = .ok (.goto (-27), 3) := by decide +kernel
theorem dX12_leads_134 : decode cX12_leads 134 = .ok (.iload_n 3, 1) := by decide +kernel
theorem dX12_leads_135 : decode cX12_leads 135 = .ok (.ireturn, 1) := by decide +kernel
theorem dX12_leads_136 : decode cX12_leads 136 = .ok (.iload_n 2, 1) := by decide +kernel
theorem dX12_leads_137 : decode cX12_leads 137 = .ok (.aload_n 0, 1) := by decide +kernel
theorem dX12_leads_138 : decode cX12_leads 138 = .ok (.aload_n 0, 1) := by decide +kernel
theorem dX12_leads_139 : decode cX12_leads 139 = .ok (.getfield 16, 3) := by decide +kernel
theorem dX12_leads_142 : decode cX12_leads 142 = .ok (.iload_n 1, 1) := by decide +kernel
theorem dX12_leads_143 : decode cX12_leads 143 = .ok (.iaload, 1) := by decide +kernel
theorem dX12_leads_144 : decode cX12_leads 144 = .ok (.iload_n 2, 1) := by decide +kernel
theorem dX12_leads_145 : decode cX12_leads 145 = .ok (.invokevirtual 228, 3) := by decide +kernel
theorem dX12_leads_148 : decode cX12_leads 148 = .ok (.ior, 1) := by decide +kernel
theorem dX12_leads_149 : decode cX12_leads 149 = .ok (.ireturn, 1) := by decide +kernel
theorem dX12_leads_150 : decode cX12_leads 150 = .ok (.aload_n 0, 1) := by decide +kernel
theorem dX12_leads_151 : decode cX12_leads 151 = .ok (.aload_n 0, 1) := by decide +kernel
theorem dX12_leads_152 : decode cX12_leads 152 = .ok (.getfield 16, 3) := by decide +kernel
theorem dX12_leads_155 : decode cX12_leads 155 = .ok (.iload_n 1, 1) := by decide +kernel
theorem dX12_leads_156 : decode cX12_leads 156 = .ok (.iaload, 1) := by decide +kernel
theorem dX12_leads_157 : decode cX12_leads 157 = .ok (.iload_n 2, 1) := by decide +kernel
theorem dX12_leads_158 : decode cX12_leads 158 = .ok (.invokevirtual 228, 3) := by decide +kernel
theorem dX12_leads_161 : decode cX12_leads 161 = .ok (.ireturn, 1) := by decide +kernel
theorem dX12_leads_162 : decode cX12_leads 162 = .ok (.aload_n 0, 1) := by decide +kernel
theorem dX12_leads_163 : decode cX12_leads 163 = .ok (.iload_n 1, 1) := by decide +kernel
theorem dX12_leads_164 : decode cX12_leads 164 = .ok (.iload_n 2, 1) := by decide +kernel
theorem dX12_leads_165 : decode cX12_leads 165 = .ok (.invokevirtual 232, 3) := by decide +kernel
theorem dX12_leads_168 : decode cX12_leads 168 = .ok (.ireturn, 1) := by decide +kernel
theorem dX12_leads_169 : decode cX12_leads 169 = .ok (.iconst 0, 1) := by decide +kernel
theorem dX12_leads_170 : decode cX12_leads 170 = .ok (.istore 4, 2) := by decide +kernel
theorem dX12_leads_172 : decode cX12_leads 172 = .ok (.iload 4, 2) := by decide +kernel
theorem dX12_leads_174 : decode cX12_leads 174 = .ok (.aload_n 0, 1) := by decide +kernel
theorem dX12_leads_175 : decode cX12_leads 175 = .ok (.getfield 225, 3) := by decide +kernel
theorem dX12_leads_178 : decode cX12_leads 178 = .ok (.if_icmp .ge 85, 3) := by decide +kernel
theorem dX12_leads_181 : decode cX12_leads 181 = .ok (.iload_n 2, 1) := by decide +kernel
theorem dX12_leads_182 : decode cX12_leads 182 = .ok (.iload 4, 2) := by decide +kernel
theorem dX12_leads_184 : decode cX12_leads 184 = .ok (.ishr, 1) := by decide +kernel
theorem dX12_leads_185 : decode cX12_leads 185 = .ok (.iconst 1, 1) := by decide +kernel
theorem dX12_leads_186 : decode cX12_leads 186 = .ok (.iand, 1) := by decide +kernel
theorem dX12_leads_187 : decode cX12_leads 187 = .ok (.iconst 1, 1) := by decide +kernel
theorem dX12_leads_188 : decode cX12_leads 188 = .ok (.if_icmp .ne 69, 3) := by decide +kernel
theorem dX12_leads_191 : decode cX12_leads 191 = .ok (.aload_n 0, 1) := by decide +kernel
theorem dX12_leads_192 : decode cX12_leads 192 = .ok (.getfield 45, 3) := by decide +kernel
theorem dX12_leads_195 : decode cX12_leads 195 = .ok (.iload 4, 2) := by decide +kernel
theorem dX12_leads_197 : decode cX12_leads 197 = .ok (.baload, 1) := by decide +kernel
theorem dX12_leads_198 : decode cX12_leads 198 = .ok (.aload_n 0, 1) := by decide +kernel

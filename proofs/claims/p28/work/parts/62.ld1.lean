theorem dL_lot_0 : decode cL_lot 0 = .ok (.iload_n 1, 1) := by decide +kernel
theorem dL_lot_1 : decode cL_lot 1 = .ok (.aload_n 0, 1) := by decide +kernel
theorem dL_lot_2 : decode cL_lot 2 = .ok (.arraylength, 1) := by decide +kernel
theorem dL_lot_3 : decode cL_lot 3 = .ok (.if_icmp .ge 9, 3) := by decide +kernel
theorem dL_lot_6 : decode cL_lot 6 = .ok (.aload_n 0, 1) := by decide +kernel
theorem dL_lot_7 : decode cL_lot 7 = .ok (.iload_n 1, 1) := by decide +kernel
theorem dL_lot_8 : decode cL_lot 8 = .ok (.iaload, 1) := by decide +kernel
theorem dL_lot_9 : decode cL_lot 9 = .ok (.goto 15, 3) := by decide +kernel
theorem dL_lot_12 : decode cL_lot 12 = .ok (.ldc 7, 2) := by decide +kernel
theorem dL_lot_14 : decode cL_lot 14 = .ok (.iload_n 1, 1) := by decide +kernel
theorem dL_lot_15 : decode cL_lot 15 = .ok (.sipush 2467, 3) := by decide +kernel
theorem dL_lot_18 : decode cL_lot 18 = .ok (.iadd, 1) := by decide +kernel
theorem dL_lot_19 : decode cL_lot 19 = .ok (.imul, 1) := by decide +kernel
theorem dL_lot_20 : decode cL_lot 20 = .ok (.sipush 2273, 3) := by decide +kernel
theorem dL_lot_23 : decode cL_lot 23 = .ok (.iadd, 1) := by decide +kernel
theorem dL_lot_24 : decode cL_lot 24 = .ok (.ireturn, 1) := by decide +kernel
theorem dL_low_0 : decode cL_low 0 = .ok (.iload_n 0, 1) := by decide +kernel
theorem dL_low_1 : decode cL_low 1 = .ok (.ldc 8, 2) := by decide +kernel
theorem dL_low_3 : decode cL_low 3 = .ok (.iand, 1) := by decide +kernel
theorem dL_low_4 : decode cL_low 4 = .ok (.iload_n 1, 1) := by decide +kernel
theorem dL_low_5 : decode cL_low 5 = .ok (.irem, 1) := by decide +kernel
theorem dL_low_6 : decode cL_low 6 = .ok (.ireturn, 1) := by decide +kernel
theorem dL_put_0 : decode cL_put 0 = .ok (.aload_n 0, 1) := by decide +kernel
theorem dL_put_1 : decode cL_put 1 = .ok (.iload_n 1, 1) := by decide +kernel
theorem dL_put_2 : decode cL_put 2 = .ok (.iload_n 2, 1) := by decide +kernel
theorem dL_put_3 : decode cL_put 3 = .ok (.invokevirtual 9, 3) := by decide +kernel
theorem dL_put_6 : decode cL_put 6 = .ok (.ireturn, 1) := by decide +kernel
theorem dL_put_7 : decode cL_put 7 = .ok (.astore_n 3, 1) := by decide +kernel
theorem dL_put_8 : decode cL_put 8 = .ok (.sipush (-2901), 3) := by decide +kernel
theorem dL_put_11 : decode cL_put 11 = .ok (.ireturn, 1) := by decide +kernel
theorem dL_put_12 : decode cL_put 12 = .ok (.astore_n 3, 1) := by decide +kernel
theorem dL_put_13 : decode cL_put 13 = .ok (.sipush (-2902), 3) := by decide +kernel
theorem dL_put_16 : decode cL_put 16 = .ok (.ireturn, 1) := by decide +kernel
theorem dL_remove_0 : decode cL_remove 0 = .ok (.aload_n 0, 1) := by decide +kernel
theorem dL_remove_1 : decode cL_remove 1 = .ok (.iload_n 1, 1) := by decide +kernel
theorem dL_remove_2 : decode cL_remove 2 = .ok (.invokevirtual 19, 3) := by decide +kernel
theorem dL_remove_5 : decode cL_remove 5 = .ok (.ireturn, 1) := by decide +kernel
theorem dL_remove_6 : decode cL_remove 6 = .ok (.astore_n 2, 1) := by decide +kernel
theorem dL_remove_7 : decode cL_remove 7 = .ok (.sipush (-2901), 3) := by decide +kernel
theorem dL_remove_10 : decode cL_remove 10 = .ok (.ireturn, 1) := by decide +kernel
theorem dL_remove_11 : decode cL_remove 11 = .ok (.astore_n 2, 1) := by decide +kernel
theorem dL_remove_12 : decode cL_remove 12 = .ok (.sipush (-2902), 3) := by decide +kernel
theorem dL_remove_15 : decode cL_remove 15 = .ok (.ireturn, 1) := by decide +kernel
theorem dL_begin_0 : decode cL_begin 0 = .ok (.aload_n 0, 1) := by decide +kernel
theorem dL_begin_1 : decode cL_begin 1 = .ok (.invokevirtual 23, 3) := by decide +kernel
theorem dL_begin_4 : decode cL_begin 4 = .ok (.ireturn, 1) := by decide +kernel
theorem dL_begin_5 : decode cL_begin 5 = .ok (.astore_n 1, 1) := by decide +kernel
theorem dL_begin_6 : decode cL_begin 6 = .ok (.sipush (-2902), 3) := by decide +kernel
theorem dL_begin_9 : decode cL_begin 9 = .ok (.ireturn, 1) := by decide +kernel
theorem dL_commit_0 : decode cL_commit 0 = .ok (.aload_n 0, 1) := by decide +kernel
theorem dL_commit_1 : decode cL_commit 1 = .ok (.iload_n 1, 1) := by decide +kernel
theorem dL_commit_2 : decode cL_commit 2 = .ok (.invokevirtual 27, 3) := by decide +kernel
theorem dL_commit_5 : decode cL_commit 5 = .ok (.ireturn, 1) := by decide +kernel
theorem dL_commit_6 : decode cL_commit 6 = .ok (.astore_n 2, 1) := by decide +kernel
theorem dL_commit_7 : decode cL_commit 7 = .ok (.sipush (-2901), 3) := by decide +kernel
theorem dL_commit_10 : decode cL_commit 10 = .ok (.ireturn, 1) := by decide +kernel
theorem dL_commit_11 : decode cL_commit 11 = .ok (.astore_n 2, 1) := by decide +kernel
theorem dL_commit_12 : decode cL_commit 12 = .ok (.sipush (-2902), 3) := by decide +kernel
theorem dL_commit_15 : decode cL_commit 15 = .ok (.ireturn, 1) := by decide +kernel
theorem dL_abort_0 : decode cL_abort 0 = .ok (.aload_n 0, 1) := by decide +kernel
theorem dL_abort_1 : decode cL_abort 1 = .ok (.invokevirtual 30, 3) := by decide +kernel
theorem dL_abort_4 : decode cL_abort 4 = .ok (.ireturn, 1) := by decide +kernel
theorem dL_abort_5 : decode cL_abort 5 = .ok (.astore_n 1, 1) := by decide +kernel
theorem dL_abort_6 : decode cL_abort 6 = .ok (.sipush (-2902), 3) := by decide +kernel
theorem dL_abort_9 : decode cL_abort 9 = .ok (.ireturn, 1) := by decide +kernel
theorem dL_open_0 : decode cL_open 0 = .ok (.aload_n 0, 1) := by decide +kernel
theorem dL_open_1 : decode cL_open 1 = .ok (.invokevirtual 33, 3) := by decide +kernel
theorem dL_open_4 : decode cL_open 4 = .ok (.ireturn, 1) := by decide +kernel
theorem dL_open_5 : decode cL_open 5 = .ok (.astore_n 1, 1) := by decide +kernel
theorem dL_open_6 : decode cL_open 6 = .ok (.sipush (-2902), 3) := by decide +kernel
theorem dL_open_9 : decode cL_open 9 = .ok (.ireturn, 1) := by decide +kernel
theorem dL_close_0 : decode cL_close 0 = .ok (.aload_n 0, 1) := by decide +kernel
theorem dL_close_1 : decode cL_close 1 = .ok (.iload_n 1, 1) := by decide +kernel
theorem dL_close_2 : decode cL_close 2 = .ok (.invokevirtual 36, 3) := by decide +kernel
theorem dL_close_5 : decode cL_close 5 = .ok (.ireturn, 1) := by decide +kernel
theorem dL_close_6 : decode cL_close 6 = .ok (.astore_n 2, 1) := by decide +kernel
theorem dL_close_7 : decode cL_close 7 = .ok (.sipush (-2903), 3) := by decide +kernel
theorem dL_close_10 : decode cL_close 10 = .ok (.ireturn, 1) := by decide +kernel
theorem dL_close_11 : decode cL_close 11 = .ok (.astore_n 2, 1) := by decide +kernel
theorem dL_close_12 : decode cL_close 12 = .ok (.sipush (-2902), 3) := by decide +kernel
theorem dL_close_15 : decode cL_close 15 = .ok (.ireturn, 1) := by decide +kernel
theorem dL_read_0 : decode cL_read 0 = .ok (.aload_n 0, 1) := by decide +kernel
theorem dL_read_1 : decode cL_read 1 = .ok (.iload_n 1, 1) := by decide +kernel
theorem dL_read_2 : decode cL_read 2 = .ok (.iload_n 2, 1) := by decide +kernel
theorem dL_read_3 : decode cL_read 3 = .ok (.invokevirtual 41, 3) := by decide +kernel
theorem dL_read_6 : decode cL_read 6 = .ok (.ireturn, 1) := by decide +kernel
theorem dL_read_7 : decode cL_read 7 = .ok (.astore_n 3, 1) := by decide +kernel
theorem dL_read_8 : decode cL_read 8 = .ok (.sipush (-2903), 3) := by decide +kernel
theorem dL_read_11 : decode cL_read 11 = .ok (.ireturn, 1) := by decide +kernel
theorem dL_read_12 : decode cL_read 12 = .ok (.astore_n 3, 1) := by decide +kernel
theorem dL_read_13 : decode cL_read 13 = .ok (.sipush (-2901), 3) := by decide +kernel
theorem dL_read_16 : decode cL_read 16 = .ok (.ireturn, 1) := by decide +kernel
theorem dL_read_17 : decode cL_read 17 = .ok (.astore_n 3, 1) := by decide +kernel
theorem dL_read_18 : decode cL_read 18 = .ok (.sipush (-2902), 3) := by decide +kernel
theorem dL_read_21 : decode cL_read 21 = .ok (.ireturn, 1) := by decide +kernel
theorem dL_drafted_0 : decode cL_drafted 0 = .ok (.aload_n 0, 1) := by decide +kernel
theorem dL_drafted_1 : decode cL_drafted 1 = .ok (.iload_n 1, 1) := by decide +kernel
theorem dL_drafted_2 : decode cL_drafted 2 = .ok (.invokevirtual 44, 3) := by decide +kernel
theorem dL_drafted_5 : decode cL_drafted 5 = .ok (.ireturn, 1) := by decide +kernel
theorem dL_drafted_6 : decode cL_drafted 6 = .ok (.astore_n 2, 1) := by decide +kernel
theorem dL_drafted_7 : decode cL_drafted 7 = .ok (.sipush (-2901), 3) := by decide +kernel
theorem dL_drafted_10 : decode cL_drafted 10 = .ok (.ireturn, 1) := by decide +kernel
theorem dL_drafted_11 : decode cL_drafted 11 = .ok (.astore_n 2, 1) := by decide +kernel
theorem dL_drafted_12 : decode cL_drafted 12 = .ok (.sipush (-2902), 3) := by decide +kernel
theorem dL_drafted_15 : decode cL_drafted 15 = .ok (.ireturn, 1) := by decide +kernel
theorem dL_reason_0 : decode cL_reason 0 = .ok (.aload_n 0, 1) := by decide +kernel
theorem dL_reason_1 : decode cL_reason 1 = .ok (.iload_n 1, 1) := by decide +kernel
theorem dL_reason_2 : decode cL_reason 2 = .ok (.invokevirtual 47, 3) := by decide +kernel
theorem dL_reason_5 : decode cL_reason 5 = .ok (.ireturn, 1) := by decide +kernel
theorem dL_reason_6 : decode cL_reason 6 = .ok (.astore_n 2, 1) := by decide +kernel
theorem dL_reason_7 : decode cL_reason 7 = .ok (.sipush (-2901), 3) := by decide +kernel
theorem dL_reason_10 : decode cL_reason 10 = .ok (.ireturn, 1) := by decide +kernel
theorem dL_reason_11 : decode cL_reason 11 = .ok (.astore_n 2, 1) := by decide +kernel
theorem dL_reason_12 : decode cL_reason 12 = .ok (.sipush (-2902), 3) := by decide +kernel
theorem dL_reason_15 : decode cL_reason 15 = .ok (.ireturn, 1) := by decide +kernel
theorem dL_since_0 : decode cL_since 0 = .ok (.aload_n 0, 1) := by decide +kernel
theorem dL_since_1 : decode cL_since 1 = .ok (.iload_n 1, 1) := by decide +kernel
theorem dL_since_2 : decode cL_since 2 = .ok (.invokevirtual 50, 3) := by decide +kernel
theorem dL_since_5 : decode cL_since 5 = .ok (.ireturn, 1) := by decide +kernel
theorem dL_since_6 : decode cL_since 6 = .ok (.astore_n 2, 1) := by decide +kernel
theorem dL_since_7 : decode cL_since 7 = .ok (.sipush (-2903), 3) := by decide +kernel
theorem dL_since_10 : decode cL_since 10 = .ok (.ireturn, 1) := by decide +kernel
theorem dL_since_11 : decode cL_since 11 = .ok (.astore_n 2, 1) := by decide +kernel
theorem dL_since_12 : decode cL_since 12 = .ok (.sipush (-2902), 3) := by decide +kernel
theorem dL_since_15 : decode cL_since 15 = .ok (.ireturn, 1) := by decide +kernel
theorem dL_undo_0 : decode cL_undo 0 = .ok (.aload_n 0, 1) := by decide +kernel
theorem dL_undo_1 : decode cL_undo 1 = .ok (.invokevirtual 53, 3) := by decide +kernel
theorem dL_undo_4 : decode cL_undo 4 = .ok (.ireturn, 1) := by decide +kernel
theorem dL_undo_5 : decode cL_undo 5 = .ok (.astore_n 1, 1) := by decide +kernel
theorem dL_undo_6 : decode cL_undo 6 = .ok (.sipush (-2902), 3) := by decide +kernel
theorem dL_undo_9 : decode cL_undo 9 = .ok (.ireturn, 1) := by decide +kernel
theorem dL_beds_0 : decode cL_beds 0 = .ok (.iconst 3, 1) := by decide +kernel
theorem dL_beds_1 : decode cL_beds 1 = .ok (.newarray .int, 2) := by decide +kernel
theorem dL_beds_3 : decode cL_beds 3 = .ok (.astore_n 1, 1) := by decide +kernel
theorem dL_beds_4 : decode cL_beds 4 = .ok (.iconst 0, 1) := by decide +kernel
theorem dL_beds_5 : decode cL_beds 5 = .ok (.istore_n 2, 1) := by decide +kernel
theorem dL_beds_6 : decode cL_beds 6 = .ok (.iconst 0, 1) := by decide +kernel
theorem dL_beds_7 : decode cL_beds 7 = .ok (.istore_n 3, 1) := by decide +kernel
theorem dL_beds_8 : decode cL_beds 8 = .ok (.iconst 0, 1) := by decide +kernel
theorem dL_beds_9 : decode cL_beds 9 = .ok (.istore 4, 2) := by decide +kernel
theorem dL_beds_11 : decode cL_beds 11 = .ok (.iload 4, 2) := by decide +kernel
theorem dL_beds_13 : decode cL_beds 13 = .ok (.bipush 32, 2) := by decide +kernel
theorem dL_beds_15 : decode cL_beds 15 = .ok (.if_icmp .ge 247, 3) := by decide +kernel
theorem dL_beds_18 : decode cL_beds 18 = .ok (.aload_n 0, 1) := by decide +kernel
theorem dL_beds_19 : decode cL_beds 19 = .ok (.iload 4, 2) := by decide +kernel
theorem dL_beds_21 : decode cL_beds 21 = .ok (.iconst 0, 1) := by decide +kernel
theorem dL_beds_22 : decode cL_beds 22 = .ok (.invokevirtual 56, 3) := by decide +kernel
theorem dL_beds_25 : decode cL_beds 25 = .ok (.istore 5, 2) := by decide +kernel
theorem dL_beds_27 : decode cL_beds 27 = .ok (.aload_n 1, 1) := by decide +kernel
theorem dL_beds_28 : decode cL_beds 28 = .ok (.iload 5, 2) := by decide +kernel
theorem dL_beds_30 : decode cL_beds 30 = .ok (.dup2, 1) := by decide +kernel
theorem dL_beds_31 : decode cL_beds 31 = .ok (.iaload, 1) := by decide +kernel
theorem dL_beds_32 : decode cL_beds 32 = .ok (.iconst 1, 1) := by decide +kernel
theorem dL_beds_33 : decode cL_beds 33 = .ok (.iadd, 1) := by decide +kernel
theorem dL_beds_34 : decode cL_beds 34 = .ok (.iastore, 1) := by decide +kernel
theorem dL_beds_35 : decode cL_beds 35 = .ok (.iload_n 2, 1) := by decide +kernel
theorem dL_beds_36 : decode cL_beds 36 = .ok (.aload_n 0, 1) := by decide +kernel
theorem dL_beds_37 : decode cL_beds 37 = .ok (.iload 4, 2) := by decide +kernel
theorem dL_beds_39 : decode cL_beds 39 = .ok (.iconst 4, 1) := by decide +kernel
theorem dL_beds_40 : decode cL_beds 40 = .ok (.invokevirtual 56, 3) := by decide +kernel
theorem dL_beds_43 : decode cL_beds 43 = .ok (.iadd, 1) := by decide +kernel
theorem dL_beds_44 : decode cL_beds 44 = .ok (.istore_n 2, 1) := by decide +kernel
theorem dL_beds_45 : decode cL_beds 45 = .ok (.iload_n 3, 1) := by decide +kernel
theorem dL_beds_46 : decode cL_beds 46 = .ok (.aload_n 0, 1) := by decide +kernel
theorem dL_beds_47 : decode cL_beds 47 = .ok (.iload 4, 2) := by decide +kernel
theorem dL_beds_49 : decode cL_beds 49 = .ok (.iconst 5, 1) := by decide +kernel
theorem dL_beds_50 : decode cL_beds 50 = .ok (.invokevirtual 56, 3) := by decide +kernel
theorem dL_beds_53 : decode cL_beds 53 = .ok (.iadd, 1) := by decide +kernel
theorem dL_beds_54 : decode cL_beds 54 = .ok (.istore_n 3, 1) := by decide +kernel
theorem dL_beds_55 : decode cL_beds 55 = .ok (.aload_n 0, 1) := by decide +kernel
theorem dL_beds_56 : decode cL_beds 56 = .ok (.iload 4, 2) := by decide +kernel
theorem dL_beds_58 : decode cL_beds 58 = .ok (.iconst 1, 1) := by decide +kernel
theorem dL_beds_59 : decode cL_beds 59 = .ok (.invokevirtual 56, 3) := by decide +kernel
theorem dL_beds_62 : decode cL_beds 62 = .ok (.istore 6, 2) := by decide +kernel
theorem dL_beds_64 : decode cL_beds 64 = .ok (.aload_n 0, 1) := by decide +kernel
theorem dL_beds_65 : decode cL_beds 65 = .ok (.iload 4, 2) := by decide +kernel
theorem dL_beds_67 : decode cL_beds 67 = .ok (.iconst 2, 1) := by decide +kernel
theorem dL_beds_68 : decode cL_beds 68 = .ok (.invokevirtual 56, 3) := by decide +kernel
theorem dL_beds_71 : decode cL_beds 71 = .ok (.istore 7, 2) := by decide +kernel
theorem dL_beds_73 : decode cL_beds 73 = .ok (.aload_n 0, 1) := by decide +kernel
theorem dL_beds_74 : decode cL_beds 74 = .ok (.iload 4, 2) := by decide +kernel
theorem dL_beds_76 : decode cL_beds 76 = .ok (.iconst 3, 1) := by decide +kernel
theorem dL_beds_77 : decode cL_beds 77 = .ok (.invokevirtual 56, 3) := by decide +kernel
theorem dL_beds_80 : decode cL_beds 80 = .ok (.sipush (-1000), 3) := by decide +kernel
theorem dL_beds_83 : decode cL_beds 83 = .ok (.if_icmp .ne 7, 3) := by decide +kernel
theorem dL_beds_86 : decode cL_beds 86 = .ok (.iconst 1, 1) := by decide +kernel
theorem dL_beds_87 : decode cL_beds 87 = .ok (.goto 4, 3) := by decide +kernel
theorem dL_beds_90 : decode cL_beds 90 = .ok (.iconst 0, 1) := by decide +kernel
theorem dL_beds_91 : decode cL_beds 91 = .ok (.iload 5, 2) := by decide +kernel
theorem dL_beds_93 : decode cL_beds 93 = .ok (.iconst 2, 1) := by decide +kernel
theorem dL_beds_94 : decode cL_beds 94 = .ok (.if_icmp .ne 7, 3) := by decide +kernel
theorem dL_beds_97 : decode cL_beds 97 = .ok (.iconst 1, 1) := by decide +kernel
theorem dL_beds_98 : decode cL_beds 98 = .ok (.goto 4, 3) := by decide +kernel
theorem dL_beds_101 : decode cL_beds 101 = .ok (.iconst 0, 1) := by decide +kernel
theorem dL_beds_102 : decode cL_beds 102 = .ok (.if_icmp .eq 152, 3) := by decide +kernel
theorem dL_beds_105 : decode cL_beds 105 = .ok (.iload 6, 2) := by decide +kernel
theorem dL_beds_107 : decode cL_beds 107 = .ok (.sipush (-1000), 3) := by decide +kernel
theorem dL_beds_110 : decode cL_beds 110 = .ok (.if_icmp .ne 7, 3) := by decide +kernel
theorem dL_beds_113 : decode cL_beds 113 = .ok (.iconst 1, 1) := by decide +kernel
theorem dL_beds_114 : decode cL_beds 114 = .ok (.goto 4, 3) := by decide +kernel
theorem dL_beds_117 : decode cL_beds 117 = .ok (.iconst 0, 1) := by decide +kernel
theorem dL_beds_118 : decode cL_beds 118 = .ok (.iload 5, 2) := by decide +kernel
theorem dL_beds_120 : decode cL_beds 120 = .ok (.ifCond .ne 7, 3) := by decide +kernel
theorem dL_beds_123 : decode cL_beds 123 = .ok (.iconst 1, 1) := by decide +kernel
theorem dL_beds_124 : decode cL_beds 124 = .ok (.goto 4, 3) := by decide +kernel
theorem dL_beds_127 : decode cL_beds 127 = .ok (.iconst 0, 1) := by decide +kernel
theorem dL_beds_128 : decode cL_beds 128 = .ok (.if_icmp .ne 126, 3) := by decide +kernel
theorem dL_beds_131 : decode cL_beds 131 = .ok (.iload 7, 2) := by decide +kernel
theorem dL_beds_133 : decode cL_beds 133 = .ok (.sipush (-1000), 3) := by decide +kernel
theorem dL_beds_136 : decode cL_beds 136 = .ok (.if_icmp .ne 7, 3) := by decide +kernel
theorem dL_beds_139 : decode cL_beds 139 = .ok (.iconst 1, 1) := by decide +kernel
theorem dL_beds_140 : decode cL_beds 140 = .ok (.goto 4, 3) := by decide +kernel
theorem dL_beds_143 : decode cL_beds 143 = .ok (.iconst 0, 1) := by decide +kernel
theorem dL_beds_144 : decode cL_beds 144 = .ok (.iload 5, 2) := by decide +kernel
theorem dL_beds_146 : decode cL_beds 146 = .ok (.ifCond .ne 7, 3) := by decide +kernel
theorem dL_beds_149 : decode cL_beds 149 = .ok (.iconst 1, 1) := by decide +kernel
theorem dL_beds_150 : decode cL_beds 150 = .ok (.goto 4, 3) := by decide +kernel
theorem dL_beds_153 : decode cL_beds 153 = .ok (.iconst 0, 1) := by decide +kernel
theorem dL_beds_154 : decode cL_beds 154 = .ok (.if_icmp .ne 100, 3) := by decide +kernel
theorem dL_beds_157 : decode cL_beds 157 = .ok (.iload 6, 2) := by decide +kernel
theorem dL_beds_159 : decode cL_beds 159 = .ok (.ifCond .ne 15, 3) := by decide +kernel
theorem dL_beds_162 : decode cL_beds 162 = .ok (.iload 7, 2) := by decide +kernel
theorem dL_beds_164 : decode cL_beds 164 = .ok (.iconst 1, 1) := by decide +kernel
theorem dL_beds_165 : decode cL_beds 165 = .ok (.if_icmp .lt 89, 3) := by decide +kernel
theorem dL_beds_168 : decode cL_beds 168 = .ok (.iload 7, 2) := by decide +kernel
theorem dL_beds_170 : decode cL_beds 170 = .ok (.iconst 4, 1) := by decide +kernel
theorem dL_beds_171 : decode cL_beds 171 = .ok (.if_icmp .gt 83, 3) := by decide +kernel
theorem dL_beds_174 : decode cL_beds 174 = .ok (.iload 6, 2) := by decide +kernel
theorem dL_beds_176 : decode cL_beds 176 = .ok (.iconst 1, 1) := by decide +kernel
theorem dL_beds_177 : decode cL_beds 177 = .ok (.if_icmp .ne 15, 3) := by decide +kernel
theorem dL_beds_180 : decode cL_beds 180 = .ok (.iload 7, 2) := by decide +kernel
theorem dL_beds_182 : decode cL_beds 182 = .ok (.ifCond .lt 72, 3) := by decide +kernel
theorem dL_beds_185 : decode cL_beds 185 = .ok (.iload 7, 2) := by decide +kernel
theorem dL_beds_187 : decode cL_beds 187 = .ok (.bipush 6, 2) := by decide +kernel
theorem dL_beds_189 : decode cL_beds 189 = .ok (.if_icmp .gt 65, 3) := by decide +kernel
theorem dL_beds_192 : decode cL_beds 192 = .ok (.aload_n 0, 1) := by decide +kernel
theorem dL_beds_193 : decode cL_beds 193 = .ok (.iload 4, 2) := by decide +kernel
theorem dL_beds_195 : decode cL_beds 195 = .ok (.iconst 5, 1) := by decide +kernel
theorem dL_beds_196 : decode cL_beds 196 = .ok (.invokevirtual 56, 3) := by decide +kernel
theorem dL_beds_199 : decode cL_beds 199 = .ok (.iconst 1, 1) := by decide +kernel
theorem dL_beds_200 : decode cL_beds 200 = .ok (.if_icmp .ne 9, 3) := by decide +kernel
theorem dL_beds_203 : decode cL_beds 203 = .ok (.iload 5, 2) := by decide +kernel
theorem dL_beds_205 : decode cL_beds 205 = .ok (.iconst 1, 1) := by decide +kernel
theorem dL_beds_206 : decode cL_beds 206 = .ok (.if_icmp .ne 48, 3) := by decide +kernel
theorem dL_beds_209 : decode cL_beds 209 = .ok (.aload_n 0, 1) := by decide +kernel
theorem dL_beds_210 : decode cL_beds 210 = .ok (.iload 4, 2) := by decide +kernel
theorem dL_beds_212 : decode cL_beds 212 = .ok (.iconst 4, 1) := by decide +kernel
theorem dL_beds_213 : decode cL_beds 213 = .ok (.invokevirtual 56, 3) := by decide +kernel
theorem dL_beds_216 : decode cL_beds 216 = .ok (.iconst 1, 1) := by decide +kernel
theorem dL_beds_217 : decode cL_beds 217 = .ok (.if_icmp .ne 7, 3) := by decide +kernel
theorem dL_beds_220 : decode cL_beds 220 = .ok (.iconst 1, 1) := by decide +kernel
theorem dL_beds_221 : decode cL_beds 221 = .ok (.goto 4, 3) := by decide +kernel
theorem dL_beds_224 : decode cL_beds 224 = .ok (.iconst 0, 1) := by decide +kernel
theorem dL_beds_225 : decode cL_beds 225 = .ok (.iload 5, 2) := by decide +kernel
theorem dL_beds_227 : decode cL_beds 227 = .ok (.iconst 2, 1) := by decide +kernel
theorem dL_beds_228 : decode cL_beds 228 = .ok (.if_icmp .ne 22, 3) := by decide +kernel
theorem dL_beds_231 : decode cL_beds 231 = .ok (.aload_n 0, 1) := by decide +kernel
theorem dL_beds_232 : decode cL_beds 232 = .ok (.iload 4, 2) := by decide +kernel
theorem dL_beds_234 : decode cL_beds 234 = .ok (.iconst 3, 1) := by decide +kernel
theorem dL_beds_235 : decode cL_beds 235 = .ok (.invokevirtual 56, 3) := by decide +kernel
theorem dL_beds_238 : decode cL_beds 238 = .ok (.aload_n 0, 1) := by decide +kernel
theorem dL_beds_239 : decode cL_beds 239 = .ok (.iconst 4, 1) := by decide +kernel
theorem dL_beds_240 : decode cL_beds 240 = .ok (.invokevirtual 61, 3) := by decide +kernel
theorem dL_beds_243 : decode cL_beds 243 = .ok (.if_icmp .gt 7, 3) := by decide +kernel
theorem dL_beds_246 : decode cL_beds 246 = .ok (.iconst 1, 1) := by decide +kernel
theorem dL_beds_247 : decode cL_beds 247 = .ok (.goto 4, 3) := by decide +kernel
theorem dL_beds_250 : decode cL_beds 250 = .ok (.iconst 0, 1) := by decide +kernel
theorem dL_beds_251 : decode cL_beds 251 = .ok (.if_icmp .eq 5, 3) := by decide +kernel
theorem dL_beds_254 : decode cL_beds 254 = .ok (.iconst 0, 1) := by decide +kernel
theorem dL_beds_255 : decode cL_beds 255 = .ok (.ireturn, 1) := by decide +kernel
theorem dL_beds_256 : decode cL_beds 256 = .ok (.iinc 4 1, 3) := by decide +kernel
theorem dL_beds_259 : decode cL_beds 259 = .ok (.goto (-248), 3) := by decide +kernel
theorem dL_beds_262 : decode cL_beds 262 = .ok (.aload_n 0, 1) := by decide +kernel
theorem dL_beds_263 : decode cL_beds 263 = .ok (.invokevirtual 64, 3) := by decide +kernel
theorem dL_beds_266 : decode cL_beds 266 = .ok (.istore 4, 2) := by decide +kernel
theorem dL_beds_268 : decode cL_beds 268 = .ok (.iconst 0, 1) := by decide +kernel
theorem dL_beds_269 : decode cL_beds 269 = .ok (.istore 5, 2) := by decide +kernel
theorem dL_beds_271 : decode cL_beds 271 = .ok (.iload 5, 2) := by decide +kernel
theorem dL_beds_273 : decode cL_beds 273 = .ok (.bipush 32, 2) := by decide +kernel
theorem dL_beds_275 : decode cL_beds 275 = .ok (.if_icmp .ge 130, 3) := by decide +kernel
theorem dL_beds_278 : decode cL_beds 278 = .ok (.iload 4, 2) := by decide +kernel
theorem dL_beds_280 : decode cL_beds 280 = .ok (.sipush (-1000), 3) := by decide +kernel
theorem dL_beds_283 : decode cL_beds 283 = .ok (.if_icmp .eq 122, 3) := by decide +kernel
theorem dL_beds_286 : decode cL_beds 286 = .ok (.aload_n 0, 1) := by decide +kernel
theorem dL_beds_287 : decode cL_beds 287 = .ok (.iload 5, 2) := by decide +kernel
theorem dL_beds_289 : decode cL_beds 289 = .ok (.iconst 0, 1) := by decide +kernel
theorem dL_beds_290 : decode cL_beds 290 = .ok (.invokevirtual 56, 3) := by decide +kernel
theorem dL_beds_293 : decode cL_beds 293 = .ok (.ifCond .ne 7, 3) := by decide +kernel
theorem dL_beds_296 : decode cL_beds 296 = .ok (.iconst 1, 1) := by decide +kernel
theorem dL_beds_297 : decode cL_beds 297 = .ok (.goto 4, 3) := by decide +kernel
theorem dL_beds_300 : decode cL_beds 300 = .ok (.iconst 0, 1) := by decide +kernel
theorem dL_beds_301 : decode cL_beds 301 = .ok (.istore 6, 2) := by decide +kernel
theorem dL_beds_303 : decode cL_beds 303 = .ok (.aload_n 0, 1) := by decide +kernel
theorem dL_beds_304 : decode cL_beds 304 = .ok (.iload 5, 2) := by decide +kernel
theorem dL_beds_306 : decode cL_beds 306 = .ok (.iconst 4, 1) := by decide +kernel
theorem dL_beds_307 : decode cL_beds 307 = .ok (.invokevirtual 56, 3) := by decide +kernel
theorem dL_beds_310 : decode cL_beds 310 = .ok (.iconst 1, 1) := by decide +kernel
theorem dL_beds_311 : decode cL_beds 311 = .ok (.if_icmp .ne 7, 3) := by decide +kernel
theorem dL_beds_314 : decode cL_beds 314 = .ok (.iconst 1, 1) := by decide +kernel
theorem dL_beds_315 : decode cL_beds 315 = .ok (.goto 4, 3) := by decide +kernel

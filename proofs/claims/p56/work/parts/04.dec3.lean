-- printed rows: each instruction of each method
theorem dL_distance_14 : decode cL_distance 14 = .ok (.astore 4, 2) := by decide +kernel
theorem dL_distance_16 : decode cL_distance 16 = .ok (.sipush (-1000), 3) := by decide +kernel
theorem dL_distance_19 : decode cL_distance 19 = .ok (.ireturn, 1) := by decide +kernel
theorem dL_distance_20 : decode cL_distance 20 = .ok (.astore 4, 2) := by decide +kernel
theorem dL_distance_22 : decode cL_distance 22 = .ok (.sipush (-1000), 3) := by decide +kernel
theorem dL_distance_25 : decode cL_distance 25 = .ok (.ireturn, 1) := by decide +kernel
theorem dL_distance_26 : decode cL_distance 26 = .ok (.iload_n 3, 1) := by decide +kernel
theorem dL_distance_27 : decode cL_distance 27 = .ok (.ireturn, 1) := by decide +kernel
theorem dL_directionTo_0 : decode cL_directionTo 0 = .ok (.sipush (-1000), 3) := by decide +kernel
theorem dL_directionTo_3 : decode cL_directionTo 3 = .ok (.istore 4, 2) := by decide +kernel
theorem dL_directionTo_5 : decode cL_directionTo 5 = .ok (.aload_n 0, 1) := by decide +kernel
theorem dL_directionTo_6 : decode cL_directionTo 6 = .ok (.iload_n 1, 1) := by decide +kernel
theorem dL_directionTo_7 : decode cL_directionTo 7 = .ok (.iload_n 2, 1) := by decide +kernel
theorem dL_directionTo_8 : decode cL_directionTo 8 = .ok (.iload_n 3, 1) := by decide +kernel
theorem dL_directionTo_9 : decode cL_directionTo 9 = .ok (.invokevirtual 83, 3) := by decide +kernel
theorem dL_directionTo_12 : decode cL_directionTo 12 = .ok (.istore 4, 2) := by decide +kernel
theorem dL_directionTo_14 : decode cL_directionTo 14 = .ok (.goto 21, 3) := by decide +kernel
theorem dL_directionTo_17 : decode cL_directionTo 17 = .ok (.astore 5, 2) := by decide +kernel
theorem dL_directionTo_19 : decode cL_directionTo 19 = .ok (.sipush (-1000), 3) := by decide +kernel
theorem dL_directionTo_22 : decode cL_directionTo 22 = .ok (.ireturn, 1) := by decide +kernel
theorem dL_directionTo_23 : decode cL_directionTo 23 = .ok (.astore 5, 2) := by decide +kernel
theorem dL_directionTo_25 : decode cL_directionTo 25 = .ok (.sipush (-1000), 3) := by decide +kernel
theorem dL_directionTo_28 : decode cL_directionTo 28 = .ok (.ireturn, 1) := by decide +kernel
theorem dL_directionTo_29 : decode cL_directionTo 29 = .ok (.astore 5, 2) := by decide +kernel
theorem dL_directionTo_31 : decode cL_directionTo 31 = .ok (.sipush (-1000), 3) := by decide +kernel
theorem dL_directionTo_34 : decode cL_directionTo 34 = .ok (.ireturn, 1) := by decide +kernel
theorem dL_directionTo_35 : decode cL_directionTo 35 = .ok (.iload 4, 2) := by decide +kernel
theorem dL_directionTo_37 : decode cL_directionTo 37 = .ok (.ireturn, 1) := by decide +kernel
theorem dL_cellsAhead_0 : decode cL_cellsAhead 0 = .ok (.sipush (-1000), 3) := by decide +kernel
theorem dL_cellsAhead_3 : decode cL_cellsAhead 3 = .ok (.istore_n 2, 1) := by decide +kernel
theorem dL_cellsAhead_4 : decode cL_cellsAhead 4 = .ok (.aload_n 0, 1) := by decide +kernel
theorem dL_cellsAhead_5 : decode cL_cellsAhead 5 = .ok (.iload_n 1, 1) := by decide +kernel
theorem dL_cellsAhead_6 : decode cL_cellsAhead 6 = .ok (.invokevirtual 86, 3) := by decide +kernel
theorem dL_cellsAhead_9 : decode cL_cellsAhead 9 = .ok (.istore_n 2, 1) := by decide +kernel
theorem dL_cellsAhead_10 : decode cL_cellsAhead 10 = .ok (.goto 13, 3) := by decide +kernel
theorem dL_cellsAhead_13 : decode cL_cellsAhead 13 = .ok (.astore_n 3, 1) := by decide +kernel
theorem dL_cellsAhead_14 : decode cL_cellsAhead 14 = .ok (.sipush (-1000), 3) := by decide +kernel
theorem dL_cellsAhead_17 : decode cL_cellsAhead 17 = .ok (.ireturn, 1) := by decide +kernel
theorem dL_cellsAhead_18 : decode cL_cellsAhead 18 = .ok (.astore_n 3, 1) := by decide +kernel
theorem dL_cellsAhead_19 : decode cL_cellsAhead 19 = .ok (.sipush (-1000), 3) := by decide +kernel
theorem dL_cellsAhead_22 : decode cL_cellsAhead 22 = .ok (.ireturn, 1) := by decide +kernel
theorem dL_cellsAhead_23 : decode cL_cellsAhead 23 = .ok (.iload_n 2, 1) := by decide +kernel
theorem dL_cellsAhead_24 : decode cL_cellsAhead 24 = .ok (.ireturn, 1) := by decide +kernel
theorem dL_hitShare_0 : decode cL_hitShare 0 = .ok (.ldc 89, 2) := by decide +kernel
theorem dL_hitShare_2 : decode cL_hitShare 2 = .ok (.fstore_n 1, 1) := by decide +kernel
theorem dL_hitShare_3 : decode cL_hitShare 3 = .ok (.aload_n 0, 1) := by decide +kernel
theorem dL_hitShare_4 : decode cL_hitShare 4 = .ok (.invokevirtual 90, 3) := by decide +kernel
theorem dL_hitShare_7 : decode cL_hitShare 7 = .ok (.fstore_n 1, 1) := by decide +kernel
theorem dL_hitShare_8 : decode cL_hitShare 8 = .ok (.goto 7, 3) := by decide +kernel
theorem dL_hitShare_11 : decode cL_hitShare 11 = .ok (.astore_n 2, 1) := by decide +kernel
theorem dL_hitShare_12 : decode cL_hitShare 12 = .ok (.ldc 89, 2) := by decide +kernel
theorem dL_hitShare_14 : decode cL_hitShare 14 = .ok (.freturn, 1) := by decide +kernel
theorem dL_hitShare_15 : decode cL_hitShare 15 = .ok (.fload_n 1, 1) := by decide +kernel
theorem dL_hitShare_16 : decode cL_hitShare 16 = .ok (.freturn, 1) := by decide +kernel
theorem dL_meanCubes_0 : decode cL_meanCubes 0 = .ok (.ldc2_w 96, 3) := by decide +kernel
theorem dL_meanCubes_3 : decode cL_meanCubes 3 = .ok (.dstore_n 2, 1) := by decide +kernel
theorem dL_meanCubes_4 : decode cL_meanCubes 4 = .ok (.aload_n 0, 1) := by decide +kernel
theorem dL_meanCubes_5 : decode cL_meanCubes 5 = .ok (.iload_n 1, 1) := by decide +kernel
theorem dL_meanCubes_6 : decode cL_meanCubes 6 = .ok (.invokevirtual 98, 3) := by decide +kernel
theorem dL_meanCubes_9 : decode cL_meanCubes 9 = .ok (.dstore_n 2, 1) := by decide +kernel
theorem dL_meanCubes_10 : decode cL_meanCubes 10 = .ok (.goto 15, 3) := by decide +kernel
theorem dL_meanCubes_13 : decode cL_meanCubes 13 = .ok (.astore 4, 2) := by decide +kernel
theorem dL_meanCubes_15 : decode cL_meanCubes 15 = .ok (.ldc2_w 96, 3) := by decide +kernel
theorem dL_meanCubes_18 : decode cL_meanCubes 18 = .ok (.dreturn, 1) := by decide +kernel
theorem dL_meanCubes_19 : decode cL_meanCubes 19 = .ok (.astore 4, 2) := by decide +kernel
theorem dL_meanCubes_21 : decode cL_meanCubes 21 = .ok (.ldc2_w 96, 3) := by decide +kernel
theorem dL_meanCubes_24 : decode cL_meanCubes 24 = .ok (.dreturn, 1) := by decide +kernel
theorem dL_meanCubes_25 : decode cL_meanCubes 25 = .ok (.dload_n 2, 1) := by decide +kernel
theorem dL_meanCubes_26 : decode cL_meanCubes 26 = .ok (.dreturn, 1) := by decide +kernel
theorem dL_run_0 : decode cL_run 0 = .ok (.ldc 10, 2) := by decide +kernel
theorem dL_run_2 : decode cL_run 2 = .ok (.istore_n 1, 1) := by decide +kernel
theorem dL_run_3 : decode cL_run 3 = .ok (.aload_n 0, 1) := by decide +kernel
theorem dL_run_4 : decode cL_run 4 = .ok (.invokevirtual 102, 3) := by decide +kernel
theorem dL_run_7 : decode cL_run 7 = .ok (.istore_n 1, 1) := by decide +kernel
theorem dL_run_8 : decode cL_run 8 = .ok (.goto 11, 3) := by decide +kernel
theorem dL_run_11 : decode cL_run 11 = .ok (.astore_n 2, 1) := by decide +kernel
theorem dL_run_12 : decode cL_run 12 = .ok (.ldc 10, 2) := by decide +kernel
theorem dL_run_14 : decode cL_run 14 = .ok (.ireturn, 1) := by decide +kernel
theorem dL_run_15 : decode cL_run 15 = .ok (.astore_n 2, 1) := by decide +kernel
theorem dL_run_16 : decode cL_run 16 = .ok (.ldc 10, 2) := by decide +kernel
theorem dL_run_18 : decode cL_run 18 = .ok (.ireturn, 1) := by decide +kernel
theorem dL_run_19 : decode cL_run 19 = .ok (.iload_n 1, 1) := by decide +kernel
theorem dL_run_20 : decode cL_run 20 = .ok (.ireturn, 1) := by decide +kernel
theorem dL_failedCommand_0 : decode cL_failedCommand 0 = .ok (.sipush (-1000), 3) := by decide +kernel
theorem dL_failedCommand_3 : decode cL_failedCommand 3 = .ok (.istore_n 1, 1) := by decide +kernel
theorem dL_failedCommand_4 : decode cL_failedCommand 4 = .ok (.aload_n 0, 1) := by decide +kernel
theorem dL_failedCommand_5 : decode cL_failedCommand 5 = .ok (.invokevirtual 105, 3) := by decide +kernel
theorem dL_failedCommand_8 : decode cL_failedCommand 8 = .ok (.istore_n 1, 1) := by decide +kernel
theorem dL_failedCommand_9 : decode cL_failedCommand 9 = .ok (.goto 8, 3) := by decide +kernel
theorem dL_failedCommand_12 : decode cL_failedCommand 12 = .ok (.astore_n 2, 1) := by decide +kernel
theorem dL_failedCommand_13 : decode cL_failedCommand 13 = .ok (.sipush (-1000), 3) := by decide +kernel
theorem dL_failedCommand_16 : decode cL_failedCommand 16 = .ok (.ireturn, 1) := by decide +kernel
theorem dL_failedCommand_17 : decode cL_failedCommand 17 = .ok (.iload_n 1, 1) := by decide +kernel
theorem dL_failedCommand_18 : decode cL_failedCommand 18 = .ok (.ireturn, 1) := by decide +kernel
theorem dL_undo_0 : decode cL_undo 0 = .ok (.ldc 10, 2) := by decide +kernel
theorem dL_undo_2 : decode cL_undo 2 = .ok (.istore_n 1, 1) := by decide +kernel
theorem dL_undo_3 : decode cL_undo 3 = .ok (.aload_n 0, 1) := by decide +kernel
theorem dL_undo_4 : decode cL_undo 4 = .ok (.invokevirtual 108, 3) := by decide +kernel
theorem dL_undo_7 : decode cL_undo 7 = .ok (.istore_n 1, 1) := by decide +kernel
theorem dL_undo_8 : decode cL_undo 8 = .ok (.goto 7, 3) := by decide +kernel
theorem dL_undo_11 : decode cL_undo 11 = .ok (.astore_n 2, 1) := by decide +kernel
theorem dL_undo_12 : decode cL_undo 12 = .ok (.ldc 10, 2) := by decide +kernel
theorem dL_undo_14 : decode cL_undo 14 = .ok (.ireturn, 1) := by decide +kernel
theorem dL_undo_15 : decode cL_undo 15 = .ok (.iload_n 1, 1) := by decide +kernel
theorem dL_undo_16 : decode cL_undo 16 = .ok (.ireturn, 1) := by decide +kernel
theorem dL_restore_0 : decode cL_restore 0 = .ok (.ldc 10, 2) := by decide +kernel
theorem dL_restore_2 : decode cL_restore 2 = .ok (.istore_n 1, 1) := by decide +kernel
theorem dL_restore_3 : decode cL_restore 3 = .ok (.aload_n 0, 1) := by decide +kernel
theorem dL_restore_4 : decode cL_restore 4 = .ok (.invokevirtual 111, 3) := by decide +kernel
theorem dL_restore_7 : decode cL_restore 7 = .ok (.istore_n 1, 1) := by decide +kernel
theorem dL_restore_8 : decode cL_restore 8 = .ok (.goto 7, 3) := by decide +kernel
theorem dL_restore_11 : decode cL_restore 11 = .ok (.astore_n 2, 1) := by decide +kernel
theorem dL_restore_12 : decode cL_restore 12 = .ok (.ldc 10, 2) := by decide +kernel
theorem dL_restore_14 : decode cL_restore 14 = .ok (.ireturn, 1) := by decide +kernel
theorem dL_restore_15 : decode cL_restore 15 = .ok (.iload_n 1, 1) := by decide +kernel
theorem dL_restore_16 : decode cL_restore 16 = .ok (.ireturn, 1) := by decide +kernel
theorem dL_put_0 : decode cL_put 0 = .ok (.aload_n 0, 1) := by decide +kernel
theorem dL_put_1 : decode cL_put 1 = .ok (.iload_n 1, 1) := by decide +kernel
theorem dL_put_2 : decode cL_put 2 = .ok (.invokevirtual 114, 3) := by decide +kernel
theorem dL_put_5 : decode cL_put 5 = .ok (.pop, 1) := by decide +kernel
theorem dL_put_6 : decode cL_put 6 = .ok (.goto 6, 3) := by decide +kernel
theorem dL_put_9 : decode cL_put 9 = .ok (.astore_n 2, 1) := by decide +kernel
theorem dL_put_10 : decode cL_put 10 = .ok (.iconst 0, 1) := by decide +kernel
theorem dL_put_11 : decode cL_put 11 = .ok (.ireturn, 1) := by decide +kernel
theorem dL_put_12 : decode cL_put 12 = .ok (.iconst 1, 1) := by decide +kernel
theorem dL_put_13 : decode cL_put 13 = .ok (.ireturn, 1) := by decide +kernel
theorem dL_write_0 : decode cL_write 0 = .ok (.iconst 0, 1) := by decide +kernel
theorem dL_write_1 : decode cL_write 1 = .ok (.istore_n 2, 1) := by decide +kernel
theorem dL_write_2 : decode cL_write 2 = .ok (.iload_n 2, 1) := by decide +kernel
theorem dL_write_3 : decode cL_write 3 = .ok (.aload_n 1, 1) := by decide +kernel
theorem dL_write_4 : decode cL_write 4 = .ok (.invokevirtual 118, 3) := by decide +kernel
theorem dL_write_7 : decode cL_write 7 = .ok (.if_icmp .ge 19, 3) := by decide +kernel
theorem dL_write_10 : decode cL_write 10 = .ok (.aload_n 0, 1) := by decide +kernel
theorem dL_write_11 : decode cL_write 11 = .ok (.aload_n 1, 1) := by decide +kernel
theorem dL_write_12 : decode cL_write 12 = .ok (.iload_n 2, 1) := by decide +kernel
theorem dL_write_13 : decode cL_write 13 = .ok (.invokevirtual 123, 3) := by decide +kernel
theorem dL_write_16 : decode cL_write 16 = .ok (.invokestatic 127, 3) := by decide +kernel
theorem dL_write_19 : decode cL_write 19 = .ok (.pop, 1) := by decide +kernel
theorem dL_write_20 : decode cL_write 20 = .ok (.iinc 2 1, 3) := by decide +kernel
theorem dL_write_23 : decode cL_write 23 = .ok (.goto (-21), 3) := by decide +kernel
theorem dL_write_26 : decode cL_write 26 = .ok (.aload_n 0, 1) := by decide +kernel
theorem dL_write_27 : decode cL_write 27 = .ok (.areturn, 1) := by decide +kernel
theorem dL_act_0 : decode cL_act 0 = .ok (.iload_n 1, 1) := by decide +kernel
theorem dL_act_1 : decode cL_act 1 = .ok (.iconst 4, 1) := by decide +kernel
theorem dL_act_2 : decode cL_act 2 = .ok (.ishr, 1) := by decide +kernel
theorem dL_act_3 : decode cL_act 3 = .ok (.ldc 7, 2) := by decide +kernel
theorem dL_act_5 : decode cL_act 5 = .ok (.iand, 1) := by decide +kernel
theorem dL_act_6 : decode cL_act 6 = .ok (.istore_n 2, 1) := by decide +kernel
theorem dL_act_7 : decode cL_act 7 = .ok (.iload_n 2, 1) := by decide +kernel
theorem dL_act_8 : decode cL_act 8 = .ok (.bipush 6, 2) := by decide +kernel
theorem dL_act_10 : decode cL_act 10 = .ok (.irem, 1) := by decide +kernel
theorem dL_act_11 : decode cL_act 11 = .ok (.istore_n 3, 1) := by decide +kernel
theorem dL_act_12 : decode cL_act 12 = .ok (.iload_n 2, 1) := by decide +kernel
theorem dL_act_13 : decode cL_act 13 = .ok (.iconst 4, 1) := by decide +kernel
theorem dL_act_14 : decode cL_act 14 = .ok (.ishr, 1) := by decide +kernel
theorem dL_act_15 : decode cL_act 15 = .ok (.bipush 6, 2) := by decide +kernel
theorem dL_act_17 : decode cL_act 17 = .ok (.irem, 1) := by decide +kernel
theorem dL_act_18 : decode cL_act 18 = .ok (.istore 4, 2) := by decide +kernel
theorem dL_act_20 : decode cL_act 20 = .ok (.iload_n 1, 1) := by decide +kernel
theorem dL_act_21 : decode cL_act 21 = .ok (.bipush 15, 2) := by decide +kernel
theorem dL_act_23 : decode cL_act 23 = .ok (.iand, 1) := by decide +kernel
theorem dL_act_24 : decode cL_act 24 = .ok (.tableswitch 220 0 14 #[76, 124, 124, 124, 129, 129, 141, 141, 164, 164, 164, 190, 202, 202, 202], 76) := by decide +kernel
theorem dL_act_100 : decode cL_act 100 = .ok (.iload_n 2, 1) := by decide +kernel
theorem dL_act_101 : decode cL_act 101 = .ok (.bipush 64, 2) := by decide +kernel
theorem dL_act_103 : decode cL_act 103 = .ok (.iand, 1) := by decide +kernel
theorem dL_act_104 : decode cL_act 104 = .ok (.ifCond .ne 10, 3) := by decide +kernel
theorem dL_act_107 : decode cL_act 107 = .ok (.aload_n 0, 1) := by decide +kernel
theorem dL_act_108 : decode cL_act 108 = .ok (.invokestatic 131, 3) := by decide +kernel
theorem dL_act_111 : decode cL_act 111 = .ok (.goto 36, 3) := by decide +kernel
theorem dL_act_114 : decode cL_act 114 = .ok (.aload_n 0, 1) := by decide +kernel
theorem dL_act_115 : decode cL_act 115 = .ok (.iload_n 2, 1) := by decide +kernel
theorem dL_act_116 : decode cL_act 116 = .ok (.iconst 3, 1) := by decide +kernel
theorem dL_act_117 : decode cL_act 117 = .ok (.irem, 1) := by decide +kernel
theorem dL_act_118 : decode cL_act 118 = .ok (.iload_n 2, 1) := by decide +kernel
theorem dL_act_119 : decode cL_act 119 = .ok (.iconst 2, 1) := by decide +kernel
theorem dL_act_120 : decode cL_act 120 = .ok (.ishr, 1) := by decide +kernel
theorem dL_act_121 : decode cL_act 121 = .ok (.bipush 10, 2) := by decide +kernel
theorem dL_act_123 : decode cL_act 123 = .ok (.irem, 1) := by decide +kernel
theorem dL_act_124 : decode cL_act 124 = .ok (.iload_n 2, 1) := by decide +kernel
theorem dL_act_125 : decode cL_act 125 = .ok (.iconst 4, 1) := by decide +kernel
theorem dL_act_126 : decode cL_act 126 = .ok (.ishr, 1) := by decide +kernel
theorem dL_act_127 : decode cL_act 127 = .ok (.bipush 10, 2) := by decide +kernel
theorem dL_act_129 : decode cL_act 129 = .ok (.irem, 1) := by decide +kernel
theorem dL_act_130 : decode cL_act 130 = .ok (.iload_n 2, 1) := by decide +kernel
theorem dL_act_131 : decode cL_act 131 = .ok (.bipush 6, 2) := by decide +kernel
theorem dL_act_133 : decode cL_act 133 = .ok (.ishr, 1) := by decide +kernel
theorem dL_act_134 : decode cL_act 134 = .ok (.bipush 8, 2) := by decide +kernel
theorem dL_act_136 : decode cL_act 136 = .ok (.irem, 1) := by decide +kernel
theorem dL_act_137 : decode cL_act 137 = .ok (.iload_n 2, 1) := by decide +kernel
theorem dL_act_138 : decode cL_act 138 = .ok (.bipush 8, 2) := by decide +kernel
theorem dL_act_140 : decode cL_act 140 = .ok (.ishr, 1) := by decide +kernel
theorem dL_act_141 : decode cL_act 141 = .ok (.bipush 10, 2) := by decide +kernel
theorem dL_act_143 : decode cL_act 143 = .ok (.irem, 1) := by decide +kernel
theorem dL_act_144 : decode cL_act 144 = .ok (.invokestatic 134, 3) := by decide +kernel
theorem dL_act_147 : decode cL_act 147 = .ok (.ireturn, 1) := by decide +kernel
theorem dL_act_148 : decode cL_act 148 = .ok (.aload_n 0, 1) := by decide +kernel
theorem dL_act_149 : decode cL_act 149 = .ok (.invokestatic 137, 3) := by decide +kernel
theorem dL_act_152 : decode cL_act 152 = .ok (.ireturn, 1) := by decide +kernel
theorem dL_act_153 : decode cL_act 153 = .ok (.aload_n 0, 1) := by decide +kernel
theorem dL_act_154 : decode cL_act 154 = .ok (.iload_n 3, 1) := by decide +kernel
theorem dL_act_155 : decode cL_act 155 = .ok (.iload_n 2, 1) := by decide +kernel
theorem dL_act_156 : decode cL_act 156 = .ok (.iconst 3, 1) := by decide +kernel
theorem dL_act_157 : decode cL_act 157 = .ok (.ishr, 1) := by decide +kernel
theorem dL_act_158 : decode cL_act 158 = .ok (.bipush 9, 2) := by decide +kernel
theorem dL_act_160 : decode cL_act 160 = .ok (.irem, 1) := by decide +kernel
theorem dL_act_161 : decode cL_act 161 = .ok (.invokestatic 139, 3) := by decide +kernel
theorem dL_act_164 : decode cL_act 164 = .ok (.ireturn, 1) := by decide +kernel
theorem dL_act_165 : decode cL_act 165 = .ok (.aload_n 0, 1) := by decide +kernel
theorem dL_act_166 : decode cL_act 166 = .ok (.iload_n 3, 1) := by decide +kernel
theorem dL_act_167 : decode cL_act 167 = .ok (.iload_n 2, 1) := by decide +kernel
theorem dL_act_168 : decode cL_act 168 = .ok (.iconst 3, 1) := by decide +kernel
theorem dL_act_169 : decode cL_act 169 = .ok (.ishr, 1) := by decide +kernel
theorem dL_act_170 : decode cL_act 170 = .ok (.iconst 5, 1) := by decide +kernel
theorem dL_act_171 : decode cL_act 171 = .ok (.irem, 1) := by decide +kernel
theorem dL_act_172 : decode cL_act 172 = .ok (.iload_n 2, 1) := by decide +kernel
theorem dL_act_173 : decode cL_act 173 = .ok (.bipush 32, 2) := by decide +kernel
theorem dL_act_175 : decode cL_act 175 = .ok (.iand, 1) := by decide +kernel
theorem dL_act_176 : decode cL_act 176 = .ok (.ifCond .ne 7, 3) := by decide +kernel
theorem dL_act_179 : decode cL_act 179 = .ok (.iconst 1, 1) := by decide +kernel
theorem dL_act_180 : decode cL_act 180 = .ok (.goto 4, 3) := by decide +kernel
theorem dL_act_183 : decode cL_act 183 = .ok (.iconst 0, 1) := by decide +kernel
theorem dL_act_184 : decode cL_act 184 = .ok (.invokestatic 142, 3) := by decide +kernel
theorem dL_act_187 : decode cL_act 187 = .ok (.ireturn, 1) := by decide +kernel
theorem dL_act_188 : decode cL_act 188 = .ok (.aload_n 0, 1) := by decide +kernel
theorem dL_act_189 : decode cL_act 189 = .ok (.iload_n 3, 1) := by decide +kernel
theorem dL_act_190 : decode cL_act 190 = .ok (.iconst 0, 1) := by decide +kernel
theorem dL_act_191 : decode cL_act 191 = .ok (.aload_n 0, 1) := by decide +kernel
theorem dL_act_192 : decode cL_act 192 = .ok (.iload 4, 2) := by decide +kernel
theorem dL_act_194 : decode cL_act 194 = .ok (.invokestatic 145, 3) := by decide +kernel
theorem dL_act_197 : decode cL_act 197 = .ok (.invokestatic 148, 3) := by decide +kernel
theorem dL_act_200 : decode cL_act 200 = .ok (.iconst 0, 1) := by decide +kernel
theorem dL_act_201 : decode cL_act 201 = .ok (.aload_n 0, 1) := by decide +kernel
theorem dL_act_202 : decode cL_act 202 = .ok (.iload 4, 2) := by decide +kernel
theorem dL_act_204 : decode cL_act 204 = .ok (.invokestatic 153, 3) := by decide +kernel
theorem dL_act_207 : decode cL_act 207 = .ok (.invokestatic 148, 3) := by decide +kernel
theorem dL_act_210 : decode cL_act 210 = .ok (.invokestatic 155, 3) := by decide +kernel
theorem dL_act_213 : decode cL_act 213 = .ok (.ireturn, 1) := by decide +kernel
theorem dL_act_214 : decode cL_act 214 = .ok (.aload_n 0, 1) := by decide +kernel
theorem dL_act_215 : decode cL_act 215 = .ok (.iload_n 3, 1) := by decide +kernel
theorem dL_act_216 : decode cL_act 216 = .ok (.iload_n 2, 1) := by decide +kernel
theorem dL_act_217 : decode cL_act 217 = .ok (.iconst 3, 1) := by decide +kernel
theorem dL_act_218 : decode cL_act 218 = .ok (.ishr, 1) := by decide +kernel
theorem dL_act_219 : decode cL_act 219 = .ok (.bipush 11, 2) := by decide +kernel
theorem dL_act_221 : decode cL_act 221 = .ok (.irem, 1) := by decide +kernel
theorem dL_act_222 : decode cL_act 222 = .ok (.invokestatic 158, 3) := by decide +kernel
theorem dL_act_225 : decode cL_act 225 = .ok (.ireturn, 1) := by decide +kernel
theorem dL_act_226 : decode cL_act 226 = .ok (.aload_n 0, 1) := by decide +kernel
theorem dL_act_227 : decode cL_act 227 = .ok (.getstatic 160, 3) := by decide +kernel
theorem dL_act_230 : decode cL_act 230 = .ok (.iload_n 2, 1) := by decide +kernel
theorem dL_act_231 : decode cL_act 231 = .ok (.getstatic 160, 3) := by decide +kernel
theorem dL_act_234 : decode cL_act 234 = .ok (.arraylength, 1) := by decide +kernel
theorem dL_act_235 : decode cL_act 235 = .ok (.irem, 1) := by decide +kernel
theorem dL_act_236 : decode cL_act 236 = .ok (.aaload, 1) := by decide +kernel
theorem dL_act_237 : decode cL_act 237 = .ok (.invokestatic 164, 3) := by decide +kernel
theorem dL_act_240 : decode cL_act 240 = .ok (.invokestatic 168, 3) := by decide +kernel
theorem dL_act_243 : decode cL_act 243 = .ok (.ireturn, 1) := by decide +kernel
theorem dL_act_244 : decode cL_act 244 = .ok (.iload_n 2, 1) := by decide +kernel
theorem dL_act_245 : decode cL_act 245 = .ok (.iconst 3, 1) := by decide +kernel
theorem dL_act_246 : decode cL_act 246 = .ok (.iand, 1) := by decide +kernel
theorem dL_act_247 : decode cL_act 247 = .ok (.ifCond .ne 10, 3) := by decide +kernel
theorem dL_act_250 : decode cL_act 250 = .ok (.aload_n 0, 1) := by decide +kernel
theorem dL_act_251 : decode cL_act 251 = .ok (.invokevirtual 170, 3) := by decide +kernel
theorem dL_act_254 : decode cL_act 254 = .ok (.goto 21, 3) := by decide +kernel
theorem dL_act_257 : decode cL_act 257 = .ok (.iload_n 2, 1) := by decide +kernel
theorem dL_act_258 : decode cL_act 258 = .ok (.iconst 3, 1) := by decide +kernel
theorem dL_act_259 : decode cL_act 259 = .ok (.iand, 1) := by decide +kernel
theorem dL_act_260 : decode cL_act 260 = .ok (.iconst 1, 1) := by decide +kernel
theorem dL_act_261 : decode cL_act 261 = .ok (.if_icmp .ne 10, 3) := by decide +kernel
theorem dL_act_264 : decode cL_act 264 = .ok (.aload_n 0, 1) := by decide +kernel
theorem dL_act_265 : decode cL_act 265 = .ok (.invokestatic 173, 3) := by decide +kernel
theorem dL_act_268 : decode cL_act 268 = .ok (.goto 7, 3) := by decide +kernel
theorem dL_act_271 : decode cL_act 271 = .ok (.aload_n 0, 1) := by decide +kernel
theorem dL_act_272 : decode cL_act 272 = .ok (.invokestatic 175, 3) := by decide +kernel
theorem dL_act_275 : decode cL_act 275 = .ok (.ireturn, 1) := by decide +kernel
theorem dL_digest_0 : decode cL_digest 0 = .ok (.ldc2_w 177, 3) := by decide +kernel
theorem dL_digest_3 : decode cL_digest 3 = .ok (.aload_n 0, 1) := by decide +kernel
theorem dL_digest_4 : decode cL_digest 4 = .ok (.invokevirtual 179, 3) := by decide +kernel
theorem dL_digest_7 : decode cL_digest 7 = .ok (.i2l, 1) := by decide +kernel
theorem dL_digest_8 : decode cL_digest 8 = .ok (.lmul, 1) := by decide +kernel
theorem dL_digest_9 : decode cL_digest 9 = .ok (.ldc2_w 182, 3) := by decide +kernel
theorem dL_digest_12 : decode cL_digest 12 = .ok (.aload_n 0, 1) := by decide +kernel
theorem dL_digest_13 : decode cL_digest 13 = .ok (.invokevirtual 184, 3) := by decide +kernel
theorem dL_digest_16 : decode cL_digest 16 = .ok (.i2l, 1) := by decide +kernel
theorem dL_digest_17 : decode cL_digest 17 = .ok (.lmul, 1) := by decide +kernel
theorem dL_digest_18 : decode cL_digest 18 = .ok (.ladd, 1) := by decide +kernel
theorem dL_digest_19 : decode cL_digest 19 = .ok (.ldc2_w 187, 3) := by decide +kernel
theorem dL_digest_22 : decode cL_digest 22 = .ok (.aload_n 0, 1) := by decide +kernel
theorem dL_digest_23 : decode cL_digest 23 = .ok (.invokevirtual 189, 3) := by decide +kernel
theorem dL_digest_26 : decode cL_digest 26 = .ok (.i2l, 1) := by decide +kernel
theorem dL_digest_27 : decode cL_digest 27 = .ok (.lmul, 1) := by decide +kernel
theorem dL_digest_28 : decode cL_digest 28 = .ok (.ladd, 1) := by decide +kernel
theorem dL_digest_29 : decode cL_digest 29 = .ok (.ldc2_w 192, 3) := by decide +kernel
theorem dL_digest_32 : decode cL_digest 32 = .ok (.aload_n 0, 1) := by decide +kernel
theorem dL_digest_33 : decode cL_digest 33 = .ok (.invokevirtual 194, 3) := by decide +kernel
theorem dL_digest_36 : decode cL_digest 36 = .ok (.lmul, 1) := by decide +kernel
theorem dL_digest_37 : decode cL_digest 37 = .ok (.ladd, 1) := by decide +kernel
theorem dL_digest_38 : decode cL_digest 38 = .ok (.ldc2_w 198, 3) := by decide +kernel
theorem dL_digest_41 : decode cL_digest 41 = .ok (.aload_n 0, 1) := by decide +kernel
theorem dL_digest_42 : decode cL_digest 42 = .ok (.invokevirtual 200, 3) := by decide +kernel
theorem dL_digest_45 : decode cL_digest 45 = .ok (.i2l, 1) := by decide +kernel
theorem dL_digest_46 : decode cL_digest 46 = .ok (.lmul, 1) := by decide +kernel
theorem dL_digest_47 : decode cL_digest 47 = .ok (.ladd, 1) := by decide +kernel
theorem dL_digest_48 : decode cL_digest 48 = .ok (.ldc2_w 203, 3) := by decide +kernel
theorem dL_digest_51 : decode cL_digest 51 = .ok (.aload_n 0, 1) := by decide +kernel
theorem dL_digest_52 : decode cL_digest 52 = .ok (.iconst 0, 1) := by decide +kernel
theorem dL_digest_53 : decode cL_digest 53 = .ok (.invokevirtual 205, 3) := by decide +kernel
theorem dL_digest_56 : decode cL_digest 56 = .ok (.i2l, 1) := by decide +kernel
theorem dL_digest_57 : decode cL_digest 57 = .ok (.lmul, 1) := by decide +kernel
theorem dL_digest_58 : decode cL_digest 58 = .ok (.ladd, 1) := by decide +kernel
theorem dL_digest_59 : decode cL_digest 59 = .ok (.ldc2_w 208, 3) := by decide +kernel
theorem dL_digest_62 : decode cL_digest 62 = .ok (.aload_n 0, 1) := by decide +kernel
theorem dL_digest_63 : decode cL_digest 63 = .ok (.iconst 1, 1) := by decide +kernel
theorem dL_digest_64 : decode cL_digest 64 = .ok (.invokevirtual 205, 3) := by decide +kernel
theorem dL_digest_67 : decode cL_digest 67 = .ok (.i2l, 1) := by decide +kernel
theorem dL_digest_68 : decode cL_digest 68 = .ok (.lmul, 1) := by decide +kernel
theorem dL_digest_69 : decode cL_digest 69 = .ok (.ladd, 1) := by decide +kernel
theorem dL_digest_70 : decode cL_digest 70 = .ok (.aload_n 0, 1) := by decide +kernel
theorem dL_digest_71 : decode cL_digest 71 = .ok (.invokestatic 210, 3) := by decide +kernel
theorem dL_digest_74 : decode cL_digest 74 = .ok (.i2l, 1) := by decide +kernel
theorem dL_digest_75 : decode cL_digest 75 = .ok (.ladd, 1) := by decide +kernel
theorem dL_digest_76 : decode cL_digest 76 = .ok (.lstore_n 1, 1) := by decide +kernel
theorem dL_digest_77 : decode cL_digest 77 = .ok (.ldc2_w 212, 3) := by decide +kernel
theorem dL_digest_80 : decode cL_digest 80 = .ok (.ldc2_w 212, 3) := by decide +kernel
theorem dL_digest_83 : decode cL_digest 83 = .ok (.lload_n 1, 1) := by decide +kernel
theorem dL_digest_84 : decode cL_digest 84 = .ok (.lmul, 1) := by decide +kernel
theorem dL_digest_85 : decode cL_digest 85 = .ok (.aload_n 0, 1) := by decide +kernel
theorem dL_digest_86 : decode cL_digest 86 = .ok (.invokestatic 214, 3) := by decide +kernel
theorem dL_digest_89 : decode cL_digest 89 = .ok (.i2l, 1) := by decide +kernel
theorem dL_digest_90 : decode cL_digest 90 = .ok (.ladd, 1) := by decide +kernel
theorem dL_digest_91 : decode cL_digest 91 = .ok (.lmul, 1) := by decide +kernel
theorem dL_digest_92 : decode cL_digest 92 = .ok (.aload_n 0, 1) := by decide +kernel
theorem dL_digest_93 : decode cL_digest 93 = .ok (.invokevirtual 216, 3) := by decide +kernel
theorem dL_digest_96 : decode cL_digest 96 = .ok (.ifCond .eq 7, 3) := by decide +kernel
theorem dL_digest_99 : decode cL_digest 99 = .ok (.iconst 1, 1) := by decide +kernel
theorem dL_digest_100 : decode cL_digest 100 = .ok (.goto 4, 3) := by decide +kernel
theorem dL_digest_103 : decode cL_digest 103 = .ok (.iconst 0, 1) := by decide +kernel
theorem dL_digest_104 : decode cL_digest 104 = .ok (.i2l, 1) := by decide +kernel
theorem dL_digest_105 : decode cL_digest 105 = .ok (.ladd, 1) := by decide +kernel
theorem dL_digest_106 : decode cL_digest 106 = .ok (.aload_n 0, 1) := by decide +kernel
theorem dL_digest_107 : decode cL_digest 107 = .ok (.invokevirtual 220, 3) := by decide +kernel
theorem dL_digest_110 : decode cL_digest 110 = .ok (.ifCond .eq 7, 3) := by decide +kernel
theorem dL_digest_113 : decode cL_digest 113 = .ok (.iconst 2, 1) := by decide +kernel
theorem dL_digest_114 : decode cL_digest 114 = .ok (.goto 4, 3) := by decide +kernel
theorem dL_digest_117 : decode cL_digest 117 = .ok (.iconst 0, 1) := by decide +kernel
theorem dL_digest_118 : decode cL_digest 118 = .ok (.i2l, 1) := by decide +kernel
theorem dL_digest_119 : decode cL_digest 119 = .ok (.ladd, 1) := by decide +kernel
theorem dL_digest_120 : decode cL_digest 120 = .ok (.lstore_n 1, 1) := by decide +kernel
theorem dL_digest_121 : decode cL_digest 121 = .ok (.iconst 0, 1) := by decide +kernel
theorem dL_digest_122 : decode cL_digest 122 = .ok (.istore_n 3, 1) := by decide +kernel
theorem dL_digest_123 : decode cL_digest 123 = .ok (.iload_n 3, 1) := by decide +kernel
theorem dL_digest_124 : decode cL_digest 124 = .ok (.aload_n 0, 1) := by decide +kernel
theorem dL_digest_125 : decode cL_digest 125 = .ok (.invokevirtual 223, 3) := by decide +kernel
theorem dL_digest_128 : decode cL_digest 128 = .ok (.if_icmp .ge 101, 3) := by decide +kernel
theorem dL_digest_131 : decode cL_digest 131 = .ok (.ldc2_w 212, 3) := by decide +kernel
theorem dL_digest_134 : decode cL_digest 134 = .ok (.ldc2_w 212, 3) := by decide +kernel
theorem dL_digest_137 : decode cL_digest 137 = .ok (.ldc2_w 212, 3) := by decide +kernel
theorem dL_digest_140 : decode cL_digest 140 = .ok (.ldc2_w 212, 3) := by decide +kernel
theorem dL_digest_143 : decode cL_digest 143 = .ok (.lload_n 1, 1) := by decide +kernel
theorem dL_digest_144 : decode cL_digest 144 = .ok (.lmul, 1) := by decide +kernel
theorem dL_digest_145 : decode cL_digest 145 = .ok (.aload_n 0, 1) := by decide +kernel
theorem dL_digest_146 : decode cL_digest 146 = .ok (.iload_n 3, 1) := by decide +kernel
theorem dL_digest_147 : decode cL_digest 147 = .ok (.invokestatic 145, 3) := by decide +kernel
theorem dL_digest_150 : decode cL_digest 150 = .ok (.i2l, 1) := by decide +kernel
theorem dL_digest_151 : decode cL_digest 151 = .ok (.ladd, 1) := by decide +kernel
theorem dL_digest_152 : decode cL_digest 152 = .ok (.lmul, 1) := by decide +kernel
theorem dL_digest_153 : decode cL_digest 153 = .ok (.aload_n 0, 1) := by decide +kernel
theorem dL_digest_154 : decode cL_digest 154 = .ok (.iload_n 3, 1) := by decide +kernel
theorem dL_digest_155 : decode cL_digest 155 = .ok (.invokestatic 153, 3) := by decide +kernel
theorem dL_digest_158 : decode cL_digest 158 = .ok (.i2l, 1) := by decide +kernel
theorem dL_digest_159 : decode cL_digest 159 = .ok (.ladd, 1) := by decide +kernel
theorem dL_digest_160 : decode cL_digest 160 = .ok (.lmul, 1) := by decide +kernel
theorem dL_digest_161 : decode cL_digest 161 = .ok (.aload_n 0, 1) := by decide +kernel
theorem dL_digest_162 : decode cL_digest 162 = .ok (.iload_n 3, 1) := by decide +kernel
theorem dL_digest_163 : decode cL_digest 163 = .ok (.invokevirtual 226, 3) := by decide +kernel
theorem dL_digest_166 : decode cL_digest 166 = .ok (.i2l, 1) := by decide +kernel
theorem dL_digest_167 : decode cL_digest 167 = .ok (.ladd, 1) := by decide +kernel
theorem dL_digest_168 : decode cL_digest 168 = .ok (.lmul, 1) := by decide +kernel
theorem dL_digest_169 : decode cL_digest 169 = .ok (.aload_n 0, 1) := by decide +kernel
theorem dL_digest_170 : decode cL_digest 170 = .ok (.iload_n 3, 1) := by decide +kernel
theorem dL_digest_171 : decode cL_digest 171 = .ok (.invokevirtual 229, 3) := by decide +kernel
theorem dL_digest_174 : decode cL_digest 174 = .ok (.i2l, 1) := by decide +kernel
theorem dL_digest_175 : decode cL_digest 175 = .ok (.ladd, 1) := by decide +kernel
theorem dL_digest_176 : decode cL_digest 176 = .ok (.lstore_n 1, 1) := by decide +kernel
theorem dL_digest_177 : decode cL_digest 177 = .ok (.ldc2_w 212, 3) := by decide +kernel
theorem dL_digest_180 : decode cL_digest 180 = .ok (.ldc2_w 212, 3) := by decide +kernel
theorem dL_digest_183 : decode cL_digest 183 = .ok (.ldc2_w 212, 3) := by decide +kernel
theorem dL_digest_186 : decode cL_digest 186 = .ok (.ldc2_w 212, 3) := by decide +kernel
theorem dL_digest_189 : decode cL_digest 189 = .ok (.lload_n 1, 1) := by decide +kernel
theorem dL_digest_190 : decode cL_digest 190 = .ok (.lmul, 1) := by decide +kernel
theorem dL_digest_191 : decode cL_digest 191 = .ok (.aload_n 0, 1) := by decide +kernel
theorem dL_digest_192 : decode cL_digest 192 = .ok (.iload_n 3, 1) := by decide +kernel
theorem dL_digest_193 : decode cL_digest 193 = .ok (.invokestatic 232, 3) := by decide +kernel
theorem dL_digest_196 : decode cL_digest 196 = .ok (.i2l, 1) := by decide +kernel
theorem dL_digest_197 : decode cL_digest 197 = .ok (.ladd, 1) := by decide +kernel
theorem dL_digest_198 : decode cL_digest 198 = .ok (.lmul, 1) := by decide +kernel
theorem dL_digest_199 : decode cL_digest 199 = .ok (.aload_n 0, 1) := by decide +kernel
theorem dL_digest_200 : decode cL_digest 200 = .ok (.iload_n 3, 1) := by decide +kernel
theorem dL_digest_201 : decode cL_digest 201 = .ok (.invokestatic 234, 3) := by decide +kernel
theorem dL_digest_204 : decode cL_digest 204 = .ok (.i2l, 1) := by decide +kernel
theorem dL_digest_205 : decode cL_digest 205 = .ok (.ladd, 1) := by decide +kernel
theorem dL_digest_206 : decode cL_digest 206 = .ok (.lmul, 1) := by decide +kernel
theorem dL_digest_207 : decode cL_digest 207 = .ok (.aload_n 0, 1) := by decide +kernel
theorem dL_digest_208 : decode cL_digest 208 = .ok (.iload_n 3, 1) := by decide +kernel
theorem dL_digest_209 : decode cL_digest 209 = .ok (.invokevirtual 236, 3) := by decide +kernel
theorem dL_digest_212 : decode cL_digest 212 = .ok (.i2l, 1) := by decide +kernel
theorem dL_digest_213 : decode cL_digest 213 = .ok (.ladd, 1) := by decide +kernel
theorem dL_digest_214 : decode cL_digest 214 = .ok (.lmul, 1) := by decide +kernel
theorem dL_digest_215 : decode cL_digest 215 = .ok (.aload_n 0, 1) := by decide +kernel
theorem dL_digest_216 : decode cL_digest 216 = .ok (.iload_n 3, 1) := by decide +kernel
theorem dL_digest_217 : decode cL_digest 217 = .ok (.invokevirtual 239, 3) := by decide +kernel
theorem dL_digest_220 : decode cL_digest 220 = .ok (.i2l, 1) := by decide +kernel
theorem dL_digest_221 : decode cL_digest 221 = .ok (.ladd, 1) := by decide +kernel
theorem dL_digest_222 : decode cL_digest 222 = .ok (.lstore_n 1, 1) := by decide +kernel
theorem dL_digest_223 : decode cL_digest 223 = .ok (.iinc 3 1, 3) := by decide +kernel
theorem dL_digest_226 : decode cL_digest 226 = .ok (.goto (-103), 3) := by decide +kernel
theorem dL_digest_229 : decode cL_digest 229 = .ok (.lload_n 1, 1) := by decide +kernel
theorem dL_digest_230 : decode cL_digest 230 = .ok (.lreturn, 1) := by decide +kernel
theorem dL_far_0 : decode cL_far 0 = .ok (.iload_n 0, 1) := by decide +kernel
theorem dL_far_1 : decode cL_far 1 = .ok (.iload_n 1, 1) := by decide +kernel
theorem dL_far_2 : decode cL_far 2 = .ok (.if_icmp .le 9, 3) := by decide +kernel
theorem dL_far_5 : decode cL_far 5 = .ok (.iload_n 0, 1) := by decide +kernel
theorem dL_far_6 : decode cL_far 6 = .ok (.iload_n 1, 1) := by decide +kernel
theorem dL_far_7 : decode cL_far 7 = .ok (.isub, 1) := by decide +kernel
theorem dL_far_8 : decode cL_far 8 = .ok (.goto 6, 3) := by decide +kernel
theorem dL_far_11 : decode cL_far 11 = .ok (.iload_n 1, 1) := by decide +kernel
theorem dL_far_12 : decode cL_far 12 = .ok (.iload_n 0, 1) := by decide +kernel
theorem dL_far_13 : decode cL_far 13 = .ok (.isub, 1) := by decide +kernel
theorem dL_far_14 : decode cL_far 14 = .ok (.ireturn, 1) := by decide +kernel
theorem dL_isGame_0 : decode cL_isGame 0 = .ok (.aload_n 0, 1) := by decide +kernel
theorem dL_isGame_1 : decode cL_isGame 1 = .ok (.invokevirtual 216, 3) := by decide +kernel
theorem dL_isGame_4 : decode cL_isGame 4 = .ok (.ifCond .eq 14, 3) := by decide +kernel
theorem dL_isGame_7 : decode cL_isGame 7 = .ok (.aload_n 0, 1) := by decide +kernel
theorem dL_isGame_8 : decode cL_isGame 8 = .ok (.invokevirtual 220, 3) := by decide +kernel
theorem dL_isGame_11 : decode cL_isGame 11 = .ok (.ifCond .ne 7, 3) := by decide +kernel
theorem dL_isGame_14 : decode cL_isGame 14 = .ok (.iconst 1, 1) := by decide +kernel
theorem dL_isGame_15 : decode cL_isGame 15 = .ok (.goto 4, 3) := by decide +kernel
theorem dL_isGame_18 : decode cL_isGame 18 = .ok (.iconst 0, 1) := by decide +kernel
theorem dL_isGame_19 : decode cL_isGame 19 = .ok (.istore_n 1, 1) := by decide +kernel
theorem dL_isGame_20 : decode cL_isGame 20 = .ok (.aload_n 0, 1) := by decide +kernel
theorem dL_isGame_21 : decode cL_isGame 21 = .ok (.invokestatic 210, 3) := by decide +kernel
theorem dL_isGame_24 : decode cL_isGame 24 = .ok (.sipush (-1000), 3) := by decide +kernel
theorem dL_isGame_27 : decode cL_isGame 27 = .ok (.if_icmp .eq 7, 3) := by decide +kernel
theorem dL_isGame_30 : decode cL_isGame 30 = .ok (.iconst 1, 1) := by decide +kernel
theorem dL_isGame_31 : decode cL_isGame 31 = .ok (.goto 4, 3) := by decide +kernel
theorem dL_isGame_34 : decode cL_isGame 34 = .ok (.iconst 0, 1) := by decide +kernel
theorem dL_isGame_35 : decode cL_isGame 35 = .ok (.iload_n 1, 1) := by decide +kernel
theorem dL_isGame_36 : decode cL_isGame 36 = .ok (.if_icmp .ne 87, 3) := by decide +kernel
theorem dL_isGame_39 : decode cL_isGame 39 = .ok (.aload_n 0, 1) := by decide +kernel
theorem dL_isGame_40 : decode cL_isGame 40 = .ok (.invokestatic 214, 3) := by decide +kernel
theorem dL_isGame_43 : decode cL_isGame 43 = .ok (.sipush (-1000), 3) := by decide +kernel
theorem dL_isGame_46 : decode cL_isGame 46 = .ok (.if_icmp .eq 7, 3) := by decide +kernel
theorem dL_isGame_49 : decode cL_isGame 49 = .ok (.iconst 1, 1) := by decide +kernel
theorem dL_isGame_50 : decode cL_isGame 50 = .ok (.goto 4, 3) := by decide +kernel
theorem dL_isGame_53 : decode cL_isGame 53 = .ok (.iconst 0, 1) := by decide +kernel
theorem dL_isGame_54 : decode cL_isGame 54 = .ok (.iload_n 1, 1) := by decide +kernel
theorem dL_isGame_55 : decode cL_isGame 55 = .ok (.if_icmp .ne 68, 3) := by decide +kernel
theorem dL_isGame_58 : decode cL_isGame 58 = .ok (.aload_n 0, 1) := by decide +kernel
theorem dL_isGame_59 : decode cL_isGame 59 = .ok (.invokestatic 214, 3) := by decide +kernel
theorem dL_isGame_62 : decode cL_isGame 62 = .ok (.iconst 3, 1) := by decide +kernel
theorem dL_isGame_63 : decode cL_isGame 63 = .ok (.if_icmp .gt 60, 3) := by decide +kernel
theorem dL_isGame_66 : decode cL_isGame 66 = .ok (.aload_n 0, 1) := by decide +kernel
theorem dL_isGame_67 : decode cL_isGame 67 = .ok (.invokestatic 242, 3) := by decide +kernel
theorem dL_isGame_70 : decode cL_isGame 70 = .ok (.sipush (-1000), 3) := by decide +kernel
theorem dL_isGame_73 : decode cL_isGame 73 = .ok (.if_icmp .eq 7, 3) := by decide +kernel
theorem dL_isGame_76 : decode cL_isGame 76 = .ok (.iconst 1, 1) := by decide +kernel
theorem dL_isGame_77 : decode cL_isGame 77 = .ok (.goto 4, 3) := by decide +kernel
theorem dL_isGame_80 : decode cL_isGame 80 = .ok (.iconst 0, 1) := by decide +kernel
theorem dL_isGame_81 : decode cL_isGame 81 = .ok (.aload_n 0, 1) := by decide +kernel
theorem dL_isGame_82 : decode cL_isGame 82 = .ok (.invokevirtual 220, 3) := by decide +kernel
theorem dL_isGame_85 : decode cL_isGame 85 = .ok (.if_icmp .ne 38, 3) := by decide +kernel
theorem dL_isGame_88 : decode cL_isGame 88 = .ok (.aload_n 0, 1) := by decide +kernel
theorem dL_isGame_89 : decode cL_isGame 89 = .ok (.invokevirtual 220, 3) := by decide +kernel
theorem dL_isGame_92 : decode cL_isGame 92 = .ok (.ifCond .eq 27, 3) := by decide +kernel
theorem dL_isGame_95 : decode cL_isGame 95 = .ok (.aload_n 0, 1) := by decide +kernel
theorem dL_isGame_96 : decode cL_isGame 96 = .ok (.aload_n 0, 1) := by decide +kernel
theorem dL_isGame_97 : decode cL_isGame 97 = .ok (.invokestatic 242, 3) := by decide +kernel
theorem dL_isGame_100 : decode cL_isGame 100 = .ok (.invokevirtual 244, 3) := by decide +kernel
theorem dL_isGame_103 : decode cL_isGame 103 = .ok (.ifCond .le 20, 3) := by decide +kernel
theorem dL_isGame_106 : decode cL_isGame 106 = .ok (.aload_n 0, 1) := by decide +kernel
theorem dL_isGame_107 : decode cL_isGame 107 = .ok (.iconst 1, 1) := by decide +kernel
theorem dL_isGame_108 : decode cL_isGame 108 = .ok (.aload_n 0, 1) := by decide +kernel
theorem dL_isGame_109 : decode cL_isGame 109 = .ok (.invokestatic 242, 3) := by decide +kernel
theorem dL_isGame_112 : decode cL_isGame 112 = .ok (.isub, 1) := by decide +kernel
theorem dL_isGame_113 : decode cL_isGame 113 = .ok (.invokevirtual 244, 3) := by decide +kernel
theorem dL_isGame_116 : decode cL_isGame 116 = .ok (.ifCond .ne 7, 3) := by decide +kernel
theorem dL_isGame_119 : decode cL_isGame 119 = .ok (.iconst 1, 1) := by decide +kernel
theorem dL_isGame_120 : decode cL_isGame 120 = .ok (.goto 4, 3) := by decide +kernel
theorem dL_isGame_123 : decode cL_isGame 123 = .ok (.iconst 0, 1) := by decide +kernel
theorem dL_isGame_124 : decode cL_isGame 124 = .ok (.istore_n 2, 1) := by decide +kernel
theorem dL_isGame_125 : decode cL_isGame 125 = .ok (.iconst 0, 1) := by decide +kernel
theorem dL_isGame_126 : decode cL_isGame 126 = .ok (.istore_n 3, 1) := by decide +kernel
theorem dL_isGame_127 : decode cL_isGame 127 = .ok (.iload_n 2, 1) := by decide +kernel
theorem dL_isGame_128 : decode cL_isGame 128 = .ok (.ifCond .eq 180, 3) := by decide +kernel
theorem dL_isGame_131 : decode cL_isGame 131 = .ok (.iload_n 3, 1) := by decide +kernel
theorem dL_isGame_132 : decode cL_isGame 132 = .ok (.iconst 2, 1) := by decide +kernel
theorem dL_isGame_133 : decode cL_isGame 133 = .ok (.if_icmp .ge 175, 3) := by decide +kernel
theorem dL_isGame_136 : decode cL_isGame 136 = .ok (.iconst 0, 1) := by decide +kernel
theorem dL_isGame_137 : decode cL_isGame 137 = .ok (.istore 4, 2) := by decide +kernel
theorem dL_isGame_139 : decode cL_isGame 139 = .ok (.iconst 0, 1) := by decide +kernel
theorem dL_isGame_140 : decode cL_isGame 140 = .ok (.istore 5, 2) := by decide +kernel
theorem dL_isGame_142 : decode cL_isGame 142 = .ok (.iconst 0, 1) := by decide +kernel
theorem dL_isGame_143 : decode cL_isGame 143 = .ok (.istore 6, 2) := by decide +kernel
theorem dL_isGame_145 : decode cL_isGame 145 = .ok (.iload 6, 2) := by decide +kernel
theorem dL_isGame_147 : decode cL_isGame 147 = .ok (.aload_n 0, 1) := by decide +kernel
theorem dL_isGame_148 : decode cL_isGame 148 = .ok (.invokevirtual 223, 3) := by decide +kernel
theorem dL_isGame_151 : decode cL_isGame 151 = .ok (.if_icmp .ge 70, 3) := by decide +kernel
theorem dL_isGame_154 : decode cL_isGame 154 = .ok (.aload_n 0, 1) := by decide +kernel
theorem dL_isGame_155 : decode cL_isGame 155 = .ok (.iload 6, 2) := by decide +kernel
theorem dL_isGame_157 : decode cL_isGame 157 = .ok (.invokevirtual 239, 3) := by decide +kernel
theorem dL_isGame_160 : decode cL_isGame 160 = .ok (.iload_n 3, 1) := by decide +kernel
theorem dL_isGame_161 : decode cL_isGame 161 = .ok (.if_icmp .ne 7, 3) := by decide +kernel
theorem dL_isGame_164 : decode cL_isGame 164 = .ok (.iconst 1, 1) := by decide +kernel
theorem dL_isGame_165 : decode cL_isGame 165 = .ok (.goto 4, 3) := by decide +kernel
theorem dL_isGame_168 : decode cL_isGame 168 = .ok (.iconst 0, 1) := by decide +kernel
theorem dL_isGame_169 : decode cL_isGame 169 = .ok (.istore 7, 2) := by decide +kernel
theorem dL_isGame_171 : decode cL_isGame 171 = .ok (.iload 4, 2) := by decide +kernel
theorem dL_isGame_173 : decode cL_isGame 173 = .ok (.iload 7, 2) := by decide +kernel
theorem dL_isGame_175 : decode cL_isGame 175 = .ok (.ifCond .eq 12, 3) := by decide +kernel
theorem dL_isGame_178 : decode cL_isGame 178 = .ok (.aload_n 0, 1) := by decide +kernel
theorem dL_isGame_179 : decode cL_isGame 179 = .ok (.iload 6, 2) := by decide +kernel
theorem dL_isGame_181 : decode cL_isGame 181 = .ok (.invokevirtual 229, 3) := by decide +kernel
theorem dL_isGame_184 : decode cL_isGame 184 = .ok (.goto 4, 3) := by decide +kernel
theorem dL_isGame_187 : decode cL_isGame 187 = .ok (.iconst 0, 1) := by decide +kernel
theorem dL_isGame_188 : decode cL_isGame 188 = .ok (.iadd, 1) := by decide +kernel
theorem dL_isGame_189 : decode cL_isGame 189 = .ok (.istore 4, 2) := by decide +kernel
theorem dL_isGame_191 : decode cL_isGame 191 = .ok (.iload 5, 2) := by decide +kernel
theorem dL_isGame_193 : decode cL_isGame 193 = .ok (.iload 7, 2) := by decide +kernel
theorem dL_isGame_195 : decode cL_isGame 195 = .ok (.ifCond .eq 16, 3) := by decide +kernel
theorem dL_isGame_198 : decode cL_isGame 198 = .ok (.aload_n 0, 1) := by decide +kernel
theorem dL_isGame_199 : decode cL_isGame 199 = .ok (.iload 6, 2) := by decide +kernel
theorem dL_isGame_201 : decode cL_isGame 201 = .ok (.invokevirtual 247, 3) := by decide +kernel
theorem dL_isGame_204 : decode cL_isGame 204 = .ok (.ifCond .ne 7, 3) := by decide +kernel
theorem dL_isGame_207 : decode cL_isGame 207 = .ok (.iconst 1, 1) := by decide +kernel
theorem dL_isGame_208 : decode cL_isGame 208 = .ok (.goto 4, 3) := by decide +kernel
theorem dL_isGame_211 : decode cL_isGame 211 = .ok (.iconst 0, 1) := by decide +kernel
theorem dL_isGame_212 : decode cL_isGame 212 = .ok (.iadd, 1) := by decide +kernel
theorem dL_isGame_213 : decode cL_isGame 213 = .ok (.istore 5, 2) := by decide +kernel
theorem dL_isGame_215 : decode cL_isGame 215 = .ok (.iinc 6 1, 3) := by decide +kernel
theorem dL_isGame_218 : decode cL_isGame 218 = .ok (.goto (-73), 3) := by decide +kernel
theorem dL_isGame_221 : decode cL_isGame 221 = .ok (.aload_n 0, 1) := by decide +kernel
theorem dL_isGame_222 : decode cL_isGame 222 = .ok (.iload_n 3, 1) := by decide +kernel
theorem dL_isGame_223 : decode cL_isGame 223 = .ok (.invokevirtual 251, 3) := by decide +kernel
theorem dL_isGame_226 : decode cL_isGame 226 = .ok (.iload 4, 2) := by decide +kernel
theorem dL_isGame_228 : decode cL_isGame 228 = .ok (.if_icmp .ne 72, 3) := by decide +kernel
theorem dL_isGame_231 : decode cL_isGame 231 = .ok (.aload_n 0, 1) := by decide +kernel
theorem dL_isGame_232 : decode cL_isGame 232 = .ok (.iload_n 3, 1) := by decide +kernel
theorem dL_isGame_233 : decode cL_isGame 233 = .ok (.invokevirtual 254, 3) := by decide +kernel
theorem dL_isGame_236 : decode cL_isGame 236 = .ok (.iload 4, 2) := by decide +kernel
theorem dL_isGame_238 : decode cL_isGame 238 = .ok (.if_icmp .ne 62, 3) := by decide +kernel
theorem dL_isGame_241 : decode cL_isGame 241 = .ok (.aload_n 0, 1) := by decide +kernel
theorem dL_isGame_242 : decode cL_isGame 242 = .ok (.iload_n 3, 1) := by decide +kernel
theorem dL_isGame_243 : decode cL_isGame 243 = .ok (.invokevirtual 244, 3) := by decide +kernel
theorem dL_isGame_246 : decode cL_isGame 246 = .ok (.iload 5, 2) := by decide +kernel
theorem dL_isGame_248 : decode cL_isGame 248 = .ok (.if_icmp .ne 52, 3) := by decide +kernel
theorem dL_isGame_251 : decode cL_isGame 251 = .ok (.aload_n 0, 1) := by decide +kernel
theorem dL_isGame_252 : decode cL_isGame 252 = .ok (.iload_n 3, 1) := by decide +kernel
theorem dL_isGame_253 : decode cL_isGame 253 = .ok (.invokevirtual 205, 3) := by decide +kernel
theorem dL_isGame_256 : decode cL_isGame 256 = .ok (.ifCond .lt 44, 3) := by decide +kernel
theorem dL_isGame_259 : decode cL_isGame 259 = .ok (.aload_n 0, 1) := by decide +kernel
theorem dL_isGame_260 : decode cL_isGame 260 = .ok (.iload_n 3, 1) := by decide +kernel
theorem dL_isGame_261 : decode cL_isGame 261 = .ok (.invokevirtual 205, 3) := by decide +kernel
theorem dL_isGame_264 : decode cL_isGame 264 = .ok (.bipush 20, 2) := by decide +kernel
theorem dL_isGame_266 : decode cL_isGame 266 = .ok (.if_icmp .gt 34, 3) := by decide +kernel
theorem dL_isGame_269 : decode cL_isGame 269 = .ok (.aload_n 0, 1) := by decide +kernel
theorem dL_isGame_270 : decode cL_isGame 270 = .ok (.iload_n 3, 1) := by decide +kernel
theorem dL_isGame_271 : decode cL_isGame 271 = .ok (.invokestatic 257, 3) := by decide +kernel
theorem dL_isGame_274 : decode cL_isGame 274 = .ok (.iload 5, 2) := by decide +kernel
theorem dL_isGame_276 : decode cL_isGame 276 = .ok (.ifCond .ne 9, 3) := by decide +kernel
theorem dL_isGame_279 : decode cL_isGame 279 = .ok (.ldc2_w 96, 3) := by decide +kernel
theorem dL_isGame_282 : decode cL_isGame 282 = .ok (.goto 10, 3) := by decide +kernel
theorem dL_isGame_285 : decode cL_isGame 285 = .ok (.iload 4, 2) := by decide +kernel
theorem dL_isGame_287 : decode cL_isGame 287 = .ok (.i2d, 1) := by decide +kernel
theorem dL_isGame_288 : decode cL_isGame 288 = .ok (.iload 5, 2) := by decide +kernel
theorem dL_isGame_290 : decode cL_isGame 290 = .ok (.i2d, 1) := by decide +kernel
theorem dL_isGame_291 : decode cL_isGame 291 = .ok (.ddiv, 1) := by decide +kernel
theorem dL_isGame_292 : decode cL_isGame 292 = .ok (.dcmp .l, 1) := by decide +kernel
theorem dL_isGame_293 : decode cL_isGame 293 = .ok (.ifCond .ne 7, 3) := by decide +kernel
theorem dL_isGame_296 : decode cL_isGame 296 = .ok (.iconst 1, 1) := by decide +kernel
theorem dL_isGame_297 : decode cL_isGame 297 = .ok (.goto 4, 3) := by decide +kernel
theorem dL_isGame_300 : decode cL_isGame 300 = .ok (.iconst 0, 1) := by decide +kernel
theorem dL_isGame_301 : decode cL_isGame 301 = .ok (.istore_n 2, 1) := by decide +kernel
theorem dL_isGame_302 : decode cL_isGame 302 = .ok (.iinc 3 1, 3) := by decide +kernel
theorem dL_isGame_305 : decode cL_isGame 305 = .ok (.goto (-178), 3) := by decide +kernel
theorem dL_isGame_308 : decode cL_isGame 308 = .ok (.iload_n 2, 1) := by decide +kernel
theorem dL_isGame_309 : decode cL_isGame 309 = .ok (.ifCond .eq 45, 3) := by decide +kernel
theorem dL_isGame_312 : decode cL_isGame 312 = .ok (.aload_n 0, 1) := by decide +kernel
theorem dL_isGame_313 : decode cL_isGame 313 = .ok (.invokestatic 260, 3) := by decide +kernel
theorem dL_isGame_316 : decode cL_isGame 316 = .ok (.aload_n 0, 1) := by decide +kernel
theorem dL_isGame_317 : decode cL_isGame 317 = .ok (.invokevirtual 184, 3) := by decide +kernel
theorem dL_isGame_320 : decode cL_isGame 320 = .ok (.ifCond .ne 8, 3) := by decide +kernel
theorem dL_isGame_323 : decode cL_isGame 323 = .ok (.ldc 89, 2) := by decide +kernel
theorem dL_isGame_325 : decode cL_isGame 325 = .ok (.goto 14, 3) := by decide +kernel
theorem dL_isGame_328 : decode cL_isGame 328 = .ok (.aload_n 0, 1) := by decide +kernel
theorem dL_isGame_329 : decode cL_isGame 329 = .ok (.invokevirtual 189, 3) := by decide +kernel
theorem dL_isGame_332 : decode cL_isGame 332 = .ok (.i2f, 1) := by decide +kernel
theorem dL_isGame_333 : decode cL_isGame 333 = .ok (.aload_n 0, 1) := by decide +kernel
theorem dL_isGame_334 : decode cL_isGame 334 = .ok (.invokevirtual 184, 3) := by decide +kernel
theorem dL_isGame_337 : decode cL_isGame 337 = .ok (.i2f, 1) := by decide +kernel
theorem dL_isGame_338 : decode cL_isGame 338 = .ok (.fdiv, 1) := by decide +kernel
theorem dL_isGame_339 : decode cL_isGame 339 = .ok (.fcmp .l, 1) := by decide +kernel
theorem dL_isGame_340 : decode cL_isGame 340 = .ok (.ifCond .ne 14, 3) := by decide +kernel
theorem dL_isGame_343 : decode cL_isGame 343 = .ok (.aload_n 0, 1) := by decide +kernel
theorem dL_isGame_344 : decode cL_isGame 344 = .ok (.invokevirtual 263, 3) := by decide +kernel
theorem dL_isGame_347 : decode cL_isGame 347 = .ok (.ifCond .eq 7, 3) := by decide +kernel
theorem dL_isGame_350 : decode cL_isGame 350 = .ok (.iconst 1, 1) := by decide +kernel
theorem dL_isGame_351 : decode cL_isGame 351 = .ok (.goto 4, 3) := by decide +kernel
theorem dL_isGame_354 : decode cL_isGame 354 = .ok (.iconst 0, 1) := by decide +kernel
theorem dL_isGame_355 : decode cL_isGame 355 = .ok (.ireturn, 1) := by decide +kernel
theorem dL_isSpoon_0 : decode cL_isSpoon 0 = .ok (.aload_n 0, 1) := by decide +kernel
theorem dL_isSpoon_1 : decode cL_isSpoon 1 = .ok (.iload_n 1, 1) := by decide +kernel
theorem dL_isSpoon_2 : decode cL_isSpoon 2 = .ok (.invokevirtual 247, 3) := by decide +kernel
theorem dL_isSpoon_5 : decode cL_isSpoon 5 = .ok (.istore_n 2, 1) := by decide +kernel
theorem dL_isSpoon_6 : decode cL_isSpoon 6 = .ok (.aload_n 0, 1) := by decide +kernel
theorem dL_isSpoon_7 : decode cL_isSpoon 7 = .ok (.iload_n 1, 1) := by decide +kernel
theorem dL_isSpoon_8 : decode cL_isSpoon 8 = .ok (.invokestatic 145, 3) := by decide +kernel
theorem dL_isSpoon_11 : decode cL_isSpoon 11 = .ok (.istore_n 3, 1) := by decide +kernel
theorem dL_isSpoon_12 : decode cL_isSpoon 12 = .ok (.aload_n 0, 1) := by decide +kernel
theorem dL_isSpoon_13 : decode cL_isSpoon 13 = .ok (.iload_n 1, 1) := by decide +kernel
theorem dL_isSpoon_14 : decode cL_isSpoon 14 = .ok (.invokestatic 153, 3) := by decide +kernel
theorem dL_isSpoon_17 : decode cL_isSpoon 17 = .ok (.istore 4, 2) := by decide +kernel
theorem dL_isSpoon_19 : decode cL_isSpoon 19 = .ok (.iload_n 2, 1) := by decide +kernel
theorem dL_isSpoon_20 : decode cL_isSpoon 20 = .ok (.ifCond .eq 78, 3) := by decide +kernel
theorem dL_isSpoon_23 : decode cL_isSpoon 23 = .ok (.iload_n 3, 1) := by decide +kernel
theorem dL_isSpoon_24 : decode cL_isSpoon 24 = .ok (.sipush (-1000), 3) := by decide +kernel
theorem dL_isSpoon_27 : decode cL_isSpoon 27 = .ok (.if_icmp .ne 69, 3) := by decide +kernel
theorem dL_isSpoon_30 : decode cL_isSpoon 30 = .ok (.iload 4, 2) := by decide +kernel
theorem dL_isSpoon_32 : decode cL_isSpoon 32 = .ok (.sipush (-1000), 3) := by decide +kernel
theorem dL_isSpoon_35 : decode cL_isSpoon 35 = .ok (.if_icmp .ne 61, 3) := by decide +kernel
theorem dL_isSpoon_38 : decode cL_isSpoon 38 = .ok (.aload_n 0, 1) := by decide +kernel
theorem dL_isSpoon_39 : decode cL_isSpoon 39 = .ok (.iload_n 1, 1) := by decide +kernel
theorem dL_isSpoon_40 : decode cL_isSpoon 40 = .ok (.invokevirtual 236, 3) := by decide +kernel
theorem dL_isSpoon_43 : decode cL_isSpoon 43 = .ok (.ifCond .ne 53, 3) := by decide +kernel
theorem dL_isSpoon_46 : decode cL_isSpoon 46 = .ok (.aload_n 0, 1) := by decide +kernel
theorem dL_isSpoon_47 : decode cL_isSpoon 47 = .ok (.iload_n 1, 1) := by decide +kernel
theorem dL_isSpoon_48 : decode cL_isSpoon 48 = .ok (.invokevirtual 229, 3) := by decide +kernel
theorem dL_isSpoon_51 : decode cL_isSpoon 51 = .ok (.ifCond .ne 45, 3) := by decide +kernel
theorem dL_isSpoon_54 : decode cL_isSpoon 54 = .ok (.aload_n 0, 1) := by decide +kernel
theorem dL_isSpoon_55 : decode cL_isSpoon 55 = .ok (.iload_n 1, 1) := by decide +kernel
theorem dL_isSpoon_56 : decode cL_isSpoon 56 = .ok (.invokestatic 232, 3) := by decide +kernel
theorem dL_isSpoon_59 : decode cL_isSpoon 59 = .ok (.sipush (-1000), 3) := by decide +kernel
theorem dL_isSpoon_62 : decode cL_isSpoon 62 = .ok (.if_icmp .ne 34, 3) := by decide +kernel
theorem dL_isSpoon_65 : decode cL_isSpoon 65 = .ok (.aload_n 0, 1) := by decide +kernel
theorem dL_isSpoon_66 : decode cL_isSpoon 66 = .ok (.iload_n 1, 1) := by decide +kernel
theorem dL_isSpoon_67 : decode cL_isSpoon 67 = .ok (.invokevirtual 266, 3) := by decide +kernel
theorem dL_isSpoon_70 : decode cL_isSpoon 70 = .ok (.ifCond .ne 26, 3) := by decide +kernel
theorem dL_isSpoon_73 : decode cL_isSpoon 73 = .ok (.aload_n 0, 1) := by decide +kernel
theorem dL_isSpoon_74 : decode cL_isSpoon 74 = .ok (.iload_n 1, 1) := by decide +kernel
theorem dL_isSpoon_75 : decode cL_isSpoon 75 = .ok (.invokevirtual 269, 3) := by decide +kernel
theorem dL_isSpoon_78 : decode cL_isSpoon 78 = .ok (.ifCond .ne 18, 3) := by decide +kernel
theorem dL_isSpoon_81 : decode cL_isSpoon 81 = .ok (.aload_n 0, 1) := by decide +kernel
theorem dL_isSpoon_82 : decode cL_isSpoon 82 = .ok (.iload_n 1, 1) := by decide +kernel
theorem dL_isSpoon_83 : decode cL_isSpoon 83 = .ok (.invokestatic 272, 3) := by decide +kernel
theorem dL_isSpoon_86 : decode cL_isSpoon 86 = .ok (.sipush (-1000), 3) := by decide +kernel
theorem dL_isSpoon_89 : decode cL_isSpoon 89 = .ok (.if_icmp .ne 7, 3) := by decide +kernel
theorem dL_isSpoon_92 : decode cL_isSpoon 92 = .ok (.iconst 1, 1) := by decide +kernel
theorem dL_isSpoon_93 : decode cL_isSpoon 93 = .ok (.goto 4, 3) := by decide +kernel
theorem dL_isSpoon_96 : decode cL_isSpoon 96 = .ok (.iconst 0, 1) := by decide +kernel
theorem dL_isSpoon_97 : decode cL_isSpoon 97 = .ok (.ireturn, 1) := by decide +kernel
theorem dL_isSpoon_98 : decode cL_isSpoon 98 = .ok (.iconst 0, 1) := by decide +kernel
theorem dL_isSpoon_99 : decode cL_isSpoon 99 = .ok (.istore 5, 2) := by decide +kernel
theorem dL_isSpoon_101 : decode cL_isSpoon 101 = .ok (.aload_n 0, 1) := by decide +kernel
theorem dL_isSpoon_102 : decode cL_isSpoon 102 = .ok (.iload_n 3, 1) := by decide +kernel
theorem dL_isSpoon_103 : decode cL_isSpoon 103 = .ok (.iload 4, 2) := by decide +kernel
theorem dL_isSpoon_105 : decode cL_isSpoon 105 = .ok (.invokestatic 274, 3) := by decide +kernel
theorem dL_isSpoon_108 : decode cL_isSpoon 108 = .ok (.iload_n 1, 1) := by decide +kernel
theorem dL_isSpoon_109 : decode cL_isSpoon 109 = .ok (.if_icmp .ne 81, 3) := by decide +kernel
theorem dL_isSpoon_112 : decode cL_isSpoon 112 = .ok (.aload_n 0, 1) := by decide +kernel
theorem dL_isSpoon_113 : decode cL_isSpoon 113 = .ok (.iload_n 1, 1) := by decide +kernel
theorem dL_isSpoon_114 : decode cL_isSpoon 114 = .ok (.invokevirtual 236, 3) := by decide +kernel
theorem dL_isSpoon_117 : decode cL_isSpoon 117 = .ok (.ifCond .le 73, 3) := by decide +kernel
theorem dL_isSpoon_120 : decode cL_isSpoon 120 = .ok (.aload_n 0, 1) := by decide +kernel
theorem dL_isSpoon_121 : decode cL_isSpoon 121 = .ok (.iload_n 1, 1) := by decide +kernel
theorem dL_isSpoon_122 : decode cL_isSpoon 122 = .ok (.invokevirtual 266, 3) := by decide +kernel
theorem dL_isSpoon_125 : decode cL_isSpoon 125 = .ok (.aload_n 0, 1) := by decide +kernel
theorem dL_isSpoon_126 : decode cL_isSpoon 126 = .ok (.iload_n 1, 1) := by decide +kernel
theorem dL_isSpoon_127 : decode cL_isSpoon 127 = .ok (.invokestatic 232, 3) := by decide +kernel
theorem dL_isSpoon_130 : decode cL_isSpoon 130 = .ok (.iload_n 3, 1) := by decide +kernel
theorem dL_isSpoon_131 : decode cL_isSpoon 131 = .ok (.if_icmp .ne 13, 3) := by decide +kernel
theorem dL_isSpoon_134 : decode cL_isSpoon 134 = .ok (.aload_n 0, 1) := by decide +kernel
theorem dL_isSpoon_135 : decode cL_isSpoon 135 = .ok (.iload_n 1, 1) := by decide +kernel
theorem dL_isSpoon_136 : decode cL_isSpoon 136 = .ok (.invokestatic 234, 3) := by decide +kernel
theorem dL_isSpoon_139 : decode cL_isSpoon 139 = .ok (.iload 4, 2) := by decide +kernel
theorem dL_isSpoon_141 : decode cL_isSpoon 141 = .ok (.if_icmp .eq 7, 3) := by decide +kernel
theorem dL_isSpoon_144 : decode cL_isSpoon 144 = .ok (.iconst 1, 1) := by decide +kernel
theorem dL_isSpoon_145 : decode cL_isSpoon 145 = .ok (.goto 4, 3) := by decide +kernel
theorem dL_isSpoon_148 : decode cL_isSpoon 148 = .ok (.iconst 0, 1) := by decide +kernel
theorem dL_isSpoon_149 : decode cL_isSpoon 149 = .ok (.if_icmp .ne 41, 3) := by decide +kernel
theorem dL_isSpoon_152 : decode cL_isSpoon 152 = .ok (.aload_n 0, 1) := by decide +kernel
theorem dL_isSpoon_153 : decode cL_isSpoon 153 = .ok (.iload_n 1, 1) := by decide +kernel
theorem dL_isSpoon_154 : decode cL_isSpoon 154 = .ok (.iload_n 3, 1) := by decide +kernel
theorem dL_isSpoon_155 : decode cL_isSpoon 155 = .ok (.iload 4, 2) := by decide +kernel
theorem dL_isSpoon_157 : decode cL_isSpoon 157 = .ok (.invokestatic 276, 3) := by decide +kernel
theorem dL_isSpoon_160 : decode cL_isSpoon 160 = .ok (.sipush (-1000), 3) := by decide +kernel
theorem dL_isSpoon_163 : decode cL_isSpoon 163 = .ok (.if_icmp .ne 27, 3) := by decide +kernel
theorem dL_isSpoon_166 : decode cL_isSpoon 166 = .ok (.aload_n 0, 1) := by decide +kernel
theorem dL_isSpoon_167 : decode cL_isSpoon 167 = .ok (.iload_n 1, 1) := by decide +kernel
theorem dL_isSpoon_168 : decode cL_isSpoon 168 = .ok (.iload_n 3, 1) := by decide +kernel
theorem dL_isSpoon_169 : decode cL_isSpoon 169 = .ok (.iload 4, 2) := by decide +kernel
theorem dL_isSpoon_171 : decode cL_isSpoon 171 = .ok (.invokevirtual 278, 3) := by decide +kernel
theorem dL_isSpoon_174 : decode cL_isSpoon 174 = .ok (.ifCond .ne 16, 3) := by decide +kernel
theorem dL_isSpoon_177 : decode cL_isSpoon 177 = .ok (.aload_n 0, 1) := by decide +kernel
theorem dL_isSpoon_178 : decode cL_isSpoon 178 = .ok (.iload_n 1, 1) := by decide +kernel
theorem dL_isSpoon_179 : decode cL_isSpoon 179 = .ok (.iload_n 1, 1) := by decide +kernel
theorem dL_isSpoon_180 : decode cL_isSpoon 180 = .ok (.invokestatic 282, 3) := by decide +kernel
theorem dL_isSpoon_183 : decode cL_isSpoon 183 = .ok (.ifCond .ne 7, 3) := by decide +kernel
theorem dL_isSpoon_186 : decode cL_isSpoon 186 = .ok (.iconst 1, 1) := by decide +kernel
theorem dL_isSpoon_187 : decode cL_isSpoon 187 = .ok (.goto 4, 3) := by decide +kernel
theorem dL_isSpoon_190 : decode cL_isSpoon 190 = .ok (.iconst 0, 1) := by decide +kernel
theorem dL_isSpoon_191 : decode cL_isSpoon 191 = .ok (.istore 6, 2) := by decide +kernel
theorem dL_isSpoon_193 : decode cL_isSpoon 193 = .ok (.iconst 0, 1) := by decide +kernel
theorem dL_isSpoon_194 : decode cL_isSpoon 194 = .ok (.istore 7, 2) := by decide +kernel
theorem dL_isSpoon_196 : decode cL_isSpoon 196 = .ok (.iload 6, 2) := by decide +kernel
theorem dL_isSpoon_198 : decode cL_isSpoon 198 = .ok (.ifCond .eq 169, 3) := by decide +kernel
theorem dL_isSpoon_201 : decode cL_isSpoon 201 = .ok (.iload 7, 2) := by decide +kernel
theorem dL_isSpoon_203 : decode cL_isSpoon 203 = .ok (.aload_n 0, 1) := by decide +kernel
theorem dL_isSpoon_204 : decode cL_isSpoon 204 = .ok (.invokevirtual 223, 3) := by decide +kernel
theorem dL_isSpoon_207 : decode cL_isSpoon 207 = .ok (.if_icmp .ge 160, 3) := by decide +kernel
theorem dL_isSpoon_210 : decode cL_isSpoon 210 = .ok (.aload_n 0, 1) := by decide +kernel
theorem dL_isSpoon_211 : decode cL_isSpoon 211 = .ok (.iload_n 1, 1) := by decide +kernel
theorem dL_isSpoon_212 : decode cL_isSpoon 212 = .ok (.iload 7, 2) := by decide +kernel
theorem dL_isSpoon_214 : decode cL_isSpoon 214 = .ok (.invokestatic 282, 3) := by decide +kernel
theorem dL_isSpoon_217 : decode cL_isSpoon 217 = .ok (.istore 8, 2) := by decide +kernel
theorem dL_isSpoon_219 : decode cL_isSpoon 219 = .ok (.iload 8, 2) := by decide +kernel
theorem dL_isSpoon_221 : decode cL_isSpoon 221 = .ok (.ifCond .le 27, 3) := by decide +kernel
theorem dL_isSpoon_224 : decode cL_isSpoon 224 = .ok (.aload_n 0, 1) := by decide +kernel
theorem dL_isSpoon_225 : decode cL_isSpoon 225 = .ok (.iload_n 1, 1) := by decide +kernel
theorem dL_isSpoon_226 : decode cL_isSpoon 226 = .ok (.aload_n 0, 1) := by decide +kernel
theorem dL_isSpoon_227 : decode cL_isSpoon 227 = .ok (.iload 7, 2) := by decide +kernel
theorem dL_isSpoon_229 : decode cL_isSpoon 229 = .ok (.invokevirtual 61, 3) := by decide +kernel
theorem dL_isSpoon_232 : decode cL_isSpoon 232 = .ok (.aload_n 0, 1) := by decide +kernel
theorem dL_isSpoon_233 : decode cL_isSpoon 233 = .ok (.iload 7, 2) := by decide +kernel
theorem dL_isSpoon_235 : decode cL_isSpoon 235 = .ok (.invokevirtual 65, 3) := by decide +kernel
theorem dL_isSpoon_238 : decode cL_isSpoon 238 = .ok (.invokevirtual 278, 3) := by decide +kernel
theorem dL_isSpoon_241 : decode cL_isSpoon 241 = .ok (.ifCond .eq 7, 3) := by decide +kernel
theorem dL_isSpoon_244 : decode cL_isSpoon 244 = .ok (.iconst 1, 1) := by decide +kernel
theorem dL_isSpoon_245 : decode cL_isSpoon 245 = .ok (.goto 4, 3) := by decide +kernel
theorem dL_isSpoon_248 : decode cL_isSpoon 248 = .ok (.iconst 0, 1) := by decide +kernel
theorem dL_isSpoon_249 : decode cL_isSpoon 249 = .ok (.istore 9, 2) := by decide +kernel
theorem dL_isSpoon_251 : decode cL_isSpoon 251 = .ok (.iload 5, 2) := by decide +kernel
theorem dL_isSpoon_253 : decode cL_isSpoon 253 = .ok (.iload 9, 2) := by decide +kernel
theorem dL_isSpoon_255 : decode cL_isSpoon 255 = .ok (.ifCond .eq 21, 3) := by decide +kernel
theorem dL_isSpoon_258 : decode cL_isSpoon 258 = .ok (.aload_n 0, 1) := by decide +kernel
theorem dL_isSpoon_259 : decode cL_isSpoon 259 = .ok (.iload 7, 2) := by decide +kernel
theorem dL_isSpoon_261 : decode cL_isSpoon 261 = .ok (.invokevirtual 239, 3) := by decide +kernel
theorem dL_isSpoon_264 : decode cL_isSpoon 264 = .ok (.aload_n 0, 1) := by decide +kernel
theorem dL_isSpoon_265 : decode cL_isSpoon 265 = .ok (.iload_n 1, 1) := by decide +kernel
theorem dL_isSpoon_266 : decode cL_isSpoon 266 = .ok (.invokevirtual 239, 3) := by decide +kernel
theorem dL_isSpoon_269 : decode cL_isSpoon 269 = .ok (.if_icmp .eq 7, 3) := by decide +kernel
theorem dL_isSpoon_272 : decode cL_isSpoon 272 = .ok (.iconst 1, 1) := by decide +kernel
theorem dL_isSpoon_273 : decode cL_isSpoon 273 = .ok (.goto 4, 3) := by decide +kernel
theorem dL_isSpoon_276 : decode cL_isSpoon 276 = .ok (.iconst 0, 1) := by decide +kernel
theorem dL_isSpoon_277 : decode cL_isSpoon 277 = .ok (.iadd, 1) := by decide +kernel
theorem dL_isSpoon_278 : decode cL_isSpoon 278 = .ok (.istore 5, 2) := by decide +kernel
theorem dL_isSpoon_280 : decode cL_isSpoon 280 = .ok (.iload 8, 2) := by decide +kernel
theorem dL_isSpoon_282 : decode cL_isSpoon 282 = .ok (.sipush (-1000), 3) := by decide +kernel
theorem dL_isSpoon_285 : decode cL_isSpoon 285 = .ok (.if_icmp .ne 7, 3) := by decide +kernel
theorem dL_isSpoon_288 : decode cL_isSpoon 288 = .ok (.iconst 1, 1) := by decide +kernel
theorem dL_isSpoon_289 : decode cL_isSpoon 289 = .ok (.goto 4, 3) := by decide +kernel
theorem dL_isSpoon_292 : decode cL_isSpoon 292 = .ok (.iconst 0, 1) := by decide +kernel
theorem dL_isSpoon_293 : decode cL_isSpoon 293 = .ok (.aload_n 0, 1) := by decide +kernel
theorem dL_isSpoon_294 : decode cL_isSpoon 294 = .ok (.iload 7, 2) := by decide +kernel
theorem dL_isSpoon_296 : decode cL_isSpoon 296 = .ok (.invokevirtual 247, 3) := by decide +kernel
theorem dL_isSpoon_299 : decode cL_isSpoon 299 = .ok (.if_icmp .ne 59, 3) := by decide +kernel
theorem dL_isSpoon_302 : decode cL_isSpoon 302 = .ok (.iload 8, 2) := by decide +kernel
theorem dL_isSpoon_304 : decode cL_isSpoon 304 = .ok (.sipush (-1000), 3) := by decide +kernel
theorem dL_isSpoon_307 : decode cL_isSpoon 307 = .ok (.if_icmp .eq 32, 3) := by decide +kernel
theorem dL_isSpoon_310 : decode cL_isSpoon 310 = .ok (.iload 8, 2) := by decide +kernel
theorem dL_isSpoon_312 : decode cL_isSpoon 312 = .ok (.iload_n 3, 1) := by decide +kernel
theorem dL_isSpoon_313 : decode cL_isSpoon 313 = .ok (.aload_n 0, 1) := by decide +kernel
theorem dL_isSpoon_314 : decode cL_isSpoon 314 = .ok (.iload 7, 2) := by decide +kernel
theorem dL_isSpoon_316 : decode cL_isSpoon 316 = .ok (.invokevirtual 61, 3) := by decide +kernel
theorem dL_isSpoon_319 : decode cL_isSpoon 319 = .ok (.invokestatic 284, 3) := by decide +kernel
theorem dL_isSpoon_322 : decode cL_isSpoon 322 = .ok (.iload 4, 2) := by decide +kernel
theorem dL_isSpoon_324 : decode cL_isSpoon 324 = .ok (.aload_n 0, 1) := by decide +kernel
theorem dL_isSpoon_325 : decode cL_isSpoon 325 = .ok (.iload 7, 2) := by decide +kernel
theorem dL_isSpoon_327 : decode cL_isSpoon 327 = .ok (.invokevirtual 65, 3) := by decide +kernel
theorem dL_isSpoon_330 : decode cL_isSpoon 330 = .ok (.invokestatic 284, 3) := by decide +kernel
theorem dL_isSpoon_333 : decode cL_isSpoon 333 = .ok (.invokestatic 148, 3) := by decide +kernel
theorem dL_isSpoon_336 : decode cL_isSpoon 336 = .ok (.if_icmp .ne 22, 3) := by decide +kernel
theorem dL_isSpoon_339 : decode cL_isSpoon 339 = .ok (.iload 9, 2) := by decide +kernel
theorem dL_isSpoon_341 : decode cL_isSpoon 341 = .ok (.ifCond .eq 13, 3) := by decide +kernel
theorem dL_isSpoon_344 : decode cL_isSpoon 344 = .ok (.iload 8, 2) := by decide +kernel
theorem dL_isSpoon_346 : decode cL_isSpoon 346 = .ok (.aload_n 0, 1) := by decide +kernel
theorem dL_isSpoon_347 : decode cL_isSpoon 347 = .ok (.iload_n 1, 1) := by decide +kernel
theorem dL_isSpoon_348 : decode cL_isSpoon 348 = .ok (.invokevirtual 229, 3) := by decide +kernel
theorem dL_isSpoon_351 : decode cL_isSpoon 351 = .ok (.if_icmp .gt 7, 3) := by decide +kernel
theorem dL_isSpoon_354 : decode cL_isSpoon 354 = .ok (.iconst 1, 1) := by decide +kernel
theorem dL_isSpoon_355 : decode cL_isSpoon 355 = .ok (.goto 4, 3) := by decide +kernel
theorem dL_isSpoon_358 : decode cL_isSpoon 358 = .ok (.iconst 0, 1) := by decide +kernel
theorem dL_isSpoon_359 : decode cL_isSpoon 359 = .ok (.istore 6, 2) := by decide +kernel
theorem dL_isSpoon_361 : decode cL_isSpoon 361 = .ok (.iinc 7 1, 3) := by decide +kernel
theorem dL_isSpoon_364 : decode cL_isSpoon 364 = .ok (.goto (-168), 3) := by decide +kernel
theorem dL_isSpoon_367 : decode cL_isSpoon 367 = .ok (.iload 6, 2) := by decide +kernel
theorem dL_isSpoon_369 : decode cL_isSpoon 369 = .ok (.ifCond .eq 35, 3) := by decide +kernel
theorem dL_isSpoon_372 : decode cL_isSpoon 372 = .ok (.aload_n 0, 1) := by decide +kernel
theorem dL_isSpoon_373 : decode cL_isSpoon 373 = .ok (.iload_n 1, 1) := by decide +kernel
theorem dL_isSpoon_374 : decode cL_isSpoon 374 = .ok (.invokevirtual 269, 3) := by decide +kernel
theorem dL_isSpoon_377 : decode cL_isSpoon 377 = .ok (.iload 5, 2) := by decide +kernel
theorem dL_isSpoon_379 : decode cL_isSpoon 379 = .ok (.if_icmp .ne 25, 3) := by decide +kernel
theorem dL_isSpoon_382 : decode cL_isSpoon 382 = .ok (.aload_n 0, 1) := by decide +kernel
theorem dL_isSpoon_383 : decode cL_isSpoon 383 = .ok (.iload_n 1, 1) := by decide +kernel
theorem dL_isSpoon_384 : decode cL_isSpoon 384 = .ok (.invokevirtual 287, 3) := by decide +kernel
theorem dL_isSpoon_387 : decode cL_isSpoon 387 = .ok (.iload 5, 2) := by decide +kernel
theorem dL_isSpoon_389 : decode cL_isSpoon 389 = .ok (.if_icmp .ne 15, 3) := by decide +kernel
theorem dL_isSpoon_392 : decode cL_isSpoon 392 = .ok (.aload_n 0, 1) := by decide +kernel
theorem dL_isSpoon_393 : decode cL_isSpoon 393 = .ok (.iload_n 1, 1) := by decide +kernel
theorem dL_isSpoon_394 : decode cL_isSpoon 394 = .ok (.invokestatic 290, 3) := by decide +kernel
theorem dL_isSpoon_397 : decode cL_isSpoon 397 = .ok (.ifCond .eq 7, 3) := by decide +kernel
theorem dL_isSpoon_400 : decode cL_isSpoon 400 = .ok (.iconst 1, 1) := by decide +kernel
theorem dL_isSpoon_401 : decode cL_isSpoon 401 = .ok (.goto 4, 3) := by decide +kernel
theorem dL_isSpoon_404 : decode cL_isSpoon 404 = .ok (.iconst 0, 1) := by decide +kernel
theorem dL_isSpoon_405 : decode cL_isSpoon 405 = .ok (.ireturn, 1) := by decide +kernel
theorem dL_areDirections_0 : decode cL_areDirections 0 = .ok (.aload_n 0, 1) := by decide +kernel
theorem dL_areDirections_1 : decode cL_areDirections 1 = .ok (.iload_n 1, 1) := by decide +kernel
theorem dL_areDirections_2 : decode cL_areDirections 2 = .ok (.invokevirtual 61, 3) := by decide +kernel
theorem dL_areDirections_5 : decode cL_areDirections 5 = .ok (.istore_n 2, 1) := by decide +kernel
theorem dL_areDirections_6 : decode cL_areDirections 6 = .ok (.aload_n 0, 1) := by decide +kernel
theorem dL_areDirections_7 : decode cL_areDirections 7 = .ok (.iload_n 1, 1) := by decide +kernel
theorem dL_areDirections_8 : decode cL_areDirections 8 = .ok (.invokevirtual 65, 3) := by decide +kernel
theorem dL_areDirections_11 : decode cL_areDirections 11 = .ok (.istore_n 3, 1) := by decide +kernel
theorem dL_areDirections_12 : decode cL_areDirections 12 = .ok (.iconst 1, 1) := by decide +kernel
theorem dL_areDirections_13 : decode cL_areDirections 13 = .ok (.istore 4, 2) := by decide +kernel
theorem dL_areDirections_15 : decode cL_areDirections 15 = .ok (.bipush (-3), 2) := by decide +kernel
theorem dL_areDirections_17 : decode cL_areDirections 17 = .ok (.istore 5, 2) := by decide +kernel
theorem dL_areDirections_19 : decode cL_areDirections 19 = .ok (.iload 4, 2) := by decide +kernel
theorem dL_areDirections_21 : decode cL_areDirections 21 = .ok (.ifCond .eq 175, 3) := by decide +kernel
theorem dL_areDirections_24 : decode cL_areDirections 24 = .ok (.iload 5, 2) := by decide +kernel
theorem dL_areDirections_26 : decode cL_areDirections 26 = .ok (.iconst 4, 1) := by decide +kernel
theorem dL_areDirections_27 : decode cL_areDirections 27 = .ok (.if_icmp .ge 169, 3) := by decide +kernel
theorem dL_areDirections_30 : decode cL_areDirections 30 = .ok (.bipush (-3), 2) := by decide +kernel
theorem dL_areDirections_32 : decode cL_areDirections 32 = .ok (.istore 6, 2) := by decide +kernel
theorem dL_areDirections_34 : decode cL_areDirections 34 = .ok (.iload 4, 2) := by decide +kernel
theorem dL_areDirections_36 : decode cL_areDirections 36 = .ok (.ifCond .eq 154, 3) := by decide +kernel
theorem dL_areDirections_39 : decode cL_areDirections 39 = .ok (.iload 6, 2) := by decide +kernel
theorem dL_areDirections_41 : decode cL_areDirections 41 = .ok (.iconst 4, 1) := by decide +kernel
theorem dL_areDirections_42 : decode cL_areDirections 42 = .ok (.if_icmp .ge 148, 3) := by decide +kernel
theorem dL_areDirections_45 : decode cL_areDirections 45 = .ok (.aload_n 0, 1) := by decide +kernel
theorem dL_areDirections_46 : decode cL_areDirections 46 = .ok (.iload_n 1, 1) := by decide +kernel
theorem dL_areDirections_47 : decode cL_areDirections 47 = .ok (.iload_n 2, 1) := by decide +kernel
theorem dL_areDirections_48 : decode cL_areDirections 48 = .ok (.iload 5, 2) := by decide +kernel
theorem dL_areDirections_50 : decode cL_areDirections 50 = .ok (.iadd, 1) := by decide +kernel
theorem dL_areDirections_51 : decode cL_areDirections 51 = .ok (.iload_n 3, 1) := by decide +kernel
theorem dL_areDirections_52 : decode cL_areDirections 52 = .ok (.iload 6, 2) := by decide +kernel
theorem dL_areDirections_54 : decode cL_areDirections 54 = .ok (.iadd, 1) := by decide +kernel
theorem dL_areDirections_55 : decode cL_areDirections 55 = .ok (.invokestatic 276, 3) := by decide +kernel
theorem dL_areDirections_58 : decode cL_areDirections 58 = .ok (.istore 7, 2) := by decide +kernel
theorem dL_areDirections_60 : decode cL_areDirections 60 = .ok (.aload_n 0, 1) := by decide +kernel
theorem dL_areDirections_61 : decode cL_areDirections 61 = .ok (.iload_n 1, 1) := by decide +kernel
theorem dL_areDirections_62 : decode cL_areDirections 62 = .ok (.iload_n 2, 1) := by decide +kernel
theorem dL_areDirections_63 : decode cL_areDirections 63 = .ok (.iload 5, 2) := by decide +kernel
theorem dL_areDirections_65 : decode cL_areDirections 65 = .ok (.isub, 1) := by decide +kernel
theorem dL_areDirections_66 : decode cL_areDirections 66 = .ok (.iload_n 3, 1) := by decide +kernel
theorem dL_areDirections_67 : decode cL_areDirections 67 = .ok (.iload 6, 2) := by decide +kernel
theorem dL_areDirections_69 : decode cL_areDirections 69 = .ok (.isub, 1) := by decide +kernel
theorem dL_areDirections_70 : decode cL_areDirections 70 = .ok (.invokestatic 276, 3) := by decide +kernel
theorem dL_areDirections_73 : decode cL_areDirections 73 = .ok (.istore 8, 2) := by decide +kernel
theorem dL_areDirections_75 : decode cL_areDirections 75 = .ok (.iload 7, 2) := by decide +kernel
theorem dL_areDirections_77 : decode cL_areDirections 77 = .ok (.sipush (-1000), 3) := by decide +kernel
theorem dL_areDirections_80 : decode cL_areDirections 80 = .ok (.if_icmp .eq 104, 3) := by decide +kernel
theorem dL_areDirections_83 : decode cL_areDirections 83 = .ok (.iload 7, 2) := by decide +kernel
theorem dL_areDirections_85 : decode cL_areDirections 85 = .ok (.aload_n 0, 1) := by decide +kernel
theorem dL_areDirections_86 : decode cL_areDirections 86 = .ok (.iload_n 1, 1) := by decide +kernel
theorem dL_areDirections_87 : decode cL_areDirections 87 = .ok (.invokevirtual 226, 3) := by decide +kernel
theorem dL_areDirections_90 : decode cL_areDirections 90 = .ok (.invokestatic 284, 3) := by decide +kernel
theorem dL_areDirections_93 : decode cL_areDirections 93 = .ok (.istore 9, 2) := by decide +kernel
theorem dL_areDirections_95 : decode cL_areDirections 95 = .ok (.iload 5, 2) := by decide +kernel
theorem dL_areDirections_97 : decode cL_areDirections 97 = .ok (.iconst 0, 1) := by decide +kernel
theorem dL_areDirections_98 : decode cL_areDirections 98 = .ok (.invokestatic 284, 3) := by decide +kernel
theorem dL_areDirections_101 : decode cL_areDirections 101 = .ok (.iload 6, 2) := by decide +kernel
theorem dL_areDirections_103 : decode cL_areDirections 103 = .ok (.iconst 0, 1) := by decide +kernel
theorem dL_areDirections_104 : decode cL_areDirections 104 = .ok (.invokestatic 284, 3) := by decide +kernel
theorem dL_areDirections_107 : decode cL_areDirections 107 = .ok (.invokestatic 148, 3) := by decide +kernel
theorem dL_areDirections_110 : decode cL_areDirections 110 = .ok (.aload_n 0, 1) := by decide +kernel
theorem dL_areDirections_111 : decode cL_areDirections 111 = .ok (.iload_n 1, 1) := by decide +kernel
theorem dL_areDirections_112 : decode cL_areDirections 112 = .ok (.invokevirtual 229, 3) := by decide +kernel
theorem dL_areDirections_115 : decode cL_areDirections 115 = .ok (.if_icmp .gt 21, 3) := by decide +kernel
theorem dL_areDirections_118 : decode cL_areDirections 118 = .ok (.iload 9, 2) := by decide +kernel
theorem dL_areDirections_120 : decode cL_areDirections 120 = .ok (.bipush 8, 2) := by decide +kernel
theorem dL_areDirections_122 : decode cL_areDirections 122 = .ok (.iload 9, 2) := by decide +kernel
theorem dL_areDirections_124 : decode cL_areDirections 124 = .ok (.isub, 1) := by decide +kernel
theorem dL_areDirections_125 : decode cL_areDirections 125 = .ok (.invokestatic 294, 3) := by decide +kernel
theorem dL_areDirections_128 : decode cL_areDirections 128 = .ok (.iconst 1, 1) := by decide +kernel
theorem dL_areDirections_129 : decode cL_areDirections 129 = .ok (.if_icmp .gt 7, 3) := by decide +kernel
theorem dL_areDirections_132 : decode cL_areDirections 132 = .ok (.iconst 1, 1) := by decide +kernel
theorem dL_areDirections_133 : decode cL_areDirections 133 = .ok (.goto 4, 3) := by decide +kernel
theorem dL_areDirections_136 : decode cL_areDirections 136 = .ok (.iconst 0, 1) := by decide +kernel
theorem dL_areDirections_137 : decode cL_areDirections 137 = .ok (.istore 10, 2) := by decide +kernel
theorem dL_areDirections_139 : decode cL_areDirections 139 = .ok (.aload_n 0, 1) := by decide +kernel
theorem dL_areDirections_140 : decode cL_areDirections 140 = .ok (.iload_n 1, 1) := by decide +kernel
theorem dL_areDirections_141 : decode cL_areDirections 141 = .ok (.iload_n 2, 1) := by decide +kernel
theorem dL_areDirections_142 : decode cL_areDirections 142 = .ok (.iload 5, 2) := by decide +kernel
theorem dL_areDirections_144 : decode cL_areDirections 144 = .ok (.iadd, 1) := by decide +kernel
theorem dL_areDirections_145 : decode cL_areDirections 145 = .ok (.iload_n 3, 1) := by decide +kernel
theorem dL_areDirections_146 : decode cL_areDirections 146 = .ok (.iload 6, 2) := by decide +kernel
theorem dL_areDirections_148 : decode cL_areDirections 148 = .ok (.iadd, 1) := by decide +kernel
theorem dL_areDirections_149 : decode cL_areDirections 149 = .ok (.invokevirtual 278, 3) := by decide +kernel
theorem dL_areDirections_152 : decode cL_areDirections 152 = .ok (.iload 10, 2) := by decide +kernel
theorem dL_areDirections_154 : decode cL_areDirections 154 = .ok (.if_icmp .ne 27, 3) := by decide +kernel
theorem dL_areDirections_157 : decode cL_areDirections 157 = .ok (.iload 8, 2) := by decide +kernel
theorem dL_areDirections_159 : decode cL_areDirections 159 = .ok (.sipush (-1000), 3) := by decide +kernel
theorem dL_areDirections_162 : decode cL_areDirections 162 = .ok (.if_icmp .eq 15, 3) := by decide +kernel
theorem dL_areDirections_165 : decode cL_areDirections 165 = .ok (.iload 8, 2) := by decide +kernel
theorem dL_areDirections_167 : decode cL_areDirections 167 = .ok (.iload 7, 2) := by decide +kernel
theorem dL_areDirections_169 : decode cL_areDirections 169 = .ok (.iconst 4, 1) := by decide +kernel
theorem dL_areDirections_170 : decode cL_areDirections 170 = .ok (.iadd, 1) := by decide +kernel
theorem dL_areDirections_171 : decode cL_areDirections 171 = .ok (.bipush 8, 2) := by decide +kernel
theorem dL_areDirections_173 : decode cL_areDirections 173 = .ok (.irem, 1) := by decide +kernel
theorem dL_areDirections_174 : decode cL_areDirections 174 = .ok (.if_icmp .ne 7, 3) := by decide +kernel
theorem dL_areDirections_177 : decode cL_areDirections 177 = .ok (.iconst 1, 1) := by decide +kernel
theorem dL_areDirections_178 : decode cL_areDirections 178 = .ok (.goto 4, 3) := by decide +kernel
theorem dL_areDirections_181 : decode cL_areDirections 181 = .ok (.iconst 0, 1) := by decide +kernel
theorem dL_areDirections_182 : decode cL_areDirections 182 = .ok (.istore 4, 2) := by decide +kernel
theorem dL_areDirections_184 : decode cL_areDirections 184 = .ok (.iinc 6 1, 3) := by decide +kernel
theorem dL_areDirections_187 : decode cL_areDirections 187 = .ok (.goto (-153), 3) := by decide +kernel
theorem dL_areDirections_190 : decode cL_areDirections 190 = .ok (.iinc 5 1, 3) := by decide +kernel
theorem dL_areDirections_193 : decode cL_areDirections 193 = .ok (.goto (-174), 3) := by decide +kernel
theorem dL_areDirections_196 : decode cL_areDirections 196 = .ok (.iload 4, 2) := by decide +kernel
theorem dL_areDirections_198 : decode cL_areDirections 198 = .ok (.ireturn, 1) := by decide +kernel
theorem dL_areRows_0 : decode cL_areRows 0 = .ok (.iconst 0, 1) := by decide +kernel
theorem dL_areRows_1 : decode cL_areRows 1 = .ok (.istore_n 1, 1) := by decide +kernel
theorem dL_areRows_2 : decode cL_areRows 2 = .ok (.iconst 1, 1) := by decide +kernel
theorem dL_areRows_3 : decode cL_areRows 3 = .ok (.istore_n 2, 1) := by decide +kernel
theorem dL_areRows_4 : decode cL_areRows 4 = .ok (.iconst 0, 1) := by decide +kernel
theorem dL_areRows_5 : decode cL_areRows 5 = .ok (.istore_n 3, 1) := by decide +kernel
theorem dL_areRows_6 : decode cL_areRows 6 = .ok (.iload_n 2, 1) := by decide +kernel
theorem dL_areRows_7 : decode cL_areRows 7 = .ok (.ifCond .eq 124, 3) := by decide +kernel
theorem dL_areRows_10 : decode cL_areRows 10 = .ok (.iload_n 3, 1) := by decide +kernel
theorem dL_areRows_11 : decode cL_areRows 11 = .ok (.bipush 10, 2) := by decide +kernel
theorem dL_areRows_13 : decode cL_areRows 13 = .ok (.if_icmp .ge 118, 3) := by decide +kernel
theorem dL_areRows_16 : decode cL_areRows 16 = .ok (.aload_n 0, 1) := by decide +kernel
theorem dL_areRows_17 : decode cL_areRows 17 = .ok (.iload_n 3, 1) := by decide +kernel
theorem dL_areRows_18 : decode cL_areRows 18 = .ok (.invokevirtual 297, 3) := by decide +kernel
theorem dL_areRows_21 : decode cL_areRows 21 = .ok (.bipush 10, 2) := by decide +kernel
theorem dL_areRows_23 : decode cL_areRows 23 = .ok (.if_icmp .ne 7, 3) := by decide +kernel
theorem dL_areRows_26 : decode cL_areRows 26 = .ok (.iconst 1, 1) := by decide +kernel
theorem dL_areRows_27 : decode cL_areRows 27 = .ok (.goto 4, 3) := by decide +kernel
theorem dL_areRows_30 : decode cL_areRows 30 = .ok (.iconst 0, 1) := by decide +kernel
theorem dL_areRows_31 : decode cL_areRows 31 = .ok (.istore_n 2, 1) := by decide +kernel
theorem dL_areRows_32 : decode cL_areRows 32 = .ok (.iconst 0, 1) := by decide +kernel
theorem dL_areRows_33 : decode cL_areRows 33 = .ok (.istore 4, 2) := by decide +kernel
theorem dL_areRows_35 : decode cL_areRows 35 = .ok (.iload_n 2, 1) := by decide +kernel
theorem dL_areRows_36 : decode cL_areRows 36 = .ok (.ifCond .eq 89, 3) := by decide +kernel
theorem dL_areRows_39 : decode cL_areRows 39 = .ok (.iload 4, 2) := by decide +kernel
theorem dL_areRows_41 : decode cL_areRows 41 = .ok (.bipush 10, 2) := by decide +kernel
theorem dL_areRows_43 : decode cL_areRows 43 = .ok (.if_icmp .ge 82, 3) := by decide +kernel
theorem dL_areRows_46 : decode cL_areRows 46 = .ok (.aload_n 0, 1) := by decide +kernel
theorem dL_areRows_47 : decode cL_areRows 47 = .ok (.iload 4, 2) := by decide +kernel
theorem dL_areRows_49 : decode cL_areRows 49 = .ok (.iload_n 3, 1) := by decide +kernel
theorem dL_areRows_50 : decode cL_areRows 50 = .ok (.invokestatic 274, 3) := by decide +kernel
theorem dL_areRows_53 : decode cL_areRows 53 = .ok (.istore 5, 2) := by decide +kernel
theorem dL_areRows_55 : decode cL_areRows 55 = .ok (.iload_n 1, 1) := by decide +kernel
theorem dL_areRows_56 : decode cL_areRows 56 = .ok (.iload 5, 2) := by decide +kernel
theorem dL_areRows_58 : decode cL_areRows 58 = .ok (.sipush (-1000), 3) := by decide +kernel
theorem dL_areRows_61 : decode cL_areRows 61 = .ok (.if_icmp .ne 7, 3) := by decide +kernel
theorem dL_areRows_64 : decode cL_areRows 64 = .ok (.iconst 0, 1) := by decide +kernel
theorem dL_areRows_65 : decode cL_areRows 65 = .ok (.goto 4, 3) := by decide +kernel
theorem dL_areRows_68 : decode cL_areRows 68 = .ok (.iconst 1, 1) := by decide +kernel
theorem dL_areRows_69 : decode cL_areRows 69 = .ok (.iadd, 1) := by decide +kernel
theorem dL_areRows_70 : decode cL_areRows 70 = .ok (.istore_n 1, 1) := by decide +kernel
theorem dL_areRows_71 : decode cL_areRows 71 = .ok (.aload_n 0, 1) := by decide +kernel
theorem dL_areRows_72 : decode cL_areRows 72 = .ok (.iload 4, 2) := by decide +kernel
theorem dL_areRows_74 : decode cL_areRows 74 = .ok (.invokevirtual 300, 3) := by decide +kernel
theorem dL_areRows_77 : decode cL_areRows 77 = .ok (.iload 5, 2) := by decide +kernel
theorem dL_areRows_79 : decode cL_areRows 79 = .ok (.sipush (-1000), 3) := by decide +kernel
theorem dL_areRows_82 : decode cL_areRows 82 = .ok (.if_icmp .ne 8, 3) := by decide +kernel
theorem dL_areRows_85 : decode cL_areRows 85 = .ok (.bipush 46, 2) := by decide +kernel
theorem dL_areRows_87 : decode cL_areRows 87 = .ok (.goto 23, 3) := by decide +kernel
theorem dL_areRows_90 : decode cL_areRows 90 = .ok (.aload_n 0, 1) := by decide +kernel
theorem dL_areRows_91 : decode cL_areRows 91 = .ok (.iload 5, 2) := by decide +kernel
theorem dL_areRows_93 : decode cL_areRows 93 = .ok (.invokevirtual 239, 3) := by decide +kernel
theorem dL_areRows_96 : decode cL_areRows 96 = .ok (.ifCond .ne 8, 3) := by decide +kernel
theorem dL_areRows_99 : decode cL_areRows 99 = .ok (.bipush 97, 2) := by decide +kernel
theorem dL_areRows_101 : decode cL_areRows 101 = .ok (.goto 5, 3) := by decide +kernel
theorem dL_areRows_104 : decode cL_areRows 104 = .ok (.bipush 65, 2) := by decide +kernel
theorem dL_areRows_106 : decode cL_areRows 106 = .ok (.iload 5, 2) := by decide +kernel
theorem dL_areRows_108 : decode cL_areRows 108 = .ok (.iadd, 1) := by decide +kernel
theorem dL_areRows_109 : decode cL_areRows 109 = .ok (.i2c, 1) := by decide +kernel
theorem dL_areRows_110 : decode cL_areRows 110 = .ok (.if_icmp .ne 7, 3) := by decide +kernel
theorem dL_areRows_113 : decode cL_areRows 113 = .ok (.iconst 1, 1) := by decide +kernel
theorem dL_areRows_114 : decode cL_areRows 114 = .ok (.goto 4, 3) := by decide +kernel
theorem dL_areRows_117 : decode cL_areRows 117 = .ok (.iconst 0, 1) := by decide +kernel
theorem dL_areRows_118 : decode cL_areRows 118 = .ok (.istore_n 2, 1) := by decide +kernel
theorem dL_areRows_119 : decode cL_areRows 119 = .ok (.iinc 4 1, 3) := by decide +kernel
theorem dL_areRows_122 : decode cL_areRows 122 = .ok (.goto (-87), 3) := by decide +kernel
theorem dL_areRows_125 : decode cL_areRows 125 = .ok (.iinc 3 1, 3) := by decide +kernel
theorem dL_areRows_128 : decode cL_areRows 128 = .ok (.goto (-122), 3) := by decide +kernel
theorem dL_areRows_131 : decode cL_areRows 131 = .ok (.iconst 1, 1) := by decide +kernel
theorem dL_areRows_132 : decode cL_areRows 132 = .ok (.istore_n 3, 1) := by decide +kernel
theorem dL_areRows_133 : decode cL_areRows 133 = .ok (.iload_n 2, 1) := by decide +kernel
theorem dL_areRows_134 : decode cL_areRows 134 = .ok (.ifCond .eq 93, 3) := by decide +kernel
theorem dL_areRows_137 : decode cL_areRows 137 = .ok (.iload_n 3, 1) := by decide +kernel
theorem dL_areRows_138 : decode cL_areRows 138 = .ok (.iload_n 1, 1) := by decide +kernel
theorem dL_areRows_139 : decode cL_areRows 139 = .ok (.if_icmp .ge 88, 3) := by decide +kernel
theorem dL_areRows_142 : decode cL_areRows 142 = .ok (.aload_n 0, 1) := by decide +kernel
theorem dL_areRows_143 : decode cL_areRows 143 = .ok (.iload_n 3, 1) := by decide +kernel
theorem dL_areRows_144 : decode cL_areRows 144 = .ok (.iconst 1, 1) := by decide +kernel
theorem dL_areRows_145 : decode cL_areRows 145 = .ok (.isub, 1) := by decide +kernel
theorem dL_areRows_146 : decode cL_areRows 146 = .ok (.invokestatic 303, 3) := by decide +kernel
theorem dL_areRows_149 : decode cL_areRows 149 = .ok (.istore 4, 2) := by decide +kernel
theorem dL_areRows_151 : decode cL_areRows 151 = .ok (.aload_n 0, 1) := by decide +kernel
theorem dL_areRows_152 : decode cL_areRows 152 = .ok (.iload_n 3, 1) := by decide +kernel
theorem dL_areRows_153 : decode cL_areRows 153 = .ok (.invokestatic 303, 3) := by decide +kernel
theorem dL_areRows_156 : decode cL_areRows 156 = .ok (.istore 5, 2) := by decide +kernel
theorem dL_areRows_158 : decode cL_areRows 158 = .ok (.aload_n 0, 1) := by decide +kernel
theorem dL_areRows_159 : decode cL_areRows 159 = .ok (.iload 4, 2) := by decide +kernel
theorem dL_areRows_161 : decode cL_areRows 161 = .ok (.invokevirtual 229, 3) := by decide +kernel
theorem dL_areRows_164 : decode cL_areRows 164 = .ok (.aload_n 0, 1) := by decide +kernel
theorem dL_areRows_165 : decode cL_areRows 165 = .ok (.iload 5, 2) := by decide +kernel
theorem dL_areRows_167 : decode cL_areRows 167 = .ok (.invokevirtual 229, 3) := by decide +kernel
theorem dL_areRows_170 : decode cL_areRows 170 = .ok (.isub, 1) := by decide +kernel
theorem dL_areRows_171 : decode cL_areRows 171 = .ok (.istore 6, 2) := by decide +kernel
theorem dL_areRows_173 : decode cL_areRows 173 = .ok (.aload_n 0, 1) := by decide +kernel
theorem dL_areRows_174 : decode cL_areRows 174 = .ok (.iload 4, 2) := by decide +kernel
theorem dL_areRows_176 : decode cL_areRows 176 = .ok (.invokevirtual 236, 3) := by decide +kernel
theorem dL_areRows_179 : decode cL_areRows 179 = .ok (.aload_n 0, 1) := by decide +kernel
theorem dL_areRows_180 : decode cL_areRows 180 = .ok (.iload 5, 2) := by decide +kernel
theorem dL_areRows_182 : decode cL_areRows 182 = .ok (.invokevirtual 236, 3) := by decide +kernel
theorem dL_areRows_185 : decode cL_areRows 185 = .ok (.isub, 1) := by decide +kernel
theorem dL_areRows_186 : decode cL_areRows 186 = .ok (.istore 7, 2) := by decide +kernel
theorem dL_areRows_188 : decode cL_areRows 188 = .ok (.iload 6, 2) := by decide +kernel
theorem dL_areRows_190 : decode cL_areRows 190 = .ok (.ifCond .gt 25, 3) := by decide +kernel
theorem dL_areRows_193 : decode cL_areRows 193 = .ok (.iload 6, 2) := by decide +kernel
theorem dL_areRows_195 : decode cL_areRows 195 = .ok (.ifCond .ne 24, 3) := by decide +kernel
theorem dL_areRows_198 : decode cL_areRows 198 = .ok (.iload 7, 2) := by decide +kernel
theorem dL_areRows_200 : decode cL_areRows 200 = .ok (.ifCond .gt 15, 3) := by decide +kernel
theorem dL_areRows_203 : decode cL_areRows 203 = .ok (.iload 7, 2) := by decide +kernel
theorem dL_areRows_205 : decode cL_areRows 205 = .ok (.ifCond .ne 14, 3) := by decide +kernel
theorem dL_areRows_208 : decode cL_areRows 208 = .ok (.iload 4, 2) := by decide +kernel
theorem dL_areRows_210 : decode cL_areRows 210 = .ok (.iload 5, 2) := by decide +kernel
theorem dL_areRows_212 : decode cL_areRows 212 = .ok (.if_icmp .ge 7, 3) := by decide +kernel
theorem dL_areRows_215 : decode cL_areRows 215 = .ok (.iconst 1, 1) := by decide +kernel
theorem dL_areRows_216 : decode cL_areRows 216 = .ok (.goto 4, 3) := by decide +kernel
theorem dL_areRows_219 : decode cL_areRows 219 = .ok (.iconst 0, 1) := by decide +kernel
theorem dL_areRows_220 : decode cL_areRows 220 = .ok (.istore_n 2, 1) := by decide +kernel
theorem dL_areRows_221 : decode cL_areRows 221 = .ok (.iinc 3 1, 3) := by decide +kernel
theorem dL_areRows_224 : decode cL_areRows 224 = .ok (.goto (-91), 3) := by decide +kernel
theorem dL_areRows_227 : decode cL_areRows 227 = .ok (.iload_n 2, 1) := by decide +kernel
theorem dL_areRows_228 : decode cL_areRows 228 = .ok (.ifCond .eq 44, 3) := by decide +kernel
theorem dL_areRows_231 : decode cL_areRows 231 = .ok (.iload_n 1, 1) := by decide +kernel
theorem dL_areRows_232 : decode cL_areRows 232 = .ok (.aload_n 0, 1) := by decide +kernel
theorem dL_areRows_233 : decode cL_areRows 233 = .ok (.iconst 0, 1) := by decide +kernel
theorem dL_areRows_234 : decode cL_areRows 234 = .ok (.invokevirtual 244, 3) := by decide +kernel
theorem dL_areRows_237 : decode cL_areRows 237 = .ok (.aload_n 0, 1) := by decide +kernel
theorem dL_areRows_238 : decode cL_areRows 238 = .ok (.iconst 1, 1) := by decide +kernel
theorem dL_areRows_239 : decode cL_areRows 239 = .ok (.invokevirtual 244, 3) := by decide +kernel
theorem dL_areRows_242 : decode cL_areRows 242 = .ok (.iadd, 1) := by decide +kernel
theorem dL_areRows_243 : decode cL_areRows 243 = .ok (.if_icmp .ne 29, 3) := by decide +kernel
theorem dL_areRows_246 : decode cL_areRows 246 = .ok (.aload_n 0, 1) := by decide +kernel
theorem dL_areRows_247 : decode cL_areRows 247 = .ok (.iload_n 1, 1) := by decide +kernel
theorem dL_areRows_248 : decode cL_areRows 248 = .ok (.invokestatic 303, 3) := by decide +kernel
theorem dL_areRows_251 : decode cL_areRows 251 = .ok (.sipush (-1000), 3) := by decide +kernel
theorem dL_areRows_254 : decode cL_areRows 254 = .ok (.if_icmp .ne 18, 3) := by decide +kernel
theorem dL_areRows_257 : decode cL_areRows 257 = .ok (.aload_n 0, 1) := by decide +kernel
theorem dL_areRows_258 : decode cL_areRows 258 = .ok (.iconst (-1), 1) := by decide +kernel
theorem dL_areRows_259 : decode cL_areRows 259 = .ok (.invokestatic 303, 3) := by decide +kernel
theorem dL_areRows_262 : decode cL_areRows 262 = .ok (.sipush (-1000), 3) := by decide +kernel
theorem dL_areRows_265 : decode cL_areRows 265 = .ok (.if_icmp .ne 7, 3) := by decide +kernel
theorem dL_areRows_268 : decode cL_areRows 268 = .ok (.iconst 1, 1) := by decide +kernel
theorem dL_areRows_269 : decode cL_areRows 269 = .ok (.goto 4, 3) := by decide +kernel
theorem dL_areRows_272 : decode cL_areRows 272 = .ok (.iconst 0, 1) := by decide +kernel
theorem dL_areRows_273 : decode cL_areRows 273 = .ok (.ireturn, 1) := by decide +kernel
theorem dL_isSailed_0 : decode cL_isSailed 0 = .ok (.aload_n 0, 1) := by decide +kernel
theorem dL_isSailed_1 : decode cL_isSailed 1 = .ok (.invokestatic 305, 3) := by decide +kernel
theorem dL_isSailed_4 : decode cL_isSailed 4 = .ok (.lstore_n 3, 1) := by decide +kernel
theorem dL_isSailed_5 : decode cL_isSailed 5 = .ok (.aload_n 0, 1) := by decide +kernel
theorem dL_isSailed_6 : decode cL_isSailed 6 = .ok (.iload_n 1, 1) := by decide +kernel
theorem dL_isSailed_7 : decode cL_isSailed 7 = .ok (.invokestatic 272, 3) := by decide +kernel
theorem dL_isSailed_10 : decode cL_isSailed 10 = .ok (.istore 5, 2) := by decide +kernel
theorem dL_isSailed_12 : decode cL_isSailed 12 = .ok (.aload_n 0, 1) := by decide +kernel
theorem dL_isSailed_13 : decode cL_isSailed 13 = .ok (.iload_n 1, 1) := by decide +kernel
theorem dL_isSailed_14 : decode cL_isSailed 14 = .ok (.invokestatic 145, 3) := by decide +kernel
theorem dL_isSailed_17 : decode cL_isSailed 17 = .ok (.istore 6, 2) := by decide +kernel
theorem dL_isSailed_19 : decode cL_isSailed 19 = .ok (.aload_n 0, 1) := by decide +kernel
theorem dL_isSailed_20 : decode cL_isSailed 20 = .ok (.iload_n 1, 1) := by decide +kernel
theorem dL_isSailed_21 : decode cL_isSailed 21 = .ok (.invokestatic 153, 3) := by decide +kernel
theorem dL_isSailed_24 : decode cL_isSailed 24 = .ok (.istore 7, 2) := by decide +kernel
theorem dL_isSailed_26 : decode cL_isSailed 26 = .ok (.aload_n 0, 1) := by decide +kernel
theorem dL_isSailed_27 : decode cL_isSailed 27 = .ok (.invokestatic 214, 3) := by decide +kernel
theorem dL_isSailed_30 : decode cL_isSailed 30 = .ok (.istore 8, 2) := by decide +kernel
theorem dL_isSailed_32 : decode cL_isSailed 32 = .ok (.aload_n 0, 1) := by decide +kernel
theorem dL_isSailed_33 : decode cL_isSailed 33 = .ok (.invokevirtual 194, 3) := by decide +kernel
theorem dL_isSailed_36 : decode cL_isSailed 36 = .ok (.lstore 9, 2) := by decide +kernel
theorem dL_isSailed_38 : decode cL_isSailed 38 = .ok (.aload_n 0, 1) := by decide +kernel
theorem dL_isSailed_39 : decode cL_isSailed 39 = .ok (.iload_n 1, 1) := by decide +kernel
theorem dL_isSailed_40 : decode cL_isSailed 40 = .ok (.invokevirtual 229, 3) := by decide +kernel
theorem dL_isSailed_43 : decode cL_isSailed 43 = .ok (.istore 11, 2) := by decide +kernel
theorem dL_isSailed_45 : decode cL_isSailed 45 = .ok (.aload_n 0, 1) := by decide +kernel
theorem dL_isSailed_46 : decode cL_isSailed 46 = .ok (.iload_n 1, 1) := by decide +kernel
theorem dL_isSailed_47 : decode cL_isSailed 47 = .ok (.iconst 2, 1) := by decide +kernel
theorem dL_isSailed_48 : decode cL_isSailed 48 = .ok (.iload_n 2, 1) := by decide +kernel
theorem dL_isSailed_49 : decode cL_isSailed 49 = .ok (.invokestatic 142, 3) := by decide +kernel
theorem dL_isSailed_52 : decode cL_isSailed 52 = .ok (.istore 12, 2) := by decide +kernel
theorem dL_isSailed_54 : decode cL_isSailed 54 = .ok (.iload 12, 2) := by decide +kernel
theorem dL_isSailed_56 : decode cL_isSailed 56 = .ok (.ldc 10, 2) := by decide +kernel
theorem dL_isSailed_58 : decode cL_isSailed 58 = .ok (.if_icmp .ne 58, 3) := by decide +kernel
theorem dL_isSailed_61 : decode cL_isSailed 61 = .ok (.iload 8, 2) := by decide +kernel
theorem dL_isSailed_63 : decode cL_isSailed 63 = .ok (.iconst 1, 1) := by decide +kernel
theorem dL_isSailed_64 : decode cL_isSailed 64 = .ok (.if_icmp .lt 37, 3) := by decide +kernel
theorem dL_isSailed_67 : decode cL_isSailed 67 = .ok (.aload_n 0, 1) := by decide +kernel
theorem dL_isSailed_68 : decode cL_isSailed 68 = .ok (.iload_n 1, 1) := by decide +kernel
theorem dL_isSailed_69 : decode cL_isSailed 69 = .ok (.invokevirtual 247, 3) := by decide +kernel
theorem dL_isSailed_72 : decode cL_isSailed 72 = .ok (.ifCond .ne 29, 3) := by decide +kernel
theorem dL_isSailed_75 : decode cL_isSailed 75 = .ok (.aload_n 0, 1) := by decide +kernel
theorem dL_isSailed_76 : decode cL_isSailed 76 = .ok (.invokestatic 210, 3) := by decide +kernel
theorem dL_isSailed_79 : decode cL_isSailed 79 = .ok (.aload_n 0, 1) := by decide +kernel
theorem dL_isSailed_80 : decode cL_isSailed 80 = .ok (.iload_n 1, 1) := by decide +kernel
theorem dL_isSailed_81 : decode cL_isSailed 81 = .ok (.invokevirtual 239, 3) := by decide +kernel
theorem dL_isSailed_84 : decode cL_isSailed 84 = .ok (.if_icmp .ne 17, 3) := by decide +kernel
theorem dL_isSailed_87 : decode cL_isSailed 87 = .ok (.iload 5, 2) := by decide +kernel
theorem dL_isSailed_89 : decode cL_isSailed 89 = .ok (.ifCond .eq 12, 3) := by decide +kernel
theorem dL_isSailed_92 : decode cL_isSailed 92 = .ok (.iload_n 2, 1) := by decide +kernel
theorem dL_isSailed_93 : decode cL_isSailed 93 = .ok (.ifCond .eq 21, 3) := by decide +kernel
theorem dL_isSailed_96 : decode cL_isSailed 96 = .ok (.iload 11, 2) := by decide +kernel
theorem dL_isSailed_98 : decode cL_isSailed 98 = .ok (.ifCond .ne 16, 3) := by decide +kernel
theorem dL_isSailed_101 : decode cL_isSailed 101 = .ok (.aload_n 0, 1) := by decide +kernel
theorem dL_isSailed_102 : decode cL_isSailed 102 = .ok (.invokestatic 305, 3) := by decide +kernel
theorem dL_isSailed_105 : decode cL_isSailed 105 = .ok (.lload_n 3, 1) := by decide +kernel
theorem dL_isSailed_106 : decode cL_isSailed 106 = .ok (.lcmp, 1) := by decide +kernel
theorem dL_isSailed_107 : decode cL_isSailed 107 = .ok (.ifCond .ne 7, 3) := by decide +kernel
theorem dL_isSailed_110 : decode cL_isSailed 110 = .ok (.iconst 1, 1) := by decide +kernel
theorem dL_isSailed_111 : decode cL_isSailed 111 = .ok (.goto 4, 3) := by decide +kernel
theorem dL_isSailed_114 : decode cL_isSailed 114 = .ok (.iconst 0, 1) := by decide +kernel
theorem dL_isSailed_115 : decode cL_isSailed 115 = .ok (.ireturn, 1) := by decide +kernel
theorem dL_isSailed_116 : decode cL_isSailed 116 = .ok (.iload 12, 2) := by decide +kernel
theorem dL_isSailed_118 : decode cL_isSailed 118 = .ok (.iconst 2, 1) := by decide +kernel
theorem dL_isSailed_119 : decode cL_isSailed 119 = .ok (.iload 5, 2) := by decide +kernel
theorem dL_isSailed_121 : decode cL_isSailed 121 = .ok (.invokestatic 294, 3) := by decide +kernel
theorem dL_isSailed_124 : decode cL_isSailed 124 = .ok (.if_icmp .ne 93, 3) := by decide +kernel
theorem dL_isSailed_127 : decode cL_isSailed 127 = .ok (.aload_n 0, 1) := by decide +kernel
theorem dL_isSailed_128 : decode cL_isSailed 128 = .ok (.iload_n 1, 1) := by decide +kernel
theorem dL_isSailed_129 : decode cL_isSailed 129 = .ok (.iload 6, 2) := by decide +kernel
theorem dL_isSailed_131 : decode cL_isSailed 131 = .ok (.iload 7, 2) := by decide +kernel
theorem dL_isSailed_133 : decode cL_isSailed 133 = .ok (.invokestatic 309, 3) := by decide +kernel
theorem dL_isSailed_136 : decode cL_isSailed 136 = .ok (.iload 12, 2) := by decide +kernel
theorem dL_isSailed_138 : decode cL_isSailed 138 = .ok (.if_icmp .ne 79, 3) := by decide +kernel
theorem dL_isSailed_141 : decode cL_isSailed 141 = .ok (.aload_n 0, 1) := by decide +kernel
theorem dL_isSailed_142 : decode cL_isSailed 142 = .ok (.invokestatic 214, 3) := by decide +kernel
theorem dL_isSailed_145 : decode cL_isSailed 145 = .ok (.iload 8, 2) := by decide +kernel
theorem dL_isSailed_147 : decode cL_isSailed 147 = .ok (.iconst 1, 1) := by decide +kernel
theorem dL_isSailed_148 : decode cL_isSailed 148 = .ok (.isub, 1) := by decide +kernel
theorem dL_isSailed_149 : decode cL_isSailed 149 = .ok (.if_icmp .ne 68, 3) := by decide +kernel
theorem dL_isSailed_152 : decode cL_isSailed 152 = .ok (.aload_n 0, 1) := by decide +kernel
theorem dL_isSailed_153 : decode cL_isSailed 153 = .ok (.invokevirtual 194, 3) := by decide +kernel
theorem dL_isSailed_156 : decode cL_isSailed 156 = .ok (.lload 9, 2) := by decide +kernel
theorem dL_isSailed_158 : decode cL_isSailed 158 = .ok (.iload 12, 2) := by decide +kernel
theorem dL_isSailed_160 : decode cL_isSailed 160 = .ok (.i2l, 1) := by decide +kernel
theorem dL_isSailed_161 : decode cL_isSailed 161 = .ok (.ladd, 1) := by decide +kernel
theorem dL_isSailed_162 : decode cL_isSailed 162 = .ok (.lcmp, 1) := by decide +kernel
theorem dL_isSailed_163 : decode cL_isSailed 163 = .ok (.ifCond .ne 54, 3) := by decide +kernel
theorem dL_isSailed_166 : decode cL_isSailed 166 = .ok (.aload_n 0, 1) := by decide +kernel
theorem dL_isSailed_167 : decode cL_isSailed 167 = .ok (.iload_n 1, 1) := by decide +kernel
theorem dL_isSailed_168 : decode cL_isSailed 168 = .ok (.invokevirtual 229, 3) := by decide +kernel
theorem dL_isSailed_171 : decode cL_isSailed 171 = .ok (.iload 11, 2) := by decide +kernel
theorem dL_isSailed_173 : decode cL_isSailed 173 = .ok (.iload_n 2, 1) := by decide +kernel
theorem dL_isSailed_174 : decode cL_isSailed 174 = .ok (.ifCond .eq 7, 3) := by decide +kernel
theorem dL_isSailed_177 : decode cL_isSailed 177 = .ok (.iconst 1, 1) := by decide +kernel
theorem dL_isSailed_178 : decode cL_isSailed 178 = .ok (.goto 4, 3) := by decide +kernel
theorem dL_isSailed_181 : decode cL_isSailed 181 = .ok (.iconst 0, 1) := by decide +kernel
theorem dL_isSailed_182 : decode cL_isSailed 182 = .ok (.isub, 1) := by decide +kernel
theorem dL_isSailed_183 : decode cL_isSailed 183 = .ok (.if_icmp .ne 34, 3) := by decide +kernel
theorem dL_isSailed_186 : decode cL_isSailed 186 = .ok (.iload_n 2, 1) := by decide +kernel
theorem dL_isSailed_187 : decode cL_isSailed 187 = .ok (.ifCond .ne 11, 3) := by decide +kernel
theorem dL_isSailed_190 : decode cL_isSailed 190 = .ok (.aload_n 0, 1) := by decide +kernel
theorem dL_isSailed_191 : decode cL_isSailed 191 = .ok (.iload_n 1, 1) := by decide +kernel
theorem dL_isSailed_192 : decode cL_isSailed 192 = .ok (.invokevirtual 266, 3) := by decide +kernel
theorem dL_isSailed_195 : decode cL_isSailed 195 = .ok (.ifCond .ne 22, 3) := by decide +kernel
theorem dL_isSailed_198 : decode cL_isSailed 198 = .ok (.aload_n 0, 1) := by decide +kernel
theorem dL_isSailed_199 : decode cL_isSailed 199 = .ok (.invokestatic 312, 3) := by decide +kernel
theorem dL_isSailed_202 : decode cL_isSailed 202 = .ok (.ifCond .eq 15, 3) := by decide +kernel
theorem dL_isSailed_205 : decode cL_isSailed 205 = .ok (.aload_n 0, 1) := by decide +kernel
theorem dL_isSailed_206 : decode cL_isSailed 206 = .ok (.iload_n 1, 1) := by decide +kernel
theorem dL_isSailed_207 : decode cL_isSailed 207 = .ok (.invokestatic 316, 3) := by decide +kernel
theorem dL_isSailed_210 : decode cL_isSailed 210 = .ok (.ifCond .eq 7, 3) := by decide +kernel
theorem dL_isSailed_213 : decode cL_isSailed 213 = .ok (.iconst 1, 1) := by decide +kernel
theorem dL_isSailed_214 : decode cL_isSailed 214 = .ok (.goto 4, 3) := by decide +kernel
theorem dL_isSailed_217 : decode cL_isSailed 217 = .ok (.iconst 0, 1) := by decide +kernel
theorem dL_isSailed_218 : decode cL_isSailed 218 = .ok (.istore 13, 2) := by decide +kernel
theorem dL_isSailed_220 : decode cL_isSailed 220 = .ok (.iload 13, 2) := by decide +kernel
theorem dL_isSailed_222 : decode cL_isSailed 222 = .ok (.ifCond .eq 23, 3) := by decide +kernel
theorem dL_isSailed_225 : decode cL_isSailed 225 = .ok (.aload_n 0, 1) := by decide +kernel
theorem dL_isSailed_226 : decode cL_isSailed 226 = .ok (.invokestatic 175, 3) := by decide +kernel
theorem dL_isSailed_229 : decode cL_isSailed 229 = .ok (.ifCond .lt 16, 3) := by decide +kernel
theorem dL_isSailed_232 : decode cL_isSailed 232 = .ok (.aload_n 0, 1) := by decide +kernel
theorem dL_isSailed_233 : decode cL_isSailed 233 = .ok (.invokestatic 305, 3) := by decide +kernel
theorem dL_isSailed_236 : decode cL_isSailed 236 = .ok (.lload_n 3, 1) := by decide +kernel
theorem dL_isSailed_237 : decode cL_isSailed 237 = .ok (.lcmp, 1) := by decide +kernel
theorem dL_isSailed_238 : decode cL_isSailed 238 = .ok (.ifCond .ne 7, 3) := by decide +kernel
theorem dL_isSailed_241 : decode cL_isSailed 241 = .ok (.iconst 1, 1) := by decide +kernel
theorem dL_isSailed_242 : decode cL_isSailed 242 = .ok (.goto 4, 3) := by decide +kernel
theorem dL_isSailed_245 : decode cL_isSailed 245 = .ok (.iconst 0, 1) := by decide +kernel
theorem dL_isSailed_246 : decode cL_isSailed 246 = .ok (.ireturn, 1) := by decide +kernel
theorem dL_distanceOf_0 : decode cL_distanceOf 0 = .ok (.aload_n 0, 1) := by decide +kernel
theorem dL_distanceOf_1 : decode cL_distanceOf 1 = .ok (.iload_n 1, 1) := by decide +kernel
theorem dL_distanceOf_2 : decode cL_distanceOf 2 = .ok (.invokevirtual 61, 3) := by decide +kernel
theorem dL_distanceOf_5 : decode cL_distanceOf 5 = .ok (.iload_n 2, 1) := by decide +kernel
theorem dL_distanceOf_6 : decode cL_distanceOf 6 = .ok (.invokestatic 284, 3) := by decide +kernel
theorem dL_distanceOf_9 : decode cL_distanceOf 9 = .ok (.aload_n 0, 1) := by decide +kernel
theorem dL_distanceOf_10 : decode cL_distanceOf 10 = .ok (.iload_n 1, 1) := by decide +kernel
theorem dL_distanceOf_11 : decode cL_distanceOf 11 = .ok (.invokevirtual 65, 3) := by decide +kernel
theorem dL_distanceOf_14 : decode cL_distanceOf 14 = .ok (.iload_n 3, 1) := by decide +kernel
theorem dL_distanceOf_15 : decode cL_distanceOf 15 = .ok (.invokestatic 284, 3) := by decide +kernel
theorem dL_distanceOf_18 : decode cL_distanceOf 18 = .ok (.invokestatic 148, 3) := by decide +kernel
theorem dL_distanceOf_21 : decode cL_distanceOf 21 = .ok (.ireturn, 1) := by decide +kernel
theorem dL_areKnown_0 : decode cL_areKnown 0 = .ok (.iconst 1, 1) := by decide +kernel
theorem dL_areKnown_1 : decode cL_areKnown 1 = .ok (.istore_n 1, 1) := by decide +kernel
theorem dL_areKnown_2 : decode cL_areKnown 2 = .ok (.iconst 0, 1) := by decide +kernel
theorem dL_areKnown_3 : decode cL_areKnown 3 = .ok (.istore_n 2, 1) := by decide +kernel
theorem dL_areKnown_4 : decode cL_areKnown 4 = .ok (.iload_n 2, 1) := by decide +kernel
theorem dL_areKnown_5 : decode cL_areKnown 5 = .ok (.aload_n 0, 1) := by decide +kernel
theorem dL_areKnown_6 : decode cL_areKnown 6 = .ok (.invokevirtual 223, 3) := by decide +kernel
theorem dL_areKnown_9 : decode cL_areKnown 9 = .ok (.if_icmp .ge 78, 3) := by decide +kernel
theorem dL_areKnown_12 : decode cL_areKnown 12 = .ok (.iconst 0, 1) := by decide +kernel
theorem dL_areKnown_13 : decode cL_areKnown 13 = .ok (.istore_n 3, 1) := by decide +kernel
theorem dL_areKnown_14 : decode cL_areKnown 14 = .ok (.iload_n 1, 1) := by decide +kernel
theorem dL_areKnown_15 : decode cL_areKnown 15 = .ok (.ifCond .eq 66, 3) := by decide +kernel
theorem dL_areKnown_18 : decode cL_areKnown 18 = .ok (.iload_n 3, 1) := by decide +kernel
theorem dL_areKnown_19 : decode cL_areKnown 19 = .ok (.aload_n 0, 1) := by decide +kernel
theorem dL_areKnown_20 : decode cL_areKnown 20 = .ok (.invokevirtual 223, 3) := by decide +kernel
theorem dL_areKnown_23 : decode cL_areKnown 23 = .ok (.if_icmp .ge 58, 3) := by decide +kernel
theorem dL_areKnown_26 : decode cL_areKnown 26 = .ok (.aload_n 0, 1) := by decide +kernel
theorem dL_areKnown_27 : decode cL_areKnown 27 = .ok (.iload_n 2, 1) := by decide +kernel
theorem dL_areKnown_28 : decode cL_areKnown 28 = .ok (.iload_n 3, 1) := by decide +kernel
theorem dL_areKnown_29 : decode cL_areKnown 29 = .ok (.invokestatic 282, 3) := by decide +kernel
theorem dL_areKnown_32 : decode cL_areKnown 32 = .ok (.istore 4, 2) := by decide +kernel
theorem dL_areKnown_34 : decode cL_areKnown 34 = .ok (.iload 4, 2) := by decide +kernel
theorem dL_areKnown_36 : decode cL_areKnown 36 = .ok (.sipush (-1000), 3) := by decide +kernel
theorem dL_areKnown_39 : decode cL_areKnown 39 = .ok (.if_icmp .eq 30, 3) := by decide +kernel
theorem dL_areKnown_42 : decode cL_areKnown 42 = .ok (.iload 4, 2) := by decide +kernel
theorem dL_areKnown_44 : decode cL_areKnown 44 = .ok (.iconst 2, 1) := by decide +kernel
theorem dL_areKnown_45 : decode cL_areKnown 45 = .ok (.if_icmp .gt 24, 3) := by decide +kernel
theorem dL_areKnown_48 : decode cL_areKnown 48 = .ok (.aload_n 0, 1) := by decide +kernel
theorem dL_areKnown_49 : decode cL_areKnown 49 = .ok (.iload_n 2, 1) := by decide +kernel
theorem dL_areKnown_50 : decode cL_areKnown 50 = .ok (.invokevirtual 239, 3) := by decide +kernel
theorem dL_areKnown_53 : decode cL_areKnown 53 = .ok (.aload_n 0, 1) := by decide +kernel
theorem dL_areKnown_54 : decode cL_areKnown 54 = .ok (.iload_n 3, 1) := by decide +kernel
theorem dL_areKnown_55 : decode cL_areKnown 55 = .ok (.invokevirtual 239, 3) := by decide +kernel
theorem dL_areKnown_58 : decode cL_areKnown 58 = .ok (.if_icmp .eq 11, 3) := by decide +kernel
theorem dL_areKnown_61 : decode cL_areKnown 61 = .ok (.aload_n 0, 1) := by decide +kernel
theorem dL_areKnown_62 : decode cL_areKnown 62 = .ok (.iload_n 2, 1) := by decide +kernel
theorem dL_areKnown_63 : decode cL_areKnown 63 = .ok (.invokevirtual 266, 3) := by decide +kernel
theorem dL_areKnown_66 : decode cL_areKnown 66 = .ok (.ifCond .ne 7, 3) := by decide +kernel
theorem dL_areKnown_69 : decode cL_areKnown 69 = .ok (.iconst 1, 1) := by decide +kernel
theorem dL_areKnown_70 : decode cL_areKnown 70 = .ok (.goto 4, 3) := by decide +kernel
theorem dL_areKnown_73 : decode cL_areKnown 73 = .ok (.iconst 0, 1) := by decide +kernel
theorem dL_areKnown_74 : decode cL_areKnown 74 = .ok (.istore_n 1, 1) := by decide +kernel
theorem dL_areKnown_75 : decode cL_areKnown 75 = .ok (.iinc 3 1, 3) := by decide +kernel
theorem dL_areKnown_78 : decode cL_areKnown 78 = .ok (.goto (-64), 3) := by decide +kernel
theorem dL_areKnown_81 : decode cL_areKnown 81 = .ok (.iinc 2 1, 3) := by decide +kernel
theorem dL_areKnown_84 : decode cL_areKnown 84 = .ok (.goto (-80), 3) := by decide +kernel
theorem dL_areKnown_87 : decode cL_areKnown 87 = .ok (.iload_n 1, 1) := by decide +kernel
theorem dL_areKnown_88 : decode cL_areKnown 88 = .ok (.ireturn, 1) := by decide +kernel
theorem dL_isFired_0 : decode cL_isFired 0 = .ok (.aload_n 0, 1) := by decide +kernel
theorem dL_isFired_1 : decode cL_isFired 1 = .ok (.invokestatic 305, 3) := by decide +kernel
theorem dL_isFired_4 : decode cL_isFired 4 = .ok (.lstore_n 3, 1) := by decide +kernel
theorem dL_isFired_5 : decode cL_isFired 5 = .ok (.aload_n 0, 1) := by decide +kernel
theorem dL_isFired_6 : decode cL_isFired 6 = .ok (.iload_n 2, 1) := by decide +kernel
theorem dL_isFired_7 : decode cL_isFired 7 = .ok (.invokestatic 145, 3) := by decide +kernel
theorem dL_isFired_10 : decode cL_isFired 10 = .ok (.istore 5, 2) := by decide +kernel
theorem dL_isFired_12 : decode cL_isFired 12 = .ok (.aload_n 0, 1) := by decide +kernel
theorem dL_isFired_13 : decode cL_isFired 13 = .ok (.iload_n 2, 1) := by decide +kernel
theorem dL_isFired_14 : decode cL_isFired 14 = .ok (.invokestatic 153, 3) := by decide +kernel
theorem dL_isFired_17 : decode cL_isFired 17 = .ok (.istore 6, 2) := by decide +kernel
theorem dL_isFired_19 : decode cL_isFired 19 = .ok (.iload 5, 2) := by decide +kernel
theorem dL_isFired_21 : decode cL_isFired 21 = .ok (.sipush (-1000), 3) := by decide +kernel
theorem dL_isFired_24 : decode cL_isFired 24 = .ok (.if_icmp .ne 5, 3) := by decide +kernel
theorem dL_isFired_27 : decode cL_isFired 27 = .ok (.iconst 1, 1) := by decide +kernel
theorem dL_isFired_28 : decode cL_isFired 28 = .ok (.ireturn, 1) := by decide +kernel
theorem dL_isFired_29 : decode cL_isFired 29 = .ok (.aload_n 0, 1) := by decide +kernel
theorem dL_isFired_30 : decode cL_isFired 30 = .ok (.iload_n 1, 1) := by decide +kernel
theorem dL_isFired_31 : decode cL_isFired 31 = .ok (.iload 5, 2) := by decide +kernel
theorem dL_isFired_33 : decode cL_isFired 33 = .ok (.iload 6, 2) := by decide +kernel
theorem dL_isFired_35 : decode cL_isFired 35 = .ok (.invokevirtual 278, 3) := by decide +kernel
theorem dL_isFired_38 : decode cL_isFired 38 = .ok (.istore 7, 2) := by decide +kernel
theorem dL_isFired_40 : decode cL_isFired 40 = .ok (.aload_n 0, 1) := by decide +kernel
theorem dL_isFired_41 : decode cL_isFired 41 = .ok (.invokestatic 214, 3) := by decide +kernel
theorem dL_isFired_44 : decode cL_isFired 44 = .ok (.istore 8, 2) := by decide +kernel
theorem dL_isFired_46 : decode cL_isFired 46 = .ok (.aload_n 0, 1) := by decide +kernel
theorem dL_isFired_47 : decode cL_isFired 47 = .ok (.iload_n 1, 1) := by decide +kernel
theorem dL_isFired_48 : decode cL_isFired 48 = .ok (.invokevirtual 229, 3) := by decide +kernel
theorem dL_isFired_51 : decode cL_isFired 51 = .ok (.istore 9, 2) := by decide +kernel
theorem dL_isFired_53 : decode cL_isFired 53 = .ok (.aload_n 0, 1) := by decide +kernel
theorem dL_isFired_54 : decode cL_isFired 54 = .ok (.iload_n 2, 1) := by decide +kernel
theorem dL_isFired_55 : decode cL_isFired 55 = .ok (.invokevirtual 236, 3) := by decide +kernel
theorem dL_isFired_58 : decode cL_isFired 58 = .ok (.istore 10, 2) := by decide +kernel
theorem dL_isFired_60 : decode cL_isFired 60 = .ok (.aload_n 0, 1) := by decide +kernel
theorem dL_isFired_61 : decode cL_isFired 61 = .ok (.invokevirtual 189, 3) := by decide +kernel
theorem dL_isFired_64 : decode cL_isFired 64 = .ok (.istore 11, 2) := by decide +kernel
theorem dL_isFired_66 : decode cL_isFired 66 = .ok (.aload_n 0, 1) := by decide +kernel
theorem dL_isFired_67 : decode cL_isFired 67 = .ok (.iload_n 1, 1) := by decide +kernel
theorem dL_isFired_68 : decode cL_isFired 68 = .ok (.iload 5, 2) := by decide +kernel
theorem dL_isFired_70 : decode cL_isFired 70 = .ok (.iload 6, 2) := by decide +kernel
theorem dL_isFired_72 : decode cL_isFired 72 = .ok (.invokestatic 155, 3) := by decide +kernel
theorem dL_isFired_75 : decode cL_isFired 75 = .ok (.istore 12, 2) := by decide +kernel
theorem dL_isFired_77 : decode cL_isFired 77 = .ok (.iload 12, 2) := by decide +kernel
theorem dL_isFired_79 : decode cL_isFired 79 = .ok (.ldc 10, 2) := by decide +kernel
theorem dL_isFired_81 : decode cL_isFired 81 = .ok (.if_icmp .ne 41, 3) := by decide +kernel
theorem dL_isFired_84 : decode cL_isFired 84 = .ok (.iload 7, 2) := by decide +kernel
theorem dL_isFired_86 : decode cL_isFired 86 = .ok (.ifCond .eq 21, 3) := by decide +kernel
theorem dL_isFired_89 : decode cL_isFired 89 = .ok (.iload 8, 2) := by decide +kernel
theorem dL_isFired_91 : decode cL_isFired 91 = .ok (.iconst 1, 1) := by decide +kernel
theorem dL_isFired_92 : decode cL_isFired 92 = .ok (.if_icmp .lt 15, 3) := by decide +kernel
theorem dL_isFired_95 : decode cL_isFired 95 = .ok (.aload_n 0, 1) := by decide +kernel
theorem dL_isFired_96 : decode cL_isFired 96 = .ok (.invokestatic 210, 3) := by decide +kernel
theorem dL_isFired_99 : decode cL_isFired 99 = .ok (.aload_n 0, 1) := by decide +kernel
theorem dL_isFired_100 : decode cL_isFired 100 = .ok (.iload_n 1, 1) := by decide +kernel
theorem dL_isFired_101 : decode cL_isFired 101 = .ok (.invokevirtual 239, 3) := by decide +kernel
theorem dL_isFired_104 : decode cL_isFired 104 = .ok (.if_icmp .eq 16, 3) := by decide +kernel
theorem dL_isFired_107 : decode cL_isFired 107 = .ok (.aload_n 0, 1) := by decide +kernel
theorem dL_isFired_108 : decode cL_isFired 108 = .ok (.invokestatic 305, 3) := by decide +kernel
theorem dL_isFired_111 : decode cL_isFired 111 = .ok (.lload_n 3, 1) := by decide +kernel
theorem dL_isFired_112 : decode cL_isFired 112 = .ok (.lcmp, 1) := by decide +kernel
theorem dL_isFired_113 : decode cL_isFired 113 = .ok (.ifCond .ne 7, 3) := by decide +kernel
theorem dL_isFired_116 : decode cL_isFired 116 = .ok (.iconst 1, 1) := by decide +kernel
theorem dL_isFired_117 : decode cL_isFired 117 = .ok (.goto 4, 3) := by decide +kernel
theorem dL_isFired_120 : decode cL_isFired 120 = .ok (.iconst 0, 1) := by decide +kernel
theorem dL_isFired_121 : decode cL_isFired 121 = .ok (.ireturn, 1) := by decide +kernel
theorem dL_isFired_122 : decode cL_isFired 122 = .ok (.iload 7, 2) := by decide +kernel
theorem dL_isFired_124 : decode cL_isFired 124 = .ok (.ifCond .eq 89, 3) := by decide +kernel
theorem dL_isFired_127 : decode cL_isFired 127 = .ok (.iload 12, 2) := by decide +kernel
theorem dL_isFired_129 : decode cL_isFired 129 = .ok (.iload 10, 2) := by decide +kernel
theorem dL_isFired_131 : decode cL_isFired 131 = .ok (.iconst 1, 1) := by decide +kernel
theorem dL_isFired_132 : decode cL_isFired 132 = .ok (.if_icmp .ne 7, 3) := by decide +kernel
theorem dL_isFired_135 : decode cL_isFired 135 = .ok (.iconst 2, 1) := by decide +kernel
theorem dL_isFired_136 : decode cL_isFired 136 = .ok (.goto 4, 3) := by decide +kernel
theorem dL_isFired_139 : decode cL_isFired 139 = .ok (.iconst 1, 1) := by decide +kernel
theorem dL_isFired_140 : decode cL_isFired 140 = .ok (.if_icmp .ne 73, 3) := by decide +kernel
theorem dL_isFired_143 : decode cL_isFired 143 = .ok (.aload_n 0, 1) := by decide +kernel
theorem dL_isFired_144 : decode cL_isFired 144 = .ok (.iload_n 1, 1) := by decide +kernel
theorem dL_isFired_145 : decode cL_isFired 145 = .ok (.invokevirtual 229, 3) := by decide +kernel
theorem dL_isFired_148 : decode cL_isFired 148 = .ok (.iload 9, 2) := by decide +kernel
theorem dL_isFired_150 : decode cL_isFired 150 = .ok (.iconst 1, 1) := by decide +kernel
theorem dL_isFired_151 : decode cL_isFired 151 = .ok (.isub, 1) := by decide +kernel
theorem dL_isFired_152 : decode cL_isFired 152 = .ok (.if_icmp .ne 61, 3) := by decide +kernel
theorem dL_isFired_155 : decode cL_isFired 155 = .ok (.aload_n 0, 1) := by decide +kernel
theorem dL_isFired_156 : decode cL_isFired 156 = .ok (.iload_n 2, 1) := by decide +kernel
theorem dL_isFired_157 : decode cL_isFired 157 = .ok (.invokevirtual 236, 3) := by decide +kernel
theorem dL_isFired_160 : decode cL_isFired 160 = .ok (.iload 10, 2) := by decide +kernel
theorem dL_isFired_162 : decode cL_isFired 162 = .ok (.iconst 1, 1) := by decide +kernel
theorem dL_isFired_163 : decode cL_isFired 163 = .ok (.isub, 1) := by decide +kernel
theorem dL_isFired_164 : decode cL_isFired 164 = .ok (.if_icmp .ne 49, 3) := by decide +kernel
theorem dL_isFired_167 : decode cL_isFired 167 = .ok (.aload_n 0, 1) := by decide +kernel
theorem dL_isFired_168 : decode cL_isFired 168 = .ok (.invokevirtual 189, 3) := by decide +kernel
theorem dL_isFired_171 : decode cL_isFired 171 = .ok (.iload 11, 2) := by decide +kernel
theorem dL_isFired_173 : decode cL_isFired 173 = .ok (.iconst 1, 1) := by decide +kernel
theorem dL_isFired_174 : decode cL_isFired 174 = .ok (.iadd, 1) := by decide +kernel
theorem dL_isFired_175 : decode cL_isFired 175 = .ok (.if_icmp .ne 38, 3) := by decide +kernel
theorem dL_isFired_178 : decode cL_isFired 178 = .ok (.aload_n 0, 1) := by decide +kernel
theorem dL_isFired_179 : decode cL_isFired 179 = .ok (.iload_n 1, 1) := by decide +kernel
theorem dL_isFired_180 : decode cL_isFired 180 = .ok (.invokevirtual 266, 3) := by decide +kernel
theorem dL_isFired_183 : decode cL_isFired 183 = .ok (.ifCond .ne 30, 3) := by decide +kernel
theorem dL_isFired_186 : decode cL_isFired 186 = .ok (.aload_n 0, 1) := by decide +kernel
theorem dL_isFired_187 : decode cL_isFired 187 = .ok (.iload_n 2, 1) := by decide +kernel
theorem dL_isFired_188 : decode cL_isFired 188 = .ok (.invokevirtual 266, 3) := by decide +kernel
theorem dL_isFired_191 : decode cL_isFired 191 = .ok (.ifCond .ne 22, 3) := by decide +kernel
theorem dL_isFired_194 : decode cL_isFired 194 = .ok (.aload_n 0, 1) := by decide +kernel
theorem dL_isFired_195 : decode cL_isFired 195 = .ok (.invokestatic 319, 3) := by decide +kernel
theorem dL_isFired_198 : decode cL_isFired 198 = .ok (.ifCond .eq 15, 3) := by decide +kernel
theorem dL_isFired_201 : decode cL_isFired 201 = .ok (.aload_n 0, 1) := by decide +kernel
theorem dL_isFired_202 : decode cL_isFired 202 = .ok (.iload_n 2, 1) := by decide +kernel
theorem dL_isFired_203 : decode cL_isFired 203 = .ok (.invokestatic 316, 3) := by decide +kernel
theorem dL_isFired_206 : decode cL_isFired 206 = .ok (.ifCond .eq 7, 3) := by decide +kernel
theorem dL_isFired_209 : decode cL_isFired 209 = .ok (.iconst 1, 1) := by decide +kernel
theorem dL_isFired_210 : decode cL_isFired 210 = .ok (.goto 4, 3) := by decide +kernel
theorem dL_isFired_213 : decode cL_isFired 213 = .ok (.iconst 0, 1) := by decide +kernel
theorem dL_isFired_214 : decode cL_isFired 214 = .ok (.istore 13, 2) := by decide +kernel
theorem dL_isFired_216 : decode cL_isFired 216 = .ok (.iload 13, 2) := by decide +kernel
theorem dL_isFired_218 : decode cL_isFired 218 = .ok (.ifCond .eq 23, 3) := by decide +kernel
theorem dL_isFired_221 : decode cL_isFired 221 = .ok (.aload_n 0, 1) := by decide +kernel
theorem dL_isFired_222 : decode cL_isFired 222 = .ok (.invokestatic 175, 3) := by decide +kernel
theorem dL_isFired_225 : decode cL_isFired 225 = .ok (.ifCond .lt 16, 3) := by decide +kernel
theorem dL_isFired_228 : decode cL_isFired 228 = .ok (.aload_n 0, 1) := by decide +kernel
theorem dL_isFired_229 : decode cL_isFired 229 = .ok (.invokestatic 305, 3) := by decide +kernel
theorem dL_isFired_232 : decode cL_isFired 232 = .ok (.lload_n 3, 1) := by decide +kernel
theorem dL_isFired_233 : decode cL_isFired 233 = .ok (.lcmp, 1) := by decide +kernel
theorem dL_isFired_234 : decode cL_isFired 234 = .ok (.ifCond .ne 7, 3) := by decide +kernel
theorem dL_isFired_237 : decode cL_isFired 237 = .ok (.iconst 1, 1) := by decide +kernel
theorem dL_isFired_238 : decode cL_isFired 238 = .ok (.goto 4, 3) := by decide +kernel
theorem dL_isFired_241 : decode cL_isFired 241 = .ok (.iconst 0, 1) := by decide +kernel
theorem dL_isFired_242 : decode cL_isFired 242 = .ok (.ireturn, 1) := by decide +kernel
theorem dL_isFit_0 : decode cL_isFit 0 = .ok (.aload_n 0, 1) := by decide +kernel
theorem dL_isFit_1 : decode cL_isFit 1 = .ok (.invokestatic 319, 3) := by decide +kernel
theorem dL_isFit_4 : decode cL_isFit 4 = .ok (.ifCond .eq 14, 3) := by decide +kernel
theorem dL_isFit_7 : decode cL_isFit 7 = .ok (.aload_n 0, 1) := by decide +kernel
theorem dL_isFit_8 : decode cL_isFit 8 = .ok (.invokestatic 322, 3) := by decide +kernel
theorem dL_isFit_11 : decode cL_isFit 11 = .ok (.ifCond .eq 7, 3) := by decide +kernel
theorem dL_isFit_14 : decode cL_isFit 14 = .ok (.iconst 1, 1) := by decide +kernel
theorem dL_isFit_15 : decode cL_isFit 15 = .ok (.goto 4, 3) := by decide +kernel
theorem dL_isFit_18 : decode cL_isFit 18 = .ok (.iconst 0, 1) := by decide +kernel
theorem dL_isFit_19 : decode cL_isFit 19 = .ok (.istore_n 1, 1) := by decide +kernel
theorem dL_isFit_20 : decode cL_isFit 20 = .ok (.iconst 0, 1) := by decide +kernel
theorem dL_isFit_21 : decode cL_isFit 21 = .ok (.istore_n 2, 1) := by decide +kernel
theorem dL_isFit_22 : decode cL_isFit 22 = .ok (.iload_n 1, 1) := by decide +kernel
theorem dL_isFit_23 : decode cL_isFit 23 = .ok (.ifCond .eq 65, 3) := by decide +kernel
theorem dL_isFit_26 : decode cL_isFit 26 = .ok (.iload_n 2, 1) := by decide +kernel
theorem dL_isFit_27 : decode cL_isFit 27 = .ok (.aload_n 0, 1) := by decide +kernel
theorem dL_isFit_28 : decode cL_isFit 28 = .ok (.invokevirtual 223, 3) := by decide +kernel
theorem dL_isFit_31 : decode cL_isFit 31 = .ok (.if_icmp .ge 57, 3) := by decide +kernel
theorem dL_isFit_34 : decode cL_isFit 34 = .ok (.aload_n 0, 1) := by decide +kernel
theorem dL_isFit_35 : decode cL_isFit 35 = .ok (.iload_n 2, 1) := by decide +kernel
theorem dL_isFit_36 : decode cL_isFit 36 = .ok (.invokestatic 316, 3) := by decide +kernel
theorem dL_isFit_39 : decode cL_isFit 39 = .ok (.ifCond .eq 41, 3) := by decide +kernel
theorem dL_isFit_42 : decode cL_isFit 42 = .ok (.aload_n 0, 1) := by decide +kernel
theorem dL_isFit_43 : decode cL_isFit 43 = .ok (.iload_n 2, 1) := by decide +kernel
theorem dL_isFit_44 : decode cL_isFit 44 = .ok (.iconst 0, 1) := by decide +kernel
theorem dL_isFit_45 : decode cL_isFit 45 = .ok (.invokestatic 325, 3) := by decide +kernel
theorem dL_isFit_48 : decode cL_isFit 48 = .ok (.ifCond .eq 32, 3) := by decide +kernel
theorem dL_isFit_51 : decode cL_isFit 51 = .ok (.aload_n 0, 1) := by decide +kernel
theorem dL_isFit_52 : decode cL_isFit 52 = .ok (.iload_n 2, 1) := by decide +kernel
theorem dL_isFit_53 : decode cL_isFit 53 = .ok (.iconst 1, 1) := by decide +kernel
theorem dL_isFit_54 : decode cL_isFit 54 = .ok (.invokestatic 325, 3) := by decide +kernel
theorem dL_isFit_57 : decode cL_isFit 57 = .ok (.ifCond .eq 23, 3) := by decide +kernel
theorem dL_isFit_60 : decode cL_isFit 60 = .ok (.aload_n 0, 1) := by decide +kernel
theorem dL_isFit_61 : decode cL_isFit 61 = .ok (.iload_n 2, 1) := by decide +kernel
theorem dL_isFit_62 : decode cL_isFit 62 = .ok (.iload_n 2, 1) := by decide +kernel
theorem dL_isFit_63 : decode cL_isFit 63 = .ok (.iconst 1, 1) := by decide +kernel
theorem dL_isFit_64 : decode cL_isFit 64 = .ok (.iadd, 1) := by decide +kernel
theorem dL_isFit_65 : decode cL_isFit 65 = .ok (.aload_n 0, 1) := by decide +kernel
theorem dL_isFit_66 : decode cL_isFit 66 = .ok (.invokevirtual 223, 3) := by decide +kernel
theorem dL_isFit_69 : decode cL_isFit 69 = .ok (.irem, 1) := by decide +kernel
theorem dL_isFit_70 : decode cL_isFit 70 = .ok (.invokestatic 329, 3) := by decide +kernel
theorem dL_isFit_73 : decode cL_isFit 73 = .ok (.ifCond .eq 7, 3) := by decide +kernel
theorem dL_isFit_76 : decode cL_isFit 76 = .ok (.iconst 1, 1) := by decide +kernel
theorem dL_isFit_77 : decode cL_isFit 77 = .ok (.goto 4, 3) := by decide +kernel
theorem dL_isFit_80 : decode cL_isFit 80 = .ok (.iconst 0, 1) := by decide +kernel
theorem dL_isFit_81 : decode cL_isFit 81 = .ok (.istore_n 1, 1) := by decide +kernel
theorem dL_isFit_82 : decode cL_isFit 82 = .ok (.iinc 2 1, 3) := by decide +kernel
theorem dL_isFit_85 : decode cL_isFit 85 = .ok (.goto (-63), 3) := by decide +kernel
theorem dL_isFit_88 : decode cL_isFit 88 = .ok (.iload_n 1, 1) := by decide +kernel
theorem dL_isFit_89 : decode cL_isFit 89 = .ok (.ireturn, 1) := by decide +kernel
theorem dL_law_0 : decode cL_law 0 = .ok (.new 12, 3) := by decide +kernel
theorem dL_law_3 : decode cL_law 3 = .ok (.dup, 1) := by decide +kernel
theorem dL_law_4 : decode cL_law 4 = .ok (.invokespecial 333, 3) := by decide +kernel
theorem dL_law_7 : decode cL_law 7 = .ok (.astore_n 1, 1) := by decide +kernel
theorem dL_law_8 : decode cL_law 8 = .ok (.iconst 0, 1) := by decide +kernel
theorem dL_law_9 : decode cL_law 9 = .ok (.istore_n 2, 1) := by decide +kernel
theorem dL_law_10 : decode cL_law 10 = .ok (.iload_n 2, 1) := by decide +kernel
theorem dL_law_11 : decode cL_law 11 = .ok (.bipush 6, 2) := by decide +kernel
theorem dL_law_13 : decode cL_law 13 = .ok (.if_icmp .ge 71, 3) := by decide +kernel
theorem dL_law_16 : decode cL_law 16 = .ok (.aload_n 1, 1) := by decide +kernel
theorem dL_law_17 : decode cL_law 17 = .ok (.iload_n 2, 1) := by decide +kernel
theorem dL_law_18 : decode cL_law 18 = .ok (.iconst 1, 1) := by decide +kernel
theorem dL_law_19 : decode cL_law 19 = .ok (.iand, 1) := by decide +kernel
theorem dL_law_20 : decode cL_law 20 = .ok (.aload_n 0, 1) := by decide +kernel
theorem dL_law_21 : decode cL_law 21 = .ok (.iload_n 2, 1) := by decide +kernel
theorem dL_law_22 : decode cL_law 22 = .ok (.invokestatic 334, 3) := by decide +kernel
theorem dL_law_25 : decode cL_law 25 = .ok (.iconst 4, 1) := by decide +kernel
theorem dL_law_26 : decode cL_law 26 = .ok (.ishr, 1) := by decide +kernel
theorem dL_law_27 : decode cL_law 27 = .ok (.bipush 63, 2) := by decide +kernel
theorem dL_law_29 : decode cL_law 29 = .ok (.iand, 1) := by decide +kernel
theorem dL_law_30 : decode cL_law 30 = .ok (.bipush 6, 2) := by decide +kernel
theorem dL_law_32 : decode cL_law 32 = .ok (.irem, 1) := by decide +kernel
theorem dL_law_33 : decode cL_law 33 = .ok (.iconst 2, 1) := by decide +kernel
theorem dL_law_34 : decode cL_law 34 = .ok (.iadd, 1) := by decide +kernel
theorem dL_law_35 : decode cL_law 35 = .ok (.aload_n 0, 1) := by decide +kernel
theorem dL_law_36 : decode cL_law 36 = .ok (.iload_n 2, 1) := by decide +kernel
theorem dL_law_37 : decode cL_law 37 = .ok (.iconst 1, 1) := by decide +kernel
theorem dL_law_38 : decode cL_law 38 = .ok (.iadd, 1) := by decide +kernel
theorem dL_law_39 : decode cL_law 39 = .ok (.invokestatic 334, 3) := by decide +kernel
theorem dL_law_42 : decode cL_law 42 = .ok (.iconst 5, 1) := by decide +kernel
theorem dL_law_43 : decode cL_law 43 = .ok (.ishr, 1) := by decide +kernel
theorem dL_law_44 : decode cL_law 44 = .ok (.bipush 63, 2) := by decide +kernel
theorem dL_law_46 : decode cL_law 46 = .ok (.iand, 1) := by decide +kernel
theorem dL_law_47 : decode cL_law 47 = .ok (.bipush 6, 2) := by decide +kernel
theorem dL_law_49 : decode cL_law 49 = .ok (.irem, 1) := by decide +kernel
theorem dL_law_50 : decode cL_law 50 = .ok (.iconst 2, 1) := by decide +kernel
theorem dL_law_51 : decode cL_law 51 = .ok (.iadd, 1) := by decide +kernel
theorem dL_law_52 : decode cL_law 52 = .ok (.aload_n 0, 1) := by decide +kernel
theorem dL_law_53 : decode cL_law 53 = .ok (.iload_n 2, 1) := by decide +kernel
theorem dL_law_54 : decode cL_law 54 = .ok (.invokestatic 334, 3) := by decide +kernel
theorem dL_law_57 : decode cL_law 57 = .ok (.bipush 7, 2) := by decide +kernel
theorem dL_law_59 : decode cL_law 59 = .ok (.ishr, 1) := by decide +kernel
theorem dL_law_60 : decode cL_law 60 = .ok (.bipush 7, 2) := by decide +kernel
theorem dL_law_62 : decode cL_law 62 = .ok (.iand, 1) := by decide +kernel
theorem dL_law_63 : decode cL_law 63 = .ok (.iconst 2, 1) := by decide +kernel
theorem dL_law_64 : decode cL_law 64 = .ok (.aload_n 0, 1) := by decide +kernel
theorem dL_law_65 : decode cL_law 65 = .ok (.iload_n 2, 1) := by decide +kernel
theorem dL_law_66 : decode cL_law 66 = .ok (.invokestatic 334, 3) := by decide +kernel
theorem dL_law_69 : decode cL_law 69 = .ok (.iconst 3, 1) := by decide +kernel
theorem dL_law_70 : decode cL_law 70 = .ok (.ishr, 1) := by decide +kernel
theorem dL_law_71 : decode cL_law 71 = .ok (.iconst 3, 1) := by decide +kernel
theorem dL_law_72 : decode cL_law 72 = .ok (.iand, 1) := by decide +kernel
theorem dL_law_73 : decode cL_law 73 = .ok (.iadd, 1) := by decide +kernel
theorem dL_law_74 : decode cL_law 74 = .ok (.invokestatic 134, 3) := by decide +kernel
theorem dL_law_77 : decode cL_law 77 = .ok (.pop, 1) := by decide +kernel
theorem dL_law_78 : decode cL_law 78 = .ok (.iinc 2 1, 3) := by decide +kernel
theorem dL_law_81 : decode cL_law 81 = .ok (.goto (-71), 3) := by decide +kernel
theorem dL_law_84 : decode cL_law 84 = .ok (.aload_n 1, 1) := by decide +kernel
theorem dL_law_85 : decode cL_law 85 = .ok (.invokestatic 131, 3) := by decide +kernel
theorem dL_law_88 : decode cL_law 88 = .ok (.pop, 1) := by decide +kernel
theorem dL_law_89 : decode cL_law 89 = .ok (.aload_n 0, 1) := by decide +kernel
theorem dL_law_90 : decode cL_law 90 = .ok (.arraylength, 1) := by decide +kernel
theorem dL_law_91 : decode cL_law 91 = .ok (.bipush 36, 2) := by decide +kernel
theorem dL_law_93 : decode cL_law 93 = .ok (.if_icmp .ge 8, 3) := by decide +kernel
theorem dL_law_96 : decode cL_law 96 = .ok (.aload_n 0, 1) := by decide +kernel
theorem dL_law_97 : decode cL_law 97 = .ok (.arraylength, 1) := by decide +kernel
theorem dL_law_98 : decode cL_law 98 = .ok (.goto 5, 3) := by decide +kernel
theorem dL_law_101 : decode cL_law 101 = .ok (.bipush 36, 2) := by decide +kernel
theorem dL_law_103 : decode cL_law 103 = .ok (.istore_n 2, 1) := by decide +kernel
theorem dL_law_104 : decode cL_law 104 = .ok (.iconst 0, 1) := by decide +kernel
theorem dL_law_105 : decode cL_law 105 = .ok (.istore_n 3, 1) := by decide +kernel
theorem dL_law_106 : decode cL_law 106 = .ok (.iload_n 3, 1) := by decide +kernel
theorem dL_law_107 : decode cL_law 107 = .ok (.iload_n 2, 1) := by decide +kernel
theorem dL_law_108 : decode cL_law 108 = .ok (.if_icmp .ge 41, 3) := by decide +kernel
theorem dL_law_111 : decode cL_law 111 = .ok (.aload_n 1, 1) := by decide +kernel
theorem dL_law_112 : decode cL_law 112 = .ok (.invokestatic 305, 3) := by decide +kernel
theorem dL_law_115 : decode cL_law 115 = .ok (.lstore 4, 2) := by decide +kernel
theorem dL_law_117 : decode cL_law 117 = .ok (.aload_n 1, 1) := by decide +kernel
theorem dL_law_118 : decode cL_law 118 = .ok (.aload_n 0, 1) := by decide +kernel
theorem dL_law_119 : decode cL_law 119 = .ok (.iload_n 3, 1) := by decide +kernel
theorem dL_law_120 : decode cL_law 120 = .ok (.invokestatic 334, 3) := by decide +kernel
theorem dL_law_123 : decode cL_law 123 = .ok (.invokestatic 338, 3) := by decide +kernel
theorem dL_law_126 : decode cL_law 126 = .ok (.ldc 10, 2) := by decide +kernel
theorem dL_law_128 : decode cL_law 128 = .ok (.if_icmp .ne 15, 3) := by decide +kernel
theorem dL_law_131 : decode cL_law 131 = .ok (.aload_n 1, 1) := by decide +kernel
theorem dL_law_132 : decode cL_law 132 = .ok (.invokestatic 305, 3) := by decide +kernel
theorem dL_law_135 : decode cL_law 135 = .ok (.lload 4, 2) := by decide +kernel
theorem dL_law_137 : decode cL_law 137 = .ok (.lcmp, 1) := by decide +kernel
theorem dL_law_138 : decode cL_law 138 = .ok (.ifCond .eq 5, 3) := by decide +kernel
theorem dL_law_141 : decode cL_law 141 = .ok (.iconst 0, 1) := by decide +kernel
theorem dL_law_142 : decode cL_law 142 = .ok (.ireturn, 1) := by decide +kernel
theorem dL_law_143 : decode cL_law 143 = .ok (.iinc 3 1, 3) := by decide +kernel
theorem dL_law_146 : decode cL_law 146 = .ok (.goto (-40), 3) := by decide +kernel
theorem dL_law_149 : decode cL_law 149 = .ok (.aload_n 1, 1) := by decide +kernel
theorem dL_law_150 : decode cL_law 150 = .ok (.invokestatic 341, 3) := by decide +kernel
theorem dL_law_153 : decode cL_law 153 = .ok (.istore_n 3, 1) := by decide +kernel
theorem dL_law_154 : decode cL_law 154 = .ok (.aload_n 1, 1) := by decide +kernel
theorem dL_law_155 : decode cL_law 155 = .ok (.invokestatic 168, 3) := by decide +kernel
theorem dL_law_158 : decode cL_law 158 = .ok (.pop, 1) := by decide +kernel
theorem dL_law_159 : decode cL_law 159 = .ok (.aload_n 1, 1) := by decide +kernel
theorem dL_law_160 : decode cL_law 160 = .ok (.invokestatic 305, 3) := by decide +kernel
theorem dL_law_163 : decode cL_law 163 = .ok (.lstore 4, 2) := by decide +kernel
theorem dL_law_165 : decode cL_law 165 = .ok (.aload_n 1, 1) := by decide +kernel
theorem dL_law_166 : decode cL_law 166 = .ok (.invokevirtual 170, 3) := by decide +kernel
theorem dL_law_169 : decode cL_law 169 = .ok (.istore 6, 2) := by decide +kernel
theorem dL_law_171 : decode cL_law 171 = .ok (.iconst 0, 1) := by decide +kernel
theorem dL_law_172 : decode cL_law 172 = .ok (.istore 7, 2) := by decide +kernel
theorem dL_law_174 : decode cL_law 174 = .ok (.iload_n 3, 1) := by decide +kernel
theorem dL_law_175 : decode cL_law 175 = .ok (.ifCond .eq 73, 3) := by decide +kernel
theorem dL_law_178 : decode cL_law 178 = .ok (.iload 7, 2) := by decide +kernel
theorem dL_law_180 : decode cL_law 180 = .ok (.getstatic 160, 3) := by decide +kernel
theorem dL_law_183 : decode cL_law 183 = .ok (.arraylength, 1) := by decide +kernel
theorem dL_law_184 : decode cL_law 184 = .ok (.if_icmp .ge 64, 3) := by decide +kernel
theorem dL_law_187 : decode cL_law 187 = .ok (.aload_n 1, 1) := by decide +kernel
theorem dL_law_188 : decode cL_law 188 = .ok (.getstatic 160, 3) := by decide +kernel
theorem dL_law_191 : decode cL_law 191 = .ok (.iload 7, 2) := by decide +kernel
theorem dL_law_193 : decode cL_law 193 = .ok (.aaload, 1) := by decide +kernel
theorem dL_law_194 : decode cL_law 194 = .ok (.invokestatic 164, 3) := by decide +kernel
theorem dL_law_197 : decode cL_law 197 = .ok (.invokestatic 168, 3) := by decide +kernel
theorem dL_law_200 : decode cL_law 200 = .ok (.istore 8, 2) := by decide +kernel
theorem dL_law_202 : decode cL_law 202 = .ok (.iload 8, 2) := by decide +kernel
theorem dL_law_204 : decode cL_law 204 = .ok (.ldc 10, 2) := by decide +kernel
theorem dL_law_206 : decode cL_law 206 = .ok (.if_icmp .ne 13, 3) := by decide +kernel
theorem dL_law_209 : decode cL_law 209 = .ok (.aload_n 1, 1) := by decide +kernel
theorem dL_law_210 : decode cL_law 210 = .ok (.invokestatic 344, 3) := by decide +kernel
theorem dL_law_213 : decode cL_law 213 = .ok (.ifCond .lt 27, 3) := by decide +kernel
theorem dL_law_216 : decode cL_law 216 = .ok (.goto 10, 3) := by decide +kernel
theorem dL_law_219 : decode cL_law 219 = .ok (.aload_n 1, 1) := by decide +kernel
theorem dL_law_220 : decode cL_law 220 = .ok (.invokestatic 175, 3) := by decide +kernel
theorem dL_law_223 : decode cL_law 223 = .ok (.ifCond .lt 17, 3) := by decide +kernel
theorem dL_law_226 : decode cL_law 226 = .ok (.aload_n 1, 1) := by decide +kernel
theorem dL_law_227 : decode cL_law 227 = .ok (.invokestatic 305, 3) := by decide +kernel
theorem dL_law_230 : decode cL_law 230 = .ok (.lload 4, 2) := by decide +kernel
theorem dL_law_232 : decode cL_law 232 = .ok (.lcmp, 1) := by decide +kernel
theorem dL_law_233 : decode cL_law 233 = .ok (.ifCond .ne 7, 3) := by decide +kernel
theorem dL_law_236 : decode cL_law 236 = .ok (.iconst 1, 1) := by decide +kernel
theorem dL_law_237 : decode cL_law 237 = .ok (.goto 4, 3) := by decide +kernel
theorem dL_law_240 : decode cL_law 240 = .ok (.iconst 0, 1) := by decide +kernel
theorem dL_law_241 : decode cL_law 241 = .ok (.istore_n 3, 1) := by decide +kernel
theorem dL_law_242 : decode cL_law 242 = .ok (.iinc 7 1, 3) := by decide +kernel
theorem dL_law_245 : decode cL_law 245 = .ok (.goto (-71), 3) := by decide +kernel
theorem dL_law_248 : decode cL_law 248 = .ok (.iconst 0, 1) := by decide +kernel
theorem dL_law_249 : decode cL_law 249 = .ok (.istore 7, 2) := by decide +kernel
theorem dL_law_251 : decode cL_law 251 = .ok (.iload_n 3, 1) := by decide +kernel
theorem dL_law_252 : decode cL_law 252 = .ok (.ifCond .eq 44, 3) := by decide +kernel
theorem dL_law_255 : decode cL_law 255 = .ok (.iload 7, 2) := by decide +kernel
theorem dL_law_257 : decode cL_law 257 = .ok (.iconst 3, 1) := by decide +kernel
theorem dL_law_258 : decode cL_law 258 = .ok (.if_icmp .ge 38, 3) := by decide +kernel
theorem dL_law_261 : decode cL_law 261 = .ok (.aload_n 1, 1) := by decide +kernel
theorem dL_law_262 : decode cL_law 262 = .ok (.invokestatic 137, 3) := by decide +kernel
theorem dL_law_265 : decode cL_law 265 = .ok (.pop, 1) := by decide +kernel
theorem dL_law_266 : decode cL_law 266 = .ok (.aload_n 1, 1) := by decide +kernel
theorem dL_law_267 : decode cL_law 267 = .ok (.iload 7, 2) := by decide +kernel
theorem dL_law_269 : decode cL_law 269 = .ok (.iconst 2, 1) := by decide +kernel
theorem dL_law_270 : decode cL_law 270 = .ok (.invokestatic 158, 3) := by decide +kernel
theorem dL_law_273 : decode cL_law 273 = .ok (.pop, 1) := by decide +kernel
theorem dL_law_274 : decode cL_law 274 = .ok (.aload_n 1, 1) := by decide +kernel
theorem dL_law_275 : decode cL_law 275 = .ok (.iload 7, 2) := by decide +kernel
theorem dL_law_277 : decode cL_law 277 = .ok (.iconst 3, 1) := by decide +kernel
theorem dL_law_278 : decode cL_law 278 = .ok (.iload 7, 2) := by decide +kernel
theorem dL_law_280 : decode cL_law 280 = .ok (.imul, 1) := by decide +kernel
theorem dL_law_281 : decode cL_law 281 = .ok (.invokestatic 139, 3) := by decide +kernel
theorem dL_law_284 : decode cL_law 284 = .ok (.pop, 1) := by decide +kernel
theorem dL_law_285 : decode cL_law 285 = .ok (.aload_n 1, 1) := by decide +kernel
theorem dL_law_286 : decode cL_law 286 = .ok (.invokestatic 341, 3) := by decide +kernel
theorem dL_law_289 : decode cL_law 289 = .ok (.istore_n 3, 1) := by decide +kernel
theorem dL_law_290 : decode cL_law 290 = .ok (.iinc 7 1, 3) := by decide +kernel
theorem dL_law_293 : decode cL_law 293 = .ok (.goto (-42), 3) := by decide +kernel
theorem dL_law_296 : decode cL_law 296 = .ok (.iload_n 3, 1) := by decide +kernel
theorem dL_law_297 : decode cL_law 297 = .ok (.ifCond .eq 35, 3) := by decide +kernel
theorem dL_law_300 : decode cL_law 300 = .ok (.aload_n 1, 1) := by decide +kernel
theorem dL_law_301 : decode cL_law 301 = .ok (.invokestatic 173, 3) := by decide +kernel
theorem dL_law_304 : decode cL_law 304 = .ok (.iload 6, 2) := by decide +kernel
theorem dL_law_306 : decode cL_law 306 = .ok (.if_icmp .ne 26, 3) := by decide +kernel
theorem dL_law_309 : decode cL_law 309 = .ok (.aload_n 1, 1) := by decide +kernel
theorem dL_law_310 : decode cL_law 310 = .ok (.invokestatic 305, 3) := by decide +kernel
theorem dL_law_313 : decode cL_law 313 = .ok (.lload 4, 2) := by decide +kernel
theorem dL_law_315 : decode cL_law 315 = .ok (.lcmp, 1) := by decide +kernel
theorem dL_law_316 : decode cL_law 316 = .ok (.ifCond .ne 16, 3) := by decide +kernel
theorem dL_law_319 : decode cL_law 319 = .ok (.aload_n 1, 1) := by decide +kernel
theorem dL_law_320 : decode cL_law 320 = .ok (.invokestatic 175, 3) := by decide +kernel
theorem dL_law_323 : decode cL_law 323 = .ok (.ldc 10, 2) := by decide +kernel
theorem dL_law_325 : decode cL_law 325 = .ok (.if_icmp .ne 7, 3) := by decide +kernel
theorem dL_law_328 : decode cL_law 328 = .ok (.iconst 1, 1) := by decide +kernel
theorem dL_law_329 : decode cL_law 329 = .ok (.goto 4, 3) := by decide +kernel
theorem dL_law_332 : decode cL_law 332 = .ok (.iconst 0, 1) := by decide +kernel
theorem dL_law_333 : decode cL_law 333 = .ok (.ireturn, 1) := by decide +kernel

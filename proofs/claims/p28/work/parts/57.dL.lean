theorem dL_cell_0 : decode cL_cell 0 = .ok (.iload_n 1, 1) := by decide +kernel
theorem dL_cell_1 : decode cL_cell 1 = .ok (.aload_n 0, 1) := by decide +kernel
theorem dL_cell_2 : decode cL_cell 2 = .ok (.arraylength, 1) := by decide +kernel
theorem dL_cell_3 : decode cL_cell 3 = .ok (.if_icmp .ge 9, 3) := by decide +kernel
theorem dL_cell_6 : decode cL_cell 6 = .ok (.aload_n 0, 1) := by decide +kernel
theorem dL_cell_7 : decode cL_cell 7 = .ok (.iload_n 1, 1) := by decide +kernel
theorem dL_cell_8 : decode cL_cell 8 = .ok (.iaload, 1) := by decide +kernel
theorem dL_cell_9 : decode cL_cell 9 = .ok (.goto 9, 3) := by decide +kernel
theorem dL_cell_12 : decode cL_cell 12 = .ok (.ldc 7, 2) := by decide +kernel
theorem dL_cell_14 : decode cL_cell 14 = .ok (.iload_n 1, 1) := by decide +kernel
theorem dL_cell_15 : decode cL_cell 15 = .ok (.iconst 5, 1) := by decide +kernel
theorem dL_cell_16 : decode cL_cell 16 = .ok (.iadd, 1) := by decide +kernel
theorem dL_cell_17 : decode cL_cell 17 = .ok (.imul, 1) := by decide +kernel
theorem dL_cell_18 : decode cL_cell 18 = .ok (.ireturn, 1) := by decide +kernel
theorem dL_low_0 : decode cL_low 0 = .ok (.iload_n 0, 1) := by decide +kernel
theorem dL_low_1 : decode cL_low 1 = .ok (.iconst 1, 1) := by decide +kernel
theorem dL_low_2 : decode cL_low 2 = .ok (.iushr, 1) := by decide +kernel
theorem dL_low_3 : decode cL_low 3 = .ok (.iload_n 1, 1) := by decide +kernel
theorem dL_low_4 : decode cL_low 4 = .ok (.irem, 1) := by decide +kernel
theorem dL_low_5 : decode cL_low 5 = .ok (.ireturn, 1) := by decide +kernel
theorem dL_set_0 : decode cL_set 0 = .ok (.aload_n 0, 1) := by decide +kernel
theorem dL_set_1 : decode cL_set 1 = .ok (.iload_n 1, 1) := by decide +kernel
theorem dL_set_2 : decode cL_set 2 = .ok (.iload_n 2, 1) := by decide +kernel
theorem dL_set_3 : decode cL_set 3 = .ok (.iload_n 3, 1) := by decide +kernel
theorem dL_set_4 : decode cL_set 4 = .ok (.invokevirtual 8, 3) := by decide +kernel
theorem dL_set_7 : decode cL_set 7 = .ok (.istore 4, 2) := by decide +kernel
theorem dL_set_9 : decode cL_set 9 = .ok (.goto 18, 3) := by decide +kernel
theorem dL_set_12 : decode cL_set 12 = .ok (.astore 5, 2) := by decide +kernel
theorem dL_set_14 : decode cL_set 14 = .ok (.bipush (-71), 2) := by decide +kernel
theorem dL_set_16 : decode cL_set 16 = .ok (.ireturn, 1) := by decide +kernel
theorem dL_set_17 : decode cL_set 17 = .ok (.astore 5, 2) := by decide +kernel
theorem dL_set_19 : decode cL_set 19 = .ok (.bipush (-72), 2) := by decide +kernel
theorem dL_set_21 : decode cL_set 21 = .ok (.ireturn, 1) := by decide +kernel
theorem dL_set_22 : decode cL_set 22 = .ok (.astore 5, 2) := by decide +kernel
theorem dL_set_24 : decode cL_set 24 = .ok (.bipush (-73), 2) := by decide +kernel
theorem dL_set_26 : decode cL_set 26 = .ok (.ireturn, 1) := by decide +kernel
theorem dL_set_27 : decode cL_set 27 = .ok (.iload 4, 2) := by decide +kernel
theorem dL_set_29 : decode cL_set 29 = .ok (.ireturn, 1) := by decide +kernel
theorem dL_raise_0 : decode cL_raise 0 = .ok (.aload_n 0, 1) := by decide +kernel
theorem dL_raise_1 : decode cL_raise 1 = .ok (.iload_n 1, 1) := by decide +kernel
theorem dL_raise_2 : decode cL_raise 2 = .ok (.iload_n 2, 1) := by decide +kernel
theorem dL_raise_3 : decode cL_raise 3 = .ok (.iload_n 3, 1) := by decide +kernel
theorem dL_raise_4 : decode cL_raise 4 = .ok (.invokevirtual 20, 3) := by decide +kernel
theorem dL_raise_7 : decode cL_raise 7 = .ok (.istore 4, 2) := by decide +kernel
theorem dL_raise_9 : decode cL_raise 9 = .ok (.goto 18, 3) := by decide +kernel
theorem dL_raise_12 : decode cL_raise 12 = .ok (.astore 5, 2) := by decide +kernel
theorem dL_raise_14 : decode cL_raise 14 = .ok (.bipush (-71), 2) := by decide +kernel
theorem dL_raise_16 : decode cL_raise 16 = .ok (.ireturn, 1) := by decide +kernel
theorem dL_raise_17 : decode cL_raise 17 = .ok (.astore 5, 2) := by decide +kernel
theorem dL_raise_19 : decode cL_raise 19 = .ok (.bipush (-72), 2) := by decide +kernel
theorem dL_raise_21 : decode cL_raise 21 = .ok (.ireturn, 1) := by decide +kernel
theorem dL_raise_22 : decode cL_raise 22 = .ok (.astore 5, 2) := by decide +kernel
theorem dL_raise_24 : decode cL_raise 24 = .ok (.bipush (-73), 2) := by decide +kernel
theorem dL_raise_26 : decode cL_raise 26 = .ok (.ireturn, 1) := by decide +kernel
theorem dL_raise_27 : decode cL_raise 27 = .ok (.iload 4, 2) := by decide +kernel
theorem dL_raise_29 : decode cL_raise 29 = .ok (.ireturn, 1) := by decide +kernel
theorem dL_layer_0 : decode cL_layer 0 = .ok (.aload_n 0, 1) := by decide +kernel
theorem dL_layer_1 : decode cL_layer 1 = .ok (.iload_n 1, 1) := by decide +kernel
theorem dL_layer_2 : decode cL_layer 2 = .ok (.iload_n 2, 1) := by decide +kernel
theorem dL_layer_3 : decode cL_layer 3 = .ok (.invokevirtual 23, 3) := by decide +kernel
theorem dL_layer_6 : decode cL_layer 6 = .ok (.istore_n 3, 1) := by decide +kernel
theorem dL_layer_7 : decode cL_layer 7 = .ok (.goto 18, 3) := by decide +kernel
theorem dL_layer_10 : decode cL_layer 10 = .ok (.astore 4, 2) := by decide +kernel
theorem dL_layer_12 : decode cL_layer 12 = .ok (.bipush (-71), 2) := by decide +kernel
theorem dL_layer_14 : decode cL_layer 14 = .ok (.ireturn, 1) := by decide +kernel
theorem dL_layer_15 : decode cL_layer 15 = .ok (.astore 4, 2) := by decide +kernel
theorem dL_layer_17 : decode cL_layer 17 = .ok (.bipush (-72), 2) := by decide +kernel
theorem dL_layer_19 : decode cL_layer 19 = .ok (.ireturn, 1) := by decide +kernel
theorem dL_layer_20 : decode cL_layer 20 = .ok (.astore 4, 2) := by decide +kernel
theorem dL_layer_22 : decode cL_layer 22 = .ok (.bipush (-73), 2) := by decide +kernel
theorem dL_layer_24 : decode cL_layer 24 = .ok (.ireturn, 1) := by decide +kernel
theorem dL_layer_25 : decode cL_layer 25 = .ok (.iload_n 3, 1) := by decide +kernel
theorem dL_layer_26 : decode cL_layer 26 = .ok (.ireturn, 1) := by decide +kernel
theorem dL_kind_0 : decode cL_kind 0 = .ok (.aload_n 0, 1) := by decide +kernel
theorem dL_kind_1 : decode cL_kind 1 = .ok (.iload_n 1, 1) := by decide +kernel
theorem dL_kind_2 : decode cL_kind 2 = .ok (.iload_n 2, 1) := by decide +kernel
theorem dL_kind_3 : decode cL_kind 3 = .ok (.invokevirtual 27, 3) := by decide +kernel
theorem dL_kind_6 : decode cL_kind 6 = .ok (.istore_n 3, 1) := by decide +kernel
theorem dL_kind_7 : decode cL_kind 7 = .ok (.goto 8, 3) := by decide +kernel
theorem dL_kind_10 : decode cL_kind 10 = .ok (.astore 4, 2) := by decide +kernel
theorem dL_kind_12 : decode cL_kind 12 = .ok (.bipush (-71), 2) := by decide +kernel
theorem dL_kind_14 : decode cL_kind 14 = .ok (.ireturn, 1) := by decide +kernel
theorem dL_kind_15 : decode cL_kind 15 = .ok (.iload_n 3, 1) := by decide +kernel
theorem dL_kind_16 : decode cL_kind 16 = .ok (.ireturn, 1) := by decide +kernel
theorem dL_runLength_0 : decode cL_runLength 0 = .ok (.aload_n 0, 1) := by decide +kernel
theorem dL_runLength_1 : decode cL_runLength 1 = .ok (.iload_n 1, 1) := by decide +kernel
theorem dL_runLength_2 : decode cL_runLength 2 = .ok (.iload_n 2, 1) := by decide +kernel
theorem dL_runLength_3 : decode cL_runLength 3 = .ok (.invokevirtual 30, 3) := by decide +kernel
theorem dL_runLength_6 : decode cL_runLength 6 = .ok (.istore_n 3, 1) := by decide +kernel
theorem dL_runLength_7 : decode cL_runLength 7 = .ok (.goto 8, 3) := by decide +kernel
theorem dL_runLength_10 : decode cL_runLength 10 = .ok (.astore 4, 2) := by decide +kernel
theorem dL_runLength_12 : decode cL_runLength 12 = .ok (.bipush (-71), 2) := by decide +kernel
theorem dL_runLength_14 : decode cL_runLength 14 = .ok (.ireturn, 1) := by decide +kernel
theorem dL_runLength_15 : decode cL_runLength 15 = .ok (.iload_n 3, 1) := by decide +kernel
theorem dL_runLength_16 : decode cL_runLength 16 = .ok (.ireturn, 1) := by decide +kernel
theorem dL_visit_0 : decode cL_visit 0 = .ok (.aload_n 0, 1) := by decide +kernel
theorem dL_visit_1 : decode cL_visit 1 = .ok (.iload_n 1, 1) := by decide +kernel
theorem dL_visit_2 : decode cL_visit 2 = .ok (.invokevirtual 33, 3) := by decide +kernel
theorem dL_visit_5 : decode cL_visit 5 = .ok (.istore_n 2, 1) := by decide +kernel
theorem dL_visit_6 : decode cL_visit 6 = .ok (.goto 7, 3) := by decide +kernel
theorem dL_visit_9 : decode cL_visit 9 = .ok (.astore_n 3, 1) := by decide +kernel
theorem dL_visit_10 : decode cL_visit 10 = .ok (.bipush (-71), 2) := by decide +kernel
theorem dL_visit_12 : decode cL_visit 12 = .ok (.ireturn, 1) := by decide +kernel
theorem dL_visit_13 : decode cL_visit 13 = .ok (.iload_n 2, 1) := by decide +kernel
theorem dL_visit_14 : decode cL_visit 14 = .ok (.ireturn, 1) := by decide +kernel
theorem dL_undo_0 : decode cL_undo 0 = .ok (.aload_n 0, 1) := by decide +kernel
theorem dL_undo_1 : decode cL_undo 1 = .ok (.invokevirtual 37, 3) := by decide +kernel
theorem dL_undo_4 : decode cL_undo 4 = .ok (.istore_n 1, 1) := by decide +kernel
theorem dL_undo_5 : decode cL_undo 5 = .ok (.goto 7, 3) := by decide +kernel
theorem dL_undo_8 : decode cL_undo 8 = .ok (.astore_n 2, 1) := by decide +kernel
theorem dL_undo_9 : decode cL_undo 9 = .ok (.bipush (-73), 2) := by decide +kernel
theorem dL_undo_11 : decode cL_undo 11 = .ok (.ireturn, 1) := by decide +kernel
theorem dL_undo_12 : decode cL_undo 12 = .ok (.iload_n 1, 1) := by decide +kernel
theorem dL_undo_13 : decode cL_undo 13 = .ok (.ireturn, 1) := by decide +kernel
theorem dL_redo_0 : decode cL_redo 0 = .ok (.aload_n 0, 1) := by decide +kernel
theorem dL_redo_1 : decode cL_redo 1 = .ok (.iload_n 1, 1) := by decide +kernel
theorem dL_redo_2 : decode cL_redo 2 = .ok (.invokevirtual 41, 3) := by decide +kernel
theorem dL_redo_5 : decode cL_redo 5 = .ok (.istore_n 2, 1) := by decide +kernel
theorem dL_redo_6 : decode cL_redo 6 = .ok (.goto 7, 3) := by decide +kernel
theorem dL_redo_9 : decode cL_redo 9 = .ok (.astore_n 3, 1) := by decide +kernel
theorem dL_redo_10 : decode cL_redo 10 = .ok (.bipush (-71), 2) := by decide +kernel
theorem dL_redo_12 : decode cL_redo 12 = .ok (.ireturn, 1) := by decide +kernel
theorem dL_redo_13 : decode cL_redo 13 = .ok (.iload_n 2, 1) := by decide +kernel
theorem dL_redo_14 : decode cL_redo 14 = .ok (.ireturn, 1) := by decide +kernel
theorem dL_unlike_0 : decode cL_unlike 0 = .ok (.aload_n 0, 1) := by decide +kernel
theorem dL_unlike_1 : decode cL_unlike 1 = .ok (.iload_n 1, 1) := by decide +kernel
theorem dL_unlike_2 : decode cL_unlike 2 = .ok (.iload_n 2, 1) := by decide +kernel
theorem dL_unlike_3 : decode cL_unlike 3 = .ok (.invokevirtual 44, 3) := by decide +kernel
theorem dL_unlike_6 : decode cL_unlike 6 = .ok (.istore_n 3, 1) := by decide +kernel
theorem dL_unlike_7 : decode cL_unlike 7 = .ok (.goto 8, 3) := by decide +kernel
theorem dL_unlike_10 : decode cL_unlike 10 = .ok (.astore 4, 2) := by decide +kernel
theorem dL_unlike_12 : decode cL_unlike 12 = .ok (.bipush (-71), 2) := by decide +kernel
theorem dL_unlike_14 : decode cL_unlike 14 = .ok (.ireturn, 1) := by decide +kernel
theorem dL_unlike_15 : decode cL_unlike 15 = .ok (.iload_n 3, 1) := by decide +kernel
theorem dL_unlike_16 : decode cL_unlike 16 = .ok (.ireturn, 1) := by decide +kernel
theorem dL_cut_0 : decode cL_cut 0 = .ok (.aload_n 0, 1) := by decide +kernel
theorem dL_cut_1 : decode cL_cut 1 = .ok (.invokevirtual 47, 3) := by decide +kernel
theorem dL_cut_4 : decode cL_cut 4 = .ok (.istore_n 1, 1) := by decide +kernel
theorem dL_cut_5 : decode cL_cut 5 = .ok (.goto 7, 3) := by decide +kernel
theorem dL_cut_8 : decode cL_cut 8 = .ok (.astore_n 2, 1) := by decide +kernel
theorem dL_cut_9 : decode cL_cut 9 = .ok (.bipush (-73), 2) := by decide +kernel
theorem dL_cut_11 : decode cL_cut 11 = .ok (.ireturn, 1) := by decide +kernel
theorem dL_cut_12 : decode cL_cut 12 = .ok (.iload_n 1, 1) := by decide +kernel
theorem dL_cut_13 : decode cL_cut 13 = .ok (.ireturn, 1) := by decide +kernel
theorem dL_strike_0 : decode cL_strike 0 = .ok (.aload_n 0, 1) := by decide +kernel
theorem dL_strike_1 : decode cL_strike 1 = .ok (.iload_n 1, 1) := by decide +kernel
theorem dL_strike_2 : decode cL_strike 2 = .ok (.invokevirtual 50, 3) := by decide +kernel
theorem dL_strike_5 : decode cL_strike 5 = .ok (.istore_n 2, 1) := by decide +kernel
theorem dL_strike_6 : decode cL_strike 6 = .ok (.goto 11, 3) := by decide +kernel
theorem dL_strike_9 : decode cL_strike 9 = .ok (.astore_n 3, 1) := by decide +kernel
theorem dL_strike_10 : decode cL_strike 10 = .ok (.bipush (-71), 2) := by decide +kernel
theorem dL_strike_12 : decode cL_strike 12 = .ok (.ireturn, 1) := by decide +kernel
theorem dL_strike_13 : decode cL_strike 13 = .ok (.astore_n 3, 1) := by decide +kernel
theorem dL_strike_14 : decode cL_strike 14 = .ok (.bipush (-73), 2) := by decide +kernel
theorem dL_strike_16 : decode cL_strike 16 = .ok (.ireturn, 1) := by decide +kernel
theorem dL_strike_17 : decode cL_strike 17 = .ok (.iload_n 2, 1) := by decide +kernel
theorem dL_strike_18 : decode cL_strike 18 = .ok (.ireturn, 1) := by decide +kernel
theorem dL_forge_0 : decode cL_forge 0 = .ok (.aload_n 0, 1) := by decide +kernel
theorem dL_forge_1 : decode cL_forge 1 = .ok (.iload_n 1, 1) := by decide +kernel
theorem dL_forge_2 : decode cL_forge 2 = .ok (.iload_n 2, 1) := by decide +kernel
theorem dL_forge_3 : decode cL_forge 3 = .ok (.iload_n 3, 1) := by decide +kernel
theorem dL_forge_4 : decode cL_forge 4 = .ok (.invokevirtual 53, 3) := by decide +kernel
theorem dL_forge_7 : decode cL_forge 7 = .ok (.istore 4, 2) := by decide +kernel
theorem dL_forge_9 : decode cL_forge 9 = .ok (.goto 18, 3) := by decide +kernel
theorem dL_forge_12 : decode cL_forge 12 = .ok (.astore 5, 2) := by decide +kernel
theorem dL_forge_14 : decode cL_forge 14 = .ok (.bipush (-71), 2) := by decide +kernel
theorem dL_forge_16 : decode cL_forge 16 = .ok (.ireturn, 1) := by decide +kernel
theorem dL_forge_17 : decode cL_forge 17 = .ok (.astore 5, 2) := by decide +kernel
theorem dL_forge_19 : decode cL_forge 19 = .ok (.bipush (-72), 2) := by decide +kernel
theorem dL_forge_21 : decode cL_forge 21 = .ok (.ireturn, 1) := by decide +kernel
theorem dL_forge_22 : decode cL_forge 22 = .ok (.astore 5, 2) := by decide +kernel
theorem dL_forge_24 : decode cL_forge 24 = .ok (.bipush (-73), 2) := by decide +kernel
theorem dL_forge_26 : decode cL_forge 26 = .ok (.ireturn, 1) := by decide +kernel
theorem dL_forge_27 : decode cL_forge 27 = .ok (.iload 4, 2) := by decide +kernel
theorem dL_forge_29 : decode cL_forge 29 = .ok (.ireturn, 1) := by decide +kernel
theorem dL_dieHeight_0 : decode cL_dieHeight 0 = .ok (.aload_n 0, 1) := by decide +kernel
theorem dL_dieHeight_1 : decode cL_dieHeight 1 = .ok (.iload_n 1, 1) := by decide +kernel
theorem dL_dieHeight_2 : decode cL_dieHeight 2 = .ok (.iload_n 2, 1) := by decide +kernel
theorem dL_dieHeight_3 : decode cL_dieHeight 3 = .ok (.invokevirtual 56, 3) := by decide +kernel
theorem dL_dieHeight_6 : decode cL_dieHeight 6 = .ok (.istore_n 3, 1) := by decide +kernel
theorem dL_dieHeight_7 : decode cL_dieHeight 7 = .ok (.goto 8, 3) := by decide +kernel
theorem dL_dieHeight_10 : decode cL_dieHeight 10 = .ok (.astore 4, 2) := by decide +kernel
theorem dL_dieHeight_12 : decode cL_dieHeight 12 = .ok (.bipush (-71), 2) := by decide +kernel
theorem dL_dieHeight_14 : decode cL_dieHeight 14 = .ok (.ireturn, 1) := by decide +kernel
theorem dL_dieHeight_15 : decode cL_dieHeight 15 = .ok (.iload_n 3, 1) := by decide +kernel
theorem dL_dieHeight_16 : decode cL_dieHeight 16 = .ok (.ireturn, 1) := by decide +kernel
theorem dL_coinHeight_0 : decode cL_coinHeight 0 = .ok (.aload_n 0, 1) := by decide +kernel
theorem dL_coinHeight_1 : decode cL_coinHeight 1 = .ok (.iload_n 1, 1) := by decide +kernel
theorem dL_coinHeight_2 : decode cL_coinHeight 2 = .ok (.iload_n 2, 1) := by decide +kernel
theorem dL_coinHeight_3 : decode cL_coinHeight 3 = .ok (.invokevirtual 59, 3) := by decide +kernel
theorem dL_coinHeight_6 : decode cL_coinHeight 6 = .ok (.istore_n 3, 1) := by decide +kernel
theorem dL_coinHeight_7 : decode cL_coinHeight 7 = .ok (.goto 8, 3) := by decide +kernel
theorem dL_coinHeight_10 : decode cL_coinHeight 10 = .ok (.astore 4, 2) := by decide +kernel
theorem dL_coinHeight_12 : decode cL_coinHeight 12 = .ok (.bipush (-71), 2) := by decide +kernel
theorem dL_coinHeight_14 : decode cL_coinHeight 14 = .ok (.ireturn, 1) := by decide +kernel
theorem dL_coinHeight_15 : decode cL_coinHeight 15 = .ok (.iload_n 3, 1) := by decide +kernel
theorem dL_coinHeight_16 : decode cL_coinHeight 16 = .ok (.ireturn, 1) := by decide +kernel
theorem dL_grade_0 : decode cL_grade 0 = .ok (.aload_n 0, 1) := by decide +kernel
theorem dL_grade_1 : decode cL_grade 1 = .ok (.iload_n 1, 1) := by decide +kernel
theorem dL_grade_2 : decode cL_grade 2 = .ok (.invokevirtual 62, 3) := by decide +kernel
theorem dL_grade_5 : decode cL_grade 5 = .ok (.istore_n 2, 1) := by decide +kernel
theorem dL_grade_6 : decode cL_grade 6 = .ok (.goto 7, 3) := by decide +kernel
theorem dL_grade_9 : decode cL_grade 9 = .ok (.astore_n 3, 1) := by decide +kernel
theorem dL_grade_10 : decode cL_grade 10 = .ok (.bipush (-71), 2) := by decide +kernel
theorem dL_grade_12 : decode cL_grade 12 = .ok (.ireturn, 1) := by decide +kernel
theorem dL_grade_13 : decode cL_grade 13 = .ok (.iload_n 2, 1) := by decide +kernel
theorem dL_grade_14 : decode cL_grade 14 = .ok (.ireturn, 1) := by decide +kernel
theorem dL_distance_0 : decode cL_distance 0 = .ok (.aload_n 0, 1) := by decide +kernel
theorem dL_distance_1 : decode cL_distance 1 = .ok (.iload_n 1, 1) := by decide +kernel
theorem dL_distance_2 : decode cL_distance 2 = .ok (.iload_n 2, 1) := by decide +kernel
theorem dL_distance_3 : decode cL_distance 3 = .ok (.invokevirtual 65, 3) := by decide +kernel
theorem dL_distance_6 : decode cL_distance 6 = .ok (.istore_n 3, 1) := by decide +kernel
theorem dL_distance_7 : decode cL_distance 7 = .ok (.goto 8, 3) := by decide +kernel
theorem dL_distance_10 : decode cL_distance 10 = .ok (.astore 4, 2) := by decide +kernel
theorem dL_distance_12 : decode cL_distance 12 = .ok (.bipush (-71), 2) := by decide +kernel
theorem dL_distance_14 : decode cL_distance 14 = .ok (.ireturn, 1) := by decide +kernel
theorem dL_distance_15 : decode cL_distance 15 = .ok (.iload_n 3, 1) := by decide +kernel
theorem dL_distance_16 : decode cL_distance 16 = .ok (.ireturn, 1) := by decide +kernel
theorem dL_column_0 : decode cL_column 0 = .ok (.aload_n 0, 1) := by decide +kernel
theorem dL_column_1 : decode cL_column 1 = .ok (.iconst 4, 1) := by decide +kernel
theorem dL_column_2 : decode cL_column 2 = .ok (.iload_n 1, 1) := by decide +kernel
theorem dL_column_3 : decode cL_column 3 = .ok (.imul, 1) := by decide +kernel
theorem dL_column_4 : decode cL_column 4 = .ok (.iload_n 2, 1) := by decide +kernel
theorem dL_column_5 : decode cL_column 5 = .ok (.iconst 4, 1) := by decide +kernel
theorem dL_column_6 : decode cL_column 6 = .ok (.idiv, 1) := by decide +kernel
theorem dL_column_7 : decode cL_column 7 = .ok (.iadd, 1) := by decide +kernel
theorem dL_column_8 : decode cL_column 8 = .ok (.laload, 1) := by decide +kernel
theorem dL_column_9 : decode cL_column 9 = .ok (.bipush 16, 2) := by decide +kernel
theorem dL_column_11 : decode cL_column 11 = .ok (.iload_n 2, 1) := by decide +kernel
theorem dL_column_12 : decode cL_column 12 = .ok (.iconst 4, 1) := by decide +kernel
theorem dL_column_13 : decode cL_column 13 = .ok (.irem, 1) := by decide +kernel
theorem dL_column_14 : decode cL_column 14 = .ok (.imul, 1) := by decide +kernel
theorem dL_column_15 : decode cL_column 15 = .ok (.lshr, 1) := by decide +kernel
theorem dL_column_16 : decode cL_column 16 = .ok (.ldc2_w 68, 3) := by decide +kernel
theorem dL_column_19 : decode cL_column 19 = .ok (.land, 1) := by decide +kernel
theorem dL_column_20 : decode cL_column 20 = .ok (.l2i, 1) := by decide +kernel
theorem dL_column_21 : decode cL_column 21 = .ok (.ireturn, 1) := by decide +kernel
theorem dL_lay_0 : decode cL_lay 0 = .ok (.iconst 4, 1) := by decide +kernel
theorem dL_lay_1 : decode cL_lay 1 = .ok (.iload_n 1, 1) := by decide +kernel
theorem dL_lay_2 : decode cL_lay 2 = .ok (.imul, 1) := by decide +kernel
theorem dL_lay_3 : decode cL_lay 3 = .ok (.iload_n 2, 1) := by decide +kernel
theorem dL_lay_4 : decode cL_lay 4 = .ok (.iconst 4, 1) := by decide +kernel
theorem dL_lay_5 : decode cL_lay 5 = .ok (.idiv, 1) := by decide +kernel
theorem dL_lay_6 : decode cL_lay 6 = .ok (.iadd, 1) := by decide +kernel
theorem dL_lay_7 : decode cL_lay 7 = .ok (.istore 4, 2) := by decide +kernel
theorem dL_lay_9 : decode cL_lay 9 = .ok (.bipush 16, 2) := by decide +kernel
theorem dL_lay_11 : decode cL_lay 11 = .ok (.iload_n 2, 1) := by decide +kernel
theorem dL_lay_12 : decode cL_lay 12 = .ok (.iconst 4, 1) := by decide +kernel
theorem dL_lay_13 : decode cL_lay 13 = .ok (.irem, 1) := by decide +kernel
theorem dL_lay_14 : decode cL_lay 14 = .ok (.imul, 1) := by decide +kernel
theorem dL_lay_15 : decode cL_lay 15 = .ok (.istore 5, 2) := by decide +kernel
theorem dL_lay_17 : decode cL_lay 17 = .ok (.aload_n 0, 1) := by decide +kernel
theorem dL_lay_18 : decode cL_lay 18 = .ok (.iload 4, 2) := by decide +kernel
theorem dL_lay_20 : decode cL_lay 20 = .ok (.aload_n 0, 1) := by decide +kernel
theorem dL_lay_21 : decode cL_lay 21 = .ok (.iload 4, 2) := by decide +kernel
theorem dL_lay_23 : decode cL_lay 23 = .ok (.laload, 1) := by decide +kernel
theorem dL_lay_24 : decode cL_lay 24 = .ok (.ldc2_w 68, 3) := by decide +kernel
theorem dL_lay_27 : decode cL_lay 27 = .ok (.iload 5, 2) := by decide +kernel
theorem dL_lay_29 : decode cL_lay 29 = .ok (.lshl, 1) := by decide +kernel
theorem dL_lay_30 : decode cL_lay 30 = .ok (.ldc2_w 70, 3) := by decide +kernel
theorem dL_lay_33 : decode cL_lay 33 = .ok (.lxor, 1) := by decide +kernel
theorem dL_lay_34 : decode cL_lay 34 = .ok (.land, 1) := by decide +kernel
theorem dL_lay_35 : decode cL_lay 35 = .ok (.iload_n 3, 1) := by decide +kernel
theorem dL_lay_36 : decode cL_lay 36 = .ok (.i2l, 1) := by decide +kernel
theorem dL_lay_37 : decode cL_lay 37 = .ok (.iload 5, 2) := by decide +kernel
theorem dL_lay_39 : decode cL_lay 39 = .ok (.lshl, 1) := by decide +kernel
theorem dL_lay_40 : decode cL_lay 40 = .ok (.lor, 1) := by decide +kernel
theorem dL_lay_41 : decode cL_lay 41 = .ok (.lastore, 1) := by decide +kernel
theorem dL_lay_42 : decode cL_lay 42 = .ok (.return_, 1) := by decide +kernel
theorem dL_grow_0 : decode cL_grow 0 = .ok (.iconst 0, 1) := by decide +kernel
theorem dL_grow_1 : decode cL_grow 1 = .ok (.istore_n 3, 1) := by decide +kernel
theorem dL_grow_2 : decode cL_grow 2 = .ok (.iload_n 3, 1) := by decide +kernel
theorem dL_grow_3 : decode cL_grow 3 = .ok (.iconst 4, 1) := by decide +kernel
theorem dL_grow_4 : decode cL_grow 4 = .ok (.if_icmp .ge 27, 3) := by decide +kernel
theorem dL_grow_7 : decode cL_grow 7 = .ok (.aload_n 0, 1) := by decide +kernel
theorem dL_grow_8 : decode cL_grow 8 = .ok (.iconst 4, 1) := by decide +kernel
theorem dL_grow_9 : decode cL_grow 9 = .ok (.aload_n 2, 1) := by decide +kernel
theorem dL_grow_10 : decode cL_grow 10 = .ok (.iconst 1, 1) := by decide +kernel
theorem dL_grow_11 : decode cL_grow 11 = .ok (.iaload, 1) := by decide +kernel
theorem dL_grow_12 : decode cL_grow 12 = .ok (.imul, 1) := by decide +kernel
theorem dL_grow_13 : decode cL_grow 13 = .ok (.iload_n 3, 1) := by decide +kernel
theorem dL_grow_14 : decode cL_grow 14 = .ok (.iadd, 1) := by decide +kernel
theorem dL_grow_15 : decode cL_grow 15 = .ok (.aload_n 0, 1) := by decide +kernel
theorem dL_grow_16 : decode cL_grow 16 = .ok (.iconst 4, 1) := by decide +kernel
theorem dL_grow_17 : decode cL_grow 17 = .ok (.aload_n 2, 1) := by decide +kernel
theorem dL_grow_18 : decode cL_grow 18 = .ok (.iconst 0, 1) := by decide +kernel
theorem dL_grow_19 : decode cL_grow 19 = .ok (.iaload, 1) := by decide +kernel
theorem dL_grow_20 : decode cL_grow 20 = .ok (.imul, 1) := by decide +kernel
theorem dL_grow_21 : decode cL_grow 21 = .ok (.iload_n 3, 1) := by decide +kernel
theorem dL_grow_22 : decode cL_grow 22 = .ok (.iadd, 1) := by decide +kernel
theorem dL_grow_23 : decode cL_grow 23 = .ok (.laload, 1) := by decide +kernel
theorem dL_grow_24 : decode cL_grow 24 = .ok (.lastore, 1) := by decide +kernel
theorem dL_grow_25 : decode cL_grow 25 = .ok (.iinc 3 1, 3) := by decide +kernel
theorem dL_grow_28 : decode cL_grow 28 = .ok (.goto (-26), 3) := by decide +kernel
theorem dL_grow_31 : decode cL_grow 31 = .ok (.aload_n 1, 1) := by decide +kernel
theorem dL_grow_32 : decode cL_grow 32 = .ok (.aload_n 2, 1) := by decide +kernel
theorem dL_grow_33 : decode cL_grow 33 = .ok (.iconst 1, 1) := by decide +kernel
theorem dL_grow_34 : decode cL_grow 34 = .ok (.iaload, 1) := by decide +kernel
theorem dL_grow_35 : decode cL_grow 35 = .ok (.aload_n 2, 1) := by decide +kernel
theorem dL_grow_36 : decode cL_grow 36 = .ok (.iconst 0, 1) := by decide +kernel
theorem dL_grow_37 : decode cL_grow 37 = .ok (.iaload, 1) := by decide +kernel
theorem dL_grow_38 : decode cL_grow 38 = .ok (.iastore, 1) := by decide +kernel
theorem dL_grow_39 : decode cL_grow 39 = .ok (.aload_n 2, 1) := by decide +kernel
theorem dL_grow_40 : decode cL_grow 40 = .ok (.iconst 0, 1) := by decide +kernel
theorem dL_grow_41 : decode cL_grow 41 = .ok (.aload_n 2, 1) := by decide +kernel
theorem dL_grow_42 : decode cL_grow 42 = .ok (.iconst 1, 1) := by decide +kernel
theorem dL_grow_43 : decode cL_grow 43 = .ok (.iaload, 1) := by decide +kernel
theorem dL_grow_44 : decode cL_grow 44 = .ok (.iastore, 1) := by decide +kernel
theorem dL_grow_45 : decode cL_grow 45 = .ok (.aload_n 2, 1) := by decide +kernel
theorem dL_grow_46 : decode cL_grow 46 = .ok (.iconst 1, 1) := by decide +kernel
theorem dL_grow_47 : decode cL_grow 47 = .ok (.dup2, 1) := by decide +kernel
theorem dL_grow_48 : decode cL_grow 48 = .ok (.iaload, 1) := by decide +kernel
theorem dL_grow_49 : decode cL_grow 49 = .ok (.iconst 1, 1) := by decide +kernel
theorem dL_grow_50 : decode cL_grow 50 = .ok (.iadd, 1) := by decide +kernel
theorem dL_grow_51 : decode cL_grow 51 = .ok (.iastore, 1) := by decide +kernel
theorem dL_grow_52 : decode cL_grow 52 = .ok (.return_, 1) := by decide +kernel
theorem dL_solid_0 : decode cL_solid 0 = .ok (.iconst 0, 1) := by decide +kernel
theorem dL_solid_1 : decode cL_solid 1 = .ok (.istore_n 1, 1) := by decide +kernel
theorem dL_solid_2 : decode cL_solid 2 = .ok (.iconst 0, 1) := by decide +kernel
theorem dL_solid_3 : decode cL_solid 3 = .ok (.istore_n 2, 1) := by decide +kernel
theorem dL_solid_4 : decode cL_solid 4 = .ok (.iload_n 2, 1) := by decide +kernel
theorem dL_solid_5 : decode cL_solid 5 = .ok (.bipush 8, 2) := by decide +kernel
theorem dL_solid_7 : decode cL_solid 7 = .ok (.if_icmp .ge 29, 3) := by decide +kernel
theorem dL_solid_10 : decode cL_solid 10 = .ok (.iload_n 1, 1) := by decide +kernel
theorem dL_solid_11 : decode cL_solid 11 = .ok (.iload_n 0, 1) := by decide +kernel
theorem dL_solid_12 : decode cL_solid 12 = .ok (.iconst 2, 1) := by decide +kernel
theorem dL_solid_13 : decode cL_solid 13 = .ok (.iload_n 2, 1) := by decide +kernel
theorem dL_solid_14 : decode cL_solid 14 = .ok (.imul, 1) := by decide +kernel
theorem dL_solid_15 : decode cL_solid 15 = .ok (.ishr, 1) := by decide +kernel
theorem dL_solid_16 : decode cL_solid 16 = .ok (.iconst 3, 1) := by decide +kernel
theorem dL_solid_17 : decode cL_solid 17 = .ok (.iand, 1) := by decide +kernel
theorem dL_solid_18 : decode cL_solid 18 = .ok (.ifCond .le 9, 3) := by decide +kernel
theorem dL_solid_21 : decode cL_solid 21 = .ok (.iconst 1, 1) := by decide +kernel
theorem dL_solid_22 : decode cL_solid 22 = .ok (.iload_n 2, 1) := by decide +kernel
theorem dL_solid_23 : decode cL_solid 23 = .ok (.ishl, 1) := by decide +kernel
theorem dL_solid_24 : decode cL_solid 24 = .ok (.goto 4, 3) := by decide +kernel
theorem dL_solid_27 : decode cL_solid 27 = .ok (.iconst 0, 1) := by decide +kernel
theorem dL_solid_28 : decode cL_solid 28 = .ok (.ior, 1) := by decide +kernel
theorem dL_solid_29 : decode cL_solid 29 = .ok (.istore_n 1, 1) := by decide +kernel
theorem dL_solid_30 : decode cL_solid 30 = .ok (.iinc 2 1, 3) := by decide +kernel
theorem dL_solid_33 : decode cL_solid 33 = .ok (.goto (-29), 3) := by decide +kernel
theorem dL_solid_36 : decode cL_solid 36 = .ok (.iload_n 1, 1) := by decide +kernel
theorem dL_solid_37 : decode cL_solid 37 = .ok (.ireturn, 1) := by decide +kernel
theorem dL_height_0 : decode cL_height 0 = .ok (.iconst 0, 1) := by decide +kernel
theorem dL_height_1 : decode cL_height 1 = .ok (.istore_n 1, 1) := by decide +kernel
theorem dL_height_2 : decode cL_height 2 = .ok (.iload_n 0, 1) := by decide +kernel
theorem dL_height_3 : decode cL_height 3 = .ok (.istore_n 2, 1) := by decide +kernel
theorem dL_height_4 : decode cL_height 4 = .ok (.iload_n 2, 1) := by decide +kernel
theorem dL_height_5 : decode cL_height 5 = .ok (.ifCond .le 13, 3) := by decide +kernel
theorem dL_height_8 : decode cL_height 8 = .ok (.iinc 1 1, 3) := by decide +kernel
theorem dL_height_11 : decode cL_height 11 = .ok (.iload_n 2, 1) := by decide +kernel
theorem dL_height_12 : decode cL_height 12 = .ok (.iconst 2, 1) := by decide +kernel
theorem dL_height_13 : decode cL_height 13 = .ok (.ishr, 1) := by decide +kernel
theorem dL_height_14 : decode cL_height 14 = .ok (.istore_n 2, 1) := by decide +kernel
theorem dL_height_15 : decode cL_height 15 = .ok (.goto (-11), 3) := by decide +kernel
theorem dL_height_18 : decode cL_height 18 = .ok (.iload_n 1, 1) := by decide +kernel
theorem dL_height_19 : decode cL_height 19 = .ok (.ireturn, 1) := by decide +kernel
theorem dL_pieces_0 : decode cL_pieces 0 = .ok (.iconst 0, 1) := by decide +kernel
theorem dL_pieces_1 : decode cL_pieces 1 = .ok (.istore 4, 2) := by decide +kernel
theorem dL_pieces_3 : decode cL_pieces 3 = .ok (.iload 4, 2) := by decide +kernel
theorem dL_pieces_5 : decode cL_pieces 5 = .ok (.bipush 16, 2) := by decide +kernel
theorem dL_pieces_7 : decode cL_pieces 7 = .ok (.if_icmp .ge 25, 3) := by decide +kernel
theorem dL_pieces_10 : decode cL_pieces 10 = .ok (.aload_n 1, 1) := by decide +kernel
theorem dL_pieces_11 : decode cL_pieces 11 = .ok (.iload 4, 2) := by decide +kernel
theorem dL_pieces_13 : decode cL_pieces 13 = .ok (.aload_n 0, 1) := by decide +kernel
theorem dL_pieces_14 : decode cL_pieces 14 = .ok (.aload_n 3, 1) := by decide +kernel
theorem dL_pieces_15 : decode cL_pieces 15 = .ok (.iconst 0, 1) := by decide +kernel
theorem dL_pieces_16 : decode cL_pieces 16 = .ok (.iaload, 1) := by decide +kernel
theorem dL_pieces_17 : decode cL_pieces 17 = .ok (.iload 4, 2) := by decide +kernel
theorem dL_pieces_19 : decode cL_pieces 19 = .ok (.invokestatic 72, 3) := by decide +kernel
theorem dL_pieces_22 : decode cL_pieces 22 = .ok (.invokestatic 78, 3) := by decide +kernel
theorem dL_pieces_25 : decode cL_pieces 25 = .ok (.iastore, 1) := by decide +kernel
theorem dL_pieces_26 : decode cL_pieces 26 = .ok (.iinc 4 1, 3) := by decide +kernel
theorem dL_pieces_29 : decode cL_pieces 29 = .ok (.goto (-26), 3) := by decide +kernel
theorem dL_pieces_32 : decode cL_pieces 32 = .ok (.iconst 0, 1) := by decide +kernel
theorem dL_pieces_33 : decode cL_pieces 33 = .ok (.istore 4, 2) := by decide +kernel
theorem dL_pieces_35 : decode cL_pieces 35 = .ok (.iconst 0, 1) := by decide +kernel
theorem dL_pieces_36 : decode cL_pieces 36 = .ok (.istore 5, 2) := by decide +kernel
theorem dL_pieces_38 : decode cL_pieces 38 = .ok (.iload 5, 2) := by decide +kernel
theorem dL_pieces_40 : decode cL_pieces 40 = .ok (.bipush 16, 2) := by decide +kernel
theorem dL_pieces_42 : decode cL_pieces 42 = .ok (.if_icmp .ge 243, 3) := by decide +kernel
theorem dL_pieces_45 : decode cL_pieces 45 = .ok (.aload_n 1, 1) := by decide +kernel
theorem dL_pieces_46 : decode cL_pieces 46 = .ok (.iload 5, 2) := by decide +kernel
theorem dL_pieces_48 : decode cL_pieces 48 = .ok (.iaload, 1) := by decide +kernel
theorem dL_pieces_49 : decode cL_pieces 49 = .ok (.ifCond .eq 230, 3) := by decide +kernel
theorem dL_pieces_52 : decode cL_pieces 52 = .ok (.iinc 4 1, 3) := by decide +kernel
theorem dL_pieces_55 : decode cL_pieces 55 = .ok (.iconst 0, 1) := by decide +kernel
theorem dL_pieces_56 : decode cL_pieces 56 = .ok (.istore 6, 2) := by decide +kernel
theorem dL_pieces_58 : decode cL_pieces 58 = .ok (.iload 6, 2) := by decide +kernel
theorem dL_pieces_60 : decode cL_pieces 60 = .ok (.bipush 16, 2) := by decide +kernel
theorem dL_pieces_62 : decode cL_pieces 62 = .ok (.if_icmp .ge 14, 3) := by decide +kernel
theorem dL_pieces_65 : decode cL_pieces 65 = .ok (.aload_n 2, 1) := by decide +kernel
theorem dL_pieces_66 : decode cL_pieces 66 = .ok (.iload 6, 2) := by decide +kernel
theorem dL_pieces_68 : decode cL_pieces 68 = .ok (.iconst 0, 1) := by decide +kernel
theorem dL_pieces_69 : decode cL_pieces 69 = .ok (.iastore, 1) := by decide +kernel
theorem dL_pieces_70 : decode cL_pieces 70 = .ok (.iinc 6 1, 3) := by decide +kernel
theorem dL_pieces_73 : decode cL_pieces 73 = .ok (.goto (-15), 3) := by decide +kernel
theorem dL_pieces_76 : decode cL_pieces 76 = .ok (.aload_n 2, 1) := by decide +kernel
theorem dL_pieces_77 : decode cL_pieces 77 = .ok (.iload 5, 2) := by decide +kernel
theorem dL_pieces_79 : decode cL_pieces 79 = .ok (.aload_n 1, 1) := by decide +kernel
theorem dL_pieces_80 : decode cL_pieces 80 = .ok (.iload 5, 2) := by decide +kernel
theorem dL_pieces_82 : decode cL_pieces 82 = .ok (.iaload, 1) := by decide +kernel
theorem dL_pieces_83 : decode cL_pieces 83 = .ok (.aload_n 1, 1) := by decide +kernel
theorem dL_pieces_84 : decode cL_pieces 84 = .ok (.iload 5, 2) := by decide +kernel
theorem dL_pieces_86 : decode cL_pieces 86 = .ok (.iaload, 1) := by decide +kernel
theorem dL_pieces_87 : decode cL_pieces 87 = .ok (.ineg, 1) := by decide +kernel
theorem dL_pieces_88 : decode cL_pieces 88 = .ok (.iand, 1) := by decide +kernel
theorem dL_pieces_89 : decode cL_pieces 89 = .ok (.iastore, 1) := by decide +kernel
theorem dL_pieces_90 : decode cL_pieces 90 = .ok (.iconst 1, 1) := by decide +kernel
theorem dL_pieces_91 : decode cL_pieces 91 = .ok (.istore 6, 2) := by decide +kernel
theorem dL_pieces_93 : decode cL_pieces 93 = .ok (.iload 6, 2) := by decide +kernel
theorem dL_pieces_95 : decode cL_pieces 95 = .ok (.ifCond .eq 152, 3) := by decide +kernel
theorem dL_pieces_98 : decode cL_pieces 98 = .ok (.iconst 0, 1) := by decide +kernel
theorem dL_pieces_99 : decode cL_pieces 99 = .ok (.istore 6, 2) := by decide +kernel
theorem dL_pieces_101 : decode cL_pieces 101 = .ok (.iconst 0, 1) := by decide +kernel
theorem dL_pieces_102 : decode cL_pieces 102 = .ok (.istore 7, 2) := by decide +kernel
theorem dL_pieces_104 : decode cL_pieces 104 = .ok (.iload 7, 2) := by decide +kernel
theorem dL_pieces_106 : decode cL_pieces 106 = .ok (.bipush 16, 2) := by decide +kernel
theorem dL_pieces_108 : decode cL_pieces 108 = .ok (.if_icmp .ge 136, 3) := by decide +kernel
theorem dL_pieces_111 : decode cL_pieces 111 = .ok (.aload_n 2, 1) := by decide +kernel
theorem dL_pieces_112 : decode cL_pieces 112 = .ok (.iload 7, 2) := by decide +kernel
theorem dL_pieces_114 : decode cL_pieces 114 = .ok (.iaload, 1) := by decide +kernel
theorem dL_pieces_115 : decode cL_pieces 115 = .ok (.aload_n 2, 1) := by decide +kernel
theorem dL_pieces_116 : decode cL_pieces 116 = .ok (.iload 7, 2) := by decide +kernel
theorem dL_pieces_118 : decode cL_pieces 118 = .ok (.iaload, 1) := by decide +kernel
theorem dL_pieces_119 : decode cL_pieces 119 = .ok (.iconst 1, 1) := by decide +kernel
theorem dL_pieces_120 : decode cL_pieces 120 = .ok (.ishl, 1) := by decide +kernel
theorem dL_pieces_121 : decode cL_pieces 121 = .ok (.ior, 1) := by decide +kernel
theorem dL_pieces_122 : decode cL_pieces 122 = .ok (.aload_n 2, 1) := by decide +kernel
theorem dL_pieces_123 : decode cL_pieces 123 = .ok (.iload 7, 2) := by decide +kernel
theorem dL_pieces_125 : decode cL_pieces 125 = .ok (.iaload, 1) := by decide +kernel
theorem dL_pieces_126 : decode cL_pieces 126 = .ok (.iconst 1, 1) := by decide +kernel
theorem dL_pieces_127 : decode cL_pieces 127 = .ok (.ishr, 1) := by decide +kernel
theorem dL_pieces_128 : decode cL_pieces 128 = .ok (.ior, 1) := by decide +kernel
theorem dL_pieces_129 : decode cL_pieces 129 = .ok (.istore 8, 2) := by decide +kernel
theorem dL_pieces_131 : decode cL_pieces 131 = .ok (.iload 7, 2) := by decide +kernel
theorem dL_pieces_133 : decode cL_pieces 133 = .ok (.iconst 4, 1) := by decide +kernel
theorem dL_pieces_134 : decode cL_pieces 134 = .ok (.irem, 1) := by decide +kernel
theorem dL_pieces_135 : decode cL_pieces 135 = .ok (.ifCond .le 14, 3) := by decide +kernel
theorem dL_pieces_138 : decode cL_pieces 138 = .ok (.iload 8, 2) := by decide +kernel
theorem dL_pieces_140 : decode cL_pieces 140 = .ok (.aload_n 2, 1) := by decide +kernel
theorem dL_pieces_141 : decode cL_pieces 141 = .ok (.iload 7, 2) := by decide +kernel
theorem dL_pieces_143 : decode cL_pieces 143 = .ok (.iconst 1, 1) := by decide +kernel
theorem dL_pieces_144 : decode cL_pieces 144 = .ok (.isub, 1) := by decide +kernel
theorem dL_pieces_145 : decode cL_pieces 145 = .ok (.iaload, 1) := by decide +kernel
theorem dL_pieces_146 : decode cL_pieces 146 = .ok (.ior, 1) := by decide +kernel
theorem dL_pieces_147 : decode cL_pieces 147 = .ok (.istore 8, 2) := by decide +kernel
theorem dL_pieces_149 : decode cL_pieces 149 = .ok (.iload 7, 2) := by decide +kernel
theorem dL_pieces_151 : decode cL_pieces 151 = .ok (.iconst 4, 1) := by decide +kernel
theorem dL_pieces_152 : decode cL_pieces 152 = .ok (.irem, 1) := by decide +kernel
theorem dL_pieces_153 : decode cL_pieces 153 = .ok (.iconst 3, 1) := by decide +kernel
theorem dL_pieces_154 : decode cL_pieces 154 = .ok (.if_icmp .ge 14, 3) := by decide +kernel
theorem dL_pieces_157 : decode cL_pieces 157 = .ok (.iload 8, 2) := by decide +kernel
theorem dL_pieces_159 : decode cL_pieces 159 = .ok (.aload_n 2, 1) := by decide +kernel
theorem dL_pieces_160 : decode cL_pieces 160 = .ok (.iload 7, 2) := by decide +kernel
theorem dL_pieces_162 : decode cL_pieces 162 = .ok (.iconst 1, 1) := by decide +kernel
theorem dL_pieces_163 : decode cL_pieces 163 = .ok (.iadd, 1) := by decide +kernel
theorem dL_pieces_164 : decode cL_pieces 164 = .ok (.iaload, 1) := by decide +kernel
theorem dL_pieces_165 : decode cL_pieces 165 = .ok (.ior, 1) := by decide +kernel
theorem dL_pieces_166 : decode cL_pieces 166 = .ok (.istore 8, 2) := by decide +kernel
theorem dL_pieces_168 : decode cL_pieces 168 = .ok (.iload 7, 2) := by decide +kernel
theorem dL_pieces_170 : decode cL_pieces 170 = .ok (.iconst 3, 1) := by decide +kernel
theorem dL_pieces_171 : decode cL_pieces 171 = .ok (.if_icmp .le 14, 3) := by decide +kernel
theorem dL_pieces_174 : decode cL_pieces 174 = .ok (.iload 8, 2) := by decide +kernel
theorem dL_pieces_176 : decode cL_pieces 176 = .ok (.aload_n 2, 1) := by decide +kernel
theorem dL_pieces_177 : decode cL_pieces 177 = .ok (.iload 7, 2) := by decide +kernel
theorem dL_pieces_179 : decode cL_pieces 179 = .ok (.iconst 4, 1) := by decide +kernel
theorem dL_pieces_180 : decode cL_pieces 180 = .ok (.isub, 1) := by decide +kernel
theorem dL_pieces_181 : decode cL_pieces 181 = .ok (.iaload, 1) := by decide +kernel
theorem dL_pieces_182 : decode cL_pieces 182 = .ok (.ior, 1) := by decide +kernel
theorem dL_pieces_183 : decode cL_pieces 183 = .ok (.istore 8, 2) := by decide +kernel
theorem dL_pieces_185 : decode cL_pieces 185 = .ok (.iload 7, 2) := by decide +kernel
theorem dL_pieces_187 : decode cL_pieces 187 = .ok (.bipush 12, 2) := by decide +kernel
theorem dL_pieces_189 : decode cL_pieces 189 = .ok (.if_icmp .ge 14, 3) := by decide +kernel
theorem dL_pieces_192 : decode cL_pieces 192 = .ok (.iload 8, 2) := by decide +kernel
theorem dL_pieces_194 : decode cL_pieces 194 = .ok (.aload_n 2, 1) := by decide +kernel
theorem dL_pieces_195 : decode cL_pieces 195 = .ok (.iload 7, 2) := by decide +kernel
theorem dL_pieces_197 : decode cL_pieces 197 = .ok (.iconst 4, 1) := by decide +kernel
theorem dL_pieces_198 : decode cL_pieces 198 = .ok (.iadd, 1) := by decide +kernel
theorem dL_pieces_199 : decode cL_pieces 199 = .ok (.iaload, 1) := by decide +kernel
theorem dL_pieces_200 : decode cL_pieces 200 = .ok (.ior, 1) := by decide +kernel
theorem dL_pieces_201 : decode cL_pieces 201 = .ok (.istore 8, 2) := by decide +kernel
theorem dL_pieces_203 : decode cL_pieces 203 = .ok (.iload 6, 2) := by decide +kernel
theorem dL_pieces_205 : decode cL_pieces 205 = .ok (.iload 8, 2) := by decide +kernel
theorem dL_pieces_207 : decode cL_pieces 207 = .ok (.aload_n 1, 1) := by decide +kernel
theorem dL_pieces_208 : decode cL_pieces 208 = .ok (.iload 7, 2) := by decide +kernel
theorem dL_pieces_210 : decode cL_pieces 210 = .ok (.iaload, 1) := by decide +kernel
theorem dL_pieces_211 : decode cL_pieces 211 = .ok (.iand, 1) := by decide +kernel
theorem dL_pieces_212 : decode cL_pieces 212 = .ok (.aload_n 2, 1) := by decide +kernel
theorem dL_pieces_213 : decode cL_pieces 213 = .ok (.iload 7, 2) := by decide +kernel
theorem dL_pieces_215 : decode cL_pieces 215 = .ok (.iaload, 1) := by decide +kernel
theorem dL_pieces_216 : decode cL_pieces 216 = .ok (.if_icmp .eq 7, 3) := by decide +kernel
theorem dL_pieces_219 : decode cL_pieces 219 = .ok (.iconst 1, 1) := by decide +kernel
theorem dL_pieces_220 : decode cL_pieces 220 = .ok (.goto 4, 3) := by decide +kernel
theorem dL_pieces_223 : decode cL_pieces 223 = .ok (.iconst 0, 1) := by decide +kernel
theorem dL_pieces_224 : decode cL_pieces 224 = .ok (.ior, 1) := by decide +kernel
theorem dL_pieces_225 : decode cL_pieces 225 = .ok (.istore 6, 2) := by decide +kernel
theorem dL_pieces_227 : decode cL_pieces 227 = .ok (.aload_n 2, 1) := by decide +kernel
theorem dL_pieces_228 : decode cL_pieces 228 = .ok (.iload 7, 2) := by decide +kernel
theorem dL_pieces_230 : decode cL_pieces 230 = .ok (.iload 8, 2) := by decide +kernel
theorem dL_pieces_232 : decode cL_pieces 232 = .ok (.aload_n 1, 1) := by decide +kernel
theorem dL_pieces_233 : decode cL_pieces 233 = .ok (.iload 7, 2) := by decide +kernel
theorem dL_pieces_235 : decode cL_pieces 235 = .ok (.iaload, 1) := by decide +kernel
theorem dL_pieces_236 : decode cL_pieces 236 = .ok (.iand, 1) := by decide +kernel
theorem dL_pieces_237 : decode cL_pieces 237 = .ok (.iastore, 1) := by decide +kernel
theorem dL_pieces_238 : decode cL_pieces 238 = .ok (.iinc 7 1, 3) := by decide +kernel
theorem dL_pieces_241 : decode cL_pieces 241 = .ok (.goto (-137), 3) := by decide +kernel
theorem dL_pieces_244 : decode cL_pieces 244 = .ok (.goto (-151), 3) := by decide +kernel
theorem dL_pieces_247 : decode cL_pieces 247 = .ok (.iconst 0, 1) := by decide +kernel
theorem dL_pieces_248 : decode cL_pieces 248 = .ok (.istore 7, 2) := by decide +kernel
theorem dL_pieces_250 : decode cL_pieces 250 = .ok (.iload 7, 2) := by decide +kernel
theorem dL_pieces_252 : decode cL_pieces 252 = .ok (.bipush 16, 2) := by decide +kernel
theorem dL_pieces_254 : decode cL_pieces 254 = .ok (.if_icmp .ge 22, 3) := by decide +kernel
theorem dL_pieces_257 : decode cL_pieces 257 = .ok (.aload_n 1, 1) := by decide +kernel
theorem dL_pieces_258 : decode cL_pieces 258 = .ok (.iload 7, 2) := by decide +kernel
theorem dL_pieces_260 : decode cL_pieces 260 = .ok (.dup2, 1) := by decide +kernel
theorem dL_pieces_261 : decode cL_pieces 261 = .ok (.iaload, 1) := by decide +kernel
theorem dL_pieces_262 : decode cL_pieces 262 = .ok (.aload_n 2, 1) := by decide +kernel
theorem dL_pieces_263 : decode cL_pieces 263 = .ok (.iload 7, 2) := by decide +kernel
theorem dL_pieces_265 : decode cL_pieces 265 = .ok (.iaload, 1) := by decide +kernel
theorem dL_pieces_266 : decode cL_pieces 266 = .ok (.iconst (-1), 1) := by decide +kernel
theorem dL_pieces_267 : decode cL_pieces 267 = .ok (.ixor, 1) := by decide +kernel
theorem dL_pieces_268 : decode cL_pieces 268 = .ok (.iand, 1) := by decide +kernel
theorem dL_pieces_269 : decode cL_pieces 269 = .ok (.iastore, 1) := by decide +kernel
theorem dL_pieces_270 : decode cL_pieces 270 = .ok (.iinc 7 1, 3) := by decide +kernel
theorem dL_pieces_273 : decode cL_pieces 273 = .ok (.goto (-23), 3) := by decide +kernel
theorem dL_pieces_276 : decode cL_pieces 276 = .ok (.goto (-231), 3) := by decide +kernel
theorem dL_pieces_279 : decode cL_pieces 279 = .ok (.iinc 5 1, 3) := by decide +kernel
theorem dL_pieces_282 : decode cL_pieces 282 = .ok (.goto (-244), 3) := by decide +kernel
theorem dL_pieces_285 : decode cL_pieces 285 = .ok (.iload 4, 2) := by decide +kernel
theorem dL_pieces_287 : decode cL_pieces 287 = .ok (.ireturn, 1) := by decide +kernel
theorem dL_at_0 : decode cL_at 0 = .ok (.lload_n 0, 1) := by decide +kernel
theorem dL_at_1 : decode cL_at 1 = .ok (.iconst 4, 1) := by decide +kernel
theorem dL_at_2 : decode cL_at 2 = .ok (.iload_n 2, 1) := by decide +kernel
theorem dL_at_3 : decode cL_at 3 = .ok (.imul, 1) := by decide +kernel
theorem dL_at_4 : decode cL_at 4 = .ok (.lshr, 1) := by decide +kernel
theorem dL_at_5 : decode cL_at 5 = .ok (.ldc2_w 81, 3) := by decide +kernel
theorem dL_at_8 : decode cL_at 8 = .ok (.land, 1) := by decide +kernel
theorem dL_at_9 : decode cL_at 9 = .ok (.l2i, 1) := by decide +kernel
theorem dL_at_10 : decode cL_at 10 = .ok (.ireturn, 1) := by decide +kernel
theorem dL_worn_0 : decode cL_worn 0 = .ok (.lload_n 0, 1) := by decide +kernel
theorem dL_worn_1 : decode cL_worn 1 = .ok (.lstore_n 3, 1) := by decide +kernel
theorem dL_worn_2 : decode cL_worn 2 = .ok (.iconst 1, 1) := by decide +kernel
theorem dL_worn_3 : decode cL_worn 3 = .ok (.istore 5, 2) := by decide +kernel
theorem dL_worn_5 : decode cL_worn 5 = .ok (.iload 5, 2) := by decide +kernel
theorem dL_worn_7 : decode cL_worn 7 = .ok (.iload_n 2, 1) := by decide +kernel
theorem dL_worn_8 : decode cL_worn 8 = .ok (.iconst 1, 1) := by decide +kernel
theorem dL_worn_9 : decode cL_worn 9 = .ok (.isub, 1) := by decide +kernel
theorem dL_worn_10 : decode cL_worn 10 = .ok (.iconst 2, 1) := by decide +kernel
theorem dL_worn_11 : decode cL_worn 11 = .ok (.idiv, 1) := by decide +kernel
theorem dL_worn_12 : decode cL_worn 12 = .ok (.if_icmp .gt 64, 3) := by decide +kernel
theorem dL_worn_15 : decode cL_worn 15 = .ok (.iconst 0, 1) := by decide +kernel
theorem dL_worn_16 : decode cL_worn 16 = .ok (.istore 6, 2) := by decide +kernel
theorem dL_worn_18 : decode cL_worn 18 = .ok (.bipush 15, 2) := by decide +kernel
theorem dL_worn_20 : decode cL_worn 20 = .ok (.istore 7, 2) := by decide +kernel
theorem dL_worn_22 : decode cL_worn 22 = .ok (.iload 7, 2) := by decide +kernel
theorem dL_worn_24 : decode cL_worn 24 = .ok (.ifCond .lt 28, 3) := by decide +kernel
theorem dL_worn_27 : decode cL_worn 27 = .ok (.lload_n 3, 1) := by decide +kernel
theorem dL_worn_28 : decode cL_worn 28 = .ok (.iload 7, 2) := by decide +kernel
theorem dL_worn_30 : decode cL_worn 30 = .ok (.invokestatic 83, 3) := by decide +kernel
theorem dL_worn_33 : decode cL_worn 33 = .ok (.lload_n 3, 1) := by decide +kernel
theorem dL_worn_34 : decode cL_worn 34 = .ok (.iload 6, 2) := by decide +kernel
theorem dL_worn_36 : decode cL_worn 36 = .ok (.invokestatic 83, 3) := by decide +kernel
theorem dL_worn_39 : decode cL_worn 39 = .ok (.if_icmp .lt 7, 3) := by decide +kernel
theorem dL_worn_42 : decode cL_worn 42 = .ok (.iload 7, 2) := by decide +kernel
theorem dL_worn_44 : decode cL_worn 44 = .ok (.istore 6, 2) := by decide +kernel
theorem dL_worn_46 : decode cL_worn 46 = .ok (.iinc 7 (-1), 3) := by decide +kernel
theorem dL_worn_49 : decode cL_worn 49 = .ok (.goto (-27), 3) := by decide +kernel
theorem dL_worn_52 : decode cL_worn 52 = .ok (.lload_n 3, 1) := by decide +kernel
theorem dL_worn_53 : decode cL_worn 53 = .ok (.iload 6, 2) := by decide +kernel
theorem dL_worn_55 : decode cL_worn 55 = .ok (.invokestatic 83, 3) := by decide +kernel
theorem dL_worn_58 : decode cL_worn 58 = .ok (.ifCond .le 12, 3) := by decide +kernel
theorem dL_worn_61 : decode cL_worn 61 = .ok (.lload_n 3, 1) := by decide +kernel
theorem dL_worn_62 : decode cL_worn 62 = .ok (.lconst 1, 1) := by decide +kernel
theorem dL_worn_63 : decode cL_worn 63 = .ok (.iconst 4, 1) := by decide +kernel
theorem dL_worn_64 : decode cL_worn 64 = .ok (.iload 6, 2) := by decide +kernel
theorem dL_worn_66 : decode cL_worn 66 = .ok (.imul, 1) := by decide +kernel
theorem dL_worn_67 : decode cL_worn 67 = .ok (.lshl, 1) := by decide +kernel
theorem dL_worn_68 : decode cL_worn 68 = .ok (.lsub, 1) := by decide +kernel
theorem dL_worn_69 : decode cL_worn 69 = .ok (.lstore_n 3, 1) := by decide +kernel
theorem dL_worn_70 : decode cL_worn 70 = .ok (.iinc 5 1, 3) := by decide +kernel
theorem dL_worn_73 : decode cL_worn 73 = .ok (.goto (-68), 3) := by decide +kernel
theorem dL_worn_76 : decode cL_worn 76 = .ok (.lload_n 3, 1) := by decide +kernel
theorem dL_worn_77 : decode cL_worn 77 = .ok (.lreturn, 1) := by decide +kernel
theorem dL_far_0 : decode cL_far 0 = .ok (.iconst 0, 1) := by decide +kernel
theorem dL_far_1 : decode cL_far 1 = .ok (.istore 4, 2) := by decide +kernel
theorem dL_far_3 : decode cL_far 3 = .ok (.iconst 0, 1) := by decide +kernel
theorem dL_far_4 : decode cL_far 4 = .ok (.istore 5, 2) := by decide +kernel
theorem dL_far_6 : decode cL_far 6 = .ok (.iload 5, 2) := by decide +kernel
theorem dL_far_8 : decode cL_far 8 = .ok (.bipush 16, 2) := by decide +kernel
theorem dL_far_10 : decode cL_far 10 = .ok (.if_icmp .ge 58, 3) := by decide +kernel
theorem dL_far_13 : decode cL_far 13 = .ok (.iload 4, 2) := by decide +kernel
theorem dL_far_15 : decode cL_far 15 = .ok (.lload_n 0, 1) := by decide +kernel
theorem dL_far_16 : decode cL_far 16 = .ok (.iload 5, 2) := by decide +kernel
theorem dL_far_18 : decode cL_far 18 = .ok (.invokestatic 83, 3) := by decide +kernel
theorem dL_far_21 : decode cL_far 21 = .ok (.lload_n 2, 1) := by decide +kernel
theorem dL_far_22 : decode cL_far 22 = .ok (.iload 5, 2) := by decide +kernel
theorem dL_far_24 : decode cL_far 24 = .ok (.invokestatic 83, 3) := by decide +kernel
theorem dL_far_27 : decode cL_far 27 = .ok (.if_icmp .le 19, 3) := by decide +kernel
theorem dL_far_30 : decode cL_far 30 = .ok (.lload_n 0, 1) := by decide +kernel
theorem dL_far_31 : decode cL_far 31 = .ok (.iload 5, 2) := by decide +kernel
theorem dL_far_33 : decode cL_far 33 = .ok (.invokestatic 83, 3) := by decide +kernel
theorem dL_far_36 : decode cL_far 36 = .ok (.lload_n 2, 1) := by decide +kernel
theorem dL_far_37 : decode cL_far 37 = .ok (.iload 5, 2) := by decide +kernel
theorem dL_far_39 : decode cL_far 39 = .ok (.invokestatic 83, 3) := by decide +kernel
theorem dL_far_42 : decode cL_far 42 = .ok (.isub, 1) := by decide +kernel
theorem dL_far_43 : decode cL_far 43 = .ok (.goto 16, 3) := by decide +kernel
theorem dL_far_46 : decode cL_far 46 = .ok (.lload_n 2, 1) := by decide +kernel
theorem dL_far_47 : decode cL_far 47 = .ok (.iload 5, 2) := by decide +kernel
theorem dL_far_49 : decode cL_far 49 = .ok (.invokestatic 83, 3) := by decide +kernel
theorem dL_far_52 : decode cL_far 52 = .ok (.lload_n 0, 1) := by decide +kernel
theorem dL_far_53 : decode cL_far 53 = .ok (.iload 5, 2) := by decide +kernel
theorem dL_far_55 : decode cL_far 55 = .ok (.invokestatic 83, 3) := by decide +kernel
theorem dL_far_58 : decode cL_far 58 = .ok (.isub, 1) := by decide +kernel
theorem dL_far_59 : decode cL_far 59 = .ok (.iadd, 1) := by decide +kernel
theorem dL_far_60 : decode cL_far 60 = .ok (.istore 4, 2) := by decide +kernel
theorem dL_far_62 : decode cL_far 62 = .ok (.iinc 5 1, 3) := by decide +kernel
theorem dL_far_65 : decode cL_far 65 = .ok (.goto (-59), 3) := by decide +kernel
theorem dL_far_68 : decode cL_far 68 = .ok (.iload 4, 2) := by decide +kernel
theorem dL_far_70 : decode cL_far 70 = .ok (.ireturn, 1) := by decide +kernel
theorem dL_changes_0 : decode cL_changes 0 = .ok (.iload_n 2, 1) := by decide +kernel
theorem dL_changes_1 : decode cL_changes 1 = .ok (.bipush 6, 2) := by decide +kernel
theorem dL_changes_3 : decode cL_changes 3 = .ok (.iand, 1) := by decide +kernel
theorem dL_changes_4 : decode cL_changes 4 = .ok (.ifCond .ne 14, 3) := by decide +kernel
theorem dL_changes_7 : decode cL_changes 7 = .ok (.iload_n 2, 1) := by decide +kernel
theorem dL_changes_8 : decode cL_changes 8 = .ok (.iconst 3, 1) := by decide +kernel
theorem dL_changes_9 : decode cL_changes 9 = .ok (.ishr, 1) := by decide +kernel
theorem dL_changes_10 : decode cL_changes 10 = .ok (.bipush 16, 2) := by decide +kernel
theorem dL_changes_12 : decode cL_changes 12 = .ok (.invokestatic 87, 3) := by decide +kernel
theorem dL_changes_15 : decode cL_changes 15 = .ok (.goto 21, 3) := by decide +kernel
theorem dL_changes_18 : decode cL_changes 18 = .ok (.iload_n 2, 1) := by decide +kernel
theorem dL_changes_19 : decode cL_changes 19 = .ok (.iconst 3, 1) := by decide +kernel
theorem dL_changes_20 : decode cL_changes 20 = .ok (.ishr, 1) := by decide +kernel
theorem dL_changes_21 : decode cL_changes 21 = .ok (.iconst 3, 1) := by decide +kernel
theorem dL_changes_22 : decode cL_changes 22 = .ok (.invokestatic 87, 3) := by decide +kernel
theorem dL_changes_25 : decode cL_changes 25 = .ok (.iconst 4, 1) := by decide +kernel
theorem dL_changes_26 : decode cL_changes 26 = .ok (.imul, 1) := by decide +kernel
theorem dL_changes_27 : decode cL_changes 27 = .ok (.iload_n 2, 1) := by decide +kernel
theorem dL_changes_28 : decode cL_changes 28 = .ok (.bipush 6, 2) := by decide +kernel
theorem dL_changes_30 : decode cL_changes 30 = .ok (.ishr, 1) := by decide +kernel
theorem dL_changes_31 : decode cL_changes 31 = .ok (.iconst 2, 1) := by decide +kernel
theorem dL_changes_32 : decode cL_changes 32 = .ok (.invokestatic 87, 3) := by decide +kernel
theorem dL_changes_35 : decode cL_changes 35 = .ok (.iadd, 1) := by decide +kernel
theorem dL_changes_36 : decode cL_changes 36 = .ok (.istore 7, 2) := by decide +kernel
theorem dL_changes_38 : decode cL_changes 38 = .ok (.iload_n 3, 1) := by decide +kernel
theorem dL_changes_39 : decode cL_changes 39 = .ok (.iload_n 3, 1) := by decide +kernel
theorem dL_changes_40 : decode cL_changes 40 = .ok (.bipush 96, 2) := by decide +kernel
theorem dL_changes_42 : decode cL_changes 42 = .ok (.iand, 1) := by decide +kernel
theorem dL_changes_43 : decode cL_changes 43 = .ok (.ifCond .ne 8, 3) := by decide +kernel
theorem dL_changes_46 : decode cL_changes 46 = .ok (.bipush 8, 2) := by decide +kernel
theorem dL_changes_48 : decode cL_changes 48 = .ok (.goto 4, 3) := by decide +kernel
theorem dL_changes_51 : decode cL_changes 51 = .ok (.iconst 3, 1) := by decide +kernel
theorem dL_changes_52 : decode cL_changes 52 = .ok (.invokestatic 87, 3) := by decide +kernel
theorem dL_changes_55 : decode cL_changes 55 = .ok (.istore 8, 2) := by decide +kernel
theorem dL_changes_57 : decode cL_changes 57 = .ok (.iload_n 3, 1) := by decide +kernel
theorem dL_changes_58 : decode cL_changes 58 = .ok (.bipush 7, 2) := by decide +kernel
theorem dL_changes_60 : decode cL_changes 60 = .ok (.ishr, 1) := by decide +kernel
theorem dL_changes_61 : decode cL_changes 61 = .ok (.iconst 4, 1) := by decide +kernel
theorem dL_changes_62 : decode cL_changes 62 = .ok (.invokestatic 87, 3) := by decide +kernel
theorem dL_changes_65 : decode cL_changes 65 = .ok (.istore 9, 2) := by decide +kernel
theorem dL_changes_67 : decode cL_changes 67 = .ok (.iload_n 1, 1) := by decide +kernel
theorem dL_changes_68 : decode cL_changes 68 = .ok (.bipush 6, 2) := by decide +kernel
theorem dL_changes_70 : decode cL_changes 70 = .ok (.if_icmp .ge 172, 3) := by decide +kernel
theorem dL_changes_73 : decode cL_changes 73 = .ok (.aload_n 0, 1) := by decide +kernel
theorem dL_changes_74 : decode cL_changes 74 = .ok (.bipush 16, 2) := by decide +kernel
theorem dL_changes_76 : decode cL_changes 76 = .ok (.iload 8, 2) := by decide +kernel
theorem dL_changes_78 : decode cL_changes 78 = .ok (.bipush 9, 2) := by decide +kernel
theorem dL_changes_80 : decode cL_changes 80 = .ok (.invokestatic 90, 3) := by decide +kernel
theorem dL_changes_83 : decode cL_changes 83 = .ok (.bipush (-71), 2) := by decide +kernel
theorem dL_changes_85 : decode cL_changes 85 = .ok (.if_icmp .ne 60, 3) := by decide +kernel
theorem dL_changes_88 : decode cL_changes 88 = .ok (.aload_n 0, 1) := by decide +kernel
theorem dL_changes_89 : decode cL_changes 89 = .ok (.iload 7, 2) := by decide +kernel
theorem dL_changes_91 : decode cL_changes 91 = .ok (.bipush 8, 2) := by decide +kernel
theorem dL_changes_93 : decode cL_changes 93 = .ok (.iload 9, 2) := by decide +kernel
theorem dL_changes_95 : decode cL_changes 95 = .ok (.invokestatic 90, 3) := by decide +kernel
theorem dL_changes_98 : decode cL_changes 98 = .ok (.bipush (-71), 2) := by decide +kernel
theorem dL_changes_100 : decode cL_changes 100 = .ok (.if_icmp .ne 45, 3) := by decide +kernel
theorem dL_changes_103 : decode cL_changes 103 = .ok (.aload_n 0, 1) := by decide +kernel
theorem dL_changes_104 : decode cL_changes 104 = .ok (.iconst (-1), 1) := by decide +kernel
theorem dL_changes_105 : decode cL_changes 105 = .ok (.iload 8, 2) := by decide +kernel
theorem dL_changes_107 : decode cL_changes 107 = .ok (.iload 9, 2) := by decide +kernel
theorem dL_changes_109 : decode cL_changes 109 = .ok (.invokestatic 90, 3) := by decide +kernel
theorem dL_changes_112 : decode cL_changes 112 = .ok (.bipush (-71), 2) := by decide +kernel
theorem dL_changes_114 : decode cL_changes 114 = .ok (.if_icmp .ne 31, 3) := by decide +kernel
theorem dL_changes_117 : decode cL_changes 117 = .ok (.aload_n 0, 1) := by decide +kernel
theorem dL_changes_118 : decode cL_changes 118 = .ok (.iload 7, 2) := by decide +kernel
theorem dL_changes_120 : decode cL_changes 120 = .ok (.iload 8, 2) := by decide +kernel
theorem dL_changes_122 : decode cL_changes 122 = .ok (.iconst 4, 1) := by decide +kernel
theorem dL_changes_123 : decode cL_changes 123 = .ok (.invokestatic 90, 3) := by decide +kernel
theorem dL_changes_126 : decode cL_changes 126 = .ok (.bipush (-72), 2) := by decide +kernel
theorem dL_changes_128 : decode cL_changes 128 = .ok (.if_icmp .ne 17, 3) := by decide +kernel
theorem dL_changes_131 : decode cL_changes 131 = .ok (.aload_n 0, 1) := by decide +kernel
theorem dL_changes_132 : decode cL_changes 132 = .ok (.iload 7, 2) := by decide +kernel
theorem dL_changes_134 : decode cL_changes 134 = .ok (.iload 8, 2) := by decide +kernel
theorem dL_changes_136 : decode cL_changes 136 = .ok (.iconst (-1), 1) := by decide +kernel
theorem dL_changes_137 : decode cL_changes 137 = .ok (.invokestatic 90, 3) := by decide +kernel
theorem dL_changes_140 : decode cL_changes 140 = .ok (.bipush (-72), 2) := by decide +kernel
theorem dL_changes_142 : decode cL_changes 142 = .ok (.if_icmp .eq 5, 3) := by decide +kernel
theorem dL_changes_145 : decode cL_changes 145 = .ok (.iconst 0, 1) := by decide +kernel
theorem dL_changes_146 : decode cL_changes 146 = .ok (.ireturn, 1) := by decide +kernel
theorem dL_changes_147 : decode cL_changes 147 = .ok (.aload 6, 2) := by decide +kernel
theorem dL_changes_149 : decode cL_changes 149 = .ok (.iconst 1, 1) := by decide +kernel
theorem dL_changes_150 : decode cL_changes 150 = .ok (.iaload, 1) := by decide +kernel
theorem dL_changes_151 : decode cL_changes 151 = .ok (.bipush 16, 2) := by decide +kernel
theorem dL_changes_153 : decode cL_changes 153 = .ok (.if_icmp .ne 18, 3) := by decide +kernel
theorem dL_changes_156 : decode cL_changes 156 = .ok (.aload_n 0, 1) := by decide +kernel
theorem dL_changes_157 : decode cL_changes 157 = .ok (.invokevirtual 93, 3) := by decide +kernel
theorem dL_changes_160 : decode cL_changes 160 = .ok (.bipush 16, 2) := by decide +kernel
theorem dL_changes_162 : decode cL_changes 162 = .ok (.if_icmp .ne 7, 3) := by decide +kernel
theorem dL_changes_165 : decode cL_changes 165 = .ok (.iconst 1, 1) := by decide +kernel
theorem dL_changes_166 : decode cL_changes 166 = .ok (.goto 4, 3) := by decide +kernel
theorem dL_changes_169 : decode cL_changes 169 = .ok (.iconst 0, 1) := by decide +kernel
theorem dL_changes_170 : decode cL_changes 170 = .ok (.ireturn, 1) := by decide +kernel
theorem dL_changes_171 : decode cL_changes 171 = .ok (.aload 4, 2) := by decide +kernel
theorem dL_changes_173 : decode cL_changes 173 = .ok (.aload 5, 2) := by decide +kernel
theorem dL_changes_175 : decode cL_changes 175 = .ok (.aload 6, 2) := by decide +kernel
theorem dL_changes_177 : decode cL_changes 177 = .ok (.invokestatic 96, 3) := by decide +kernel
theorem dL_changes_180 : decode cL_changes 180 = .ok (.aload 4, 2) := by decide +kernel
theorem dL_changes_182 : decode cL_changes 182 = .ok (.aload 6, 2) := by decide +kernel
theorem dL_changes_184 : decode cL_changes 184 = .ok (.iconst 0, 1) := by decide +kernel
theorem dL_changes_185 : decode cL_changes 185 = .ok (.iaload, 1) := by decide +kernel
theorem dL_changes_186 : decode cL_changes 186 = .ok (.iload 7, 2) := by decide +kernel
theorem dL_changes_188 : decode cL_changes 188 = .ok (.aload 4, 2) := by decide +kernel
theorem dL_changes_190 : decode cL_changes 190 = .ok (.aload 6, 2) := by decide +kernel
theorem dL_changes_192 : decode cL_changes 192 = .ok (.iconst 0, 1) := by decide +kernel
theorem dL_changes_193 : decode cL_changes 193 = .ok (.iaload, 1) := by decide +kernel
theorem dL_changes_194 : decode cL_changes 194 = .ok (.iload 7, 2) := by decide +kernel
theorem dL_changes_196 : decode cL_changes 196 = .ok (.invokestatic 72, 3) := by decide +kernel
theorem dL_changes_199 : decode cL_changes 199 = .ok (.iconst 3, 1) := by decide +kernel
theorem dL_changes_200 : decode cL_changes 200 = .ok (.iconst 2, 1) := by decide +kernel
theorem dL_changes_201 : decode cL_changes 201 = .ok (.iload 8, 2) := by decide +kernel
theorem dL_changes_203 : decode cL_changes 203 = .ok (.imul, 1) := by decide +kernel
theorem dL_changes_204 : decode cL_changes 204 = .ok (.ishl, 1) := by decide +kernel
theorem dL_changes_205 : decode cL_changes 205 = .ok (.iconst (-1), 1) := by decide +kernel
theorem dL_changes_206 : decode cL_changes 206 = .ok (.ixor, 1) := by decide +kernel
theorem dL_changes_207 : decode cL_changes 207 = .ok (.iand, 1) := by decide +kernel
theorem dL_changes_208 : decode cL_changes 208 = .ok (.iload 9, 2) := by decide +kernel
theorem dL_changes_210 : decode cL_changes 210 = .ok (.iconst 2, 1) := by decide +kernel
theorem dL_changes_211 : decode cL_changes 211 = .ok (.iload 8, 2) := by decide +kernel
theorem dL_changes_213 : decode cL_changes 213 = .ok (.imul, 1) := by decide +kernel
theorem dL_changes_214 : decode cL_changes 214 = .ok (.ishl, 1) := by decide +kernel
theorem dL_changes_215 : decode cL_changes 215 = .ok (.ior, 1) := by decide +kernel
theorem dL_changes_216 : decode cL_changes 216 = .ok (.invokestatic 100, 3) := by decide +kernel
theorem dL_changes_219 : decode cL_changes 219 = .ok (.aload_n 0, 1) := by decide +kernel
theorem dL_changes_220 : decode cL_changes 220 = .ok (.iload 7, 2) := by decide +kernel
theorem dL_changes_222 : decode cL_changes 222 = .ok (.iload 8, 2) := by decide +kernel
theorem dL_changes_224 : decode cL_changes 224 = .ok (.iload 9, 2) := by decide +kernel
theorem dL_changes_226 : decode cL_changes 226 = .ok (.invokestatic 90, 3) := by decide +kernel
theorem dL_changes_229 : decode cL_changes 229 = .ok (.aload 6, 2) := by decide +kernel
theorem dL_changes_231 : decode cL_changes 231 = .ok (.iconst 0, 1) := by decide +kernel
theorem dL_changes_232 : decode cL_changes 232 = .ok (.iaload, 1) := by decide +kernel
theorem dL_changes_233 : decode cL_changes 233 = .ok (.if_icmp .ne 7, 3) := by decide +kernel
theorem dL_changes_236 : decode cL_changes 236 = .ok (.iconst 1, 1) := by decide +kernel
theorem dL_changes_237 : decode cL_changes 237 = .ok (.goto 4, 3) := by decide +kernel
theorem dL_changes_240 : decode cL_changes 240 = .ok (.iconst 0, 1) := by decide +kernel
theorem dL_changes_241 : decode cL_changes 241 = .ok (.ireturn, 1) := by decide +kernel
theorem dL_changes_242 : decode cL_changes 242 = .ok (.iload_n 1, 1) := by decide +kernel
theorem dL_changes_243 : decode cL_changes 243 = .ok (.bipush 9, 2) := by decide +kernel
theorem dL_changes_245 : decode cL_changes 245 = .ok (.if_icmp .ge 181, 3) := by decide +kernel
theorem dL_changes_248 : decode cL_changes 248 = .ok (.iload_n 3, 1) := by decide +kernel
theorem dL_changes_249 : decode cL_changes 249 = .ok (.bipush 10, 2) := by decide +kernel
theorem dL_changes_251 : decode cL_changes 251 = .ok (.ishr, 1) := by decide +kernel
theorem dL_changes_252 : decode cL_changes 252 = .ok (.bipush 9, 2) := by decide +kernel
theorem dL_changes_254 : decode cL_changes 254 = .ok (.invokestatic 87, 3) := by decide +kernel
theorem dL_changes_257 : decode cL_changes 257 = .ok (.istore 10, 2) := by decide +kernel
theorem dL_changes_259 : decode cL_changes 259 = .ok (.iconst 1, 1) := by decide +kernel
theorem dL_changes_260 : decode cL_changes 260 = .ok (.iload_n 3, 1) := by decide +kernel
theorem dL_changes_261 : decode cL_changes 261 = .ok (.bipush 14, 2) := by decide +kernel
theorem dL_changes_263 : decode cL_changes 263 = .ok (.ishr, 1) := by decide +kernel
theorem dL_changes_264 : decode cL_changes 264 = .ok (.iconst 3, 1) := by decide +kernel
theorem dL_changes_265 : decode cL_changes 265 = .ok (.invokestatic 87, 3) := by decide +kernel
theorem dL_changes_268 : decode cL_changes 268 = .ok (.iadd, 1) := by decide +kernel
theorem dL_changes_269 : decode cL_changes 269 = .ok (.istore 11, 2) := by decide +kernel
theorem dL_changes_271 : decode cL_changes 271 = .ok (.aload_n 0, 1) := by decide +kernel
theorem dL_changes_272 : decode cL_changes 272 = .ok (.bipush 16, 2) := by decide +kernel
theorem dL_changes_274 : decode cL_changes 274 = .ok (.iload 10, 2) := by decide +kernel
theorem dL_changes_276 : decode cL_changes 276 = .ok (.iconst 0, 1) := by decide +kernel
theorem dL_changes_277 : decode cL_changes 277 = .ok (.invokestatic 104, 3) := by decide +kernel
theorem dL_changes_280 : decode cL_changes 280 = .ok (.bipush (-71), 2) := by decide +kernel
theorem dL_changes_282 : decode cL_changes 282 = .ok (.if_icmp .ne 60, 3) := by decide +kernel
theorem dL_changes_285 : decode cL_changes 285 = .ok (.aload_n 0, 1) := by decide +kernel
theorem dL_changes_286 : decode cL_changes 286 = .ok (.iload 7, 2) := by decide +kernel
theorem dL_changes_288 : decode cL_changes 288 = .ok (.bipush 9, 2) := by decide +kernel
theorem dL_changes_290 : decode cL_changes 290 = .ok (.iload 11, 2) := by decide +kernel
theorem dL_changes_292 : decode cL_changes 292 = .ok (.invokestatic 104, 3) := by decide +kernel
theorem dL_changes_295 : decode cL_changes 295 = .ok (.bipush (-72), 2) := by decide +kernel
theorem dL_changes_297 : decode cL_changes 297 = .ok (.if_icmp .ne 45, 3) := by decide +kernel
theorem dL_changes_300 : decode cL_changes 300 = .ok (.aload_n 0, 1) := by decide +kernel
theorem dL_changes_301 : decode cL_changes 301 = .ok (.iload 7, 2) := by decide +kernel
theorem dL_changes_303 : decode cL_changes 303 = .ok (.iconst (-1), 1) := by decide +kernel
theorem dL_changes_304 : decode cL_changes 304 = .ok (.iload 11, 2) := by decide +kernel
theorem dL_changes_306 : decode cL_changes 306 = .ok (.invokestatic 104, 3) := by decide +kernel
theorem dL_changes_309 : decode cL_changes 309 = .ok (.bipush (-72), 2) := by decide +kernel
theorem dL_changes_311 : decode cL_changes 311 = .ok (.if_icmp .ne 31, 3) := by decide +kernel
theorem dL_changes_314 : decode cL_changes 314 = .ok (.aload_n 0, 1) := by decide +kernel
theorem dL_changes_315 : decode cL_changes 315 = .ok (.iload 7, 2) := by decide +kernel
theorem dL_changes_317 : decode cL_changes 317 = .ok (.iload 10, 2) := by decide +kernel
theorem dL_changes_319 : decode cL_changes 319 = .ok (.iconst 0, 1) := by decide +kernel
theorem dL_changes_320 : decode cL_changes 320 = .ok (.invokestatic 104, 3) := by decide +kernel
theorem dL_changes_323 : decode cL_changes 323 = .ok (.bipush (-72), 2) := by decide +kernel
theorem dL_changes_325 : decode cL_changes 325 = .ok (.if_icmp .ne 17, 3) := by decide +kernel
theorem dL_changes_328 : decode cL_changes 328 = .ok (.aload_n 0, 1) := by decide +kernel
theorem dL_changes_329 : decode cL_changes 329 = .ok (.iload 7, 2) := by decide +kernel
theorem dL_changes_331 : decode cL_changes 331 = .ok (.iload 10, 2) := by decide +kernel
theorem dL_changes_333 : decode cL_changes 333 = .ok (.iconst 4, 1) := by decide +kernel
theorem dL_changes_334 : decode cL_changes 334 = .ok (.invokestatic 104, 3) := by decide +kernel
theorem dL_changes_337 : decode cL_changes 337 = .ok (.bipush (-72), 2) := by decide +kernel
theorem dL_changes_339 : decode cL_changes 339 = .ok (.if_icmp .eq 5, 3) := by decide +kernel
theorem dL_changes_342 : decode cL_changes 342 = .ok (.iconst 0, 1) := by decide +kernel
theorem dL_changes_343 : decode cL_changes 343 = .ok (.ireturn, 1) := by decide +kernel
theorem dL_changes_344 : decode cL_changes 344 = .ok (.aload 6, 2) := by decide +kernel
theorem dL_changes_346 : decode cL_changes 346 = .ok (.iconst 1, 1) := by decide +kernel
theorem dL_changes_347 : decode cL_changes 347 = .ok (.iaload, 1) := by decide +kernel
theorem dL_changes_348 : decode cL_changes 348 = .ok (.bipush 16, 2) := by decide +kernel
theorem dL_changes_350 : decode cL_changes 350 = .ok (.if_icmp .ne 18, 3) := by decide +kernel
theorem dL_changes_353 : decode cL_changes 353 = .ok (.aload_n 0, 1) := by decide +kernel
theorem dL_changes_354 : decode cL_changes 354 = .ok (.invokevirtual 93, 3) := by decide +kernel
theorem dL_changes_357 : decode cL_changes 357 = .ok (.bipush 16, 2) := by decide +kernel
theorem dL_changes_359 : decode cL_changes 359 = .ok (.if_icmp .ne 7, 3) := by decide +kernel
theorem dL_changes_362 : decode cL_changes 362 = .ok (.iconst 1, 1) := by decide +kernel
theorem dL_changes_363 : decode cL_changes 363 = .ok (.goto 4, 3) := by decide +kernel
theorem dL_changes_366 : decode cL_changes 366 = .ok (.iconst 0, 1) := by decide +kernel
theorem dL_changes_367 : decode cL_changes 367 = .ok (.ireturn, 1) := by decide +kernel
theorem dL_changes_368 : decode cL_changes 368 = .ok (.aload 4, 2) := by decide +kernel
theorem dL_changes_370 : decode cL_changes 370 = .ok (.aload 5, 2) := by decide +kernel
theorem dL_changes_372 : decode cL_changes 372 = .ok (.aload 6, 2) := by decide +kernel
theorem dL_changes_374 : decode cL_changes 374 = .ok (.invokestatic 96, 3) := by decide +kernel
theorem dL_changes_377 : decode cL_changes 377 = .ok (.aload 4, 2) := by decide +kernel
theorem dL_changes_379 : decode cL_changes 379 = .ok (.aload 6, 2) := by decide +kernel
theorem dL_changes_381 : decode cL_changes 381 = .ok (.iconst 0, 1) := by decide +kernel
theorem dL_changes_382 : decode cL_changes 382 = .ok (.iaload, 1) := by decide +kernel
theorem dL_changes_383 : decode cL_changes 383 = .ok (.iload 7, 2) := by decide +kernel
theorem dL_changes_385 : decode cL_changes 385 = .ok (.iload 11, 2) := by decide +kernel
theorem dL_changes_387 : decode cL_changes 387 = .ok (.sipush 21845, 3) := by decide +kernel
theorem dL_changes_390 : decode cL_changes 390 = .ok (.imul, 1) := by decide +kernel
theorem dL_changes_391 : decode cL_changes 391 = .ok (.iconst 1, 1) := by decide +kernel
theorem dL_changes_392 : decode cL_changes 392 = .ok (.iconst 2, 1) := by decide +kernel
theorem dL_changes_393 : decode cL_changes 393 = .ok (.iload 10, 2) := by decide +kernel
theorem dL_changes_395 : decode cL_changes 395 = .ok (.imul, 1) := by decide +kernel
theorem dL_changes_396 : decode cL_changes 396 = .ok (.ishl, 1) := by decide +kernel
theorem dL_changes_397 : decode cL_changes 397 = .ok (.iconst 1, 1) := by decide +kernel
theorem dL_changes_398 : decode cL_changes 398 = .ok (.isub, 1) := by decide +kernel
theorem dL_changes_399 : decode cL_changes 399 = .ok (.iand, 1) := by decide +kernel
theorem dL_changes_400 : decode cL_changes 400 = .ok (.invokestatic 100, 3) := by decide +kernel
theorem dL_changes_403 : decode cL_changes 403 = .ok (.aload_n 0, 1) := by decide +kernel
theorem dL_changes_404 : decode cL_changes 404 = .ok (.iload 7, 2) := by decide +kernel
theorem dL_changes_406 : decode cL_changes 406 = .ok (.iload 10, 2) := by decide +kernel
theorem dL_changes_408 : decode cL_changes 408 = .ok (.iload 11, 2) := by decide +kernel
theorem dL_changes_410 : decode cL_changes 410 = .ok (.invokestatic 104, 3) := by decide +kernel
theorem dL_changes_413 : decode cL_changes 413 = .ok (.aload 6, 2) := by decide +kernel
theorem dL_changes_415 : decode cL_changes 415 = .ok (.iconst 0, 1) := by decide +kernel
theorem dL_changes_416 : decode cL_changes 416 = .ok (.iaload, 1) := by decide +kernel
theorem dL_changes_417 : decode cL_changes 417 = .ok (.if_icmp .ne 7, 3) := by decide +kernel
theorem dL_changes_420 : decode cL_changes 420 = .ok (.iconst 1, 1) := by decide +kernel
theorem dL_changes_421 : decode cL_changes 421 = .ok (.goto 4, 3) := by decide +kernel
theorem dL_changes_424 : decode cL_changes 424 = .ok (.iconst 0, 1) := by decide +kernel
theorem dL_changes_425 : decode cL_changes 425 = .ok (.ireturn, 1) := by decide +kernel
theorem dL_changes_426 : decode cL_changes 426 = .ok (.iload_n 1, 1) := by decide +kernel
theorem dL_changes_427 : decode cL_changes 427 = .ok (.bipush 9, 2) := by decide +kernel
theorem dL_changes_429 : decode cL_changes 429 = .ok (.if_icmp .ne 149, 3) := by decide +kernel
theorem dL_changes_432 : decode cL_changes 432 = .ok (.aload_n 0, 1) := by decide +kernel
theorem dL_changes_433 : decode cL_changes 433 = .ok (.bipush 8, 2) := by decide +kernel
theorem dL_changes_435 : decode cL_changes 435 = .ok (.iconst 5, 1) := by decide +kernel
theorem dL_changes_436 : decode cL_changes 436 = .ok (.invokestatic 106, 3) := by decide +kernel
theorem dL_changes_439 : decode cL_changes 439 = .ok (.bipush (-71), 2) := by decide +kernel
theorem dL_changes_441 : decode cL_changes 441 = .ok (.if_icmp .ne 26, 3) := by decide +kernel
theorem dL_changes_444 : decode cL_changes 444 = .ok (.aload_n 0, 1) := by decide +kernel
theorem dL_changes_445 : decode cL_changes 445 = .ok (.iconst (-1), 1) := by decide +kernel
theorem dL_changes_446 : decode cL_changes 446 = .ok (.iconst 0, 1) := by decide +kernel
theorem dL_changes_447 : decode cL_changes 447 = .ok (.invokestatic 106, 3) := by decide +kernel
theorem dL_changes_450 : decode cL_changes 450 = .ok (.bipush (-71), 2) := by decide +kernel
theorem dL_changes_452 : decode cL_changes 452 = .ok (.if_icmp .ne 15, 3) := by decide +kernel
theorem dL_changes_455 : decode cL_changes 455 = .ok (.aload_n 0, 1) := by decide +kernel
theorem dL_changes_456 : decode cL_changes 456 = .ok (.iload 8, 2) := by decide +kernel
theorem dL_changes_458 : decode cL_changes 458 = .ok (.iconst 4, 1) := by decide +kernel
theorem dL_changes_459 : decode cL_changes 459 = .ok (.invokestatic 106, 3) := by decide +kernel
theorem dL_changes_462 : decode cL_changes 462 = .ok (.bipush (-72), 2) := by decide +kernel
theorem dL_changes_464 : decode cL_changes 464 = .ok (.if_icmp .eq 5, 3) := by decide +kernel
theorem dL_changes_467 : decode cL_changes 467 = .ok (.iconst 0, 1) := by decide +kernel
theorem dL_changes_468 : decode cL_changes 468 = .ok (.ireturn, 1) := by decide +kernel
theorem dL_changes_469 : decode cL_changes 469 = .ok (.aload 6, 2) := by decide +kernel
theorem dL_changes_471 : decode cL_changes 471 = .ok (.iconst 1, 1) := by decide +kernel
theorem dL_changes_472 : decode cL_changes 472 = .ok (.iaload, 1) := by decide +kernel
theorem dL_changes_473 : decode cL_changes 473 = .ok (.bipush 16, 2) := by decide +kernel
theorem dL_changes_475 : decode cL_changes 475 = .ok (.if_icmp .ne 18, 3) := by decide +kernel
theorem dL_changes_478 : decode cL_changes 478 = .ok (.aload_n 0, 1) := by decide +kernel
theorem dL_changes_479 : decode cL_changes 479 = .ok (.invokevirtual 93, 3) := by decide +kernel
theorem dL_changes_482 : decode cL_changes 482 = .ok (.bipush 16, 2) := by decide +kernel
theorem dL_changes_484 : decode cL_changes 484 = .ok (.if_icmp .ne 7, 3) := by decide +kernel
theorem dL_changes_487 : decode cL_changes 487 = .ok (.iconst 1, 1) := by decide +kernel
theorem dL_changes_488 : decode cL_changes 488 = .ok (.goto 4, 3) := by decide +kernel
theorem dL_changes_491 : decode cL_changes 491 = .ok (.iconst 0, 1) := by decide +kernel
theorem dL_changes_492 : decode cL_changes 492 = .ok (.ireturn, 1) := by decide +kernel
theorem dL_changes_493 : decode cL_changes 493 = .ok (.aload 4, 2) := by decide +kernel
theorem dL_changes_495 : decode cL_changes 495 = .ok (.aload 5, 2) := by decide +kernel
theorem dL_changes_497 : decode cL_changes 497 = .ok (.aload 6, 2) := by decide +kernel
theorem dL_changes_499 : decode cL_changes 499 = .ok (.invokestatic 96, 3) := by decide +kernel
theorem dL_changes_502 : decode cL_changes 502 = .ok (.iconst 0, 1) := by decide +kernel
theorem dL_changes_503 : decode cL_changes 503 = .ok (.istore 10, 2) := by decide +kernel
theorem dL_changes_505 : decode cL_changes 505 = .ok (.iload 10, 2) := by decide +kernel
theorem dL_changes_507 : decode cL_changes 507 = .ok (.bipush 16, 2) := by decide +kernel
theorem dL_changes_509 : decode cL_changes 509 = .ok (.if_icmp .ge 48, 3) := by decide +kernel
theorem dL_changes_512 : decode cL_changes 512 = .ok (.aload 4, 2) := by decide +kernel
theorem dL_changes_514 : decode cL_changes 514 = .ok (.aload 6, 2) := by decide +kernel
theorem dL_changes_516 : decode cL_changes 516 = .ok (.iconst 0, 1) := by decide +kernel
theorem dL_changes_517 : decode cL_changes 517 = .ok (.iaload, 1) := by decide +kernel
theorem dL_changes_518 : decode cL_changes 518 = .ok (.iload 10, 2) := by decide +kernel
theorem dL_changes_520 : decode cL_changes 520 = .ok (.aload 4, 2) := by decide +kernel
theorem dL_changes_522 : decode cL_changes 522 = .ok (.aload 6, 2) := by decide +kernel
theorem dL_changes_524 : decode cL_changes 524 = .ok (.iconst 0, 1) := by decide +kernel
theorem dL_changes_525 : decode cL_changes 525 = .ok (.iaload, 1) := by decide +kernel
theorem dL_changes_526 : decode cL_changes 526 = .ok (.iload 10, 2) := by decide +kernel
theorem dL_changes_528 : decode cL_changes 528 = .ok (.invokestatic 72, 3) := by decide +kernel
theorem dL_changes_531 : decode cL_changes 531 = .ok (.iconst 3, 1) := by decide +kernel
theorem dL_changes_532 : decode cL_changes 532 = .ok (.iconst 2, 1) := by decide +kernel
theorem dL_changes_533 : decode cL_changes 533 = .ok (.iload 8, 2) := by decide +kernel
theorem dL_changes_535 : decode cL_changes 535 = .ok (.imul, 1) := by decide +kernel
theorem dL_changes_536 : decode cL_changes 536 = .ok (.ishl, 1) := by decide +kernel
theorem dL_changes_537 : decode cL_changes 537 = .ok (.iconst (-1), 1) := by decide +kernel
theorem dL_changes_538 : decode cL_changes 538 = .ok (.ixor, 1) := by decide +kernel
theorem dL_changes_539 : decode cL_changes 539 = .ok (.iand, 1) := by decide +kernel
theorem dL_changes_540 : decode cL_changes 540 = .ok (.iload 9, 2) := by decide +kernel
theorem dL_changes_542 : decode cL_changes 542 = .ok (.iconst 2, 1) := by decide +kernel
theorem dL_changes_543 : decode cL_changes 543 = .ok (.iload 8, 2) := by decide +kernel
theorem dL_changes_545 : decode cL_changes 545 = .ok (.imul, 1) := by decide +kernel
theorem dL_changes_546 : decode cL_changes 546 = .ok (.ishl, 1) := by decide +kernel
theorem dL_changes_547 : decode cL_changes 547 = .ok (.ior, 1) := by decide +kernel
theorem dL_changes_548 : decode cL_changes 548 = .ok (.invokestatic 100, 3) := by decide +kernel
theorem dL_changes_551 : decode cL_changes 551 = .ok (.iinc 10 1, 3) := by decide +kernel
theorem dL_changes_554 : decode cL_changes 554 = .ok (.goto (-49), 3) := by decide +kernel
theorem dL_changes_557 : decode cL_changes 557 = .ok (.aload_n 0, 1) := by decide +kernel
theorem dL_changes_558 : decode cL_changes 558 = .ok (.iload 8, 2) := by decide +kernel
theorem dL_changes_560 : decode cL_changes 560 = .ok (.iload 9, 2) := by decide +kernel
theorem dL_changes_562 : decode cL_changes 562 = .ok (.invokestatic 106, 3) := by decide +kernel
theorem dL_changes_565 : decode cL_changes 565 = .ok (.aload 6, 2) := by decide +kernel
theorem dL_changes_567 : decode cL_changes 567 = .ok (.iconst 0, 1) := by decide +kernel
theorem dL_changes_568 : decode cL_changes 568 = .ok (.iaload, 1) := by decide +kernel
theorem dL_changes_569 : decode cL_changes 569 = .ok (.if_icmp .ne 7, 3) := by decide +kernel
theorem dL_changes_572 : decode cL_changes 572 = .ok (.iconst 1, 1) := by decide +kernel
theorem dL_changes_573 : decode cL_changes 573 = .ok (.goto 4, 3) := by decide +kernel
theorem dL_changes_576 : decode cL_changes 576 = .ok (.iconst 0, 1) := by decide +kernel
theorem dL_changes_577 : decode cL_changes 577 = .ok (.ireturn, 1) := by decide +kernel
theorem dL_changes_578 : decode cL_changes 578 = .ok (.aload 6, 2) := by decide +kernel
theorem dL_changes_580 : decode cL_changes 580 = .ok (.iconst 0, 1) := by decide +kernel
theorem dL_changes_581 : decode cL_changes 581 = .ok (.iaload, 1) := by decide +kernel
theorem dL_changes_582 : decode cL_changes 582 = .ok (.istore 10, 2) := by decide +kernel
theorem dL_changes_584 : decode cL_changes 584 = .ok (.iload_n 1, 1) := by decide +kernel
theorem dL_changes_585 : decode cL_changes 585 = .ok (.bipush 10, 2) := by decide +kernel
theorem dL_changes_587 : decode cL_changes 587 = .ok (.if_icmp .ne 74, 3) := by decide +kernel
theorem dL_changes_590 : decode cL_changes 590 = .ok (.iload_n 2, 1) := by decide +kernel
theorem dL_changes_591 : decode cL_changes 591 = .ok (.aload 6, 2) := by decide +kernel
theorem dL_changes_593 : decode cL_changes 593 = .ok (.iconst 1, 1) := by decide +kernel
theorem dL_changes_594 : decode cL_changes 594 = .ok (.iaload, 1) := by decide +kernel
theorem dL_changes_595 : decode cL_changes 595 = .ok (.iconst 1, 1) := by decide +kernel
theorem dL_changes_596 : decode cL_changes 596 = .ok (.iadd, 1) := by decide +kernel
theorem dL_changes_597 : decode cL_changes 597 = .ok (.invokestatic 87, 3) := by decide +kernel
theorem dL_changes_600 : decode cL_changes 600 = .ok (.istore 11, 2) := by decide +kernel
theorem dL_changes_602 : decode cL_changes 602 = .ok (.iload 11, 2) := by decide +kernel
theorem dL_changes_604 : decode cL_changes 604 = .ok (.aload 6, 2) := by decide +kernel
theorem dL_changes_606 : decode cL_changes 606 = .ok (.iconst 1, 1) := by decide +kernel
theorem dL_changes_607 : decode cL_changes 607 = .ok (.iaload, 1) := by decide +kernel
theorem dL_changes_608 : decode cL_changes 608 = .ok (.if_icmp .ne 30, 3) := by decide +kernel
theorem dL_changes_611 : decode cL_changes 611 = .ok (.aload_n 0, 1) := by decide +kernel
theorem dL_changes_612 : decode cL_changes 612 = .ok (.iload 11, 2) := by decide +kernel
theorem dL_changes_614 : decode cL_changes 614 = .ok (.invokestatic 109, 3) := by decide +kernel
theorem dL_changes_617 : decode cL_changes 617 = .ok (.bipush (-71), 2) := by decide +kernel
theorem dL_changes_619 : decode cL_changes 619 = .ok (.if_icmp .ne 17, 3) := by decide +kernel
theorem dL_changes_622 : decode cL_changes 622 = .ok (.aload_n 0, 1) := by decide +kernel
theorem dL_changes_623 : decode cL_changes 623 = .ok (.iconst (-1), 1) := by decide +kernel
theorem dL_changes_624 : decode cL_changes 624 = .ok (.invokestatic 109, 3) := by decide +kernel
theorem dL_changes_627 : decode cL_changes 627 = .ok (.bipush (-71), 2) := by decide +kernel
theorem dL_changes_629 : decode cL_changes 629 = .ok (.if_icmp .ne 7, 3) := by decide +kernel
theorem dL_changes_632 : decode cL_changes 632 = .ok (.iconst 1, 1) := by decide +kernel
theorem dL_changes_633 : decode cL_changes 633 = .ok (.goto 4, 3) := by decide +kernel
theorem dL_changes_636 : decode cL_changes 636 = .ok (.iconst 0, 1) := by decide +kernel
theorem dL_changes_637 : decode cL_changes 637 = .ok (.ireturn, 1) := by decide +kernel
theorem dL_changes_638 : decode cL_changes 638 = .ok (.aload 6, 2) := by decide +kernel
theorem dL_changes_640 : decode cL_changes 640 = .ok (.iconst 0, 1) := by decide +kernel
theorem dL_changes_641 : decode cL_changes 641 = .ok (.iload 11, 2) := by decide +kernel
theorem dL_changes_643 : decode cL_changes 643 = .ok (.iastore, 1) := by decide +kernel
theorem dL_changes_644 : decode cL_changes 644 = .ok (.aload_n 0, 1) := by decide +kernel
theorem dL_changes_645 : decode cL_changes 645 = .ok (.iload 11, 2) := by decide +kernel
theorem dL_changes_647 : decode cL_changes 647 = .ok (.invokestatic 109, 3) := by decide +kernel
theorem dL_changes_650 : decode cL_changes 650 = .ok (.iload 10, 2) := by decide +kernel
theorem dL_changes_652 : decode cL_changes 652 = .ok (.if_icmp .ne 7, 3) := by decide +kernel
theorem dL_changes_655 : decode cL_changes 655 = .ok (.iconst 1, 1) := by decide +kernel
theorem dL_changes_656 : decode cL_changes 656 = .ok (.goto 4, 3) := by decide +kernel
theorem dL_changes_659 : decode cL_changes 659 = .ok (.iconst 0, 1) := by decide +kernel
theorem dL_changes_660 : decode cL_changes 660 = .ok (.ireturn, 1) := by decide +kernel
theorem dL_changes_661 : decode cL_changes 661 = .ok (.iload_n 1, 1) := by decide +kernel
theorem dL_changes_662 : decode cL_changes 662 = .ok (.bipush 11, 2) := by decide +kernel
theorem dL_changes_664 : decode cL_changes 664 = .ok (.if_icmp .ne 50, 3) := by decide +kernel
theorem dL_changes_667 : decode cL_changes 667 = .ok (.iload 10, 2) := by decide +kernel
theorem dL_changes_669 : decode cL_changes 669 = .ok (.ifCond .ne 18, 3) := by decide +kernel
theorem dL_changes_672 : decode cL_changes 672 = .ok (.aload_n 0, 1) := by decide +kernel
theorem dL_changes_673 : decode cL_changes 673 = .ok (.invokestatic 112, 3) := by decide +kernel
theorem dL_changes_676 : decode cL_changes 676 = .ok (.bipush (-73), 2) := by decide +kernel
theorem dL_changes_678 : decode cL_changes 678 = .ok (.if_icmp .ne 7, 3) := by decide +kernel
theorem dL_changes_681 : decode cL_changes 681 = .ok (.iconst 1, 1) := by decide +kernel
theorem dL_changes_682 : decode cL_changes 682 = .ok (.goto 4, 3) := by decide +kernel
theorem dL_changes_685 : decode cL_changes 685 = .ok (.iconst 0, 1) := by decide +kernel
theorem dL_changes_686 : decode cL_changes 686 = .ok (.ireturn, 1) := by decide +kernel
theorem dL_changes_687 : decode cL_changes 687 = .ok (.aload 6, 2) := by decide +kernel
theorem dL_changes_689 : decode cL_changes 689 = .ok (.iconst 0, 1) := by decide +kernel
theorem dL_changes_690 : decode cL_changes 690 = .ok (.aload 5, 2) := by decide +kernel
theorem dL_changes_692 : decode cL_changes 692 = .ok (.iload 10, 2) := by decide +kernel
theorem dL_changes_694 : decode cL_changes 694 = .ok (.iaload, 1) := by decide +kernel
theorem dL_changes_695 : decode cL_changes 695 = .ok (.iastore, 1) := by decide +kernel
theorem dL_changes_696 : decode cL_changes 696 = .ok (.aload_n 0, 1) := by decide +kernel
theorem dL_changes_697 : decode cL_changes 697 = .ok (.invokestatic 112, 3) := by decide +kernel
theorem dL_changes_700 : decode cL_changes 700 = .ok (.aload 5, 2) := by decide +kernel
theorem dL_changes_702 : decode cL_changes 702 = .ok (.iload 10, 2) := by decide +kernel
theorem dL_changes_704 : decode cL_changes 704 = .ok (.iaload, 1) := by decide +kernel
theorem dL_changes_705 : decode cL_changes 705 = .ok (.if_icmp .ne 7, 3) := by decide +kernel
theorem dL_changes_708 : decode cL_changes 708 = .ok (.iconst 1, 1) := by decide +kernel
theorem dL_changes_709 : decode cL_changes 709 = .ok (.goto 4, 3) := by decide +kernel
theorem dL_changes_712 : decode cL_changes 712 = .ok (.iconst 0, 1) := by decide +kernel
theorem dL_changes_713 : decode cL_changes 713 = .ok (.ireturn, 1) := by decide +kernel
theorem dL_changes_714 : decode cL_changes 714 = .ok (.iload_n 2, 1) := by decide +kernel
theorem dL_changes_715 : decode cL_changes 715 = .ok (.iconst 3, 1) := by decide +kernel
theorem dL_changes_716 : decode cL_changes 716 = .ok (.invokestatic 87, 3) := by decide +kernel
theorem dL_changes_719 : decode cL_changes 719 = .ok (.istore 11, 2) := by decide +kernel
theorem dL_changes_721 : decode cL_changes 721 = .ok (.iconst 0, 1) := by decide +kernel
theorem dL_changes_722 : decode cL_changes 722 = .ok (.istore 12, 2) := by decide +kernel
theorem dL_changes_724 : decode cL_changes 724 = .ok (.iconst 1, 1) := by decide +kernel
theorem dL_changes_725 : decode cL_changes 725 = .ok (.istore 13, 2) := by decide +kernel
theorem dL_changes_727 : decode cL_changes 727 = .ok (.iload 13, 2) := by decide +kernel
theorem dL_changes_729 : decode cL_changes 729 = .ok (.aload 6, 2) := by decide +kernel
theorem dL_changes_731 : decode cL_changes 731 = .ok (.iconst 1, 1) := by decide +kernel
theorem dL_changes_732 : decode cL_changes 732 = .ok (.iaload, 1) := by decide +kernel
theorem dL_changes_733 : decode cL_changes 733 = .ok (.if_icmp .ge 38, 3) := by decide +kernel
theorem dL_changes_736 : decode cL_changes 736 = .ok (.aload 5, 2) := by decide +kernel
theorem dL_changes_738 : decode cL_changes 738 = .ok (.iload 13, 2) := by decide +kernel
theorem dL_changes_740 : decode cL_changes 740 = .ok (.iaload, 1) := by decide +kernel
theorem dL_changes_741 : decode cL_changes 741 = .ok (.iload 10, 2) := by decide +kernel
theorem dL_changes_743 : decode cL_changes 743 = .ok (.if_icmp .eq 6, 3) := by decide +kernel
theorem dL_changes_746 : decode cL_changes 746 = .ok (.goto 19, 3) := by decide +kernel
theorem dL_changes_749 : decode cL_changes 749 = .ok (.iload 12, 2) := by decide +kernel
theorem dL_changes_751 : decode cL_changes 751 = .ok (.iload 11, 2) := by decide +kernel
theorem dL_changes_753 : decode cL_changes 753 = .ok (.if_icmp .ne 9, 3) := by decide +kernel
theorem dL_changes_756 : decode cL_changes 756 = .ok (.aload 6, 2) := by decide +kernel
theorem dL_changes_758 : decode cL_changes 758 = .ok (.iconst 0, 1) := by decide +kernel
theorem dL_changes_759 : decode cL_changes 759 = .ok (.iload 13, 2) := by decide +kernel
theorem dL_changes_761 : decode cL_changes 761 = .ok (.iastore, 1) := by decide +kernel
theorem dL_changes_762 : decode cL_changes 762 = .ok (.iinc 12 1, 3) := by decide +kernel
theorem dL_changes_765 : decode cL_changes 765 = .ok (.iinc 13 1, 3) := by decide +kernel
theorem dL_changes_768 : decode cL_changes 768 = .ok (.goto (-41), 3) := by decide +kernel
theorem dL_changes_771 : decode cL_changes 771 = .ok (.aload_n 0, 1) := by decide +kernel
theorem dL_changes_772 : decode cL_changes 772 = .ok (.invokevirtual 115, 3) := by decide +kernel
theorem dL_changes_775 : decode cL_changes 775 = .ok (.iload 12, 2) := by decide +kernel
theorem dL_changes_777 : decode cL_changes 777 = .ok (.if_icmp .eq 5, 3) := by decide +kernel
theorem dL_changes_780 : decode cL_changes 780 = .ok (.iconst 0, 1) := by decide +kernel
theorem dL_changes_781 : decode cL_changes 781 = .ok (.ireturn, 1) := by decide +kernel
theorem dL_changes_782 : decode cL_changes 782 = .ok (.iload 12, 2) := by decide +kernel
theorem dL_changes_784 : decode cL_changes 784 = .ok (.iload 11, 2) := by decide +kernel
theorem dL_changes_786 : decode cL_changes 786 = .ok (.if_icmp .gt 32, 3) := by decide +kernel
theorem dL_changes_789 : decode cL_changes 789 = .ok (.aload_n 0, 1) := by decide +kernel
theorem dL_changes_790 : decode cL_changes 790 = .ok (.iload 11, 2) := by decide +kernel
theorem dL_changes_792 : decode cL_changes 792 = .ok (.invokestatic 118, 3) := by decide +kernel
theorem dL_changes_795 : decode cL_changes 795 = .ok (.bipush (-71), 2) := by decide +kernel
theorem dL_changes_797 : decode cL_changes 797 = .ok (.if_icmp .ne 17, 3) := by decide +kernel
theorem dL_changes_800 : decode cL_changes 800 = .ok (.aload_n 0, 1) := by decide +kernel
theorem dL_changes_801 : decode cL_changes 801 = .ok (.iconst (-1), 1) := by decide +kernel
theorem dL_changes_802 : decode cL_changes 802 = .ok (.invokestatic 118, 3) := by decide +kernel
theorem dL_changes_805 : decode cL_changes 805 = .ok (.bipush (-71), 2) := by decide +kernel
theorem dL_changes_807 : decode cL_changes 807 = .ok (.if_icmp .ne 7, 3) := by decide +kernel
theorem dL_changes_810 : decode cL_changes 810 = .ok (.iconst 1, 1) := by decide +kernel
theorem dL_changes_811 : decode cL_changes 811 = .ok (.goto 25, 3) := by decide +kernel
theorem dL_changes_814 : decode cL_changes 814 = .ok (.iconst 0, 1) := by decide +kernel
theorem dL_changes_815 : decode cL_changes 815 = .ok (.goto 21, 3) := by decide +kernel
theorem dL_changes_818 : decode cL_changes 818 = .ok (.aload_n 0, 1) := by decide +kernel
theorem dL_changes_819 : decode cL_changes 819 = .ok (.iload 11, 2) := by decide +kernel
theorem dL_changes_821 : decode cL_changes 821 = .ok (.invokestatic 118, 3) := by decide +kernel
theorem dL_changes_824 : decode cL_changes 824 = .ok (.aload 6, 2) := by decide +kernel
theorem dL_changes_826 : decode cL_changes 826 = .ok (.iconst 0, 1) := by decide +kernel
theorem dL_changes_827 : decode cL_changes 827 = .ok (.iaload, 1) := by decide +kernel
theorem dL_changes_828 : decode cL_changes 828 = .ok (.if_icmp .ne 7, 3) := by decide +kernel
theorem dL_changes_831 : decode cL_changes 831 = .ok (.iconst 1, 1) := by decide +kernel
theorem dL_changes_832 : decode cL_changes 832 = .ok (.goto 4, 3) := by decide +kernel
theorem dL_changes_835 : decode cL_changes 835 = .ok (.iconst 0, 1) := by decide +kernel
theorem dL_changes_836 : decode cL_changes 836 = .ok (.ireturn, 1) := by decide +kernel
theorem dL_mints_0 : decode cL_mints 0 = .ok (.iload_n 1, 1) := by decide +kernel
theorem dL_mints_1 : decode cL_mints 1 = .ok (.ifCond .ne 130, 3) := by decide +kernel
theorem dL_mints_4 : decode cL_mints 4 = .ok (.aload 4, 2) := by decide +kernel
theorem dL_mints_6 : decode cL_mints 6 = .ok (.aload 9, 2) := by decide +kernel
theorem dL_mints_8 : decode cL_mints 8 = .ok (.aload 10, 2) := by decide +kernel
theorem dL_mints_10 : decode cL_mints 10 = .ok (.aload 11, 2) := by decide +kernel
theorem dL_mints_12 : decode cL_mints 12 = .ok (.invokestatic 120, 3) := by decide +kernel
theorem dL_mints_15 : decode cL_mints 15 = .ok (.iconst 1, 1) := by decide +kernel
theorem dL_mints_16 : decode cL_mints 16 = .ok (.if_icmp .ne 12, 3) := by decide +kernel
theorem dL_mints_19 : decode cL_mints 19 = .ok (.aload 11, 2) := by decide +kernel
theorem dL_mints_21 : decode cL_mints 21 = .ok (.iconst 2, 1) := by decide +kernel
theorem dL_mints_22 : decode cL_mints 22 = .ok (.iaload, 1) := by decide +kernel
theorem dL_mints_23 : decode cL_mints 23 = .ok (.bipush 8, 2) := by decide +kernel
theorem dL_mints_25 : decode cL_mints 25 = .ok (.if_icmp .ne 18, 3) := by decide +kernel
theorem dL_mints_28 : decode cL_mints 28 = .ok (.aload_n 0, 1) := by decide +kernel
theorem dL_mints_29 : decode cL_mints 29 = .ok (.invokestatic 124, 3) := by decide +kernel
theorem dL_mints_32 : decode cL_mints 32 = .ok (.bipush (-73), 2) := by decide +kernel
theorem dL_mints_34 : decode cL_mints 34 = .ok (.if_icmp .ne 7, 3) := by decide +kernel
theorem dL_mints_37 : decode cL_mints 37 = .ok (.iconst 1, 1) := by decide +kernel
theorem dL_mints_38 : decode cL_mints 38 = .ok (.goto 4, 3) := by decide +kernel
theorem dL_mints_41 : decode cL_mints 41 = .ok (.iconst 0, 1) := by decide +kernel
theorem dL_mints_42 : decode cL_mints 42 = .ok (.ireturn, 1) := by decide +kernel
theorem dL_mints_43 : decode cL_mints 43 = .ok (.lconst 0, 1) := by decide +kernel
theorem dL_mints_44 : decode cL_mints 44 = .ok (.lstore 12, 2) := by decide +kernel
theorem dL_mints_46 : decode cL_mints 46 = .ok (.iconst 0, 1) := by decide +kernel
theorem dL_mints_47 : decode cL_mints 47 = .ok (.istore 14, 2) := by decide +kernel
theorem dL_mints_49 : decode cL_mints 49 = .ok (.iload 14, 2) := by decide +kernel
theorem dL_mints_51 : decode cL_mints 51 = .ok (.bipush 16, 2) := by decide +kernel
theorem dL_mints_53 : decode cL_mints 53 = .ok (.if_icmp .ge 34, 3) := by decide +kernel
theorem dL_mints_56 : decode cL_mints 56 = .ok (.lload 12, 2) := by decide +kernel
theorem dL_mints_58 : decode cL_mints 58 = .ok (.aload 4, 2) := by decide +kernel
theorem dL_mints_60 : decode cL_mints 60 = .ok (.aload 11, 2) := by decide +kernel
theorem dL_mints_62 : decode cL_mints 62 = .ok (.iconst 0, 1) := by decide +kernel
theorem dL_mints_63 : decode cL_mints 63 = .ok (.iaload, 1) := by decide +kernel
theorem dL_mints_64 : decode cL_mints 64 = .ok (.iload 14, 2) := by decide +kernel
theorem dL_mints_66 : decode cL_mints 66 = .ok (.invokestatic 72, 3) := by decide +kernel
theorem dL_mints_69 : decode cL_mints 69 = .ok (.invokestatic 126, 3) := by decide +kernel
theorem dL_mints_72 : decode cL_mints 72 = .ok (.i2l, 1) := by decide +kernel
theorem dL_mints_73 : decode cL_mints 73 = .ok (.iconst 4, 1) := by decide +kernel
theorem dL_mints_74 : decode cL_mints 74 = .ok (.iload 14, 2) := by decide +kernel
theorem dL_mints_76 : decode cL_mints 76 = .ok (.imul, 1) := by decide +kernel
theorem dL_mints_77 : decode cL_mints 77 = .ok (.lshl, 1) := by decide +kernel
theorem dL_mints_78 : decode cL_mints 78 = .ok (.lor, 1) := by decide +kernel
theorem dL_mints_79 : decode cL_mints 79 = .ok (.lstore 12, 2) := by decide +kernel
theorem dL_mints_81 : decode cL_mints 81 = .ok (.iinc 14 1, 3) := by decide +kernel
theorem dL_mints_84 : decode cL_mints 84 = .ok (.goto (-35), 3) := by decide +kernel
theorem dL_mints_87 : decode cL_mints 87 = .ok (.aload 5, 2) := by decide +kernel
theorem dL_mints_89 : decode cL_mints 89 = .ok (.aload 11, 2) := by decide +kernel
theorem dL_mints_91 : decode cL_mints 91 = .ok (.iconst 2, 1) := by decide +kernel
theorem dL_mints_92 : decode cL_mints 92 = .ok (.iaload, 1) := by decide +kernel
theorem dL_mints_93 : decode cL_mints 93 = .ok (.lload 12, 2) := by decide +kernel
theorem dL_mints_95 : decode cL_mints 95 = .ok (.lastore, 1) := by decide +kernel
theorem dL_mints_96 : decode cL_mints 96 = .ok (.aload 7, 2) := by decide +kernel
theorem dL_mints_98 : decode cL_mints 98 = .ok (.aload 11, 2) := by decide +kernel
theorem dL_mints_100 : decode cL_mints 100 = .ok (.iconst 2, 1) := by decide +kernel
theorem dL_mints_101 : decode cL_mints 101 = .ok (.iaload, 1) := by decide +kernel
theorem dL_mints_102 : decode cL_mints 102 = .ok (.iconst 0, 1) := by decide +kernel
theorem dL_mints_103 : decode cL_mints 103 = .ok (.iastore, 1) := by decide +kernel
theorem dL_mints_104 : decode cL_mints 104 = .ok (.aload 11, 2) := by decide +kernel
theorem dL_mints_106 : decode cL_mints 106 = .ok (.iconst 2, 1) := by decide +kernel
theorem dL_mints_107 : decode cL_mints 107 = .ok (.dup2, 1) := by decide +kernel
theorem dL_mints_108 : decode cL_mints 108 = .ok (.iaload, 1) := by decide +kernel
theorem dL_mints_109 : decode cL_mints 109 = .ok (.iconst 1, 1) := by decide +kernel
theorem dL_mints_110 : decode cL_mints 110 = .ok (.iadd, 1) := by decide +kernel
theorem dL_mints_111 : decode cL_mints 111 = .ok (.iastore, 1) := by decide +kernel
theorem dL_mints_112 : decode cL_mints 112 = .ok (.aload_n 0, 1) := by decide +kernel
theorem dL_mints_113 : decode cL_mints 113 = .ok (.invokestatic 124, 3) := by decide +kernel
theorem dL_mints_116 : decode cL_mints 116 = .ok (.aload 11, 2) := by decide +kernel
theorem dL_mints_118 : decode cL_mints 118 = .ok (.iconst 2, 1) := by decide +kernel
theorem dL_mints_119 : decode cL_mints 119 = .ok (.iaload, 1) := by decide +kernel
theorem dL_mints_120 : decode cL_mints 120 = .ok (.iconst 1, 1) := by decide +kernel
theorem dL_mints_121 : decode cL_mints 121 = .ok (.isub, 1) := by decide +kernel
theorem dL_mints_122 : decode cL_mints 122 = .ok (.if_icmp .ne 7, 3) := by decide +kernel
theorem dL_mints_125 : decode cL_mints 125 = .ok (.iconst 1, 1) := by decide +kernel
theorem dL_mints_126 : decode cL_mints 126 = .ok (.goto 4, 3) := by decide +kernel
theorem dL_mints_129 : decode cL_mints 129 = .ok (.iconst 0, 1) := by decide +kernel
theorem dL_mints_130 : decode cL_mints 130 = .ok (.ireturn, 1) := by decide +kernel
theorem dL_mints_131 : decode cL_mints 131 = .ok (.iload_n 2, 1) := by decide +kernel
theorem dL_mints_132 : decode cL_mints 132 = .ok (.aload 11, 2) := by decide +kernel
theorem dL_mints_134 : decode cL_mints 134 = .ok (.iconst 2, 1) := by decide +kernel
theorem dL_mints_135 : decode cL_mints 135 = .ok (.iaload, 1) := by decide +kernel
theorem dL_mints_136 : decode cL_mints 136 = .ok (.iconst 1, 1) := by decide +kernel
theorem dL_mints_137 : decode cL_mints 137 = .ok (.iadd, 1) := by decide +kernel
theorem dL_mints_138 : decode cL_mints 138 = .ok (.invokestatic 87, 3) := by decide +kernel
theorem dL_mints_141 : decode cL_mints 141 = .ok (.istore 12, 2) := by decide +kernel
theorem dL_mints_143 : decode cL_mints 143 = .ok (.iload_n 1, 1) := by decide +kernel
theorem dL_mints_144 : decode cL_mints 144 = .ok (.iconst 5, 1) := by decide +kernel
theorem dL_mints_145 : decode cL_mints 145 = .ok (.if_icmp .ge 141, 3) := by decide +kernel
theorem dL_mints_148 : decode cL_mints 148 = .ok (.iload 12, 2) := by decide +kernel
theorem dL_mints_150 : decode cL_mints 150 = .ok (.aload 11, 2) := by decide +kernel
theorem dL_mints_152 : decode cL_mints 152 = .ok (.iconst 2, 1) := by decide +kernel
theorem dL_mints_153 : decode cL_mints 153 = .ok (.iaload, 1) := by decide +kernel
theorem dL_mints_154 : decode cL_mints 154 = .ok (.if_icmp .ne 30, 3) := by decide +kernel
theorem dL_mints_157 : decode cL_mints 157 = .ok (.aload_n 0, 1) := by decide +kernel
theorem dL_mints_158 : decode cL_mints 158 = .ok (.iload 12, 2) := by decide +kernel
theorem dL_mints_160 : decode cL_mints 160 = .ok (.invokestatic 129, 3) := by decide +kernel
theorem dL_mints_163 : decode cL_mints 163 = .ok (.bipush (-71), 2) := by decide +kernel
theorem dL_mints_165 : decode cL_mints 165 = .ok (.if_icmp .ne 17, 3) := by decide +kernel
theorem dL_mints_168 : decode cL_mints 168 = .ok (.aload_n 0, 1) := by decide +kernel
theorem dL_mints_169 : decode cL_mints 169 = .ok (.iconst (-1), 1) := by decide +kernel
theorem dL_mints_170 : decode cL_mints 170 = .ok (.invokestatic 129, 3) := by decide +kernel
theorem dL_mints_173 : decode cL_mints 173 = .ok (.bipush (-71), 2) := by decide +kernel
theorem dL_mints_175 : decode cL_mints 175 = .ok (.if_icmp .ne 7, 3) := by decide +kernel
theorem dL_mints_178 : decode cL_mints 178 = .ok (.iconst 1, 1) := by decide +kernel
theorem dL_mints_179 : decode cL_mints 179 = .ok (.goto 4, 3) := by decide +kernel
theorem dL_mints_182 : decode cL_mints 182 = .ok (.iconst 0, 1) := by decide +kernel
theorem dL_mints_183 : decode cL_mints 183 = .ok (.ireturn, 1) := by decide +kernel
theorem dL_mints_184 : decode cL_mints 184 = .ok (.aload 11, 2) := by decide +kernel
theorem dL_mints_186 : decode cL_mints 186 = .ok (.iconst 3, 1) := by decide +kernel
theorem dL_mints_187 : decode cL_mints 187 = .ok (.iaload, 1) := by decide +kernel
theorem dL_mints_188 : decode cL_mints 188 = .ok (.bipush 60, 2) := by decide +kernel
theorem dL_mints_190 : decode cL_mints 190 = .ok (.if_icmp .ne 20, 3) := by decide +kernel
theorem dL_mints_193 : decode cL_mints 193 = .ok (.aload_n 0, 1) := by decide +kernel
theorem dL_mints_194 : decode cL_mints 194 = .ok (.iload 12, 2) := by decide +kernel
theorem dL_mints_196 : decode cL_mints 196 = .ok (.invokestatic 129, 3) := by decide +kernel
theorem dL_mints_199 : decode cL_mints 199 = .ok (.bipush (-73), 2) := by decide +kernel
theorem dL_mints_201 : decode cL_mints 201 = .ok (.if_icmp .ne 7, 3) := by decide +kernel
theorem dL_mints_204 : decode cL_mints 204 = .ok (.iconst 1, 1) := by decide +kernel
theorem dL_mints_205 : decode cL_mints 205 = .ok (.goto 4, 3) := by decide +kernel
theorem dL_mints_208 : decode cL_mints 208 = .ok (.iconst 0, 1) := by decide +kernel
theorem dL_mints_209 : decode cL_mints 209 = .ok (.ireturn, 1) := by decide +kernel
theorem dL_mints_210 : decode cL_mints 210 = .ok (.aload 7, 2) := by decide +kernel
theorem dL_mints_212 : decode cL_mints 212 = .ok (.iload 12, 2) := by decide +kernel
theorem dL_mints_214 : decode cL_mints 214 = .ok (.dup2, 1) := by decide +kernel
theorem dL_mints_215 : decode cL_mints 215 = .ok (.iaload, 1) := by decide +kernel
theorem dL_mints_216 : decode cL_mints 216 = .ok (.iconst 1, 1) := by decide +kernel
theorem dL_mints_217 : decode cL_mints 217 = .ok (.iadd, 1) := by decide +kernel
theorem dL_mints_218 : decode cL_mints 218 = .ok (.iastore, 1) := by decide +kernel
theorem dL_mints_219 : decode cL_mints 219 = .ok (.aload 6, 2) := by decide +kernel
theorem dL_mints_221 : decode cL_mints 221 = .ok (.aload 11, 2) := by decide +kernel
theorem dL_mints_223 : decode cL_mints 223 = .ok (.iconst 3, 1) := by decide +kernel
theorem dL_mints_224 : decode cL_mints 224 = .ok (.iaload, 1) := by decide +kernel
theorem dL_mints_225 : decode cL_mints 225 = .ok (.aload 5, 2) := by decide +kernel
theorem dL_mints_227 : decode cL_mints 227 = .ok (.iload 12, 2) := by decide +kernel
theorem dL_mints_229 : decode cL_mints 229 = .ok (.laload, 1) := by decide +kernel
theorem dL_mints_230 : decode cL_mints 230 = .ok (.aload 7, 2) := by decide +kernel
theorem dL_mints_232 : decode cL_mints 232 = .ok (.iload 12, 2) := by decide +kernel
theorem dL_mints_234 : decode cL_mints 234 = .ok (.iaload, 1) := by decide +kernel
theorem dL_mints_235 : decode cL_mints 235 = .ok (.invokestatic 131, 3) := by decide +kernel
theorem dL_mints_238 : decode cL_mints 238 = .ok (.lastore, 1) := by decide +kernel
theorem dL_mints_239 : decode cL_mints 239 = .ok (.aload 8, 2) := by decide +kernel
theorem dL_mints_241 : decode cL_mints 241 = .ok (.aload 11, 2) := by decide +kernel
theorem dL_mints_243 : decode cL_mints 243 = .ok (.iconst 3, 1) := by decide +kernel
theorem dL_mints_244 : decode cL_mints 244 = .ok (.iaload, 1) := by decide +kernel
theorem dL_mints_245 : decode cL_mints 245 = .ok (.iload 12, 2) := by decide +kernel
theorem dL_mints_247 : decode cL_mints 247 = .ok (.bipush 8, 2) := by decide +kernel
theorem dL_mints_249 : decode cL_mints 249 = .ok (.aload 7, 2) := by decide +kernel
theorem dL_mints_251 : decode cL_mints 251 = .ok (.iload 12, 2) := by decide +kernel
theorem dL_mints_253 : decode cL_mints 253 = .ok (.iaload, 1) := by decide +kernel
theorem dL_mints_254 : decode cL_mints 254 = .ok (.imul, 1) := by decide +kernel
theorem dL_mints_255 : decode cL_mints 255 = .ok (.iadd, 1) := by decide +kernel
theorem dL_mints_256 : decode cL_mints 256 = .ok (.iastore, 1) := by decide +kernel
theorem dL_mints_257 : decode cL_mints 257 = .ok (.aload 11, 2) := by decide +kernel
theorem dL_mints_259 : decode cL_mints 259 = .ok (.iconst 3, 1) := by decide +kernel
theorem dL_mints_260 : decode cL_mints 260 = .ok (.dup2, 1) := by decide +kernel
theorem dL_mints_261 : decode cL_mints 261 = .ok (.iaload, 1) := by decide +kernel
theorem dL_mints_262 : decode cL_mints 262 = .ok (.iconst 1, 1) := by decide +kernel
theorem dL_mints_263 : decode cL_mints 263 = .ok (.iadd, 1) := by decide +kernel
theorem dL_mints_264 : decode cL_mints 264 = .ok (.iastore, 1) := by decide +kernel
theorem dL_mints_265 : decode cL_mints 265 = .ok (.aload_n 0, 1) := by decide +kernel
theorem dL_mints_266 : decode cL_mints 266 = .ok (.iload 12, 2) := by decide +kernel
theorem dL_mints_268 : decode cL_mints 268 = .ok (.invokestatic 129, 3) := by decide +kernel
theorem dL_mints_271 : decode cL_mints 271 = .ok (.aload 11, 2) := by decide +kernel
theorem dL_mints_273 : decode cL_mints 273 = .ok (.iconst 3, 1) := by decide +kernel
theorem dL_mints_274 : decode cL_mints 274 = .ok (.iaload, 1) := by decide +kernel
theorem dL_mints_275 : decode cL_mints 275 = .ok (.iconst 1, 1) := by decide +kernel
theorem dL_mints_276 : decode cL_mints 276 = .ok (.isub, 1) := by decide +kernel
theorem dL_mints_277 : decode cL_mints 277 = .ok (.if_icmp .ne 7, 3) := by decide +kernel
theorem dL_mints_280 : decode cL_mints 280 = .ok (.iconst 1, 1) := by decide +kernel
theorem dL_mints_281 : decode cL_mints 281 = .ok (.goto 4, 3) := by decide +kernel
theorem dL_mints_284 : decode cL_mints 284 = .ok (.iconst 0, 1) := by decide +kernel
theorem dL_mints_285 : decode cL_mints 285 = .ok (.ireturn, 1) := by decide +kernel
theorem dL_mints_286 : decode cL_mints 286 = .ok (.iload_n 3, 1) := by decide +kernel
theorem dL_mints_287 : decode cL_mints 287 = .ok (.aload 11, 2) := by decide +kernel
theorem dL_mints_289 : decode cL_mints 289 = .ok (.iconst 3, 1) := by decide +kernel
theorem dL_mints_290 : decode cL_mints 290 = .ok (.iaload, 1) := by decide +kernel
theorem dL_mints_291 : decode cL_mints 291 = .ok (.iconst 1, 1) := by decide +kernel
theorem dL_mints_292 : decode cL_mints 292 = .ok (.iadd, 1) := by decide +kernel
theorem dL_mints_293 : decode cL_mints 293 = .ok (.invokestatic 87, 3) := by decide +kernel
theorem dL_mints_296 : decode cL_mints 296 = .ok (.istore 13, 2) := by decide +kernel
theorem dL_mints_298 : decode cL_mints 298 = .ok (.iconst 1, 1) := by decide +kernel
theorem dL_mints_299 : decode cL_mints 299 = .ok (.iload_n 3, 1) := by decide +kernel
theorem dL_mints_300 : decode cL_mints 300 = .ok (.bipush 6, 2) := by decide +kernel
theorem dL_mints_302 : decode cL_mints 302 = .ok (.ishr, 1) := by decide +kernel
theorem dL_mints_303 : decode cL_mints 303 = .ok (.bipush 6, 2) := by decide +kernel
theorem dL_mints_305 : decode cL_mints 305 = .ok (.invokestatic 87, 3) := by decide +kernel
theorem dL_mints_308 : decode cL_mints 308 = .ok (.iadd, 1) := by decide +kernel
theorem dL_mints_309 : decode cL_mints 309 = .ok (.istore 14, 2) := by decide +kernel
theorem dL_mints_311 : decode cL_mints 311 = .ok (.iload 13, 2) := by decide +kernel
theorem dL_mints_313 : decode cL_mints 313 = .ok (.aload 11, 2) := by decide +kernel
theorem dL_mints_315 : decode cL_mints 315 = .ok (.iconst 3, 1) := by decide +kernel
theorem dL_mints_316 : decode cL_mints 316 = .ok (.iaload, 1) := by decide +kernel
theorem dL_mints_317 : decode cL_mints 317 = .ok (.if_icmp .eq 12, 3) := by decide +kernel
theorem dL_mints_320 : decode cL_mints 320 = .ok (.iload 12, 2) := by decide +kernel
theorem dL_mints_322 : decode cL_mints 322 = .ok (.aload 11, 2) := by decide +kernel
theorem dL_mints_324 : decode cL_mints 324 = .ok (.iconst 2, 1) := by decide +kernel
theorem dL_mints_325 : decode cL_mints 325 = .ok (.iaload, 1) := by decide +kernel
theorem dL_mints_326 : decode cL_mints 326 = .ok (.if_icmp .ne 36, 3) := by decide +kernel
theorem dL_mints_329 : decode cL_mints 329 = .ok (.aload_n 0, 1) := by decide +kernel
theorem dL_mints_330 : decode cL_mints 330 = .ok (.iload 13, 2) := by decide +kernel
theorem dL_mints_332 : decode cL_mints 332 = .ok (.iload 12, 2) := by decide +kernel
theorem dL_mints_334 : decode cL_mints 334 = .ok (.iconst 0, 1) := by decide +kernel
theorem dL_mints_335 : decode cL_mints 335 = .ok (.invokestatic 135, 3) := by decide +kernel
theorem dL_mints_338 : decode cL_mints 338 = .ok (.bipush (-71), 2) := by decide +kernel
theorem dL_mints_340 : decode cL_mints 340 = .ok (.if_icmp .ne 20, 3) := by decide +kernel
theorem dL_mints_343 : decode cL_mints 343 = .ok (.aload_n 0, 1) := by decide +kernel
theorem dL_mints_344 : decode cL_mints 344 = .ok (.iconst (-1), 1) := by decide +kernel
theorem dL_mints_345 : decode cL_mints 345 = .ok (.iload 12, 2) := by decide +kernel
theorem dL_mints_347 : decode cL_mints 347 = .ok (.iconst 1, 1) := by decide +kernel
theorem dL_mints_348 : decode cL_mints 348 = .ok (.invokestatic 135, 3) := by decide +kernel
theorem dL_mints_351 : decode cL_mints 351 = .ok (.bipush (-71), 2) := by decide +kernel
theorem dL_mints_353 : decode cL_mints 353 = .ok (.if_icmp .ne 7, 3) := by decide +kernel
theorem dL_mints_356 : decode cL_mints 356 = .ok (.iconst 1, 1) := by decide +kernel
theorem dL_mints_357 : decode cL_mints 357 = .ok (.goto 4, 3) := by decide +kernel
theorem dL_mints_360 : decode cL_mints 360 = .ok (.iconst 0, 1) := by decide +kernel
theorem dL_mints_361 : decode cL_mints 361 = .ok (.ireturn, 1) := by decide +kernel
theorem dL_mints_362 : decode cL_mints 362 = .ok (.aload_n 0, 1) := by decide +kernel
theorem dL_mints_363 : decode cL_mints 363 = .ok (.iload 13, 2) := by decide +kernel
theorem dL_mints_365 : decode cL_mints 365 = .ok (.iload 12, 2) := by decide +kernel
theorem dL_mints_367 : decode cL_mints 367 = .ok (.iconst 0, 1) := by decide +kernel
theorem dL_mints_368 : decode cL_mints 368 = .ok (.invokestatic 135, 3) := by decide +kernel
theorem dL_mints_371 : decode cL_mints 371 = .ok (.bipush (-72), 2) := by decide +kernel
theorem dL_mints_373 : decode cL_mints 373 = .ok (.if_icmp .ne 18, 3) := by decide +kernel
theorem dL_mints_376 : decode cL_mints 376 = .ok (.aload_n 0, 1) := by decide +kernel
theorem dL_mints_377 : decode cL_mints 377 = .ok (.iload 13, 2) := by decide +kernel
theorem dL_mints_379 : decode cL_mints 379 = .ok (.iload 12, 2) := by decide +kernel
theorem dL_mints_381 : decode cL_mints 381 = .ok (.bipush 61, 2) := by decide +kernel
theorem dL_mints_383 : decode cL_mints 383 = .ok (.invokestatic 135, 3) := by decide +kernel
theorem dL_mints_386 : decode cL_mints 386 = .ok (.bipush (-72), 2) := by decide +kernel
theorem dL_mints_388 : decode cL_mints 388 = .ok (.if_icmp .eq 5, 3) := by decide +kernel
theorem dL_mints_391 : decode cL_mints 391 = .ok (.iconst 0, 1) := by decide +kernel
theorem dL_mints_392 : decode cL_mints 392 = .ok (.ireturn, 1) := by decide +kernel
theorem dL_mints_393 : decode cL_mints 393 = .ok (.aload 11, 2) := by decide +kernel
theorem dL_mints_395 : decode cL_mints 395 = .ok (.iconst 3, 1) := by decide +kernel
theorem dL_mints_396 : decode cL_mints 396 = .ok (.iaload, 1) := by decide +kernel
theorem dL_mints_397 : decode cL_mints 397 = .ok (.bipush 60, 2) := by decide +kernel
theorem dL_mints_399 : decode cL_mints 399 = .ok (.if_icmp .eq 13, 3) := by decide +kernel
theorem dL_mints_402 : decode cL_mints 402 = .ok (.aload 7, 2) := by decide +kernel
theorem dL_mints_404 : decode cL_mints 404 = .ok (.iload 12, 2) := by decide +kernel
theorem dL_mints_406 : decode cL_mints 406 = .ok (.iaload, 1) := by decide +kernel
theorem dL_mints_407 : decode cL_mints 407 = .ok (.iload 14, 2) := by decide +kernel
theorem dL_mints_409 : decode cL_mints 409 = .ok (.if_icmp .ge 24, 3) := by decide +kernel
theorem dL_mints_412 : decode cL_mints 412 = .ok (.aload_n 0, 1) := by decide +kernel
theorem dL_mints_413 : decode cL_mints 413 = .ok (.iload 13, 2) := by decide +kernel
theorem dL_mints_415 : decode cL_mints 415 = .ok (.iload 12, 2) := by decide +kernel
theorem dL_mints_417 : decode cL_mints 417 = .ok (.iload 14, 2) := by decide +kernel
theorem dL_mints_419 : decode cL_mints 419 = .ok (.invokestatic 135, 3) := by decide +kernel
theorem dL_mints_422 : decode cL_mints 422 = .ok (.bipush (-73), 2) := by decide +kernel
theorem dL_mints_424 : decode cL_mints 424 = .ok (.if_icmp .ne 7, 3) := by decide +kernel
theorem dL_mints_427 : decode cL_mints 427 = .ok (.iconst 1, 1) := by decide +kernel
theorem dL_mints_428 : decode cL_mints 428 = .ok (.goto 4, 3) := by decide +kernel
theorem dL_mints_431 : decode cL_mints 431 = .ok (.iconst 0, 1) := by decide +kernel
theorem dL_mints_432 : decode cL_mints 432 = .ok (.ireturn, 1) := by decide +kernel
theorem dL_mints_433 : decode cL_mints 433 = .ok (.aload 6, 2) := by decide +kernel
theorem dL_mints_435 : decode cL_mints 435 = .ok (.aload 11, 2) := by decide +kernel
theorem dL_mints_437 : decode cL_mints 437 = .ok (.iconst 3, 1) := by decide +kernel
theorem dL_mints_438 : decode cL_mints 438 = .ok (.iaload, 1) := by decide +kernel
theorem dL_mints_439 : decode cL_mints 439 = .ok (.aload 6, 2) := by decide +kernel
theorem dL_mints_441 : decode cL_mints 441 = .ok (.iload 13, 2) := by decide +kernel
theorem dL_mints_443 : decode cL_mints 443 = .ok (.laload, 1) := by decide +kernel
theorem dL_mints_444 : decode cL_mints 444 = .ok (.lastore, 1) := by decide +kernel
theorem dL_mints_445 : decode cL_mints 445 = .ok (.aload 8, 2) := by decide +kernel
theorem dL_mints_447 : decode cL_mints 447 = .ok (.aload 11, 2) := by decide +kernel
theorem dL_mints_449 : decode cL_mints 449 = .ok (.iconst 3, 1) := by decide +kernel
theorem dL_mints_450 : decode cL_mints 450 = .ok (.iaload, 1) := by decide +kernel
theorem dL_mints_451 : decode cL_mints 451 = .ok (.iload 12, 2) := by decide +kernel
theorem dL_mints_453 : decode cL_mints 453 = .ok (.bipush 8, 2) := by decide +kernel
theorem dL_mints_455 : decode cL_mints 455 = .ok (.iload 14, 2) := by decide +kernel
theorem dL_mints_457 : decode cL_mints 457 = .ok (.imul, 1) := by decide +kernel
theorem dL_mints_458 : decode cL_mints 458 = .ok (.iadd, 1) := by decide +kernel
theorem dL_mints_459 : decode cL_mints 459 = .ok (.iastore, 1) := by decide +kernel
theorem dL_mints_460 : decode cL_mints 460 = .ok (.aload 11, 2) := by decide +kernel
theorem dL_mints_462 : decode cL_mints 462 = .ok (.iconst 3, 1) := by decide +kernel
theorem dL_mints_463 : decode cL_mints 463 = .ok (.dup2, 1) := by decide +kernel
theorem dL_mints_464 : decode cL_mints 464 = .ok (.iaload, 1) := by decide +kernel
theorem dL_mints_465 : decode cL_mints 465 = .ok (.iconst 1, 1) := by decide +kernel
theorem dL_mints_466 : decode cL_mints 466 = .ok (.iadd, 1) := by decide +kernel
theorem dL_mints_467 : decode cL_mints 467 = .ok (.iastore, 1) := by decide +kernel
theorem dL_mints_468 : decode cL_mints 468 = .ok (.aload_n 0, 1) := by decide +kernel
theorem dL_mints_469 : decode cL_mints 469 = .ok (.iload 13, 2) := by decide +kernel
theorem dL_mints_471 : decode cL_mints 471 = .ok (.iload 12, 2) := by decide +kernel
theorem dL_mints_473 : decode cL_mints 473 = .ok (.iload 14, 2) := by decide +kernel
theorem dL_mints_475 : decode cL_mints 475 = .ok (.invokestatic 135, 3) := by decide +kernel
theorem dL_mints_478 : decode cL_mints 478 = .ok (.aload 11, 2) := by decide +kernel
theorem dL_mints_480 : decode cL_mints 480 = .ok (.iconst 3, 1) := by decide +kernel
theorem dL_mints_481 : decode cL_mints 481 = .ok (.iaload, 1) := by decide +kernel
theorem dL_mints_482 : decode cL_mints 482 = .ok (.iconst 1, 1) := by decide +kernel
theorem dL_mints_483 : decode cL_mints 483 = .ok (.isub, 1) := by decide +kernel
theorem dL_mints_484 : decode cL_mints 484 = .ok (.if_icmp .ne 7, 3) := by decide +kernel
theorem dL_mints_487 : decode cL_mints 487 = .ok (.iconst 1, 1) := by decide +kernel
theorem dL_mints_488 : decode cL_mints 488 = .ok (.goto 4, 3) := by decide +kernel
theorem dL_mints_491 : decode cL_mints 491 = .ok (.iconst 0, 1) := by decide +kernel
theorem dL_mints_492 : decode cL_mints 492 = .ok (.ireturn, 1) := by decide +kernel
theorem dL_isTold_0 : decode cL_isTold 0 = .ok (.iconst 0, 1) := by decide +kernel
theorem dL_isTold_1 : decode cL_isTold 1 = .ok (.istore 11, 2) := by decide +kernel
theorem dL_isTold_3 : decode cL_isTold 3 = .ok (.iconst 0, 1) := by decide +kernel
theorem dL_isTold_4 : decode cL_isTold 4 = .ok (.istore 12, 2) := by decide +kernel
theorem dL_isTold_6 : decode cL_isTold 6 = .ok (.iload 12, 2) := by decide +kernel
theorem dL_isTold_8 : decode cL_isTold 8 = .ok (.bipush 16, 2) := by decide +kernel
theorem dL_isTold_10 : decode cL_isTold 10 = .ok (.if_icmp .ge 196, 3) := by decide +kernel
theorem dL_isTold_13 : decode cL_isTold 13 = .ok (.aload_n 2, 1) := by decide +kernel
theorem dL_isTold_14 : decode cL_isTold 14 = .ok (.aload 10, 2) := by decide +kernel
theorem dL_isTold_16 : decode cL_isTold 16 = .ok (.iconst 0, 1) := by decide +kernel
theorem dL_isTold_17 : decode cL_isTold 17 = .ok (.iaload, 1) := by decide +kernel
theorem dL_isTold_18 : decode cL_isTold 18 = .ok (.iload 12, 2) := by decide +kernel
theorem dL_isTold_20 : decode cL_isTold 20 = .ok (.invokestatic 72, 3) := by decide +kernel
theorem dL_isTold_23 : decode cL_isTold 23 = .ok (.istore 13, 2) := by decide +kernel
theorem dL_isTold_25 : decode cL_isTold 25 = .ok (.iconst 0, 1) := by decide +kernel
theorem dL_isTold_26 : decode cL_isTold 26 = .ok (.istore 14, 2) := by decide +kernel
theorem dL_isTold_28 : decode cL_isTold 28 = .ok (.iconst 0, 1) := by decide +kernel
theorem dL_isTold_29 : decode cL_isTold 29 = .ok (.istore 15, 2) := by decide +kernel
theorem dL_isTold_31 : decode cL_isTold 31 = .ok (.iconst 0, 1) := by decide +kernel
theorem dL_isTold_32 : decode cL_isTold 32 = .ok (.istore 16, 2) := by decide +kernel
theorem dL_isTold_34 : decode cL_isTold 34 = .ok (.iload 16, 2) := by decide +kernel
theorem dL_isTold_36 : decode cL_isTold 36 = .ok (.bipush 8, 2) := by decide +kernel
theorem dL_isTold_38 : decode cL_isTold 38 = .ok (.if_icmp .ge 110, 3) := by decide +kernel
theorem dL_isTold_41 : decode cL_isTold 41 = .ok (.iload 11, 2) := by decide +kernel
theorem dL_isTold_43 : decode cL_isTold 43 = .ok (.iload 13, 2) := by decide +kernel
theorem dL_isTold_45 : decode cL_isTold 45 = .ok (.iconst 2, 1) := by decide +kernel
theorem dL_isTold_46 : decode cL_isTold 46 = .ok (.iload 16, 2) := by decide +kernel
theorem dL_isTold_48 : decode cL_isTold 48 = .ok (.imul, 1) := by decide +kernel
theorem dL_isTold_49 : decode cL_isTold 49 = .ok (.ishr, 1) := by decide +kernel
theorem dL_isTold_50 : decode cL_isTold 50 = .ok (.iconst 3, 1) := by decide +kernel
theorem dL_isTold_51 : decode cL_isTold 51 = .ok (.iand, 1) := by decide +kernel
theorem dL_isTold_52 : decode cL_isTold 52 = .ok (.ifCond .le 7, 3) := by decide +kernel
theorem dL_isTold_55 : decode cL_isTold 55 = .ok (.iconst 1, 1) := by decide +kernel
theorem dL_isTold_56 : decode cL_isTold 56 = .ok (.goto 4, 3) := by decide +kernel
theorem dL_isTold_59 : decode cL_isTold 59 = .ok (.iconst 0, 1) := by decide +kernel
theorem dL_isTold_60 : decode cL_isTold 60 = .ok (.iadd, 1) := by decide +kernel
theorem dL_isTold_61 : decode cL_isTold 61 = .ok (.istore 11, 2) := by decide +kernel
theorem dL_isTold_63 : decode cL_isTold 63 = .ok (.aload_n 0, 1) := by decide +kernel
theorem dL_isTold_64 : decode cL_isTold 64 = .ok (.iload 12, 2) := by decide +kernel
theorem dL_isTold_66 : decode cL_isTold 66 = .ok (.iload 16, 2) := by decide +kernel
theorem dL_isTold_68 : decode cL_isTold 68 = .ok (.invokestatic 137, 3) := by decide +kernel
theorem dL_isTold_71 : decode cL_isTold 71 = .ok (.iload 13, 2) := by decide +kernel
theorem dL_isTold_73 : decode cL_isTold 73 = .ok (.iconst 2, 1) := by decide +kernel
theorem dL_isTold_74 : decode cL_isTold 74 = .ok (.iload 16, 2) := by decide +kernel
theorem dL_isTold_76 : decode cL_isTold 76 = .ok (.imul, 1) := by decide +kernel
theorem dL_isTold_77 : decode cL_isTold 77 = .ok (.ishr, 1) := by decide +kernel
theorem dL_isTold_78 : decode cL_isTold 78 = .ok (.iconst 3, 1) := by decide +kernel
theorem dL_isTold_79 : decode cL_isTold 79 = .ok (.iand, 1) := by decide +kernel
theorem dL_isTold_80 : decode cL_isTold 80 = .ok (.if_icmp .eq 5, 3) := by decide +kernel
theorem dL_isTold_83 : decode cL_isTold 83 = .ok (.iconst 0, 1) := by decide +kernel
theorem dL_isTold_84 : decode cL_isTold 84 = .ok (.ireturn, 1) := by decide +kernel
theorem dL_isTold_85 : decode cL_isTold 85 = .ok (.iinc 15 1, 3) := by decide +kernel
theorem dL_isTold_88 : decode cL_isTold 88 = .ok (.iload 16, 2) := by decide +kernel
theorem dL_isTold_90 : decode cL_isTold 90 = .ok (.bipush 7, 2) := by decide +kernel
theorem dL_isTold_92 : decode cL_isTold 92 = .ok (.if_icmp .ge 29, 3) := by decide +kernel
theorem dL_isTold_95 : decode cL_isTold 95 = .ok (.iload 13, 2) := by decide +kernel
theorem dL_isTold_97 : decode cL_isTold 97 = .ok (.iconst 2, 1) := by decide +kernel
theorem dL_isTold_98 : decode cL_isTold 98 = .ok (.iload 16, 2) := by decide +kernel
theorem dL_isTold_100 : decode cL_isTold 100 = .ok (.imul, 1) := by decide +kernel
theorem dL_isTold_101 : decode cL_isTold 101 = .ok (.ishr, 1) := by decide +kernel
theorem dL_isTold_102 : decode cL_isTold 102 = .ok (.iconst 3, 1) := by decide +kernel
theorem dL_isTold_103 : decode cL_isTold 103 = .ok (.iand, 1) := by decide +kernel
theorem dL_isTold_104 : decode cL_isTold 104 = .ok (.iload 13, 2) := by decide +kernel
theorem dL_isTold_106 : decode cL_isTold 106 = .ok (.iconst 2, 1) := by decide +kernel
theorem dL_isTold_107 : decode cL_isTold 107 = .ok (.iload 16, 2) := by decide +kernel
theorem dL_isTold_109 : decode cL_isTold 109 = .ok (.imul, 1) := by decide +kernel
theorem dL_isTold_110 : decode cL_isTold 110 = .ok (.iconst 2, 1) := by decide +kernel
theorem dL_isTold_111 : decode cL_isTold 111 = .ok (.iadd, 1) := by decide +kernel
theorem dL_isTold_112 : decode cL_isTold 112 = .ok (.ishr, 1) := by decide +kernel
theorem dL_isTold_113 : decode cL_isTold 113 = .ok (.iconst 3, 1) := by decide +kernel
theorem dL_isTold_114 : decode cL_isTold 114 = .ok (.iand, 1) := by decide +kernel
theorem dL_isTold_115 : decode cL_isTold 115 = .ok (.if_icmp .ne 6, 3) := by decide +kernel
theorem dL_isTold_118 : decode cL_isTold 118 = .ok (.goto 24, 3) := by decide +kernel
theorem dL_isTold_121 : decode cL_isTold 121 = .ok (.aload_n 0, 1) := by decide +kernel
theorem dL_isTold_122 : decode cL_isTold 122 = .ok (.iload 12, 2) := by decide +kernel
theorem dL_isTold_124 : decode cL_isTold 124 = .ok (.iload 14, 2) := by decide +kernel
theorem dL_isTold_126 : decode cL_isTold 126 = .ok (.invokestatic 139, 3) := by decide +kernel
theorem dL_isTold_129 : decode cL_isTold 129 = .ok (.iload 15, 2) := by decide +kernel
theorem dL_isTold_131 : decode cL_isTold 131 = .ok (.if_icmp .eq 5, 3) := by decide +kernel
theorem dL_isTold_134 : decode cL_isTold 134 = .ok (.iconst 0, 1) := by decide +kernel
theorem dL_isTold_135 : decode cL_isTold 135 = .ok (.ireturn, 1) := by decide +kernel
theorem dL_isTold_136 : decode cL_isTold 136 = .ok (.iinc 14 1, 3) := by decide +kernel
theorem dL_isTold_139 : decode cL_isTold 139 = .ok (.iconst 0, 1) := by decide +kernel
theorem dL_isTold_140 : decode cL_isTold 140 = .ok (.istore 15, 2) := by decide +kernel
theorem dL_isTold_142 : decode cL_isTold 142 = .ok (.iinc 16 1, 3) := by decide +kernel
theorem dL_isTold_145 : decode cL_isTold 145 = .ok (.goto (-111), 3) := by decide +kernel
theorem dL_isTold_148 : decode cL_isTold 148 = .ok (.aload_n 0, 1) := by decide +kernel
theorem dL_isTold_149 : decode cL_isTold 149 = .ok (.iload 12, 2) := by decide +kernel
theorem dL_isTold_151 : decode cL_isTold 151 = .ok (.invokevirtual 141, 3) := by decide +kernel
theorem dL_isTold_154 : decode cL_isTold 154 = .ok (.iload 14, 2) := by decide +kernel
theorem dL_isTold_156 : decode cL_isTold 156 = .ok (.if_icmp .ne 42, 3) := by decide +kernel
theorem dL_isTold_159 : decode cL_isTold 159 = .ok (.aload_n 0, 1) := by decide +kernel
theorem dL_isTold_160 : decode cL_isTold 160 = .ok (.iload 12, 2) := by decide +kernel
theorem dL_isTold_162 : decode cL_isTold 162 = .ok (.iload 14, 2) := by decide +kernel
theorem dL_isTold_164 : decode cL_isTold 164 = .ok (.invokestatic 139, 3) := by decide +kernel
theorem dL_isTold_167 : decode cL_isTold 167 = .ok (.bipush (-71), 2) := by decide +kernel
theorem dL_isTold_169 : decode cL_isTold 169 = .ok (.if_icmp .ne 29, 3) := by decide +kernel
theorem dL_isTold_172 : decode cL_isTold 172 = .ok (.aload_n 0, 1) := by decide +kernel
theorem dL_isTold_173 : decode cL_isTold 173 = .ok (.iload 12, 2) := by decide +kernel
theorem dL_isTold_175 : decode cL_isTold 175 = .ok (.iconst (-1), 1) := by decide +kernel
theorem dL_isTold_176 : decode cL_isTold 176 = .ok (.invokestatic 139, 3) := by decide +kernel
theorem dL_isTold_179 : decode cL_isTold 179 = .ok (.bipush (-71), 2) := by decide +kernel
theorem dL_isTold_181 : decode cL_isTold 181 = .ok (.if_icmp .ne 17, 3) := by decide +kernel
theorem dL_isTold_184 : decode cL_isTold 184 = .ok (.aload_n 0, 1) := by decide +kernel
theorem dL_isTold_185 : decode cL_isTold 185 = .ok (.iload 12, 2) := by decide +kernel
theorem dL_isTold_187 : decode cL_isTold 187 = .ok (.invokevirtual 144, 3) := by decide +kernel
theorem dL_isTold_190 : decode cL_isTold 190 = .ok (.iload 13, 2) := by decide +kernel
theorem dL_isTold_192 : decode cL_isTold 192 = .ok (.invokestatic 126, 3) := by decide +kernel
theorem dL_isTold_195 : decode cL_isTold 195 = .ok (.if_icmp .eq 5, 3) := by decide +kernel
theorem dL_isTold_198 : decode cL_isTold 198 = .ok (.iconst 0, 1) := by decide +kernel
theorem dL_isTold_199 : decode cL_isTold 199 = .ok (.ireturn, 1) := by decide +kernel
theorem dL_isTold_200 : decode cL_isTold 200 = .ok (.iinc 12 1, 3) := by decide +kernel
theorem dL_isTold_203 : decode cL_isTold 203 = .ok (.goto (-197), 3) := by decide +kernel
theorem dL_isTold_206 : decode cL_isTold 206 = .ok (.iload_n 1, 1) := by decide +kernel
theorem dL_isTold_207 : decode cL_isTold 207 = .ok (.aload 10, 2) := by decide +kernel
theorem dL_isTold_209 : decode cL_isTold 209 = .ok (.iconst 1, 1) := by decide +kernel
theorem dL_isTold_210 : decode cL_isTold 210 = .ok (.iaload, 1) := by decide +kernel
theorem dL_isTold_211 : decode cL_isTold 211 = .ok (.invokestatic 87, 3) := by decide +kernel
theorem dL_isTold_214 : decode cL_isTold 214 = .ok (.istore 12, 2) := by decide +kernel
theorem dL_isTold_216 : decode cL_isTold 216 = .ok (.iload_n 1, 1) := by decide +kernel
theorem dL_isTold_217 : decode cL_isTold 217 = .ok (.iconst 4, 1) := by decide +kernel
theorem dL_isTold_218 : decode cL_isTold 218 = .ok (.ishr, 1) := by decide +kernel
theorem dL_isTold_219 : decode cL_isTold 219 = .ok (.aload 10, 2) := by decide +kernel
theorem dL_isTold_221 : decode cL_isTold 221 = .ok (.iconst 1, 1) := by decide +kernel
theorem dL_isTold_222 : decode cL_isTold 222 = .ok (.iaload, 1) := by decide +kernel
theorem dL_isTold_223 : decode cL_isTold 223 = .ok (.invokestatic 87, 3) := by decide +kernel
theorem dL_isTold_226 : decode cL_isTold 226 = .ok (.istore 13, 2) := by decide +kernel
theorem dL_isTold_228 : decode cL_isTold 228 = .ok (.iconst 0, 1) := by decide +kernel
theorem dL_isTold_229 : decode cL_isTold 229 = .ok (.istore 14, 2) := by decide +kernel
theorem dL_isTold_231 : decode cL_isTold 231 = .ok (.iconst 0, 1) := by decide +kernel
theorem dL_isTold_232 : decode cL_isTold 232 = .ok (.istore 15, 2) := by decide +kernel
theorem dL_isTold_234 : decode cL_isTold 234 = .ok (.iload 15, 2) := by decide +kernel
theorem dL_isTold_236 : decode cL_isTold 236 = .ok (.bipush 16, 2) := by decide +kernel
theorem dL_isTold_238 : decode cL_isTold 238 = .ok (.if_icmp .ge 38, 3) := by decide +kernel
theorem dL_isTold_241 : decode cL_isTold 241 = .ok (.iload 14, 2) := by decide +kernel
theorem dL_isTold_243 : decode cL_isTold 243 = .ok (.aload_n 2, 1) := by decide +kernel
theorem dL_isTold_244 : decode cL_isTold 244 = .ok (.iload 12, 2) := by decide +kernel
theorem dL_isTold_246 : decode cL_isTold 246 = .ok (.iload 15, 2) := by decide +kernel
theorem dL_isTold_248 : decode cL_isTold 248 = .ok (.invokestatic 72, 3) := by decide +kernel
theorem dL_isTold_251 : decode cL_isTold 251 = .ok (.aload_n 2, 1) := by decide +kernel
theorem dL_isTold_252 : decode cL_isTold 252 = .ok (.iload 13, 2) := by decide +kernel
theorem dL_isTold_254 : decode cL_isTold 254 = .ok (.iload 15, 2) := by decide +kernel
theorem dL_isTold_256 : decode cL_isTold 256 = .ok (.invokestatic 72, 3) := by decide +kernel
theorem dL_isTold_259 : decode cL_isTold 259 = .ok (.if_icmp .eq 7, 3) := by decide +kernel
theorem dL_isTold_262 : decode cL_isTold 262 = .ok (.iconst 1, 1) := by decide +kernel
theorem dL_isTold_263 : decode cL_isTold 263 = .ok (.goto 4, 3) := by decide +kernel
theorem dL_isTold_266 : decode cL_isTold 266 = .ok (.iconst 0, 1) := by decide +kernel
theorem dL_isTold_267 : decode cL_isTold 267 = .ok (.iadd, 1) := by decide +kernel
theorem dL_isTold_268 : decode cL_isTold 268 = .ok (.istore 14, 2) := by decide +kernel
theorem dL_isTold_270 : decode cL_isTold 270 = .ok (.iinc 15 1, 3) := by decide +kernel
theorem dL_isTold_273 : decode cL_isTold 273 = .ok (.goto (-39), 3) := by decide +kernel
theorem dL_isTold_276 : decode cL_isTold 276 = .ok (.iconst 0, 1) := by decide +kernel
theorem dL_isTold_277 : decode cL_isTold 277 = .ok (.istore 15, 2) := by decide +kernel
theorem dL_isTold_279 : decode cL_isTold 279 = .ok (.iconst 1, 1) := by decide +kernel
theorem dL_isTold_280 : decode cL_isTold 280 = .ok (.istore 16, 2) := by decide +kernel
theorem dL_isTold_282 : decode cL_isTold 282 = .ok (.iload 16, 2) := by decide +kernel
theorem dL_isTold_284 : decode cL_isTold 284 = .ok (.aload 10, 2) := by decide +kernel
theorem dL_isTold_286 : decode cL_isTold 286 = .ok (.iconst 1, 1) := by decide +kernel
theorem dL_isTold_287 : decode cL_isTold 287 = .ok (.iaload, 1) := by decide +kernel
theorem dL_isTold_288 : decode cL_isTold 288 = .ok (.if_icmp .ge 30, 3) := by decide +kernel
theorem dL_isTold_291 : decode cL_isTold 291 = .ok (.iload 15, 2) := by decide +kernel
theorem dL_isTold_293 : decode cL_isTold 293 = .ok (.aload_n 3, 1) := by decide +kernel
theorem dL_isTold_294 : decode cL_isTold 294 = .ok (.iload 16, 2) := by decide +kernel
theorem dL_isTold_296 : decode cL_isTold 296 = .ok (.iaload, 1) := by decide +kernel
theorem dL_isTold_297 : decode cL_isTold 297 = .ok (.aload 10, 2) := by decide +kernel
theorem dL_isTold_299 : decode cL_isTold 299 = .ok (.iconst 0, 1) := by decide +kernel
theorem dL_isTold_300 : decode cL_isTold 300 = .ok (.iaload, 1) := by decide +kernel
theorem dL_isTold_301 : decode cL_isTold 301 = .ok (.if_icmp .ne 7, 3) := by decide +kernel
theorem dL_isTold_304 : decode cL_isTold 304 = .ok (.iconst 1, 1) := by decide +kernel
theorem dL_isTold_305 : decode cL_isTold 305 = .ok (.goto 4, 3) := by decide +kernel
theorem dL_isTold_308 : decode cL_isTold 308 = .ok (.iconst 0, 1) := by decide +kernel
theorem dL_isTold_309 : decode cL_isTold 309 = .ok (.iadd, 1) := by decide +kernel
theorem dL_isTold_310 : decode cL_isTold 310 = .ok (.istore 15, 2) := by decide +kernel
theorem dL_isTold_312 : decode cL_isTold 312 = .ok (.iinc 16 1, 3) := by decide +kernel
theorem dL_isTold_315 : decode cL_isTold 315 = .ok (.goto (-33), 3) := by decide +kernel
theorem dL_isTold_318 : decode cL_isTold 318 = .ok (.aload_n 0, 1) := by decide +kernel
theorem dL_isTold_319 : decode cL_isTold 319 = .ok (.invokevirtual 145, 3) := by decide +kernel
theorem dL_isTold_322 : decode cL_isTold 322 = .ok (.iload 11, 2) := by decide +kernel
theorem dL_isTold_324 : decode cL_isTold 324 = .ok (.if_icmp .ne 51, 3) := by decide +kernel
theorem dL_isTold_327 : decode cL_isTold 327 = .ok (.aload_n 0, 1) := by decide +kernel
theorem dL_isTold_328 : decode cL_isTold 328 = .ok (.invokevirtual 148, 3) := by decide +kernel
theorem dL_isTold_331 : decode cL_isTold 331 = .ok (.iload 11, 2) := by decide +kernel
theorem dL_isTold_333 : decode cL_isTold 333 = .ok (.if_icmp .ne 42, 3) := by decide +kernel
theorem dL_isTold_336 : decode cL_isTold 336 = .ok (.aload_n 0, 1) := by decide +kernel
theorem dL_isTold_337 : decode cL_isTold 337 = .ok (.invokevirtual 151, 3) := by decide +kernel
theorem dL_isTold_340 : decode cL_isTold 340 = .ok (.aload_n 2, 1) := by decide +kernel
theorem dL_isTold_341 : decode cL_isTold 341 = .ok (.aload 8, 2) := by decide +kernel
theorem dL_isTold_343 : decode cL_isTold 343 = .ok (.aload 9, 2) := by decide +kernel
theorem dL_isTold_345 : decode cL_isTold 345 = .ok (.aload 10, 2) := by decide +kernel
theorem dL_isTold_347 : decode cL_isTold 347 = .ok (.invokestatic 120, 3) := by decide +kernel
theorem dL_isTold_350 : decode cL_isTold 350 = .ok (.if_icmp .ne 25, 3) := by decide +kernel
theorem dL_isTold_353 : decode cL_isTold 353 = .ok (.aload_n 0, 1) := by decide +kernel
theorem dL_isTold_354 : decode cL_isTold 354 = .ok (.iload 12, 2) := by decide +kernel
theorem dL_isTold_356 : decode cL_isTold 356 = .ok (.iload 13, 2) := by decide +kernel
theorem dL_isTold_358 : decode cL_isTold 358 = .ok (.invokestatic 153, 3) := by decide +kernel
theorem dL_isTold_361 : decode cL_isTold 361 = .ok (.iload 14, 2) := by decide +kernel
theorem dL_isTold_363 : decode cL_isTold 363 = .ok (.if_icmp .ne 12, 3) := by decide +kernel
theorem dL_isTold_366 : decode cL_isTold 366 = .ok (.aload_n 0, 1) := by decide +kernel
theorem dL_isTold_367 : decode cL_isTold 367 = .ok (.invokevirtual 115, 3) := by decide +kernel
theorem dL_isTold_370 : decode cL_isTold 370 = .ok (.iload 15, 2) := by decide +kernel
theorem dL_isTold_372 : decode cL_isTold 372 = .ok (.if_icmp .eq 5, 3) := by decide +kernel
theorem dL_isTold_375 : decode cL_isTold 375 = .ok (.iconst 0, 1) := by decide +kernel
theorem dL_isTold_376 : decode cL_isTold 376 = .ok (.ireturn, 1) := by decide +kernel
theorem dL_isTold_377 : decode cL_isTold 377 = .ok (.iload_n 1, 1) := by decide +kernel
theorem dL_isTold_378 : decode cL_isTold 378 = .ok (.iconst 3, 1) := by decide +kernel
theorem dL_isTold_379 : decode cL_isTold 379 = .ok (.ishr, 1) := by decide +kernel
theorem dL_isTold_380 : decode cL_isTold 380 = .ok (.bipush 16, 2) := by decide +kernel
theorem dL_isTold_382 : decode cL_isTold 382 = .ok (.invokestatic 87, 3) := by decide +kernel
theorem dL_isTold_385 : decode cL_isTold 385 = .ok (.istore 16, 2) := by decide +kernel
theorem dL_isTold_387 : decode cL_isTold 387 = .ok (.iconst 0, 1) := by decide +kernel
theorem dL_isTold_388 : decode cL_isTold 388 = .ok (.istore 17, 2) := by decide +kernel
theorem dL_isTold_390 : decode cL_isTold 390 = .ok (.iload 17, 2) := by decide +kernel
theorem dL_isTold_392 : decode cL_isTold 392 = .ok (.aload 10, 2) := by decide +kernel
theorem dL_isTold_394 : decode cL_isTold 394 = .ok (.iconst 2, 1) := by decide +kernel
theorem dL_isTold_395 : decode cL_isTold 395 = .ok (.iaload, 1) := by decide +kernel
theorem dL_isTold_396 : decode cL_isTold 396 = .ok (.if_icmp .ge 55, 3) := by decide +kernel
theorem dL_isTold_399 : decode cL_isTold 399 = .ok (.aload_n 0, 1) := by decide +kernel
theorem dL_isTold_400 : decode cL_isTold 400 = .ok (.iload 17, 2) := by decide +kernel
theorem dL_isTold_402 : decode cL_isTold 402 = .ok (.iload 16, 2) := by decide +kernel
theorem dL_isTold_404 : decode cL_isTold 404 = .ok (.invokestatic 155, 3) := by decide +kernel
theorem dL_isTold_407 : decode cL_isTold 407 = .ok (.aload 4, 2) := by decide +kernel
theorem dL_isTold_409 : decode cL_isTold 409 = .ok (.iload 17, 2) := by decide +kernel
theorem dL_isTold_411 : decode cL_isTold 411 = .ok (.laload, 1) := by decide +kernel
theorem dL_isTold_412 : decode cL_isTold 412 = .ok (.aload 6, 2) := by decide +kernel
theorem dL_isTold_414 : decode cL_isTold 414 = .ok (.iload 17, 2) := by decide +kernel
theorem dL_isTold_416 : decode cL_isTold 416 = .ok (.iaload, 1) := by decide +kernel
theorem dL_isTold_417 : decode cL_isTold 417 = .ok (.iconst 1, 1) := by decide +kernel
theorem dL_isTold_418 : decode cL_isTold 418 = .ok (.iadd, 1) := by decide +kernel
theorem dL_isTold_419 : decode cL_isTold 419 = .ok (.invokestatic 131, 3) := by decide +kernel
theorem dL_isTold_422 : decode cL_isTold 422 = .ok (.iload 16, 2) := by decide +kernel
theorem dL_isTold_424 : decode cL_isTold 424 = .ok (.invokestatic 83, 3) := by decide +kernel
theorem dL_isTold_427 : decode cL_isTold 427 = .ok (.if_icmp .ne 16, 3) := by decide +kernel
theorem dL_isTold_430 : decode cL_isTold 430 = .ok (.aload_n 0, 1) := by decide +kernel
theorem dL_isTold_431 : decode cL_isTold 431 = .ok (.iload 17, 2) := by decide +kernel
theorem dL_isTold_433 : decode cL_isTold 433 = .ok (.bipush 16, 2) := by decide +kernel
theorem dL_isTold_435 : decode cL_isTold 435 = .ok (.invokestatic 155, 3) := by decide +kernel
theorem dL_isTold_438 : decode cL_isTold 438 = .ok (.bipush (-71), 2) := by decide +kernel
theorem dL_isTold_440 : decode cL_isTold 440 = .ok (.if_icmp .eq 5, 3) := by decide +kernel
theorem dL_isTold_443 : decode cL_isTold 443 = .ok (.iconst 0, 1) := by decide +kernel
theorem dL_isTold_444 : decode cL_isTold 444 = .ok (.ireturn, 1) := by decide +kernel
theorem dL_isTold_445 : decode cL_isTold 445 = .ok (.iinc 17 1, 3) := by decide +kernel
theorem dL_isTold_448 : decode cL_isTold 448 = .ok (.goto (-58), 3) := by decide +kernel
theorem dL_isTold_451 : decode cL_isTold 451 = .ok (.aload 10, 2) := by decide +kernel
theorem dL_isTold_453 : decode cL_isTold 453 = .ok (.iconst 3, 1) := by decide +kernel
theorem dL_isTold_454 : decode cL_isTold 454 = .ok (.iaload, 1) := by decide +kernel
theorem dL_isTold_455 : decode cL_isTold 455 = .ok (.ifCond .le 183, 3) := by decide +kernel
theorem dL_isTold_458 : decode cL_isTold 458 = .ok (.iconst 0, 1) := by decide +kernel
theorem dL_isTold_459 : decode cL_isTold 459 = .ok (.istore 17, 2) := by decide +kernel
theorem dL_isTold_461 : decode cL_isTold 461 = .ok (.iload 17, 2) := by decide +kernel
theorem dL_isTold_463 : decode cL_isTold 463 = .ok (.iconst 3, 1) := by decide +kernel
theorem dL_isTold_464 : decode cL_isTold 464 = .ok (.if_icmp .ge 174, 3) := by decide +kernel
theorem dL_isTold_467 : decode cL_isTold 467 = .ok (.iload_n 1, 1) := by decide +kernel
theorem dL_isTold_468 : decode cL_isTold 468 = .ok (.iload 17, 2) := by decide +kernel
theorem dL_isTold_470 : decode cL_isTold 470 = .ok (.ishr, 1) := by decide +kernel
theorem dL_isTold_471 : decode cL_isTold 471 = .ok (.aload 10, 2) := by decide +kernel
theorem dL_isTold_473 : decode cL_isTold 473 = .ok (.iconst 3, 1) := by decide +kernel
theorem dL_isTold_474 : decode cL_isTold 474 = .ok (.iaload, 1) := by decide +kernel
theorem dL_isTold_475 : decode cL_isTold 475 = .ok (.invokestatic 87, 3) := by decide +kernel
theorem dL_isTold_478 : decode cL_isTold 478 = .ok (.istore 18, 2) := by decide +kernel
theorem dL_isTold_480 : decode cL_isTold 480 = .ok (.iload_n 1, 1) := by decide +kernel
theorem dL_isTold_481 : decode cL_isTold 481 = .ok (.iconst 5, 1) := by decide +kernel
theorem dL_isTold_482 : decode cL_isTold 482 = .ok (.ishr, 1) := by decide +kernel
theorem dL_isTold_483 : decode cL_isTold 483 = .ok (.aload 10, 2) := by decide +kernel
theorem dL_isTold_485 : decode cL_isTold 485 = .ok (.iconst 3, 1) := by decide +kernel
theorem dL_isTold_486 : decode cL_isTold 486 = .ok (.iaload, 1) := by decide +kernel
theorem dL_isTold_487 : decode cL_isTold 487 = .ok (.invokestatic 87, 3) := by decide +kernel
theorem dL_isTold_490 : decode cL_isTold 490 = .ok (.istore 19, 2) := by decide +kernel
theorem dL_isTold_492 : decode cL_isTold 492 = .ok (.aload 5, 2) := by decide +kernel
theorem dL_isTold_494 : decode cL_isTold 494 = .ok (.iload 18, 2) := by decide +kernel
theorem dL_isTold_496 : decode cL_isTold 496 = .ok (.laload, 1) := by decide +kernel
theorem dL_isTold_497 : decode cL_isTold 497 = .ok (.aload 4, 2) := by decide +kernel
theorem dL_isTold_499 : decode cL_isTold 499 = .ok (.aload 7, 2) := by decide +kernel
theorem dL_isTold_501 : decode cL_isTold 501 = .ok (.iload 18, 2) := by decide +kernel
theorem dL_isTold_503 : decode cL_isTold 503 = .ok (.iaload, 1) := by decide +kernel
theorem dL_isTold_504 : decode cL_isTold 504 = .ok (.bipush 8, 2) := by decide +kernel
theorem dL_isTold_506 : decode cL_isTold 506 = .ok (.irem, 1) := by decide +kernel
theorem dL_isTold_507 : decode cL_isTold 507 = .ok (.laload, 1) := by decide +kernel
theorem dL_isTold_508 : decode cL_isTold 508 = .ok (.invokestatic 157, 3) := by decide +kernel
theorem dL_isTold_511 : decode cL_isTold 511 = .ok (.istore 20, 2) := by decide +kernel
theorem dL_isTold_513 : decode cL_isTold 513 = .ok (.aload_n 0, 1) := by decide +kernel
theorem dL_isTold_514 : decode cL_isTold 514 = .ok (.iload 18, 2) := by decide +kernel
theorem dL_isTold_516 : decode cL_isTold 516 = .ok (.iload 16, 2) := by decide +kernel
theorem dL_isTold_518 : decode cL_isTold 518 = .ok (.invokestatic 161, 3) := by decide +kernel
theorem dL_isTold_521 : decode cL_isTold 521 = .ok (.aload 5, 2) := by decide +kernel
theorem dL_isTold_523 : decode cL_isTold 523 = .ok (.iload 18, 2) := by decide +kernel
theorem dL_isTold_525 : decode cL_isTold 525 = .ok (.laload, 1) := by decide +kernel
theorem dL_isTold_526 : decode cL_isTold 526 = .ok (.iload 16, 2) := by decide +kernel
theorem dL_isTold_528 : decode cL_isTold 528 = .ok (.invokestatic 83, 3) := by decide +kernel
theorem dL_isTold_531 : decode cL_isTold 531 = .ok (.if_icmp .ne 99, 3) := by decide +kernel
theorem dL_isTold_534 : decode cL_isTold 534 = .ok (.aload_n 0, 1) := by decide +kernel
theorem dL_isTold_535 : decode cL_isTold 535 = .ok (.iload 18, 2) := by decide +kernel
theorem dL_isTold_537 : decode cL_isTold 537 = .ok (.invokestatic 163, 3) := by decide +kernel
theorem dL_isTold_540 : decode cL_isTold 540 = .ok (.iload 20, 2) := by decide +kernel
theorem dL_isTold_542 : decode cL_isTold 542 = .ok (.bipush 19, 2) := by decide +kernel
theorem dL_isTold_544 : decode cL_isTold 544 = .ok (.if_icmp .le 7, 3) := by decide +kernel
theorem dL_isTold_547 : decode cL_isTold 547 = .ok (.iconst 0, 1) := by decide +kernel
theorem dL_isTold_548 : decode cL_isTold 548 = .ok (.goto 10, 3) := by decide +kernel
theorem dL_isTold_551 : decode cL_isTold 551 = .ok (.bipush 100, 2) := by decide +kernel
theorem dL_isTold_553 : decode cL_isTold 553 = .ok (.iconst 5, 1) := by decide +kernel
theorem dL_isTold_554 : decode cL_isTold 554 = .ok (.iload 20, 2) := by decide +kernel
theorem dL_isTold_556 : decode cL_isTold 556 = .ok (.imul, 1) := by decide +kernel
theorem dL_isTold_557 : decode cL_isTold 557 = .ok (.isub, 1) := by decide +kernel
theorem dL_isTold_558 : decode cL_isTold 558 = .ok (.if_icmp .ne 72, 3) := by decide +kernel
theorem dL_isTold_561 : decode cL_isTold 561 = .ok (.aload_n 0, 1) := by decide +kernel
theorem dL_isTold_562 : decode cL_isTold 562 = .ok (.iload 18, 2) := by decide +kernel
theorem dL_isTold_564 : decode cL_isTold 564 = .ok (.invokevirtual 165, 3) := by decide +kernel
theorem dL_isTold_567 : decode cL_isTold 567 = .ok (.aload 5, 2) := by decide +kernel
theorem dL_isTold_569 : decode cL_isTold 569 = .ok (.iload 18, 2) := by decide +kernel
theorem dL_isTold_571 : decode cL_isTold 571 = .ok (.laload, 1) := by decide +kernel
theorem dL_isTold_572 : decode cL_isTold 572 = .ok (.aload 4, 2) := by decide +kernel
theorem dL_isTold_574 : decode cL_isTold 574 = .ok (.aload 7, 2) := by decide +kernel
theorem dL_isTold_576 : decode cL_isTold 576 = .ok (.iload 18, 2) := by decide +kernel
theorem dL_isTold_578 : decode cL_isTold 578 = .ok (.iaload, 1) := by decide +kernel
theorem dL_isTold_579 : decode cL_isTold 579 = .ok (.bipush 8, 2) := by decide +kernel
theorem dL_isTold_581 : decode cL_isTold 581 = .ok (.irem, 1) := by decide +kernel
theorem dL_isTold_582 : decode cL_isTold 582 = .ok (.laload, 1) := by decide +kernel
theorem dL_isTold_583 : decode cL_isTold 583 = .ok (.aload 7, 2) := by decide +kernel
theorem dL_isTold_585 : decode cL_isTold 585 = .ok (.iload 18, 2) := by decide +kernel
theorem dL_isTold_587 : decode cL_isTold 587 = .ok (.iaload, 1) := by decide +kernel
theorem dL_isTold_588 : decode cL_isTold 588 = .ok (.bipush 8, 2) := by decide +kernel
theorem dL_isTold_590 : decode cL_isTold 590 = .ok (.idiv, 1) := by decide +kernel
theorem dL_isTold_591 : decode cL_isTold 591 = .ok (.invokestatic 131, 3) := by decide +kernel
theorem dL_isTold_594 : decode cL_isTold 594 = .ok (.lcmp, 1) := by decide +kernel
theorem dL_isTold_595 : decode cL_isTold 595 = .ok (.ifCond .eq 7, 3) := by decide +kernel
theorem dL_isTold_598 : decode cL_isTold 598 = .ok (.iconst 1, 1) := by decide +kernel
theorem dL_isTold_599 : decode cL_isTold 599 = .ok (.goto 4, 3) := by decide +kernel
theorem dL_isTold_602 : decode cL_isTold 602 = .ok (.iconst 0, 1) := by decide +kernel
theorem dL_isTold_603 : decode cL_isTold 603 = .ok (.if_icmp .ne 27, 3) := by decide +kernel
theorem dL_isTold_606 : decode cL_isTold 606 = .ok (.aload_n 0, 1) := by decide +kernel
theorem dL_isTold_607 : decode cL_isTold 607 = .ok (.iload 18, 2) := by decide +kernel
theorem dL_isTold_609 : decode cL_isTold 609 = .ok (.iload 19, 2) := by decide +kernel
theorem dL_isTold_611 : decode cL_isTold 611 = .ok (.invokestatic 169, 3) := by decide +kernel
theorem dL_isTold_614 : decode cL_isTold 614 = .ok (.aload 5, 2) := by decide +kernel
theorem dL_isTold_616 : decode cL_isTold 616 = .ok (.iload 18, 2) := by decide +kernel
theorem dL_isTold_618 : decode cL_isTold 618 = .ok (.laload, 1) := by decide +kernel
theorem dL_isTold_619 : decode cL_isTold 619 = .ok (.aload 5, 2) := by decide +kernel
theorem dL_isTold_621 : decode cL_isTold 621 = .ok (.iload 19, 2) := by decide +kernel
theorem dL_isTold_623 : decode cL_isTold 623 = .ok (.laload, 1) := by decide +kernel
theorem dL_isTold_624 : decode cL_isTold 624 = .ok (.invokestatic 157, 3) := by decide +kernel
theorem dL_isTold_627 : decode cL_isTold 627 = .ok (.if_icmp .eq 5, 3) := by decide +kernel
theorem dL_isTold_630 : decode cL_isTold 630 = .ok (.iconst 0, 1) := by decide +kernel
theorem dL_isTold_631 : decode cL_isTold 631 = .ok (.ireturn, 1) := by decide +kernel
theorem dL_isTold_632 : decode cL_isTold 632 = .ok (.iinc 17 1, 3) := by decide +kernel
theorem dL_isTold_635 : decode cL_isTold 635 = .ok (.goto (-174), 3) := by decide +kernel
theorem dL_isTold_638 : decode cL_isTold 638 = .ok (.aload_n 0, 1) := by decide +kernel
theorem dL_isTold_639 : decode cL_isTold 639 = .ok (.invokevirtual 171, 3) := by decide +kernel
theorem dL_isTold_642 : decode cL_isTold 642 = .ok (.aload 10, 2) := by decide +kernel
theorem dL_isTold_644 : decode cL_isTold 644 = .ok (.iconst 0, 1) := by decide +kernel
theorem dL_isTold_645 : decode cL_isTold 645 = .ok (.iaload, 1) := by decide +kernel
theorem dL_isTold_646 : decode cL_isTold 646 = .ok (.if_icmp .ne 143, 3) := by decide +kernel
theorem dL_isTold_649 : decode cL_isTold 649 = .ok (.aload_n 0, 1) := by decide +kernel
theorem dL_isTold_650 : decode cL_isTold 650 = .ok (.invokevirtual 93, 3) := by decide +kernel
theorem dL_isTold_653 : decode cL_isTold 653 = .ok (.aload 10, 2) := by decide +kernel
theorem dL_isTold_655 : decode cL_isTold 655 = .ok (.iconst 1, 1) := by decide +kernel
theorem dL_isTold_656 : decode cL_isTold 656 = .ok (.iaload, 1) := by decide +kernel
theorem dL_isTold_657 : decode cL_isTold 657 = .ok (.if_icmp .ne 132, 3) := by decide +kernel
theorem dL_isTold_660 : decode cL_isTold 660 = .ok (.aload_n 0, 1) := by decide +kernel
theorem dL_isTold_661 : decode cL_isTold 661 = .ok (.bipush 16, 2) := by decide +kernel
theorem dL_isTold_663 : decode cL_isTold 663 = .ok (.iconst 0, 1) := by decide +kernel
theorem dL_isTold_664 : decode cL_isTold 664 = .ok (.invokestatic 137, 3) := by decide +kernel
theorem dL_isTold_667 : decode cL_isTold 667 = .ok (.bipush (-71), 2) := by decide +kernel
theorem dL_isTold_669 : decode cL_isTold 669 = .ok (.if_icmp .ne 120, 3) := by decide +kernel
theorem dL_isTold_672 : decode cL_isTold 672 = .ok (.aload_n 0, 1) := by decide +kernel
theorem dL_isTold_673 : decode cL_isTold 673 = .ok (.iconst 0, 1) := by decide +kernel
theorem dL_isTold_674 : decode cL_isTold 674 = .ok (.bipush 8, 2) := by decide +kernel
theorem dL_isTold_676 : decode cL_isTold 676 = .ok (.invokestatic 137, 3) := by decide +kernel
theorem dL_isTold_679 : decode cL_isTold 679 = .ok (.bipush (-71), 2) := by decide +kernel
theorem dL_isTold_681 : decode cL_isTold 681 = .ok (.if_icmp .ne 108, 3) := by decide +kernel
theorem dL_isTold_684 : decode cL_isTold 684 = .ok (.aload_n 0, 1) := by decide +kernel
theorem dL_isTold_685 : decode cL_isTold 685 = .ok (.aload 10, 2) := by decide +kernel
theorem dL_isTold_687 : decode cL_isTold 687 = .ok (.iconst 1, 1) := by decide +kernel
theorem dL_isTold_688 : decode cL_isTold 688 = .ok (.iaload, 1) := by decide +kernel
theorem dL_isTold_689 : decode cL_isTold 689 = .ok (.iconst 0, 1) := by decide +kernel
theorem dL_isTold_690 : decode cL_isTold 690 = .ok (.invokestatic 153, 3) := by decide +kernel
theorem dL_isTold_693 : decode cL_isTold 693 = .ok (.bipush (-71), 2) := by decide +kernel
theorem dL_isTold_695 : decode cL_isTold 695 = .ok (.if_icmp .ne 94, 3) := by decide +kernel
theorem dL_isTold_698 : decode cL_isTold 698 = .ok (.aload_n 0, 1) := by decide +kernel
theorem dL_isTold_699 : decode cL_isTold 699 = .ok (.iconst 0, 1) := by decide +kernel
theorem dL_isTold_700 : decode cL_isTold 700 = .ok (.iconst (-1), 1) := by decide +kernel
theorem dL_isTold_701 : decode cL_isTold 701 = .ok (.invokestatic 153, 3) := by decide +kernel
theorem dL_isTold_704 : decode cL_isTold 704 = .ok (.bipush (-71), 2) := by decide +kernel
theorem dL_isTold_706 : decode cL_isTold 706 = .ok (.if_icmp .ne 83, 3) := by decide +kernel
theorem dL_isTold_709 : decode cL_isTold 709 = .ok (.aload_n 0, 1) := by decide +kernel
theorem dL_isTold_710 : decode cL_isTold 710 = .ok (.aload 10, 2) := by decide +kernel
theorem dL_isTold_712 : decode cL_isTold 712 = .ok (.iconst 2, 1) := by decide +kernel
theorem dL_isTold_713 : decode cL_isTold 713 = .ok (.iaload, 1) := by decide +kernel
theorem dL_isTold_714 : decode cL_isTold 714 = .ok (.iconst 0, 1) := by decide +kernel
theorem dL_isTold_715 : decode cL_isTold 715 = .ok (.invokestatic 155, 3) := by decide +kernel
theorem dL_isTold_718 : decode cL_isTold 718 = .ok (.bipush (-71), 2) := by decide +kernel
theorem dL_isTold_720 : decode cL_isTold 720 = .ok (.if_icmp .ne 69, 3) := by decide +kernel
theorem dL_isTold_723 : decode cL_isTold 723 = .ok (.aload_n 0, 1) := by decide +kernel
theorem dL_isTold_724 : decode cL_isTold 724 = .ok (.aload 10, 2) := by decide +kernel
theorem dL_isTold_726 : decode cL_isTold 726 = .ok (.iconst 3, 1) := by decide +kernel
theorem dL_isTold_727 : decode cL_isTold 727 = .ok (.iaload, 1) := by decide +kernel
theorem dL_isTold_728 : decode cL_isTold 728 = .ok (.iconst 0, 1) := by decide +kernel
theorem dL_isTold_729 : decode cL_isTold 729 = .ok (.invokestatic 161, 3) := by decide +kernel
theorem dL_isTold_732 : decode cL_isTold 732 = .ok (.bipush (-71), 2) := by decide +kernel
theorem dL_isTold_734 : decode cL_isTold 734 = .ok (.if_icmp .ne 55, 3) := by decide +kernel
theorem dL_isTold_737 : decode cL_isTold 737 = .ok (.aload_n 0, 1) := by decide +kernel
theorem dL_isTold_738 : decode cL_isTold 738 = .ok (.aload 10, 2) := by decide +kernel
theorem dL_isTold_740 : decode cL_isTold 740 = .ok (.iconst 3, 1) := by decide +kernel
theorem dL_isTold_741 : decode cL_isTold 741 = .ok (.iaload, 1) := by decide +kernel
theorem dL_isTold_742 : decode cL_isTold 742 = .ok (.invokestatic 163, 3) := by decide +kernel
theorem dL_isTold_745 : decode cL_isTold 745 = .ok (.bipush (-71), 2) := by decide +kernel
theorem dL_isTold_747 : decode cL_isTold 747 = .ok (.if_icmp .ne 42, 3) := by decide +kernel
theorem dL_isTold_750 : decode cL_isTold 750 = .ok (.aload_n 0, 1) := by decide +kernel
theorem dL_isTold_751 : decode cL_isTold 751 = .ok (.iconst (-1), 1) := by decide +kernel
theorem dL_isTold_752 : decode cL_isTold 752 = .ok (.invokestatic 163, 3) := by decide +kernel
theorem dL_isTold_755 : decode cL_isTold 755 = .ok (.bipush (-71), 2) := by decide +kernel
theorem dL_isTold_757 : decode cL_isTold 757 = .ok (.if_icmp .ne 32, 3) := by decide +kernel
theorem dL_isTold_760 : decode cL_isTold 760 = .ok (.aload_n 0, 1) := by decide +kernel
theorem dL_isTold_761 : decode cL_isTold 761 = .ok (.iconst 0, 1) := by decide +kernel
theorem dL_isTold_762 : decode cL_isTold 762 = .ok (.aload 10, 2) := by decide +kernel
theorem dL_isTold_764 : decode cL_isTold 764 = .ok (.iconst 3, 1) := by decide +kernel
theorem dL_isTold_765 : decode cL_isTold 765 = .ok (.iaload, 1) := by decide +kernel
theorem dL_isTold_766 : decode cL_isTold 766 = .ok (.invokestatic 169, 3) := by decide +kernel
theorem dL_isTold_769 : decode cL_isTold 769 = .ok (.bipush (-71), 2) := by decide +kernel
theorem dL_isTold_771 : decode cL_isTold 771 = .ok (.if_icmp .ne 18, 3) := by decide +kernel
theorem dL_isTold_774 : decode cL_isTold 774 = .ok (.aload_n 0, 1) := by decide +kernel
theorem dL_isTold_775 : decode cL_isTold 775 = .ok (.iconst (-1), 1) := by decide +kernel
theorem dL_isTold_776 : decode cL_isTold 776 = .ok (.iconst 0, 1) := by decide +kernel
theorem dL_isTold_777 : decode cL_isTold 777 = .ok (.invokestatic 169, 3) := by decide +kernel
theorem dL_isTold_780 : decode cL_isTold 780 = .ok (.bipush (-71), 2) := by decide +kernel
theorem dL_isTold_782 : decode cL_isTold 782 = .ok (.if_icmp .ne 7, 3) := by decide +kernel
theorem dL_isTold_785 : decode cL_isTold 785 = .ok (.iconst 1, 1) := by decide +kernel
theorem dL_isTold_786 : decode cL_isTold 786 = .ok (.goto 4, 3) := by decide +kernel
theorem dL_isTold_789 : decode cL_isTold 789 = .ok (.iconst 0, 1) := by decide +kernel
theorem dL_isTold_790 : decode cL_isTold 790 = .ok (.ireturn, 1) := by decide +kernel
theorem dL_law_0 : decode cL_law 0 = .ok (.new 9, 3) := by decide +kernel
theorem dL_law_3 : decode cL_law 3 = .ok (.dup, 1) := by decide +kernel
theorem dL_law_4 : decode cL_law 4 = .ok (.invokespecial 174, 3) := by decide +kernel
theorem dL_law_7 : decode cL_law 7 = .ok (.astore_n 1, 1) := by decide +kernel
theorem dL_law_8 : decode cL_law 8 = .ok (.bipush 64, 2) := by decide +kernel
theorem dL_law_10 : decode cL_law 10 = .ok (.newarray .long, 2) := by decide +kernel
theorem dL_law_12 : decode cL_law 12 = .ok (.astore_n 2, 1) := by decide +kernel
theorem dL_law_13 : decode cL_law 13 = .ok (.bipush 16, 2) := by decide +kernel
theorem dL_law_15 : decode cL_law 15 = .ok (.newarray .int, 2) := by decide +kernel
theorem dL_law_17 : decode cL_law 17 = .ok (.astore_n 3, 1) := by decide +kernel
theorem dL_law_18 : decode cL_law 18 = .ok (.bipush 8, 2) := by decide +kernel
theorem dL_law_20 : decode cL_law 20 = .ok (.newarray .long, 2) := by decide +kernel
theorem dL_law_22 : decode cL_law 22 = .ok (.astore 4, 2) := by decide +kernel
theorem dL_law_24 : decode cL_law 24 = .ok (.bipush 60, 2) := by decide +kernel
theorem dL_law_26 : decode cL_law 26 = .ok (.newarray .long, 2) := by decide +kernel
theorem dL_law_28 : decode cL_law 28 = .ok (.astore 5, 2) := by decide +kernel
theorem dL_law_30 : decode cL_law 30 = .ok (.bipush 8, 2) := by decide +kernel
theorem dL_law_32 : decode cL_law 32 = .ok (.newarray .int, 2) := by decide +kernel
theorem dL_law_34 : decode cL_law 34 = .ok (.astore 6, 2) := by decide +kernel
theorem dL_law_36 : decode cL_law 36 = .ok (.bipush 60, 2) := by decide +kernel
theorem dL_law_38 : decode cL_law 38 = .ok (.newarray .int, 2) := by decide +kernel
theorem dL_law_40 : decode cL_law 40 = .ok (.astore 7, 2) := by decide +kernel
theorem dL_law_42 : decode cL_law 42 = .ok (.bipush 16, 2) := by decide +kernel
theorem dL_law_44 : decode cL_law 44 = .ok (.newarray .int, 2) := by decide +kernel
theorem dL_law_46 : decode cL_law 46 = .ok (.astore 8, 2) := by decide +kernel
theorem dL_law_48 : decode cL_law 48 = .ok (.bipush 16, 2) := by decide +kernel
theorem dL_law_50 : decode cL_law 50 = .ok (.newarray .int, 2) := by decide +kernel
theorem dL_law_52 : decode cL_law 52 = .ok (.astore 9, 2) := by decide +kernel
theorem dL_law_54 : decode cL_law 54 = .ok (.iconst 4, 1) := by decide +kernel
theorem dL_law_55 : decode cL_law 55 = .ok (.newarray .int, 2) := by decide +kernel
theorem dL_law_57 : decode cL_law 57 = .ok (.astore 10, 2) := by decide +kernel
theorem dL_law_59 : decode cL_law 59 = .ok (.aload 10, 2) := by decide +kernel
theorem dL_law_61 : decode cL_law 61 = .ok (.iconst 1, 1) := by decide +kernel
theorem dL_law_62 : decode cL_law 62 = .ok (.iconst 1, 1) := by decide +kernel
theorem dL_law_63 : decode cL_law 63 = .ok (.iastore, 1) := by decide +kernel
theorem dL_law_64 : decode cL_law 64 = .ok (.aload_n 3, 1) := by decide +kernel
theorem dL_law_65 : decode cL_law 65 = .ok (.iconst 0, 1) := by decide +kernel
theorem dL_law_66 : decode cL_law 66 = .ok (.iconst (-1), 1) := by decide +kernel
theorem dL_law_67 : decode cL_law 67 = .ok (.iastore, 1) := by decide +kernel
theorem dL_law_68 : decode cL_law 68 = .ok (.aload_n 1, 1) := by decide +kernel
theorem dL_law_69 : decode cL_law 69 = .ok (.iconst 2, 1) := by decide +kernel
theorem dL_law_70 : decode cL_law 70 = .ok (.aload_n 2, 1) := by decide +kernel
theorem dL_law_71 : decode cL_law 71 = .ok (.aload_n 3, 1) := by decide +kernel
theorem dL_law_72 : decode cL_law 72 = .ok (.aload 4, 2) := by decide +kernel
theorem dL_law_74 : decode cL_law 74 = .ok (.aload 5, 2) := by decide +kernel
theorem dL_law_76 : decode cL_law 76 = .ok (.aload 6, 2) := by decide +kernel
theorem dL_law_78 : decode cL_law 78 = .ok (.aload 7, 2) := by decide +kernel
theorem dL_law_80 : decode cL_law 80 = .ok (.aload 8, 2) := by decide +kernel
theorem dL_law_82 : decode cL_law 82 = .ok (.aload 9, 2) := by decide +kernel
theorem dL_law_84 : decode cL_law 84 = .ok (.aload 10, 2) := by decide +kernel
theorem dL_law_86 : decode cL_law 86 = .ok (.invokestatic 175, 3) := by decide +kernel
theorem dL_law_89 : decode cL_law 89 = .ok (.ifCond .ne 5, 3) := by decide +kernel
theorem dL_law_92 : decode cL_law 92 = .ok (.iconst 0, 1) := by decide +kernel
theorem dL_law_93 : decode cL_law 93 = .ok (.ireturn, 1) := by decide +kernel
theorem dL_law_94 : decode cL_law 94 = .ok (.iconst 0, 1) := by decide +kernel
theorem dL_law_95 : decode cL_law 95 = .ok (.istore 11, 2) := by decide +kernel
theorem dL_law_97 : decode cL_law 97 = .ok (.iload 11, 2) := by decide +kernel
theorem dL_law_99 : decode cL_law 99 = .ok (.bipush 90, 2) := by decide +kernel
theorem dL_law_101 : decode cL_law 101 = .ok (.if_icmp .ge 142, 3) := by decide +kernel
theorem dL_law_104 : decode cL_law 104 = .ok (.aload_n 0, 1) := by decide +kernel
theorem dL_law_105 : decode cL_law 105 = .ok (.iconst 3, 1) := by decide +kernel
theorem dL_law_106 : decode cL_law 106 = .ok (.iload 11, 2) := by decide +kernel
theorem dL_law_108 : decode cL_law 108 = .ok (.imul, 1) := by decide +kernel
theorem dL_law_109 : decode cL_law 109 = .ok (.invokestatic 179, 3) := by decide +kernel
theorem dL_law_112 : decode cL_law 112 = .ok (.istore 12, 2) := by decide +kernel
theorem dL_law_114 : decode cL_law 114 = .ok (.aload_n 0, 1) := by decide +kernel
theorem dL_law_115 : decode cL_law 115 = .ok (.iconst 3, 1) := by decide +kernel
theorem dL_law_116 : decode cL_law 116 = .ok (.iload 11, 2) := by decide +kernel
theorem dL_law_118 : decode cL_law 118 = .ok (.imul, 1) := by decide +kernel
theorem dL_law_119 : decode cL_law 119 = .ok (.iconst 1, 1) := by decide +kernel
theorem dL_law_120 : decode cL_law 120 = .ok (.iadd, 1) := by decide +kernel
theorem dL_law_121 : decode cL_law 121 = .ok (.invokestatic 179, 3) := by decide +kernel
theorem dL_law_124 : decode cL_law 124 = .ok (.istore 13, 2) := by decide +kernel
theorem dL_law_126 : decode cL_law 126 = .ok (.aload_n 0, 1) := by decide +kernel
theorem dL_law_127 : decode cL_law 127 = .ok (.iconst 3, 1) := by decide +kernel
theorem dL_law_128 : decode cL_law 128 = .ok (.iload 11, 2) := by decide +kernel
theorem dL_law_130 : decode cL_law 130 = .ok (.imul, 1) := by decide +kernel
theorem dL_law_131 : decode cL_law 131 = .ok (.iconst 2, 1) := by decide +kernel
theorem dL_law_132 : decode cL_law 132 = .ok (.iadd, 1) := by decide +kernel
theorem dL_law_133 : decode cL_law 133 = .ok (.invokestatic 179, 3) := by decide +kernel
theorem dL_law_136 : decode cL_law 136 = .ok (.istore 14, 2) := by decide +kernel
theorem dL_law_138 : decode cL_law 138 = .ok (.iload 12, 2) := by decide +kernel
theorem dL_law_140 : decode cL_law 140 = .ok (.bipush 22, 2) := by decide +kernel
theorem dL_law_142 : decode cL_law 142 = .ok (.invokestatic 87, 3) := by decide +kernel
theorem dL_law_145 : decode cL_law 145 = .ok (.istore 15, 2) := by decide +kernel
theorem dL_law_147 : decode cL_law 147 = .ok (.iload 15, 2) := by decide +kernel
theorem dL_law_149 : decode cL_law 149 = .ok (.bipush 14, 2) := by decide +kernel
theorem dL_law_151 : decode cL_law 151 = .ok (.if_icmp .ge 23, 3) := by decide +kernel
theorem dL_law_154 : decode cL_law 154 = .ok (.aload_n 1, 1) := by decide +kernel
theorem dL_law_155 : decode cL_law 155 = .ok (.iload 15, 2) := by decide +kernel
theorem dL_law_157 : decode cL_law 157 = .ok (.iload 13, 2) := by decide +kernel
theorem dL_law_159 : decode cL_law 159 = .ok (.iload 14, 2) := by decide +kernel
theorem dL_law_161 : decode cL_law 161 = .ok (.aload_n 2, 1) := by decide +kernel
theorem dL_law_162 : decode cL_law 162 = .ok (.aload_n 3, 1) := by decide +kernel
theorem dL_law_163 : decode cL_law 163 = .ok (.aload 10, 2) := by decide +kernel
theorem dL_law_165 : decode cL_law 165 = .ok (.invokestatic 183, 3) := by decide +kernel
theorem dL_law_168 : decode cL_law 168 = .ok (.ifCond .eq 67, 3) := by decide +kernel
theorem dL_law_171 : decode cL_law 171 = .ok (.goto 34, 3) := by decide +kernel
theorem dL_law_174 : decode cL_law 174 = .ok (.aload_n 1, 1) := by decide +kernel
theorem dL_law_175 : decode cL_law 175 = .ok (.iload 15, 2) := by decide +kernel
theorem dL_law_177 : decode cL_law 177 = .ok (.bipush 14, 2) := by decide +kernel
theorem dL_law_179 : decode cL_law 179 = .ok (.isub, 1) := by decide +kernel
theorem dL_law_180 : decode cL_law 180 = .ok (.iload 13, 2) := by decide +kernel
theorem dL_law_182 : decode cL_law 182 = .ok (.iload 14, 2) := by decide +kernel
theorem dL_law_184 : decode cL_law 184 = .ok (.aload_n 2, 1) := by decide +kernel
theorem dL_law_185 : decode cL_law 185 = .ok (.aload 4, 2) := by decide +kernel
theorem dL_law_187 : decode cL_law 187 = .ok (.aload 5, 2) := by decide +kernel
theorem dL_law_189 : decode cL_law 189 = .ok (.aload 6, 2) := by decide +kernel
theorem dL_law_191 : decode cL_law 191 = .ok (.aload 7, 2) := by decide +kernel
theorem dL_law_193 : decode cL_law 193 = .ok (.aload 8, 2) := by decide +kernel
theorem dL_law_195 : decode cL_law 195 = .ok (.aload 9, 2) := by decide +kernel
theorem dL_law_197 : decode cL_law 197 = .ok (.aload 10, 2) := by decide +kernel
theorem dL_law_199 : decode cL_law 199 = .ok (.invokestatic 187, 3) := by decide +kernel
theorem dL_law_202 : decode cL_law 202 = .ok (.ifCond .eq 33, 3) := by decide +kernel
theorem dL_law_205 : decode cL_law 205 = .ok (.aload_n 1, 1) := by decide +kernel
theorem dL_law_206 : decode cL_law 206 = .ok (.iload 12, 2) := by decide +kernel
theorem dL_law_208 : decode cL_law 208 = .ok (.iconst 5, 1) := by decide +kernel
theorem dL_law_209 : decode cL_law 209 = .ok (.ishr, 1) := by decide +kernel
theorem dL_law_210 : decode cL_law 210 = .ok (.iload 13, 2) := by decide +kernel
theorem dL_law_212 : decode cL_law 212 = .ok (.ixor, 1) := by decide +kernel
theorem dL_law_213 : decode cL_law 213 = .ok (.aload_n 2, 1) := by decide +kernel
theorem dL_law_214 : decode cL_law 214 = .ok (.aload_n 3, 1) := by decide +kernel
theorem dL_law_215 : decode cL_law 215 = .ok (.aload 4, 2) := by decide +kernel
theorem dL_law_217 : decode cL_law 217 = .ok (.aload 5, 2) := by decide +kernel
theorem dL_law_219 : decode cL_law 219 = .ok (.aload 6, 2) := by decide +kernel
theorem dL_law_221 : decode cL_law 221 = .ok (.aload 7, 2) := by decide +kernel
theorem dL_law_223 : decode cL_law 223 = .ok (.aload 8, 2) := by decide +kernel
theorem dL_law_225 : decode cL_law 225 = .ok (.aload 9, 2) := by decide +kernel
theorem dL_law_227 : decode cL_law 227 = .ok (.aload 10, 2) := by decide +kernel
theorem dL_law_229 : decode cL_law 229 = .ok (.invokestatic 175, 3) := by decide +kernel
theorem dL_law_232 : decode cL_law 232 = .ok (.ifCond .ne 5, 3) := by decide +kernel
theorem dL_law_235 : decode cL_law 235 = .ok (.iconst 0, 1) := by decide +kernel
theorem dL_law_236 : decode cL_law 236 = .ok (.ireturn, 1) := by decide +kernel
theorem dL_law_237 : decode cL_law 237 = .ok (.iinc 11 1, 3) := by decide +kernel
theorem dL_law_240 : decode cL_law 240 = .ok (.goto (-143), 3) := by decide +kernel
theorem dL_law_243 : decode cL_law 243 = .ok (.iconst 1, 1) := by decide +kernel
theorem dL_law_244 : decode cL_law 244 = .ok (.ireturn, 1) := by decide +kernel

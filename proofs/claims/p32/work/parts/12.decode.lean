theorem dL_cell_0 : decode cL_cell 0 = .ok (.iload_n 1, 1) := by decide +kernel
theorem dL_cell_1 : decode cL_cell 1 = .ok (.aload_n 0, 1) := by decide +kernel
theorem dL_cell_2 : decode cL_cell 2 = .ok (.arraylength, 1) := by decide +kernel
theorem dL_cell_3 : decode cL_cell 3 = .ok (.if_icmp .ge 9, 3) := by decide +kernel
theorem dL_cell_6 : decode cL_cell 6 = .ok (.aload_n 0, 1) := by decide +kernel
theorem dL_cell_7 : decode cL_cell 7 = .ok (.iload_n 1, 1) := by decide +kernel
theorem dL_cell_8 : decode cL_cell 8 = .ok (.iaload, 1) := by decide +kernel
theorem dL_cell_9 : decode cL_cell 9 = .ok (.goto 15, 3) := by decide +kernel
theorem dL_cell_12 : decode cL_cell 12 = .ok (.ldc 7, 2) := by decide +kernel
theorem dL_cell_14 : decode cL_cell 14 = .ok (.iload_n 1, 1) := by decide +kernel
theorem dL_cell_15 : decode cL_cell 15 = .ok (.sipush 6311, 3) := by decide +kernel
theorem dL_cell_18 : decode cL_cell 18 = .ok (.irem, 1) := by decide +kernel
theorem dL_cell_19 : decode cL_cell 19 = .ok (.imul, 1) := by decide +kernel
theorem dL_cell_20 : decode cL_cell 20 = .ok (.sipush 2311, 3) := by decide +kernel
theorem dL_cell_23 : decode cL_cell 23 = .ok (.iadd, 1) := by decide +kernel
theorem dL_cell_24 : decode cL_cell 24 = .ok (.ldc 8, 2) := by decide +kernel
theorem dL_cell_26 : decode cL_cell 26 = .ok (.iand, 1) := by decide +kernel
theorem dL_cell_27 : decode cL_cell 27 = .ok (.ireturn, 1) := by decide +kernel
theorem dL_type_0 : decode cL_type 0 = .ok (.aload_n 0, 1) := by decide +kernel
theorem dL_type_1 : decode cL_type 1 = .ok (.iload_n 1, 1) := by decide +kernel
theorem dL_type_2 : decode cL_type 2 = .ok (.i2c, 1) := by decide +kernel
theorem dL_type_3 : decode cL_type 3 = .ok (.invokevirtual 9, 3) := by decide +kernel
theorem dL_type_6 : decode cL_type 6 = .ok (.ireturn, 1) := by decide +kernel
theorem dL_type_7 : decode cL_type 7 = .ok (.astore_n 2, 1) := by decide +kernel
theorem dL_type_8 : decode cL_type 8 = .ok (.bipush (-102), 2) := by decide +kernel
theorem dL_type_10 : decode cL_type 10 = .ok (.ireturn, 1) := by decide +kernel
theorem dL_type_11 : decode cL_type 11 = .ok (.astore_n 2, 1) := by decide +kernel
theorem dL_type_12 : decode cL_type 12 = .ok (.bipush (-103), 2) := by decide +kernel
theorem dL_type_14 : decode cL_type 14 = .ok (.ireturn, 1) := by decide +kernel
theorem dL_formula_0 : decode cL_formula 0 = .ok (.aload_n 0, 1) := by decide +kernel
theorem dL_formula_1 : decode cL_formula 1 = .ok (.iload_n 1, 1) := by decide +kernel
theorem dL_formula_2 : decode cL_formula 2 = .ok (.invokevirtual 19, 3) := by decide +kernel
theorem dL_formula_5 : decode cL_formula 5 = .ok (.ireturn, 1) := by decide +kernel
theorem dL_formula_6 : decode cL_formula 6 = .ok (.astore_n 2, 1) := by decide +kernel
theorem dL_formula_7 : decode cL_formula 7 = .ok (.bipush (-101), 2) := by decide +kernel
theorem dL_formula_9 : decode cL_formula 9 = .ok (.ireturn, 1) := by decide +kernel
theorem dL_formula_10 : decode cL_formula 10 = .ok (.astore_n 2, 1) := by decide +kernel
theorem dL_formula_11 : decode cL_formula 11 = .ok (.bipush (-102), 2) := by decide +kernel
theorem dL_formula_13 : decode cL_formula 13 = .ok (.ireturn, 1) := by decide +kernel
theorem dL_formula_14 : decode cL_formula 14 = .ok (.astore_n 2, 1) := by decide +kernel
theorem dL_formula_15 : decode cL_formula 15 = .ok (.bipush (-103), 2) := by decide +kernel
theorem dL_formula_17 : decode cL_formula 17 = .ok (.ireturn, 1) := by decide +kernel
theorem dL_hold_0 : decode cL_hold 0 = .ok (.aload_n 0, 1) := by decide +kernel
theorem dL_hold_1 : decode cL_hold 1 = .ok (.iload_n 1, 1) := by decide +kernel
theorem dL_hold_2 : decode cL_hold 2 = .ok (.iload_n 2, 1) := by decide +kernel
theorem dL_hold_3 : decode cL_hold 3 = .ok (.invokevirtual 25, 3) := by decide +kernel
theorem dL_hold_6 : decode cL_hold 6 = .ok (.ireturn, 1) := by decide +kernel
theorem dL_hold_7 : decode cL_hold 7 = .ok (.astore_n 3, 1) := by decide +kernel
theorem dL_hold_8 : decode cL_hold 8 = .ok (.bipush (-101), 2) := by decide +kernel
theorem dL_hold_10 : decode cL_hold 10 = .ok (.ireturn, 1) := by decide +kernel
theorem dL_hold_11 : decode cL_hold 11 = .ok (.astore_n 3, 1) := by decide +kernel
theorem dL_hold_12 : decode cL_hold 12 = .ok (.bipush (-102), 2) := by decide +kernel
theorem dL_hold_14 : decode cL_hold 14 = .ok (.ireturn, 1) := by decide +kernel
theorem dL_hold_15 : decode cL_hold 15 = .ok (.astore_n 3, 1) := by decide +kernel
theorem dL_hold_16 : decode cL_hold 16 = .ok (.bipush (-103), 2) := by decide +kernel
theorem dL_hold_18 : decode cL_hold 18 = .ok (.ireturn, 1) := by decide +kernel
theorem dL_release_0 : decode cL_release 0 = .ok (.aload_n 0, 1) := by decide +kernel
theorem dL_release_1 : decode cL_release 1 = .ok (.iload_n 1, 1) := by decide +kernel
theorem dL_release_2 : decode cL_release 2 = .ok (.invokevirtual 29, 3) := by decide +kernel
theorem dL_release_5 : decode cL_release 5 = .ok (.ireturn, 1) := by decide +kernel
theorem dL_release_6 : decode cL_release 6 = .ok (.astore_n 2, 1) := by decide +kernel
theorem dL_release_7 : decode cL_release 7 = .ok (.bipush (-101), 2) := by decide +kernel
theorem dL_release_9 : decode cL_release 9 = .ok (.ireturn, 1) := by decide +kernel
theorem dL_release_10 : decode cL_release 10 = .ok (.astore_n 2, 1) := by decide +kernel
theorem dL_release_11 : decode cL_release 11 = .ok (.bipush (-103), 2) := by decide +kernel
theorem dL_release_13 : decode cL_release 13 = .ok (.ireturn, 1) := by decide +kernel
theorem dL_read_0 : decode cL_read 0 = .ok (.aload_n 0, 1) := by decide +kernel
theorem dL_read_1 : decode cL_read 1 = .ok (.iload_n 1, 1) := by decide +kernel
theorem dL_read_2 : decode cL_read 2 = .ok (.iload_n 2, 1) := by decide +kernel
theorem dL_read_3 : decode cL_read 3 = .ok (.invokevirtual 32, 3) := by decide +kernel
theorem dL_read_6 : decode cL_read 6 = .ok (.ireturn, 1) := by decide +kernel
theorem dL_read_7 : decode cL_read 7 = .ok (.astore_n 3, 1) := by decide +kernel
theorem dL_read_8 : decode cL_read 8 = .ok (.bipush (-101), 2) := by decide +kernel
theorem dL_read_10 : decode cL_read 10 = .ok (.ireturn, 1) := by decide +kernel
theorem dL_read_11 : decode cL_read 11 = .ok (.astore_n 3, 1) := by decide +kernel
theorem dL_read_12 : decode cL_read 12 = .ok (.bipush (-102), 2) := by decide +kernel
theorem dL_read_14 : decode cL_read 14 = .ok (.ireturn, 1) := by decide +kernel
theorem dL_read_15 : decode cL_read 15 = .ok (.astore_n 3, 1) := by decide +kernel
theorem dL_read_16 : decode cL_read 16 = .ok (.bipush (-103), 2) := by decide +kernel
theorem dL_read_18 : decode cL_read 18 = .ok (.ireturn, 1) := by decide +kernel
theorem dL_control_0 : decode cL_control 0 = .ok (.aload_n 0, 1) := by decide +kernel
theorem dL_control_1 : decode cL_control 1 = .ok (.iload_n 1, 1) := by decide +kernel
theorem dL_control_2 : decode cL_control 2 = .ok (.iload_n 2, 1) := by decide +kernel
theorem dL_control_3 : decode cL_control 3 = .ok (.invokevirtual 35, 3) := by decide +kernel
theorem dL_control_6 : decode cL_control 6 = .ok (.ireturn, 1) := by decide +kernel
theorem dL_control_7 : decode cL_control 7 = .ok (.astore_n 3, 1) := by decide +kernel
theorem dL_control_8 : decode cL_control 8 = .ok (.bipush (-101), 2) := by decide +kernel
theorem dL_control_10 : decode cL_control 10 = .ok (.ireturn, 1) := by decide +kernel
theorem dL_control_11 : decode cL_control 11 = .ok (.astore_n 3, 1) := by decide +kernel
theorem dL_control_12 : decode cL_control 12 = .ok (.bipush (-103), 2) := by decide +kernel
theorem dL_control_14 : decode cL_control 14 = .ok (.ireturn, 1) := by decide +kernel
theorem dL_limit_0 : decode cL_limit 0 = .ok (.aload_n 0, 1) := by decide +kernel
theorem dL_limit_1 : decode cL_limit 1 = .ok (.iload_n 1, 1) := by decide +kernel
theorem dL_limit_2 : decode cL_limit 2 = .ok (.iload_n 2, 1) := by decide +kernel
theorem dL_limit_3 : decode cL_limit 3 = .ok (.invokevirtual 38, 3) := by decide +kernel
theorem dL_limit_6 : decode cL_limit 6 = .ok (.ireturn, 1) := by decide +kernel
theorem dL_limit_7 : decode cL_limit 7 = .ok (.astore_n 3, 1) := by decide +kernel
theorem dL_limit_8 : decode cL_limit 8 = .ok (.bipush (-101), 2) := by decide +kernel
theorem dL_limit_10 : decode cL_limit 10 = .ok (.ireturn, 1) := by decide +kernel
theorem dL_limit_11 : decode cL_limit 11 = .ok (.astore_n 3, 1) := by decide +kernel
theorem dL_limit_12 : decode cL_limit 12 = .ok (.bipush (-103), 2) := by decide +kernel
theorem dL_limit_14 : decode cL_limit 14 = .ok (.ireturn, 1) := by decide +kernel
theorem dL_demand_0 : decode cL_demand 0 = .ok (.aload_n 0, 1) := by decide +kernel
theorem dL_demand_1 : decode cL_demand 1 = .ok (.iload_n 1, 1) := by decide +kernel
theorem dL_demand_2 : decode cL_demand 2 = .ok (.iload_n 2, 1) := by decide +kernel
theorem dL_demand_3 : decode cL_demand 3 = .ok (.iload_n 3, 1) := by decide +kernel
theorem dL_demand_4 : decode cL_demand 4 = .ok (.invokevirtual 41, 3) := by decide +kernel
theorem dL_demand_7 : decode cL_demand 7 = .ok (.ireturn, 1) := by decide +kernel
theorem dL_demand_8 : decode cL_demand 8 = .ok (.astore 4, 2) := by decide +kernel
theorem dL_demand_10 : decode cL_demand 10 = .ok (.bipush (-101), 2) := by decide +kernel
theorem dL_demand_12 : decode cL_demand 12 = .ok (.ireturn, 1) := by decide +kernel
theorem dL_demand_13 : decode cL_demand 13 = .ok (.astore 4, 2) := by decide +kernel
theorem dL_demand_15 : decode cL_demand 15 = .ok (.bipush (-102), 2) := by decide +kernel
theorem dL_demand_17 : decode cL_demand 17 = .ok (.ireturn, 1) := by decide +kernel
theorem dL_demand_18 : decode cL_demand 18 = .ok (.astore 4, 2) := by decide +kernel
theorem dL_demand_20 : decode cL_demand 20 = .ok (.bipush (-103), 2) := by decide +kernel
theorem dL_demand_22 : decode cL_demand 22 = .ok (.ireturn, 1) := by decide +kernel
theorem dL_need_0 : decode cL_need 0 = .ok (.aload_n 0, 1) := by decide +kernel
theorem dL_need_1 : decode cL_need 1 = .ok (.iload_n 1, 1) := by decide +kernel
theorem dL_need_2 : decode cL_need 2 = .ok (.iload_n 2, 1) := by decide +kernel
theorem dL_need_3 : decode cL_need 3 = .ok (.iload_n 3, 1) := by decide +kernel
theorem dL_need_4 : decode cL_need 4 = .ok (.invokevirtual 45, 3) := by decide +kernel
theorem dL_need_7 : decode cL_need 7 = .ok (.ireturn, 1) := by decide +kernel
theorem dL_need_8 : decode cL_need 8 = .ok (.astore 4, 2) := by decide +kernel
theorem dL_need_10 : decode cL_need 10 = .ok (.bipush (-101), 2) := by decide +kernel
theorem dL_need_12 : decode cL_need 12 = .ok (.ireturn, 1) := by decide +kernel
theorem dL_need_13 : decode cL_need 13 = .ok (.astore 4, 2) := by decide +kernel
theorem dL_need_15 : decode cL_need 15 = .ok (.bipush (-102), 2) := by decide +kernel
theorem dL_need_17 : decode cL_need 17 = .ok (.ireturn, 1) := by decide +kernel
theorem dL_need_18 : decode cL_need 18 = .ok (.astore 4, 2) := by decide +kernel
theorem dL_need_20 : decode cL_need 20 = .ok (.bipush (-103), 2) := by decide +kernel
theorem dL_need_22 : decode cL_need 22 = .ok (.ireturn, 1) := by decide +kernel
theorem dL_lie_0 : decode cL_lie 0 = .ok (.aload_n 0, 1) := by decide +kernel
theorem dL_lie_1 : decode cL_lie 1 = .ok (.iload_n 1, 1) := by decide +kernel
theorem dL_lie_2 : decode cL_lie 2 = .ok (.iload_n 2, 1) := by decide +kernel
theorem dL_lie_3 : decode cL_lie 3 = .ok (.invokevirtual 49, 3) := by decide +kernel
theorem dL_lie_6 : decode cL_lie 6 = .ok (.ireturn, 1) := by decide +kernel
theorem dL_lie_7 : decode cL_lie 7 = .ok (.astore_n 3, 1) := by decide +kernel
theorem dL_lie_8 : decode cL_lie 8 = .ok (.bipush (-101), 2) := by decide +kernel
theorem dL_lie_10 : decode cL_lie 10 = .ok (.ireturn, 1) := by decide +kernel
theorem dL_lie_11 : decode cL_lie 11 = .ok (.astore_n 3, 1) := by decide +kernel
theorem dL_lie_12 : decode cL_lie 12 = .ok (.bipush (-102), 2) := by decide +kernel
theorem dL_lie_14 : decode cL_lie 14 = .ok (.ireturn, 1) := by decide +kernel
theorem dL_lie_15 : decode cL_lie 15 = .ok (.astore_n 3, 1) := by decide +kernel
theorem dL_lie_16 : decode cL_lie 16 = .ok (.bipush (-103), 2) := by decide +kernel
theorem dL_lie_18 : decode cL_lie 18 = .ok (.ireturn, 1) := by decide +kernel
theorem dL_mend_0 : decode cL_mend 0 = .ok (.aload_n 0, 1) := by decide +kernel
theorem dL_mend_1 : decode cL_mend 1 = .ok (.iload_n 1, 1) := by decide +kernel
theorem dL_mend_2 : decode cL_mend 2 = .ok (.invokevirtual 52, 3) := by decide +kernel
theorem dL_mend_5 : decode cL_mend 5 = .ok (.ireturn, 1) := by decide +kernel
theorem dL_mend_6 : decode cL_mend 6 = .ok (.astore_n 2, 1) := by decide +kernel
theorem dL_mend_7 : decode cL_mend 7 = .ok (.bipush (-101), 2) := by decide +kernel
theorem dL_mend_9 : decode cL_mend 9 = .ok (.ireturn, 1) := by decide +kernel
theorem dL_mend_10 : decode cL_mend 10 = .ok (.astore_n 2, 1) := by decide +kernel
theorem dL_mend_11 : decode cL_mend 11 = .ok (.bipush (-103), 2) := by decide +kernel
theorem dL_mend_13 : decode cL_mend 13 = .ok (.ireturn, 1) := by decide +kernel
theorem dL_tick_0 : decode cL_tick 0 = .ok (.aload_n 0, 1) := by decide +kernel
theorem dL_tick_1 : decode cL_tick 1 = .ok (.iload_n 1, 1) := by decide +kernel
theorem dL_tick_2 : decode cL_tick 2 = .ok (.invokevirtual 55, 3) := by decide +kernel
theorem dL_tick_5 : decode cL_tick 5 = .ok (.ireturn, 1) := by decide +kernel
theorem dL_tick_6 : decode cL_tick 6 = .ok (.astore_n 2, 1) := by decide +kernel
theorem dL_tick_7 : decode cL_tick 7 = .ok (.bipush (-102), 2) := by decide +kernel
theorem dL_tick_9 : decode cL_tick 9 = .ok (.ireturn, 1) := by decide +kernel
theorem dL_tick_10 : decode cL_tick 10 = .ok (.astore_n 2, 1) := by decide +kernel
theorem dL_tick_11 : decode cL_tick 11 = .ok (.bipush (-103), 2) := by decide +kernel
theorem dL_tick_13 : decode cL_tick 13 = .ok (.ireturn, 1) := by decide +kernel
theorem dL_undo_0 : decode cL_undo 0 = .ok (.aload_n 0, 1) := by decide +kernel
theorem dL_undo_1 : decode cL_undo 1 = .ok (.invokevirtual 58, 3) := by decide +kernel
theorem dL_undo_4 : decode cL_undo 4 = .ok (.ireturn, 1) := by decide +kernel
theorem dL_undo_5 : decode cL_undo 5 = .ok (.astore_n 1, 1) := by decide +kernel
theorem dL_undo_6 : decode cL_undo 6 = .ok (.bipush (-103), 2) := by decide +kernel
theorem dL_undo_8 : decode cL_undo 8 = .ok (.ireturn, 1) := by decide +kernel
theorem dL_value_0 : decode cL_value 0 = .ok (.aload_n 0, 1) := by decide +kernel
theorem dL_value_1 : decode cL_value 1 = .ok (.iload_n 1, 1) := by decide +kernel
theorem dL_value_2 : decode cL_value 2 = .ok (.invokevirtual 62, 3) := by decide +kernel
theorem dL_value_5 : decode cL_value 5 = .ok (.ireturn, 1) := by decide +kernel
theorem dL_value_6 : decode cL_value 6 = .ok (.astore_n 2, 1) := by decide +kernel
theorem dL_value_7 : decode cL_value 7 = .ok (.ldc 65, 2) := by decide +kernel
theorem dL_value_9 : decode cL_value 9 = .ok (.ireturn, 1) := by decide +kernel
theorem dL_anew_0 : decode cL_anew 0 = .ok (.aload_n 0, 1) := by decide +kernel
theorem dL_anew_1 : decode cL_anew 1 = .ok (.iload_n 1, 1) := by decide +kernel
theorem dL_anew_2 : decode cL_anew 2 = .ok (.invokevirtual 66, 3) := by decide +kernel
theorem dL_anew_5 : decode cL_anew 5 = .ok (.ireturn, 1) := by decide +kernel
theorem dL_anew_6 : decode cL_anew 6 = .ok (.astore_n 2, 1) := by decide +kernel
theorem dL_anew_7 : decode cL_anew 7 = .ok (.ldc 65, 2) := by decide +kernel
theorem dL_anew_9 : decode cL_anew 9 = .ok (.ireturn, 1) := by decide +kernel
theorem dL_worth_0 : decode cL_worth 0 = .ok (.aload_n 0, 1) := by decide +kernel
theorem dL_worth_1 : decode cL_worth 1 = .ok (.iload_n 1, 1) := by decide +kernel
theorem dL_worth_2 : decode cL_worth 2 = .ok (.invokevirtual 69, 3) := by decide +kernel
theorem dL_worth_5 : decode cL_worth 5 = .ok (.ireturn, 1) := by decide +kernel
theorem dL_worth_6 : decode cL_worth 6 = .ok (.astore_n 2, 1) := by decide +kernel
theorem dL_worth_7 : decode cL_worth 7 = .ok (.ldc 65, 2) := by decide +kernel
theorem dL_worth_9 : decode cL_worth 9 = .ok (.ireturn, 1) := by decide +kernel
theorem dL_depth_0 : decode cL_depth 0 = .ok (.aload_n 0, 1) := by decide +kernel
theorem dL_depth_1 : decode cL_depth 1 = .ok (.iload_n 1, 1) := by decide +kernel
theorem dL_depth_2 : decode cL_depth 2 = .ok (.invokevirtual 72, 3) := by decide +kernel
theorem dL_depth_5 : decode cL_depth 5 = .ok (.ireturn, 1) := by decide +kernel
theorem dL_depth_6 : decode cL_depth 6 = .ok (.astore_n 2, 1) := by decide +kernel
theorem dL_depth_7 : decode cL_depth 7 = .ok (.bipush (-101), 2) := by decide +kernel
theorem dL_depth_9 : decode cL_depth 9 = .ok (.ireturn, 1) := by decide +kernel
theorem dL_stale_0 : decode cL_stale 0 = .ok (.aload_n 0, 1) := by decide +kernel
theorem dL_stale_1 : decode cL_stale 1 = .ok (.iload_n 1, 1) := by decide +kernel
theorem dL_stale_2 : decode cL_stale 2 = .ok (.invokevirtual 75, 3) := by decide +kernel
theorem dL_stale_5 : decode cL_stale 5 = .ok (.ifCond .eq 7, 3) := by decide +kernel
theorem dL_stale_8 : decode cL_stale 8 = .ok (.iconst 1, 1) := by decide +kernel
theorem dL_stale_9 : decode cL_stale 9 = .ok (.goto 4, 3) := by decide +kernel
theorem dL_stale_12 : decode cL_stale 12 = .ok (.iconst 0, 1) := by decide +kernel
theorem dL_stale_13 : decode cL_stale 13 = .ok (.ireturn, 1) := by decide +kernel
theorem dL_stale_14 : decode cL_stale 14 = .ok (.astore_n 2, 1) := by decide +kernel
theorem dL_stale_15 : decode cL_stale 15 = .ok (.bipush (-101), 2) := by decide +kernel
theorem dL_stale_17 : decode cL_stale 17 = .ok (.ireturn, 1) := by decide +kernel
theorem dL_state_0 : decode cL_state 0 = .ok (.aload_n 0, 1) := by decide +kernel
theorem dL_state_1 : decode cL_state 1 = .ok (.iload_n 1, 1) := by decide +kernel
theorem dL_state_2 : decode cL_state 2 = .ok (.invokevirtual 79, 3) := by decide +kernel
theorem dL_state_5 : decode cL_state 5 = .ok (.ireturn, 1) := by decide +kernel
theorem dL_state_6 : decode cL_state 6 = .ok (.astore_n 2, 1) := by decide +kernel
theorem dL_state_7 : decode cL_state 7 = .ok (.bipush (-101), 2) := by decide +kernel
theorem dL_state_9 : decode cL_state 9 = .ok (.ireturn, 1) := by decide +kernel
theorem dL_load_0 : decode cL_load 0 = .ok (.aload_n 0, 1) := by decide +kernel
theorem dL_load_1 : decode cL_load 1 = .ok (.iload_n 1, 1) := by decide +kernel
theorem dL_load_2 : decode cL_load 2 = .ok (.invokevirtual 82, 3) := by decide +kernel
theorem dL_load_5 : decode cL_load 5 = .ok (.ireturn, 1) := by decide +kernel
theorem dL_load_6 : decode cL_load 6 = .ok (.astore_n 2, 1) := by decide +kernel
theorem dL_load_7 : decode cL_load 7 = .ok (.bipush (-101), 2) := by decide +kernel
theorem dL_load_9 : decode cL_load 9 = .ok (.ireturn, 1) := by decide +kernel
theorem dL_told_0 : decode cL_told 0 = .ok (.aload_n 0, 1) := by decide +kernel
theorem dL_told_1 : decode cL_told 1 = .ok (.iload_n 1, 1) := by decide +kernel
theorem dL_told_2 : decode cL_told 2 = .ok (.invokevirtual 85, 3) := by decide +kernel
theorem dL_told_5 : decode cL_told 5 = .ok (.ireturn, 1) := by decide +kernel
theorem dL_told_6 : decode cL_told 6 = .ok (.astore_n 2, 1) := by decide +kernel
theorem dL_told_7 : decode cL_told 7 = .ok (.bipush (-101), 2) := by decide +kernel
theorem dL_told_9 : decode cL_told 9 = .ok (.ireturn, 1) := by decide +kernel
theorem dL_starts_0 : decode cL_starts 0 = .ok (.aload_n 0, 1) := by decide +kernel
theorem dL_starts_1 : decode cL_starts 1 = .ok (.iload_n 1, 1) := by decide +kernel
theorem dL_starts_2 : decode cL_starts 2 = .ok (.invokevirtual 88, 3) := by decide +kernel
theorem dL_starts_5 : decode cL_starts 5 = .ok (.ireturn, 1) := by decide +kernel
theorem dL_starts_6 : decode cL_starts 6 = .ok (.astore_n 2, 1) := by decide +kernel
theorem dL_starts_7 : decode cL_starts 7 = .ok (.bipush (-101), 2) := by decide +kernel
theorem dL_starts_9 : decode cL_starts 9 = .ok (.ireturn, 1) := by decide +kernel
theorem dL_trial_0 : decode cL_trial 0 = .ok (.aload_n 0, 1) := by decide +kernel
theorem dL_trial_1 : decode cL_trial 1 = .ok (.iload_n 1, 1) := by decide +kernel
theorem dL_trial_2 : decode cL_trial 2 = .ok (.invokevirtual 91, 3) := by decide +kernel
theorem dL_trial_5 : decode cL_trial 5 = .ok (.ireturn, 1) := by decide +kernel
theorem dL_trial_6 : decode cL_trial 6 = .ok (.astore_n 2, 1) := by decide +kernel
theorem dL_trial_7 : decode cL_trial 7 = .ok (.bipush (-101), 2) := by decide +kernel
theorem dL_trial_9 : decode cL_trial 9 = .ok (.ireturn, 1) := by decide +kernel
theorem dL_loop_0 : decode cL_loop 0 = .ok (.aload_n 0, 1) := by decide +kernel
theorem dL_loop_1 : decode cL_loop 1 = .ok (.iload_n 1, 1) := by decide +kernel
theorem dL_loop_2 : decode cL_loop 2 = .ok (.invokevirtual 94, 3) := by decide +kernel
theorem dL_loop_5 : decode cL_loop 5 = .ok (.ifCond .eq 7, 3) := by decide +kernel
theorem dL_loop_8 : decode cL_loop 8 = .ok (.iconst 1, 1) := by decide +kernel
theorem dL_loop_9 : decode cL_loop 9 = .ok (.goto 4, 3) := by decide +kernel
theorem dL_loop_12 : decode cL_loop 12 = .ok (.iconst 0, 1) := by decide +kernel
theorem dL_loop_13 : decode cL_loop 13 = .ok (.ireturn, 1) := by decide +kernel
theorem dL_loop_14 : decode cL_loop 14 = .ok (.astore_n 2, 1) := by decide +kernel
theorem dL_loop_15 : decode cL_loop 15 = .ok (.bipush (-101), 2) := by decide +kernel
theorem dL_loop_17 : decode cL_loop 17 = .ok (.ireturn, 1) := by decide +kernel
theorem dL_sign_0 : decode cL_sign 0 = .ok (.iload_n 0, 1) := by decide +kernel
theorem dL_sign_1 : decode cL_sign 1 = .ok (.bipush 18, 2) := by decide +kernel
theorem dL_sign_3 : decode cL_sign 3 = .ok (.irem, 1) := by decide +kernel
theorem dL_sign_4 : decode cL_sign 4 = .ok (.istore_n 1, 1) := by decide +kernel
theorem dL_sign_5 : decode cL_sign 5 = .ok (.iload_n 1, 1) := by decide +kernel
theorem dL_sign_6 : decode cL_sign 6 = .ok (.bipush 6, 2) := by decide +kernel
theorem dL_sign_8 : decode cL_sign 8 = .ok (.if_icmp .ge 57, 3) := by decide +kernel
theorem dL_sign_11 : decode cL_sign 11 = .ok (.iload_n 1, 1) := by decide +kernel
theorem dL_sign_12 : decode cL_sign 12 = .ok (.ifCond .ne 8, 3) := by decide +kernel
theorem dL_sign_15 : decode cL_sign 15 = .ok (.bipush 99, 2) := by decide +kernel
theorem dL_sign_17 : decode cL_sign 17 = .ok (.goto 115, 3) := by decide +kernel
theorem dL_sign_20 : decode cL_sign 20 = .ok (.iload_n 1, 1) := by decide +kernel
theorem dL_sign_21 : decode cL_sign 21 = .ok (.iconst 1, 1) := by decide +kernel
theorem dL_sign_22 : decode cL_sign 22 = .ok (.if_icmp .ne 8, 3) := by decide +kernel
theorem dL_sign_25 : decode cL_sign 25 = .ok (.bipush 114, 2) := by decide +kernel
theorem dL_sign_27 : decode cL_sign 27 = .ok (.goto 105, 3) := by decide +kernel
theorem dL_sign_30 : decode cL_sign 30 = .ok (.iload_n 1, 1) := by decide +kernel
theorem dL_sign_31 : decode cL_sign 31 = .ok (.iconst 2, 1) := by decide +kernel
theorem dL_sign_32 : decode cL_sign 32 = .ok (.if_icmp .ne 8, 3) := by decide +kernel
theorem dL_sign_35 : decode cL_sign 35 = .ok (.bipush 108, 2) := by decide +kernel
theorem dL_sign_37 : decode cL_sign 37 = .ok (.goto 95, 3) := by decide +kernel
theorem dL_sign_40 : decode cL_sign 40 = .ok (.iload_n 1, 1) := by decide +kernel
theorem dL_sign_41 : decode cL_sign 41 = .ok (.iconst 3, 1) := by decide +kernel
theorem dL_sign_42 : decode cL_sign 42 = .ok (.if_icmp .ne 8, 3) := by decide +kernel
theorem dL_sign_45 : decode cL_sign 45 = .ok (.bipush 109, 2) := by decide +kernel
theorem dL_sign_47 : decode cL_sign 47 = .ok (.goto 85, 3) := by decide +kernel
theorem dL_sign_50 : decode cL_sign 50 = .ok (.iload_n 1, 1) := by decide +kernel
theorem dL_sign_51 : decode cL_sign 51 = .ok (.iconst 4, 1) := by decide +kernel
theorem dL_sign_52 : decode cL_sign 52 = .ok (.if_icmp .ne 8, 3) := by decide +kernel
theorem dL_sign_55 : decode cL_sign 55 = .ok (.bipush 110, 2) := by decide +kernel
theorem dL_sign_57 : decode cL_sign 57 = .ok (.goto 75, 3) := by decide +kernel
theorem dL_sign_60 : decode cL_sign 60 = .ok (.bipush 105, 2) := by decide +kernel
theorem dL_sign_62 : decode cL_sign 62 = .ok (.goto 70, 3) := by decide +kernel
theorem dL_sign_65 : decode cL_sign 65 = .ok (.iload_n 1, 1) := by decide +kernel
theorem dL_sign_66 : decode cL_sign 66 = .ok (.bipush 12, 2) := by decide +kernel
theorem dL_sign_68 : decode cL_sign 68 = .ok (.if_icmp .ge 63, 3) := by decide +kernel
theorem dL_sign_71 : decode cL_sign 71 = .ok (.iload_n 1, 1) := by decide +kernel
theorem dL_sign_72 : decode cL_sign 72 = .ok (.bipush 6, 2) := by decide +kernel
theorem dL_sign_74 : decode cL_sign 74 = .ok (.if_icmp .ne 8, 3) := by decide +kernel
theorem dL_sign_77 : decode cL_sign 77 = .ok (.bipush 43, 2) := by decide +kernel
theorem dL_sign_79 : decode cL_sign 79 = .ok (.goto 53, 3) := by decide +kernel
theorem dL_sign_82 : decode cL_sign 82 = .ok (.iload_n 1, 1) := by decide +kernel
theorem dL_sign_83 : decode cL_sign 83 = .ok (.bipush 7, 2) := by decide +kernel
theorem dL_sign_85 : decode cL_sign 85 = .ok (.if_icmp .ne 8, 3) := by decide +kernel
theorem dL_sign_88 : decode cL_sign 88 = .ok (.bipush 45, 2) := by decide +kernel
theorem dL_sign_90 : decode cL_sign 90 = .ok (.goto 42, 3) := by decide +kernel
theorem dL_sign_93 : decode cL_sign 93 = .ok (.iload_n 1, 1) := by decide +kernel
theorem dL_sign_94 : decode cL_sign 94 = .ok (.bipush 8, 2) := by decide +kernel
theorem dL_sign_96 : decode cL_sign 96 = .ok (.if_icmp .ne 8, 3) := by decide +kernel
theorem dL_sign_99 : decode cL_sign 99 = .ok (.bipush 42, 2) := by decide +kernel
theorem dL_sign_101 : decode cL_sign 101 = .ok (.goto 31, 3) := by decide +kernel
theorem dL_sign_104 : decode cL_sign 104 = .ok (.iload_n 1, 1) := by decide +kernel
theorem dL_sign_105 : decode cL_sign 105 = .ok (.bipush 9, 2) := by decide +kernel
theorem dL_sign_107 : decode cL_sign 107 = .ok (.if_icmp .ne 8, 3) := by decide +kernel
theorem dL_sign_110 : decode cL_sign 110 = .ok (.bipush 60, 2) := by decide +kernel
theorem dL_sign_112 : decode cL_sign 112 = .ok (.goto 20, 3) := by decide +kernel
theorem dL_sign_115 : decode cL_sign 115 = .ok (.iload_n 1, 1) := by decide +kernel
theorem dL_sign_116 : decode cL_sign 116 = .ok (.bipush 10, 2) := by decide +kernel
theorem dL_sign_118 : decode cL_sign 118 = .ok (.if_icmp .ne 8, 3) := by decide +kernel
theorem dL_sign_121 : decode cL_sign 121 = .ok (.bipush 62, 2) := by decide +kernel
theorem dL_sign_123 : decode cL_sign 123 = .ok (.goto 9, 3) := by decide +kernel
theorem dL_sign_126 : decode cL_sign 126 = .ok (.bipush 61, 2) := by decide +kernel
theorem dL_sign_128 : decode cL_sign 128 = .ok (.goto 4, 3) := by decide +kernel
theorem dL_sign_131 : decode cL_sign 131 = .ok (.iconst 0, 1) := by decide +kernel
theorem dL_sign_132 : decode cL_sign 132 = .ok (.istore_n 2, 1) := by decide +kernel
theorem dL_sign_133 : decode cL_sign 133 = .ok (.iload_n 2, 1) := by decide +kernel
theorem dL_sign_134 : decode cL_sign 134 = .ok (.ifCond .le 7, 3) := by decide +kernel
theorem dL_sign_137 : decode cL_sign 137 = .ok (.iload_n 2, 1) := by decide +kernel
theorem dL_sign_138 : decode cL_sign 138 = .ok (.goto 49, 3) := by decide +kernel
theorem dL_sign_141 : decode cL_sign 141 = .ok (.iload_n 1, 1) := by decide +kernel
theorem dL_sign_142 : decode cL_sign 142 = .ok (.bipush 12, 2) := by decide +kernel
theorem dL_sign_144 : decode cL_sign 144 = .ok (.if_icmp .ne 8, 3) := by decide +kernel
theorem dL_sign_147 : decode cL_sign 147 = .ok (.bipush 40, 2) := by decide +kernel
theorem dL_sign_149 : decode cL_sign 149 = .ok (.goto 38, 3) := by decide +kernel
theorem dL_sign_152 : decode cL_sign 152 = .ok (.iload_n 1, 1) := by decide +kernel
theorem dL_sign_153 : decode cL_sign 153 = .ok (.bipush 13, 2) := by decide +kernel
theorem dL_sign_155 : decode cL_sign 155 = .ok (.if_icmp .ne 8, 3) := by decide +kernel
theorem dL_sign_158 : decode cL_sign 158 = .ok (.bipush 41, 2) := by decide +kernel
theorem dL_sign_160 : decode cL_sign 160 = .ok (.goto 27, 3) := by decide +kernel
theorem dL_sign_163 : decode cL_sign 163 = .ok (.iload_n 1, 1) := by decide +kernel
theorem dL_sign_164 : decode cL_sign 164 = .ok (.bipush 14, 2) := by decide +kernel
theorem dL_sign_166 : decode cL_sign 166 = .ok (.if_icmp .ne 8, 3) := by decide +kernel
theorem dL_sign_169 : decode cL_sign 169 = .ok (.bipush 44, 2) := by decide +kernel
theorem dL_sign_171 : decode cL_sign 171 = .ok (.goto 16, 3) := by decide +kernel
theorem dL_sign_174 : decode cL_sign 174 = .ok (.bipush 48, 2) := by decide +kernel
theorem dL_sign_176 : decode cL_sign 176 = .ok (.iload_n 0, 1) := by decide +kernel
theorem dL_sign_177 : decode cL_sign 177 = .ok (.bipush 18, 2) := by decide +kernel
theorem dL_sign_179 : decode cL_sign 179 = .ok (.idiv, 1) := by decide +kernel
theorem dL_sign_180 : decode cL_sign 180 = .ok (.bipush 12, 2) := by decide +kernel
theorem dL_sign_182 : decode cL_sign 182 = .ok (.irem, 1) := by decide +kernel
theorem dL_sign_183 : decode cL_sign 183 = .ok (.bipush 10, 2) := by decide +kernel
theorem dL_sign_185 : decode cL_sign 185 = .ok (.irem, 1) := by decide +kernel
theorem dL_sign_186 : decode cL_sign 186 = .ok (.iadd, 1) := by decide +kernel
theorem dL_sign_187 : decode cL_sign 187 = .ok (.ireturn, 1) := by decide +kernel
theorem dL_types_0 : decode cL_types 0 = .ok (.aload_n 0, 1) := by decide +kernel
theorem dL_types_1 : decode cL_types 1 = .ok (.invokevirtual 97, 3) := by decide +kernel
theorem dL_types_4 : decode cL_types 4 = .ok (.ifCond .lt 7, 3) := by decide +kernel
theorem dL_types_7 : decode cL_types 7 = .ok (.iconst 1, 1) := by decide +kernel
theorem dL_types_8 : decode cL_types 8 = .ok (.goto 4, 3) := by decide +kernel
theorem dL_types_11 : decode cL_types 11 = .ok (.iconst 0, 1) := by decide +kernel
theorem dL_types_12 : decode cL_types 12 = .ok (.istore_n 3, 1) := by decide +kernel
theorem dL_types_13 : decode cL_types 13 = .ok (.iconst 0, 1) := by decide +kernel
theorem dL_types_14 : decode cL_types 14 = .ok (.istore 4, 2) := by decide +kernel
theorem dL_types_16 : decode cL_types 16 = .ok (.iload 4, 2) := by decide +kernel
theorem dL_types_18 : decode cL_types 18 = .ok (.iload_n 2, 1) := by decide +kernel
theorem dL_types_19 : decode cL_types 19 = .ok (.if_icmp .ge 34, 3) := by decide +kernel
theorem dL_types_22 : decode cL_types 22 = .ok (.iload_n 3, 1) := by decide +kernel
theorem dL_types_23 : decode cL_types 23 = .ok (.ifCond .eq 30, 3) := by decide +kernel
theorem dL_types_26 : decode cL_types 26 = .ok (.aload_n 0, 1) := by decide +kernel
theorem dL_types_27 : decode cL_types 27 = .ok (.aload_n 1, 1) := by decide +kernel
theorem dL_types_28 : decode cL_types 28 = .ok (.iload 4, 2) := by decide +kernel
theorem dL_types_30 : decode cL_types 30 = .ok (.iaload, 1) := by decide +kernel
theorem dL_types_31 : decode cL_types 31 = .ok (.invokestatic 100, 3) := by decide +kernel
theorem dL_types_34 : decode cL_types 34 = .ok (.iload 4, 2) := by decide +kernel
theorem dL_types_36 : decode cL_types 36 = .ok (.iconst 1, 1) := by decide +kernel
theorem dL_types_37 : decode cL_types 37 = .ok (.iadd, 1) := by decide +kernel
theorem dL_types_38 : decode cL_types 38 = .ok (.if_icmp .ne 7, 3) := by decide +kernel
theorem dL_types_41 : decode cL_types 41 = .ok (.iconst 1, 1) := by decide +kernel
theorem dL_types_42 : decode cL_types 42 = .ok (.goto 4, 3) := by decide +kernel
theorem dL_types_45 : decode cL_types 45 = .ok (.iconst 0, 1) := by decide +kernel
theorem dL_types_46 : decode cL_types 46 = .ok (.istore_n 3, 1) := by decide +kernel
theorem dL_types_47 : decode cL_types 47 = .ok (.iinc 4 1, 3) := by decide +kernel
theorem dL_types_50 : decode cL_types 50 = .ok (.goto (-34), 3) := by decide +kernel
theorem dL_types_53 : decode cL_types 53 = .ok (.iload_n 3, 1) := by decide +kernel
theorem dL_types_54 : decode cL_types 54 = .ok (.ireturn, 1) := by decide +kernel
theorem dL_isFault_0 : decode cL_isFault 0 = .ok (.aload_n 0, 1) := by decide +kernel
theorem dL_isFault_1 : decode cL_isFault 1 = .ok (.aload_n 1, 1) := by decide +kernel
theorem dL_isFault_2 : decode cL_isFault 2 = .ok (.iload_n 2, 1) := by decide +kernel
theorem dL_isFault_3 : decode cL_isFault 3 = .ok (.invokestatic 105, 3) := by decide +kernel
theorem dL_isFault_6 : decode cL_isFault 6 = .ok (.istore_n 3, 1) := by decide +kernel
theorem dL_isFault_7 : decode cL_isFault 7 = .ok (.aload_n 0, 1) := by decide +kernel
theorem dL_isFault_8 : decode cL_isFault 8 = .ok (.invokevirtual 109, 3) := by decide +kernel
theorem dL_isFault_11 : decode cL_isFault 11 = .ok (.istore 4, 2) := by decide +kernel
theorem dL_isFault_13 : decode cL_isFault 13 = .ok (.iload_n 3, 1) := by decide +kernel
theorem dL_isFault_14 : decode cL_isFault 14 = .ok (.ifCond .eq 66, 3) := by decide +kernel
theorem dL_isFault_17 : decode cL_isFault 17 = .ok (.iload 4, 2) := by decide +kernel
theorem dL_isFault_19 : decode cL_isFault 19 = .ok (.iconst (-1), 1) := by decide +kernel
theorem dL_isFault_20 : decode cL_isFault 20 = .ok (.if_icmp .lt 60, 3) := by decide +kernel
theorem dL_isFault_23 : decode cL_isFault 23 = .ok (.iload 4, 2) := by decide +kernel
theorem dL_isFault_25 : decode cL_isFault 25 = .ok (.iload_n 2, 1) := by decide +kernel
theorem dL_isFault_26 : decode cL_isFault 26 = .ok (.if_icmp .gt 54, 3) := by decide +kernel
theorem dL_isFault_29 : decode cL_isFault 29 = .ok (.iload 4, 2) := by decide +kernel
theorem dL_isFault_31 : decode cL_isFault 31 = .ok (.iconst (-1), 1) := by decide +kernel
theorem dL_isFault_32 : decode cL_isFault 32 = .ok (.if_icmp .ne 7, 3) := by decide +kernel
theorem dL_isFault_35 : decode cL_isFault 35 = .ok (.iconst 1, 1) := by decide +kernel
theorem dL_isFault_36 : decode cL_isFault 36 = .ok (.goto 4, 3) := by decide +kernel
theorem dL_isFault_39 : decode cL_isFault 39 = .ok (.iconst 0, 1) := by decide +kernel
theorem dL_isFault_40 : decode cL_isFault 40 = .ok (.aload_n 0, 1) := by decide +kernel
theorem dL_isFault_41 : decode cL_isFault 41 = .ok (.bipush 11, 2) := by decide +kernel
theorem dL_isFault_43 : decode cL_isFault 43 = .ok (.invokestatic 112, 3) := by decide +kernel
theorem dL_isFault_46 : decode cL_isFault 46 = .ok (.bipush (-102), 2) := by decide +kernel
theorem dL_isFault_48 : decode cL_isFault 48 = .ok (.if_icmp .eq 7, 3) := by decide +kernel
theorem dL_isFault_51 : decode cL_isFault 51 = .ok (.iconst 1, 1) := by decide +kernel
theorem dL_isFault_52 : decode cL_isFault 52 = .ok (.goto 4, 3) := by decide +kernel
theorem dL_isFault_55 : decode cL_isFault 55 = .ok (.iconst 0, 1) := by decide +kernel
theorem dL_isFault_56 : decode cL_isFault 56 = .ok (.if_icmp .ne 24, 3) := by decide +kernel
theorem dL_isFault_59 : decode cL_isFault 59 = .ok (.iload 4, 2) := by decide +kernel
theorem dL_isFault_61 : decode cL_isFault 61 = .ok (.iconst (-1), 1) := by decide +kernel
theorem dL_isFault_62 : decode cL_isFault 62 = .ok (.if_icmp .eq 14, 3) := by decide +kernel
theorem dL_isFault_65 : decode cL_isFault 65 = .ok (.aload_n 0, 1) := by decide +kernel
theorem dL_isFault_66 : decode cL_isFault 66 = .ok (.bipush 12, 2) := by decide +kernel
theorem dL_isFault_68 : decode cL_isFault 68 = .ok (.invokestatic 112, 3) := by decide +kernel
theorem dL_isFault_71 : decode cL_isFault 71 = .ok (.bipush (-101), 2) := by decide +kernel
theorem dL_isFault_73 : decode cL_isFault 73 = .ok (.if_icmp .ne 7, 3) := by decide +kernel
theorem dL_isFault_76 : decode cL_isFault 76 = .ok (.iconst 1, 1) := by decide +kernel
theorem dL_isFault_77 : decode cL_isFault 77 = .ok (.goto 4, 3) := by decide +kernel
theorem dL_isFault_80 : decode cL_isFault 80 = .ok (.iconst 0, 1) := by decide +kernel
theorem dL_isFault_81 : decode cL_isFault 81 = .ok (.istore_n 3, 1) := by decide +kernel
theorem dL_isFault_82 : decode cL_isFault 82 = .ok (.iload_n 3, 1) := by decide +kernel
theorem dL_isFault_83 : decode cL_isFault 83 = .ok (.ifCond .eq 68, 3) := by decide +kernel
theorem dL_isFault_86 : decode cL_isFault 86 = .ok (.iload 4, 2) := by decide +kernel
theorem dL_isFault_88 : decode cL_isFault 88 = .ok (.ifCond .lt 63, 3) := by decide +kernel
theorem dL_isFault_91 : decode cL_isFault 91 = .ok (.aload_n 0, 1) := by decide +kernel
theorem dL_isFault_92 : decode cL_isFault 92 = .ok (.aload_n 1, 1) := by decide +kernel
theorem dL_isFault_93 : decode cL_isFault 93 = .ok (.iload 4, 2) := by decide +kernel
theorem dL_isFault_95 : decode cL_isFault 95 = .ok (.invokestatic 105, 3) := by decide +kernel
theorem dL_isFault_98 : decode cL_isFault 98 = .ok (.ifCond .eq 51, 3) := by decide +kernel
theorem dL_isFault_101 : decode cL_isFault 101 = .ok (.aload_n 0, 1) := by decide +kernel
theorem dL_isFault_102 : decode cL_isFault 102 = .ok (.invokevirtual 109, 3) := by decide +kernel
theorem dL_isFault_105 : decode cL_isFault 105 = .ok (.iconst (-1), 1) := by decide +kernel
theorem dL_isFault_106 : decode cL_isFault 106 = .ok (.if_icmp .eq 12, 3) := by decide +kernel
theorem dL_isFault_109 : decode cL_isFault 109 = .ok (.aload_n 0, 1) := by decide +kernel
theorem dL_isFault_110 : decode cL_isFault 110 = .ok (.invokevirtual 109, 3) := by decide +kernel
theorem dL_isFault_113 : decode cL_isFault 113 = .ok (.iload 4, 2) := by decide +kernel
theorem dL_isFault_115 : decode cL_isFault 115 = .ok (.if_icmp .ne 34, 3) := by decide +kernel
theorem dL_isFault_118 : decode cL_isFault 118 = .ok (.iload 4, 2) := by decide +kernel
theorem dL_isFault_120 : decode cL_isFault 120 = .ok (.iload_n 2, 1) := by decide +kernel
theorem dL_isFault_121 : decode cL_isFault 121 = .ok (.if_icmp .eq 24, 3) := by decide +kernel
theorem dL_isFault_124 : decode cL_isFault 124 = .ok (.aload_n 0, 1) := by decide +kernel
theorem dL_isFault_125 : decode cL_isFault 125 = .ok (.aload_n 1, 1) := by decide +kernel
theorem dL_isFault_126 : decode cL_isFault 126 = .ok (.iload 4, 2) := by decide +kernel
theorem dL_isFault_128 : decode cL_isFault 128 = .ok (.iconst 1, 1) := by decide +kernel
theorem dL_isFault_129 : decode cL_isFault 129 = .ok (.iadd, 1) := by decide +kernel
theorem dL_isFault_130 : decode cL_isFault 130 = .ok (.invokestatic 105, 3) := by decide +kernel
theorem dL_isFault_133 : decode cL_isFault 133 = .ok (.ifCond .eq 16, 3) := by decide +kernel
theorem dL_isFault_136 : decode cL_isFault 136 = .ok (.aload_n 0, 1) := by decide +kernel
theorem dL_isFault_137 : decode cL_isFault 137 = .ok (.invokevirtual 109, 3) := by decide +kernel
theorem dL_isFault_140 : decode cL_isFault 140 = .ok (.iload 4, 2) := by decide +kernel
theorem dL_isFault_142 : decode cL_isFault 142 = .ok (.if_icmp .ne 7, 3) := by decide +kernel
theorem dL_isFault_145 : decode cL_isFault 145 = .ok (.iconst 1, 1) := by decide +kernel
theorem dL_isFault_146 : decode cL_isFault 146 = .ok (.goto 4, 3) := by decide +kernel
theorem dL_isFault_149 : decode cL_isFault 149 = .ok (.iconst 0, 1) := by decide +kernel
theorem dL_isFault_150 : decode cL_isFault 150 = .ok (.istore_n 3, 1) := by decide +kernel
theorem dL_isFault_151 : decode cL_isFault 151 = .ok (.iload_n 3, 1) := by decide +kernel
theorem dL_isFault_152 : decode cL_isFault 152 = .ok (.ireturn, 1) := by decide +kernel
theorem dL_says_0 : decode cL_says 0 = .ok (.iload_n 1, 1) := by decide +kernel
theorem dL_says_1 : decode cL_says 1 = .ok (.iconst 5, 1) := by decide +kernel
theorem dL_says_2 : decode cL_says 2 = .ok (.irem, 1) := by decide +kernel
theorem dL_says_3 : decode cL_says 3 = .ok (.istore_n 2, 1) := by decide +kernel
theorem dL_says_4 : decode cL_says 4 = .ok (.bipush 48, 2) := by decide +kernel
theorem dL_says_6 : decode cL_says 6 = .ok (.iload_n 1, 1) := by decide +kernel
theorem dL_says_7 : decode cL_says 7 = .ok (.iconst 5, 1) := by decide +kernel
theorem dL_says_8 : decode cL_says 8 = .ok (.idiv, 1) := by decide +kernel
theorem dL_says_9 : decode cL_says 9 = .ok (.iconst 5, 1) := by decide +kernel
theorem dL_says_10 : decode cL_says 10 = .ok (.irem, 1) := by decide +kernel
theorem dL_says_11 : decode cL_says 11 = .ok (.iadd, 1) := by decide +kernel
theorem dL_says_12 : decode cL_says 12 = .ok (.istore_n 3, 1) := by decide +kernel
theorem dL_says_13 : decode cL_says 13 = .ok (.bipush 48, 2) := by decide +kernel
theorem dL_says_15 : decode cL_says 15 = .ok (.iload_n 1, 1) := by decide +kernel
theorem dL_says_16 : decode cL_says 16 = .ok (.bipush 25, 2) := by decide +kernel
theorem dL_says_18 : decode cL_says 18 = .ok (.idiv, 1) := by decide +kernel
theorem dL_says_19 : decode cL_says 19 = .ok (.iconst 5, 1) := by decide +kernel
theorem dL_says_20 : decode cL_says 20 = .ok (.irem, 1) := by decide +kernel
theorem dL_says_21 : decode cL_says 21 = .ok (.iadd, 1) := by decide +kernel
theorem dL_says_22 : decode cL_says 22 = .ok (.istore 4, 2) := by decide +kernel
theorem dL_says_24 : decode cL_says 24 = .ok (.aload_n 0, 1) := by decide +kernel
theorem dL_says_25 : decode cL_says 25 = .ok (.invokevirtual 97, 3) := by decide +kernel
theorem dL_says_28 : decode cL_says 28 = .ok (.ifCond .lt 7, 3) := by decide +kernel
theorem dL_says_31 : decode cL_says 31 = .ok (.iconst 1, 1) := by decide +kernel
theorem dL_says_32 : decode cL_says 32 = .ok (.goto 4, 3) := by decide +kernel
theorem dL_says_35 : decode cL_says 35 = .ok (.iconst 0, 1) := by decide +kernel
theorem dL_says_36 : decode cL_says 36 = .ok (.istore 5, 2) := by decide +kernel
theorem dL_says_38 : decode cL_says 38 = .ok (.iload_n 2, 1) := by decide +kernel
theorem dL_says_39 : decode cL_says 39 = .ok (.iconst 4, 1) := by decide +kernel
theorem dL_says_40 : decode cL_says 40 = .ok (.if_icmp .ne 96, 3) := by decide +kernel
theorem dL_says_43 : decode cL_says 43 = .ok (.iload 5, 2) := by decide +kernel
theorem dL_says_45 : decode cL_says 45 = .ok (.ifCond .eq 89, 3) := by decide +kernel
theorem dL_says_48 : decode cL_says 48 = .ok (.aload_n 0, 1) := by decide +kernel
theorem dL_says_49 : decode cL_says 49 = .ok (.bipush 109, 2) := by decide +kernel
theorem dL_says_51 : decode cL_says 51 = .ok (.invokestatic 100, 3) := by decide +kernel
theorem dL_says_54 : decode cL_says 54 = .ok (.iconst 1, 1) := by decide +kernel
theorem dL_says_55 : decode cL_says 55 = .ok (.if_icmp .ne 79, 3) := by decide +kernel
theorem dL_says_58 : decode cL_says 58 = .ok (.aload_n 0, 1) := by decide +kernel
theorem dL_says_59 : decode cL_says 59 = .ok (.bipush 40, 2) := by decide +kernel
theorem dL_says_61 : decode cL_says 61 = .ok (.invokestatic 100, 3) := by decide +kernel
theorem dL_says_64 : decode cL_says 64 = .ok (.iconst 2, 1) := by decide +kernel
theorem dL_says_65 : decode cL_says 65 = .ok (.if_icmp .ne 69, 3) := by decide +kernel
theorem dL_says_68 : decode cL_says 68 = .ok (.aload_n 0, 1) := by decide +kernel
theorem dL_says_69 : decode cL_says 69 = .ok (.bipush 99, 2) := by decide +kernel
theorem dL_says_71 : decode cL_says 71 = .ok (.invokestatic 100, 3) := by decide +kernel
theorem dL_says_74 : decode cL_says 74 = .ok (.iconst 3, 1) := by decide +kernel
theorem dL_says_75 : decode cL_says 75 = .ok (.if_icmp .ne 59, 3) := by decide +kernel
theorem dL_says_78 : decode cL_says 78 = .ok (.aload_n 0, 1) := by decide +kernel
theorem dL_says_79 : decode cL_says 79 = .ok (.iload_n 3, 1) := by decide +kernel
theorem dL_says_80 : decode cL_says 80 = .ok (.invokestatic 100, 3) := by decide +kernel
theorem dL_says_83 : decode cL_says 83 = .ok (.iconst 4, 1) := by decide +kernel
theorem dL_says_84 : decode cL_says 84 = .ok (.if_icmp .ne 50, 3) := by decide +kernel
theorem dL_says_87 : decode cL_says 87 = .ok (.aload_n 0, 1) := by decide +kernel
theorem dL_says_88 : decode cL_says 88 = .ok (.bipush 44, 2) := by decide +kernel
theorem dL_says_90 : decode cL_says 90 = .ok (.invokestatic 100, 3) := by decide +kernel
theorem dL_says_93 : decode cL_says 93 = .ok (.iconst 5, 1) := by decide +kernel
theorem dL_says_94 : decode cL_says 94 = .ok (.if_icmp .ne 40, 3) := by decide +kernel
theorem dL_says_97 : decode cL_says 97 = .ok (.aload_n 0, 1) := by decide +kernel
theorem dL_says_98 : decode cL_says 98 = .ok (.bipush 108, 2) := by decide +kernel
theorem dL_says_100 : decode cL_says 100 = .ok (.invokestatic 100, 3) := by decide +kernel
theorem dL_says_103 : decode cL_says 103 = .ok (.bipush 6, 2) := by decide +kernel
theorem dL_says_105 : decode cL_says 105 = .ok (.if_icmp .ne 29, 3) := by decide +kernel
theorem dL_says_108 : decode cL_says 108 = .ok (.aload_n 0, 1) := by decide +kernel
theorem dL_says_109 : decode cL_says 109 = .ok (.iload 4, 2) := by decide +kernel
theorem dL_says_111 : decode cL_says 111 = .ok (.invokestatic 100, 3) := by decide +kernel
theorem dL_says_114 : decode cL_says 114 = .ok (.bipush 7, 2) := by decide +kernel
theorem dL_says_116 : decode cL_says 116 = .ok (.if_icmp .ne 18, 3) := by decide +kernel
theorem dL_says_119 : decode cL_says 119 = .ok (.aload_n 0, 1) := by decide +kernel
theorem dL_says_120 : decode cL_says 120 = .ok (.bipush 41, 2) := by decide +kernel
theorem dL_says_122 : decode cL_says 122 = .ok (.invokestatic 100, 3) := by decide +kernel
theorem dL_says_125 : decode cL_says 125 = .ok (.bipush 8, 2) := by decide +kernel
theorem dL_says_127 : decode cL_says 127 = .ok (.if_icmp .ne 7, 3) := by decide +kernel
theorem dL_says_130 : decode cL_says 130 = .ok (.iconst 1, 1) := by decide +kernel
theorem dL_says_131 : decode cL_says 131 = .ok (.goto 4, 3) := by decide +kernel
theorem dL_says_134 : decode cL_says 134 = .ok (.iconst 0, 1) := by decide +kernel
theorem dL_says_135 : decode cL_says 135 = .ok (.ireturn, 1) := by decide +kernel
theorem dL_says_136 : decode cL_says 136 = .ok (.iload 5, 2) := by decide +kernel
theorem dL_says_138 : decode cL_says 138 = .ok (.ifCond .eq 49, 3) := by decide +kernel
theorem dL_says_141 : decode cL_says 141 = .ok (.iload_n 2, 1) := by decide +kernel
theorem dL_says_142 : decode cL_says 142 = .ok (.ifCond .eq 33, 3) := by decide +kernel
theorem dL_says_145 : decode cL_says 145 = .ok (.aload_n 0, 1) := by decide +kernel
theorem dL_says_146 : decode cL_says 146 = .ok (.iload_n 2, 1) := by decide +kernel
theorem dL_says_147 : decode cL_says 147 = .ok (.iconst 1, 1) := by decide +kernel
theorem dL_says_148 : decode cL_says 148 = .ok (.if_icmp .ne 8, 3) := by decide +kernel
theorem dL_says_151 : decode cL_says 151 = .ok (.bipush 99, 2) := by decide +kernel
theorem dL_says_153 : decode cL_says 153 = .ok (.goto 15, 3) := by decide +kernel
theorem dL_says_156 : decode cL_says 156 = .ok (.iload_n 2, 1) := by decide +kernel
theorem dL_says_157 : decode cL_says 157 = .ok (.iconst 2, 1) := by decide +kernel
theorem dL_says_158 : decode cL_says 158 = .ok (.if_icmp .ne 8, 3) := by decide +kernel
theorem dL_says_161 : decode cL_says 161 = .ok (.bipush 114, 2) := by decide +kernel
theorem dL_says_163 : decode cL_says 163 = .ok (.goto 5, 3) := by decide +kernel
theorem dL_says_166 : decode cL_says 166 = .ok (.bipush 108, 2) := by decide +kernel
theorem dL_says_168 : decode cL_says 168 = .ok (.invokestatic 100, 3) := by decide +kernel
theorem dL_says_171 : decode cL_says 171 = .ok (.iconst 1, 1) := by decide +kernel
theorem dL_says_172 : decode cL_says 172 = .ok (.if_icmp .ne 15, 3) := by decide +kernel
theorem dL_says_175 : decode cL_says 175 = .ok (.aload_n 0, 1) := by decide +kernel
theorem dL_says_176 : decode cL_says 176 = .ok (.iload_n 3, 1) := by decide +kernel
theorem dL_says_177 : decode cL_says 177 = .ok (.invokestatic 100, 3) := by decide +kernel
theorem dL_says_180 : decode cL_says 180 = .ok (.ifCond .le 7, 3) := by decide +kernel
theorem dL_says_183 : decode cL_says 183 = .ok (.iconst 1, 1) := by decide +kernel
theorem dL_says_184 : decode cL_says 184 = .ok (.goto 4, 3) := by decide +kernel
theorem dL_says_187 : decode cL_says 187 = .ok (.iconst 0, 1) := by decide +kernel
theorem dL_says_188 : decode cL_says 188 = .ok (.istore 5, 2) := by decide +kernel
theorem dL_says_190 : decode cL_says 190 = .ok (.iload 5, 2) := by decide +kernel
theorem dL_says_192 : decode cL_says 192 = .ok (.ifCond .eq 59, 3) := by decide +kernel
theorem dL_says_195 : decode cL_says 195 = .ok (.iload_n 2, 1) := by decide +kernel
theorem dL_says_196 : decode cL_says 196 = .ok (.iconst 2, 1) := by decide +kernel
theorem dL_says_197 : decode cL_says 197 = .ok (.if_icmp .eq 50, 3) := by decide +kernel
theorem dL_says_200 : decode cL_says 200 = .ok (.aload_n 0, 1) := by decide +kernel
theorem dL_says_201 : decode cL_says 201 = .ok (.iload_n 1, 1) := by decide +kernel
theorem dL_says_202 : decode cL_says 202 = .ok (.bipush 125, 2) := by decide +kernel
theorem dL_says_204 : decode cL_says 204 = .ok (.idiv, 1) := by decide +kernel
theorem dL_says_205 : decode cL_says 205 = .ok (.iconst 3, 1) := by decide +kernel
theorem dL_says_206 : decode cL_says 206 = .ok (.irem, 1) := by decide +kernel
theorem dL_says_207 : decode cL_says 207 = .ok (.ifCond .ne 8, 3) := by decide +kernel
theorem dL_says_210 : decode cL_says 210 = .ok (.bipush 45, 2) := by decide +kernel
theorem dL_says_212 : decode cL_says 212 = .ok (.goto 20, 3) := by decide +kernel
theorem dL_says_215 : decode cL_says 215 = .ok (.iload_n 1, 1) := by decide +kernel
theorem dL_says_216 : decode cL_says 216 = .ok (.bipush 125, 2) := by decide +kernel
theorem dL_says_218 : decode cL_says 218 = .ok (.idiv, 1) := by decide +kernel
theorem dL_says_219 : decode cL_says 219 = .ok (.iconst 3, 1) := by decide +kernel
theorem dL_says_220 : decode cL_says 220 = .ok (.irem, 1) := by decide +kernel
theorem dL_says_221 : decode cL_says 221 = .ok (.iconst 1, 1) := by decide +kernel
theorem dL_says_222 : decode cL_says 222 = .ok (.if_icmp .ne 8, 3) := by decide +kernel
theorem dL_says_225 : decode cL_says 225 = .ok (.bipush 43, 2) := by decide +kernel
theorem dL_says_227 : decode cL_says 227 = .ok (.goto 5, 3) := by decide +kernel
theorem dL_says_230 : decode cL_says 230 = .ok (.bipush 60, 2) := by decide +kernel
theorem dL_says_232 : decode cL_says 232 = .ok (.invokestatic 100, 3) := by decide +kernel
theorem dL_says_235 : decode cL_says 235 = .ok (.ifCond .le 16, 3) := by decide +kernel
theorem dL_says_238 : decode cL_says 238 = .ok (.aload_n 0, 1) := by decide +kernel
theorem dL_says_239 : decode cL_says 239 = .ok (.iload 4, 2) := by decide +kernel
theorem dL_says_241 : decode cL_says 241 = .ok (.invokestatic 100, 3) := by decide +kernel
theorem dL_says_244 : decode cL_says 244 = .ok (.ifCond .le 7, 3) := by decide +kernel
theorem dL_says_247 : decode cL_says 247 = .ok (.iconst 1, 1) := by decide +kernel
theorem dL_says_248 : decode cL_says 248 = .ok (.goto 4, 3) := by decide +kernel
theorem dL_says_251 : decode cL_says 251 = .ok (.iconst 0, 1) := by decide +kernel
theorem dL_says_252 : decode cL_says 252 = .ok (.ireturn, 1) := by decide +kernel
theorem dL_fits_0 : decode cL_fits 0 = .ok (.iconst 1, 1) := by decide +kernel
theorem dL_fits_1 : decode cL_fits 1 = .ok (.istore_n 2, 1) := by decide +kernel
theorem dL_fits_2 : decode cL_fits 2 = .ok (.iconst 0, 1) := by decide +kernel
theorem dL_fits_3 : decode cL_fits 3 = .ok (.istore_n 3, 1) := by decide +kernel
theorem dL_fits_4 : decode cL_fits 4 = .ok (.iload_n 3, 1) := by decide +kernel
theorem dL_fits_5 : decode cL_fits 5 = .ok (.bipush 12, 2) := by decide +kernel
theorem dL_fits_7 : decode cL_fits 7 = .ok (.if_icmp .ge 104, 3) := by decide +kernel
theorem dL_fits_10 : decode cL_fits 10 = .ok (.iload_n 2, 1) := by decide +kernel
theorem dL_fits_11 : decode cL_fits 11 = .ok (.ifCond .eq 100, 3) := by decide +kernel
theorem dL_fits_14 : decode cL_fits 14 = .ok (.iload_n 1, 1) := by decide +kernel
theorem dL_fits_15 : decode cL_fits 15 = .ok (.iload_n 3, 1) := by decide +kernel
theorem dL_fits_16 : decode cL_fits 16 = .ok (.ishr, 1) := by decide +kernel
theorem dL_fits_17 : decode cL_fits 17 = .ok (.iconst 1, 1) := by decide +kernel
theorem dL_fits_18 : decode cL_fits 18 = .ok (.iand, 1) := by decide +kernel
theorem dL_fits_19 : decode cL_fits 19 = .ok (.iconst 1, 1) := by decide +kernel
theorem dL_fits_20 : decode cL_fits 20 = .ok (.if_icmp .ne 7, 3) := by decide +kernel
theorem dL_fits_23 : decode cL_fits 23 = .ok (.iconst 1, 1) := by decide +kernel
theorem dL_fits_24 : decode cL_fits 24 = .ok (.goto 4, 3) := by decide +kernel
theorem dL_fits_27 : decode cL_fits 27 = .ok (.iconst 0, 1) := by decide +kernel
theorem dL_fits_28 : decode cL_fits 28 = .ok (.istore 4, 2) := by decide +kernel
theorem dL_fits_30 : decode cL_fits 30 = .ok (.iload 4, 2) := by decide +kernel
theorem dL_fits_32 : decode cL_fits 32 = .ok (.ifCond .ne 16, 3) := by decide +kernel
theorem dL_fits_35 : decode cL_fits 35 = .ok (.aload_n 0, 1) := by decide +kernel
theorem dL_fits_36 : decode cL_fits 36 = .ok (.iload_n 3, 1) := by decide +kernel
theorem dL_fits_37 : decode cL_fits 37 = .ok (.invokestatic 114, 3) := by decide +kernel
theorem dL_fits_40 : decode cL_fits 40 = .ok (.aload_n 0, 1) := by decide +kernel
theorem dL_fits_41 : decode cL_fits 41 = .ok (.iload_n 3, 1) := by decide +kernel
theorem dL_fits_42 : decode cL_fits 42 = .ok (.invokestatic 116, 3) := by decide +kernel
theorem dL_fits_45 : decode cL_fits 45 = .ok (.if_icmp .ne 58, 3) := by decide +kernel
theorem dL_fits_48 : decode cL_fits 48 = .ok (.iload 4, 2) := by decide +kernel
theorem dL_fits_50 : decode cL_fits 50 = .ok (.ifCond .eq 11, 3) := by decide +kernel
theorem dL_fits_53 : decode cL_fits 53 = .ok (.aload_n 0, 1) := by decide +kernel
theorem dL_fits_54 : decode cL_fits 54 = .ok (.iload_n 3, 1) := by decide +kernel
theorem dL_fits_55 : decode cL_fits 55 = .ok (.invokestatic 118, 3) := by decide +kernel
theorem dL_fits_58 : decode cL_fits 58 = .ok (.ifCond .ne 45, 3) := by decide +kernel
theorem dL_fits_61 : decode cL_fits 61 = .ok (.aload_n 0, 1) := by decide +kernel
theorem dL_fits_62 : decode cL_fits 62 = .ok (.iload_n 3, 1) := by decide +kernel
theorem dL_fits_63 : decode cL_fits 63 = .ok (.invokestatic 121, 3) := by decide +kernel
theorem dL_fits_66 : decode cL_fits 66 = .ok (.ifCond .lt 37, 3) := by decide +kernel
theorem dL_fits_69 : decode cL_fits 69 = .ok (.aload_n 0, 1) := by decide +kernel
theorem dL_fits_70 : decode cL_fits 70 = .ok (.iload_n 3, 1) := by decide +kernel
theorem dL_fits_71 : decode cL_fits 71 = .ok (.invokestatic 121, 3) := by decide +kernel
theorem dL_fits_74 : decode cL_fits 74 = .ok (.bipush 12, 2) := by decide +kernel
theorem dL_fits_76 : decode cL_fits 76 = .ok (.if_icmp .ge 27, 3) := by decide +kernel
theorem dL_fits_79 : decode cL_fits 79 = .ok (.aload_n 0, 1) := by decide +kernel
theorem dL_fits_80 : decode cL_fits 80 = .ok (.iload_n 3, 1) := by decide +kernel
theorem dL_fits_81 : decode cL_fits 81 = .ok (.invokestatic 114, 3) := by decide +kernel
theorem dL_fits_84 : decode cL_fits 84 = .ok (.ldc 123, 2) := by decide +kernel
theorem dL_fits_86 : decode cL_fits 86 = .ok (.if_icmp .lt 17, 3) := by decide +kernel
theorem dL_fits_89 : decode cL_fits 89 = .ok (.aload_n 0, 1) := by decide +kernel
theorem dL_fits_90 : decode cL_fits 90 = .ok (.iload_n 3, 1) := by decide +kernel
theorem dL_fits_91 : decode cL_fits 91 = .ok (.invokestatic 114, 3) := by decide +kernel
theorem dL_fits_94 : decode cL_fits 94 = .ok (.ldc 124, 2) := by decide +kernel
theorem dL_fits_96 : decode cL_fits 96 = .ok (.if_icmp .gt 7, 3) := by decide +kernel
theorem dL_fits_99 : decode cL_fits 99 = .ok (.iconst 1, 1) := by decide +kernel
theorem dL_fits_100 : decode cL_fits 100 = .ok (.goto 4, 3) := by decide +kernel
theorem dL_fits_103 : decode cL_fits 103 = .ok (.iconst 0, 1) := by decide +kernel
theorem dL_fits_104 : decode cL_fits 104 = .ok (.istore_n 2, 1) := by decide +kernel
theorem dL_fits_105 : decode cL_fits 105 = .ok (.iinc 3 1, 3) := by decide +kernel
theorem dL_fits_108 : decode cL_fits 108 = .ok (.goto (-104), 3) := by decide +kernel
theorem dL_fits_111 : decode cL_fits 111 = .ok (.iconst 0, 1) := by decide +kernel
theorem dL_fits_112 : decode cL_fits 112 = .ok (.istore_n 3, 1) := by decide +kernel
theorem dL_fits_113 : decode cL_fits 113 = .ok (.iload_n 3, 1) := by decide +kernel
theorem dL_fits_114 : decode cL_fits 114 = .ok (.iconst 5, 1) := by decide +kernel
theorem dL_fits_115 : decode cL_fits 115 = .ok (.if_icmp .ge 100, 3) := by decide +kernel
theorem dL_fits_118 : decode cL_fits 118 = .ok (.iload_n 2, 1) := by decide +kernel
theorem dL_fits_119 : decode cL_fits 119 = .ok (.ifCond .eq 96, 3) := by decide +kernel
theorem dL_fits_122 : decode cL_fits 122 = .ok (.aload_n 0, 1) := by decide +kernel
theorem dL_fits_123 : decode cL_fits 123 = .ok (.iload_n 3, 1) := by decide +kernel
theorem dL_fits_124 : decode cL_fits 124 = .ok (.invokestatic 125, 3) := by decide +kernel
theorem dL_fits_127 : decode cL_fits 127 = .ok (.istore 4, 2) := by decide +kernel
theorem dL_fits_129 : decode cL_fits 129 = .ok (.iload 4, 2) := by decide +kernel
theorem dL_fits_131 : decode cL_fits 131 = .ok (.ifCond .lt 76, 3) := by decide +kernel
theorem dL_fits_134 : decode cL_fits 134 = .ok (.iload 4, 2) := by decide +kernel
theorem dL_fits_136 : decode cL_fits 136 = .ok (.iconst 3, 1) := by decide +kernel
theorem dL_fits_137 : decode cL_fits 137 = .ok (.if_icmp .gt 70, 3) := by decide +kernel
theorem dL_fits_140 : decode cL_fits 140 = .ok (.aload_n 0, 1) := by decide +kernel
theorem dL_fits_141 : decode cL_fits 141 = .ok (.iload_n 3, 1) := by decide +kernel
theorem dL_fits_142 : decode cL_fits 142 = .ok (.invokestatic 127, 3) := by decide +kernel
theorem dL_fits_145 : decode cL_fits 145 = .ok (.ifCond .lt 62, 3) := by decide +kernel
theorem dL_fits_148 : decode cL_fits 148 = .ok (.aload_n 0, 1) := by decide +kernel
theorem dL_fits_149 : decode cL_fits 149 = .ok (.iload_n 3, 1) := by decide +kernel
theorem dL_fits_150 : decode cL_fits 150 = .ok (.invokestatic 127, 3) := by decide +kernel
theorem dL_fits_153 : decode cL_fits 153 = .ok (.sipush 1000, 3) := by decide +kernel
theorem dL_fits_156 : decode cL_fits 156 = .ok (.if_icmp .gt 51, 3) := by decide +kernel
theorem dL_fits_159 : decode cL_fits 159 = .ok (.iload 4, 2) := by decide +kernel
theorem dL_fits_161 : decode cL_fits 161 = .ok (.iconst 2, 1) := by decide +kernel
theorem dL_fits_162 : decode cL_fits 162 = .ok (.if_icmp .eq 19, 3) := by decide +kernel
theorem dL_fits_165 : decode cL_fits 165 = .ok (.aload_n 0, 1) := by decide +kernel
theorem dL_fits_166 : decode cL_fits 166 = .ok (.iload_n 3, 1) := by decide +kernel
theorem dL_fits_167 : decode cL_fits 167 = .ok (.invokestatic 127, 3) := by decide +kernel
theorem dL_fits_170 : decode cL_fits 170 = .ok (.ifCond .ne 37, 3) := by decide +kernel
theorem dL_fits_173 : decode cL_fits 173 = .ok (.aload_n 0, 1) := by decide +kernel
theorem dL_fits_174 : decode cL_fits 174 = .ok (.iload_n 3, 1) := by decide +kernel
theorem dL_fits_175 : decode cL_fits 175 = .ok (.invokestatic 129, 3) := by decide +kernel
theorem dL_fits_178 : decode cL_fits 178 = .ok (.ifCond .ne 29, 3) := by decide +kernel
theorem dL_fits_181 : decode cL_fits 181 = .ok (.aload_n 0, 1) := by decide +kernel
theorem dL_fits_182 : decode cL_fits 182 = .ok (.iload_n 3, 1) := by decide +kernel
theorem dL_fits_183 : decode cL_fits 183 = .ok (.invokestatic 131, 3) := by decide +kernel
theorem dL_fits_186 : decode cL_fits 186 = .ok (.ifCond .lt 21, 3) := by decide +kernel
theorem dL_fits_189 : decode cL_fits 189 = .ok (.iload 4, 2) := by decide +kernel
theorem dL_fits_191 : decode cL_fits 191 = .ok (.iconst 2, 1) := by decide +kernel
theorem dL_fits_192 : decode cL_fits 192 = .ok (.if_icmp .ne 11, 3) := by decide +kernel
theorem dL_fits_195 : decode cL_fits 195 = .ok (.aload_n 0, 1) := by decide +kernel
theorem dL_fits_196 : decode cL_fits 196 = .ok (.iload_n 3, 1) := by decide +kernel
theorem dL_fits_197 : decode cL_fits 197 = .ok (.invokestatic 131, 3) := by decide +kernel
theorem dL_fits_200 : decode cL_fits 200 = .ok (.ifCond .le 7, 3) := by decide +kernel
theorem dL_fits_203 : decode cL_fits 203 = .ok (.iconst 1, 1) := by decide +kernel
theorem dL_fits_204 : decode cL_fits 204 = .ok (.goto 4, 3) := by decide +kernel
theorem dL_fits_207 : decode cL_fits 207 = .ok (.iconst 0, 1) := by decide +kernel
theorem dL_fits_208 : decode cL_fits 208 = .ok (.istore_n 2, 1) := by decide +kernel
theorem dL_fits_209 : decode cL_fits 209 = .ok (.iinc 3 1, 3) := by decide +kernel
theorem dL_fits_212 : decode cL_fits 212 = .ok (.goto (-99), 3) := by decide +kernel
theorem dL_fits_215 : decode cL_fits 215 = .ok (.iload_n 2, 1) := by decide +kernel
theorem dL_fits_216 : decode cL_fits 216 = .ok (.ireturn, 1) := by decide +kernel
theorem dL_sees_0 : decode cL_sees 0 = .ok (.iconst 0, 1) := by decide +kernel
theorem dL_sees_1 : decode cL_sees 1 = .ok (.istore_n 2, 1) := by decide +kernel
theorem dL_sees_2 : decode cL_sees 2 = .ok (.iload_n 2, 1) := by decide +kernel
theorem dL_sees_3 : decode cL_sees 3 = .ok (.bipush 12, 2) := by decide +kernel
theorem dL_sees_5 : decode cL_sees 5 = .ok (.if_icmp .ge 36, 3) := by decide +kernel
theorem dL_sees_8 : decode cL_sees 8 = .ok (.aload_n 1, 1) := by decide +kernel
theorem dL_sees_9 : decode cL_sees 9 = .ok (.iload_n 2, 1) := by decide +kernel
theorem dL_sees_10 : decode cL_sees 10 = .ok (.aload_n 0, 1) := by decide +kernel
theorem dL_sees_11 : decode cL_sees 11 = .ok (.iload_n 2, 1) := by decide +kernel
theorem dL_sees_12 : decode cL_sees 12 = .ok (.invokestatic 114, 3) := by decide +kernel
theorem dL_sees_15 : decode cL_sees 15 = .ok (.iastore, 1) := by decide +kernel
theorem dL_sees_16 : decode cL_sees 16 = .ok (.aload_n 1, 1) := by decide +kernel
theorem dL_sees_17 : decode cL_sees 17 = .ok (.bipush 12, 2) := by decide +kernel
theorem dL_sees_19 : decode cL_sees 19 = .ok (.iload_n 2, 1) := by decide +kernel
theorem dL_sees_20 : decode cL_sees 20 = .ok (.iadd, 1) := by decide +kernel
theorem dL_sees_21 : decode cL_sees 21 = .ok (.iconst 2, 1) := by decide +kernel
theorem dL_sees_22 : decode cL_sees 22 = .ok (.aload_n 0, 1) := by decide +kernel
theorem dL_sees_23 : decode cL_sees 23 = .ok (.iload_n 2, 1) := by decide +kernel
theorem dL_sees_24 : decode cL_sees 24 = .ok (.invokestatic 121, 3) := by decide +kernel
theorem dL_sees_27 : decode cL_sees 27 = .ok (.imul, 1) := by decide +kernel
theorem dL_sees_28 : decode cL_sees 28 = .ok (.aload_n 0, 1) := by decide +kernel
theorem dL_sees_29 : decode cL_sees 29 = .ok (.iload_n 2, 1) := by decide +kernel
theorem dL_sees_30 : decode cL_sees 30 = .ok (.invokestatic 118, 3) := by decide +kernel
theorem dL_sees_33 : decode cL_sees 33 = .ok (.iadd, 1) := by decide +kernel
theorem dL_sees_34 : decode cL_sees 34 = .ok (.iastore, 1) := by decide +kernel
theorem dL_sees_35 : decode cL_sees 35 = .ok (.iinc 2 1, 3) := by decide +kernel
theorem dL_sees_38 : decode cL_sees 38 = .ok (.goto (-36), 3) := by decide +kernel
theorem dL_sees_41 : decode cL_sees 41 = .ok (.iconst 0, 1) := by decide +kernel
theorem dL_sees_42 : decode cL_sees 42 = .ok (.istore_n 2, 1) := by decide +kernel
theorem dL_sees_43 : decode cL_sees 43 = .ok (.iload_n 2, 1) := by decide +kernel
theorem dL_sees_44 : decode cL_sees 44 = .ok (.iconst 5, 1) := by decide +kernel
theorem dL_sees_45 : decode cL_sees 45 = .ok (.if_icmp .ge 62, 3) := by decide +kernel
theorem dL_sees_48 : decode cL_sees 48 = .ok (.aload_n 1, 1) := by decide +kernel
theorem dL_sees_49 : decode cL_sees 49 = .ok (.bipush 24, 2) := by decide +kernel
theorem dL_sees_51 : decode cL_sees 51 = .ok (.iload_n 2, 1) := by decide +kernel
theorem dL_sees_52 : decode cL_sees 52 = .ok (.iadd, 1) := by decide +kernel
theorem dL_sees_53 : decode cL_sees 53 = .ok (.aload_n 0, 1) := by decide +kernel
theorem dL_sees_54 : decode cL_sees 54 = .ok (.iload_n 2, 1) := by decide +kernel
theorem dL_sees_55 : decode cL_sees 55 = .ok (.invokestatic 125, 3) := by decide +kernel
theorem dL_sees_58 : decode cL_sees 58 = .ok (.bipush 10, 2) := by decide +kernel
theorem dL_sees_60 : decode cL_sees 60 = .ok (.aload_n 0, 1) := by decide +kernel
theorem dL_sees_61 : decode cL_sees 61 = .ok (.iload_n 2, 1) := by decide +kernel
theorem dL_sees_62 : decode cL_sees 62 = .ok (.invokestatic 131, 3) := by decide +kernel
theorem dL_sees_65 : decode cL_sees 65 = .ok (.imul, 1) := by decide +kernel
theorem dL_sees_66 : decode cL_sees 66 = .ok (.iadd, 1) := by decide +kernel
theorem dL_sees_67 : decode cL_sees 67 = .ok (.iastore, 1) := by decide +kernel
theorem dL_sees_68 : decode cL_sees 68 = .ok (.aload_n 1, 1) := by decide +kernel
theorem dL_sees_69 : decode cL_sees 69 = .ok (.bipush 29, 2) := by decide +kernel
theorem dL_sees_71 : decode cL_sees 71 = .ok (.iload_n 2, 1) := by decide +kernel
theorem dL_sees_72 : decode cL_sees 72 = .ok (.iadd, 1) := by decide +kernel
theorem dL_sees_73 : decode cL_sees 73 = .ok (.aload_n 0, 1) := by decide +kernel
theorem dL_sees_74 : decode cL_sees 74 = .ok (.iload_n 2, 1) := by decide +kernel
theorem dL_sees_75 : decode cL_sees 75 = .ok (.invokestatic 127, 3) := by decide +kernel
theorem dL_sees_78 : decode cL_sees 78 = .ok (.iastore, 1) := by decide +kernel
theorem dL_sees_79 : decode cL_sees 79 = .ok (.aload_n 1, 1) := by decide +kernel
theorem dL_sees_80 : decode cL_sees 80 = .ok (.bipush 34, 2) := by decide +kernel
theorem dL_sees_82 : decode cL_sees 82 = .ok (.iload_n 2, 1) := by decide +kernel
theorem dL_sees_83 : decode cL_sees 83 = .ok (.iadd, 1) := by decide +kernel
theorem dL_sees_84 : decode cL_sees 84 = .ok (.aload_n 0, 1) := by decide +kernel
theorem dL_sees_85 : decode cL_sees 85 = .ok (.iload_n 2, 1) := by decide +kernel
theorem dL_sees_86 : decode cL_sees 86 = .ok (.invokestatic 129, 3) := by decide +kernel
theorem dL_sees_89 : decode cL_sees 89 = .ok (.iastore, 1) := by decide +kernel
theorem dL_sees_90 : decode cL_sees 90 = .ok (.aload_n 1, 1) := by decide +kernel
theorem dL_sees_91 : decode cL_sees 91 = .ok (.bipush 39, 2) := by decide +kernel
theorem dL_sees_93 : decode cL_sees 93 = .ok (.iload_n 2, 1) := by decide +kernel
theorem dL_sees_94 : decode cL_sees 94 = .ok (.iadd, 1) := by decide +kernel
theorem dL_sees_95 : decode cL_sees 95 = .ok (.aload_n 0, 1) := by decide +kernel
theorem dL_sees_96 : decode cL_sees 96 = .ok (.iload_n 2, 1) := by decide +kernel
theorem dL_sees_97 : decode cL_sees 97 = .ok (.invokestatic 133, 3) := by decide +kernel
theorem dL_sees_100 : decode cL_sees 100 = .ok (.iastore, 1) := by decide +kernel
theorem dL_sees_101 : decode cL_sees 101 = .ok (.iinc 2 1, 3) := by decide +kernel
theorem dL_sees_104 : decode cL_sees 104 = .ok (.goto (-61), 3) := by decide +kernel
theorem dL_sees_107 : decode cL_sees 107 = .ok (.aload_n 1, 1) := by decide +kernel
theorem dL_sees_108 : decode cL_sees 108 = .ok (.bipush 44, 2) := by decide +kernel
theorem dL_sees_110 : decode cL_sees 110 = .ok (.aload_n 0, 1) := by decide +kernel
theorem dL_sees_111 : decode cL_sees 111 = .ok (.invokevirtual 136, 3) := by decide +kernel
theorem dL_sees_114 : decode cL_sees 114 = .ok (.iastore, 1) := by decide +kernel
theorem dL_sees_115 : decode cL_sees 115 = .ok (.aload_n 1, 1) := by decide +kernel
theorem dL_sees_116 : decode cL_sees 116 = .ok (.bipush 45, 2) := by decide +kernel
theorem dL_sees_118 : decode cL_sees 118 = .ok (.aload_n 0, 1) := by decide +kernel
theorem dL_sees_119 : decode cL_sees 119 = .ok (.invokevirtual 139, 3) := by decide +kernel
theorem dL_sees_122 : decode cL_sees 122 = .ok (.iastore, 1) := by decide +kernel
theorem dL_sees_123 : decode cL_sees 123 = .ok (.aload_n 1, 1) := by decide +kernel
theorem dL_sees_124 : decode cL_sees 124 = .ok (.bipush 46, 2) := by decide +kernel
theorem dL_sees_126 : decode cL_sees 126 = .ok (.aload_n 0, 1) := by decide +kernel
theorem dL_sees_127 : decode cL_sees 127 = .ok (.invokevirtual 142, 3) := by decide +kernel
theorem dL_sees_130 : decode cL_sees 130 = .ok (.iastore, 1) := by decide +kernel
theorem dL_sees_131 : decode cL_sees 131 = .ok (.return_, 1) := by decide +kernel
theorem dL_areAlike_0 : decode cL_areAlike 0 = .ok (.iconst 1, 1) := by decide +kernel
theorem dL_areAlike_1 : decode cL_areAlike 1 = .ok (.istore_n 2, 1) := by decide +kernel
theorem dL_areAlike_2 : decode cL_areAlike 2 = .ok (.iconst 0, 1) := by decide +kernel
theorem dL_areAlike_3 : decode cL_areAlike 3 = .ok (.istore_n 3, 1) := by decide +kernel
theorem dL_areAlike_4 : decode cL_areAlike 4 = .ok (.iload_n 3, 1) := by decide +kernel
theorem dL_areAlike_5 : decode cL_areAlike 5 = .ok (.bipush 47, 2) := by decide +kernel
theorem dL_areAlike_7 : decode cL_areAlike 7 = .ok (.if_icmp .ge 28, 3) := by decide +kernel
theorem dL_areAlike_10 : decode cL_areAlike 10 = .ok (.iload_n 2, 1) := by decide +kernel
theorem dL_areAlike_11 : decode cL_areAlike 11 = .ok (.ifCond .eq 16, 3) := by decide +kernel
theorem dL_areAlike_14 : decode cL_areAlike 14 = .ok (.aload_n 0, 1) := by decide +kernel
theorem dL_areAlike_15 : decode cL_areAlike 15 = .ok (.iload_n 3, 1) := by decide +kernel
theorem dL_areAlike_16 : decode cL_areAlike 16 = .ok (.iaload, 1) := by decide +kernel
theorem dL_areAlike_17 : decode cL_areAlike 17 = .ok (.aload_n 1, 1) := by decide +kernel
theorem dL_areAlike_18 : decode cL_areAlike 18 = .ok (.iload_n 3, 1) := by decide +kernel
theorem dL_areAlike_19 : decode cL_areAlike 19 = .ok (.iaload, 1) := by decide +kernel
theorem dL_areAlike_20 : decode cL_areAlike 20 = .ok (.if_icmp .ne 7, 3) := by decide +kernel
theorem dL_areAlike_23 : decode cL_areAlike 23 = .ok (.iconst 1, 1) := by decide +kernel
theorem dL_areAlike_24 : decode cL_areAlike 24 = .ok (.goto 4, 3) := by decide +kernel
theorem dL_areAlike_27 : decode cL_areAlike 27 = .ok (.iconst 0, 1) := by decide +kernel
theorem dL_areAlike_28 : decode cL_areAlike 28 = .ok (.istore_n 2, 1) := by decide +kernel
theorem dL_areAlike_29 : decode cL_areAlike 29 = .ok (.iinc 3 1, 3) := by decide +kernel
theorem dL_areAlike_32 : decode cL_areAlike 32 = .ok (.goto (-28), 3) := by decide +kernel
theorem dL_areAlike_35 : decode cL_areAlike 35 = .ok (.iload_n 2, 1) := by decide +kernel
theorem dL_areAlike_36 : decode cL_areAlike 36 = .ok (.ireturn, 1) := by decide +kernel
theorem dL_does_0 : decode cL_does 0 = .ok (.iload_n 1, 1) := by decide +kernel
theorem dL_does_1 : decode cL_does 1 = .ok (.bipush 12, 2) := by decide +kernel
theorem dL_does_3 : decode cL_does 3 = .ok (.irem, 1) := by decide +kernel
theorem dL_does_4 : decode cL_does 4 = .ok (.istore_n 2, 1) := by decide +kernel
theorem dL_does_5 : decode cL_does 5 = .ok (.iload_n 1, 1) := by decide +kernel
theorem dL_does_6 : decode cL_does 6 = .ok (.bipush 12, 2) := by decide +kernel
theorem dL_does_8 : decode cL_does 8 = .ok (.idiv, 1) := by decide +kernel
theorem dL_does_9 : decode cL_does 9 = .ok (.istore_n 3, 1) := by decide +kernel
theorem dL_does_10 : decode cL_does 10 = .ok (.iload_n 3, 1) := by decide +kernel
theorem dL_does_11 : decode cL_does 11 = .ok (.iconst 5, 1) := by decide +kernel
theorem dL_does_12 : decode cL_does 12 = .ok (.irem, 1) := by decide +kernel
theorem dL_does_13 : decode cL_does 13 = .ok (.istore 4, 2) := by decide +kernel
theorem dL_does_15 : decode cL_does 15 = .ok (.iload_n 3, 1) := by decide +kernel
theorem dL_does_16 : decode cL_does 16 = .ok (.iconst 5, 1) := by decide +kernel
theorem dL_does_17 : decode cL_does 17 = .ok (.idiv, 1) := by decide +kernel
theorem dL_does_18 : decode cL_does 18 = .ok (.istore 5, 2) := by decide +kernel
theorem dL_does_20 : decode cL_does 20 = .ok (.iload_n 2, 1) := by decide +kernel
theorem dL_does_21 : decode cL_does 21 = .ok (.iconst 3, 1) := by decide +kernel
theorem dL_does_22 : decode cL_does 22 = .ok (.if_icmp .ge 26, 3) := by decide +kernel
theorem dL_does_25 : decode cL_does 25 = .ok (.aload_n 0, 1) := by decide +kernel
theorem dL_does_26 : decode cL_does 26 = .ok (.iload 5, 2) := by decide +kernel
theorem dL_does_28 : decode cL_does 28 = .ok (.invokestatic 145, 3) := by decide +kernel
theorem dL_does_31 : decode cL_does 31 = .ok (.ifCond .eq 14, 3) := by decide +kernel
theorem dL_does_34 : decode cL_does 34 = .ok (.aload_n 0, 1) := by decide +kernel
theorem dL_does_35 : decode cL_does 35 = .ok (.iload_n 3, 1) := by decide +kernel
theorem dL_does_36 : decode cL_does 36 = .ok (.bipush 6, 2) := by decide +kernel
theorem dL_does_38 : decode cL_does 38 = .ok (.irem, 1) := by decide +kernel
theorem dL_does_39 : decode cL_does 39 = .ok (.invokestatic 112, 3) := by decide +kernel
theorem dL_does_42 : decode cL_does 42 = .ok (.goto 5, 3) := by decide +kernel
theorem dL_does_45 : decode cL_does 45 = .ok (.bipush (-99), 2) := by decide +kernel
theorem dL_does_47 : decode cL_does 47 = .ok (.ireturn, 1) := by decide +kernel
theorem dL_does_48 : decode cL_does 48 = .ok (.iload_n 2, 1) := by decide +kernel
theorem dL_does_49 : decode cL_does 49 = .ok (.bipush 7, 2) := by decide +kernel
theorem dL_does_51 : decode cL_does 51 = .ok (.if_icmp .ge 77, 3) := by decide +kernel
theorem dL_does_54 : decode cL_does 54 = .ok (.iload_n 2, 1) := by decide +kernel
theorem dL_does_55 : decode cL_does 55 = .ok (.iconst 3, 1) := by decide +kernel
theorem dL_does_56 : decode cL_does 56 = .ok (.if_icmp .ne 21, 3) := by decide +kernel
theorem dL_does_59 : decode cL_does 59 = .ok (.aload_n 0, 1) := by decide +kernel
theorem dL_does_60 : decode cL_does 60 = .ok (.iload_n 3, 1) := by decide +kernel
theorem dL_does_61 : decode cL_does 61 = .ok (.bipush 6, 2) := by decide +kernel
theorem dL_does_63 : decode cL_does 63 = .ok (.irem, 1) := by decide +kernel
theorem dL_does_64 : decode cL_does 64 = .ok (.iload 5, 2) := by decide +kernel
theorem dL_does_66 : decode cL_does 66 = .ok (.bipush 9, 2) := by decide +kernel
theorem dL_does_68 : decode cL_does 68 = .ok (.irem, 1) := by decide +kernel
theorem dL_does_69 : decode cL_does 69 = .ok (.iconst 3, 1) := by decide +kernel
theorem dL_does_70 : decode cL_does 70 = .ok (.isub, 1) := by decide +kernel
theorem dL_does_71 : decode cL_does 71 = .ok (.invokestatic 149, 3) := by decide +kernel
theorem dL_does_74 : decode cL_does 74 = .ok (.goto 53, 3) := by decide +kernel
theorem dL_does_77 : decode cL_does 77 = .ok (.iload_n 2, 1) := by decide +kernel
theorem dL_does_78 : decode cL_does 78 = .ok (.iconst 4, 1) := by decide +kernel
theorem dL_does_79 : decode cL_does 79 = .ok (.if_icmp .ne 14, 3) := by decide +kernel
theorem dL_does_82 : decode cL_does 82 = .ok (.aload_n 0, 1) := by decide +kernel
theorem dL_does_83 : decode cL_does 83 = .ok (.iload_n 3, 1) := by decide +kernel
theorem dL_does_84 : decode cL_does 84 = .ok (.bipush 6, 2) := by decide +kernel
theorem dL_does_86 : decode cL_does 86 = .ok (.irem, 1) := by decide +kernel
theorem dL_does_87 : decode cL_does 87 = .ok (.invokestatic 152, 3) := by decide +kernel
theorem dL_does_90 : decode cL_does 90 = .ok (.goto 37, 3) := by decide +kernel
theorem dL_does_93 : decode cL_does 93 = .ok (.iload_n 2, 1) := by decide +kernel
theorem dL_does_94 : decode cL_does 94 = .ok (.iconst 5, 1) := by decide +kernel
theorem dL_does_95 : decode cL_does 95 = .ok (.if_icmp .ne 19, 3) := by decide +kernel
theorem dL_does_98 : decode cL_does 98 = .ok (.aload_n 0, 1) := by decide +kernel
theorem dL_does_99 : decode cL_does 99 = .ok (.iload 4, 2) := by decide +kernel
theorem dL_does_101 : decode cL_does 101 = .ok (.iload 5, 2) := by decide +kernel
theorem dL_does_103 : decode cL_does 103 = .ok (.bipush 7, 2) := by decide +kernel
theorem dL_does_105 : decode cL_does 105 = .ok (.irem, 1) := by decide +kernel
theorem dL_does_106 : decode cL_does 106 = .ok (.iconst 3, 1) := by decide +kernel
theorem dL_does_107 : decode cL_does 107 = .ok (.isub, 1) := by decide +kernel
theorem dL_does_108 : decode cL_does 108 = .ok (.invokestatic 154, 3) := by decide +kernel
theorem dL_does_111 : decode cL_does 111 = .ok (.goto 16, 3) := by decide +kernel
theorem dL_does_114 : decode cL_does 114 = .ok (.aload_n 0, 1) := by decide +kernel
theorem dL_does_115 : decode cL_does 115 = .ok (.iload 4, 2) := by decide +kernel
theorem dL_does_117 : decode cL_does 117 = .ok (.iload 5, 2) := by decide +kernel
theorem dL_does_119 : decode cL_does 119 = .ok (.bipush 7, 2) := by decide +kernel
theorem dL_does_121 : decode cL_does 121 = .ok (.irem, 1) := by decide +kernel
theorem dL_does_122 : decode cL_does 122 = .ok (.iconst 1, 1) := by decide +kernel
theorem dL_does_123 : decode cL_does 123 = .ok (.isub, 1) := by decide +kernel
theorem dL_does_124 : decode cL_does 124 = .ok (.invokestatic 156, 3) := by decide +kernel
theorem dL_does_127 : decode cL_does 127 = .ok (.ireturn, 1) := by decide +kernel
theorem dL_does_128 : decode cL_does 128 = .ok (.iload_n 2, 1) := by decide +kernel
theorem dL_does_129 : decode cL_does 129 = .ok (.bipush 10, 2) := by decide +kernel
theorem dL_does_131 : decode cL_does 131 = .ok (.if_icmp .ge 84, 3) := by decide +kernel
theorem dL_does_134 : decode cL_does 134 = .ok (.iload_n 2, 1) := by decide +kernel
theorem dL_does_135 : decode cL_does 135 = .ok (.bipush 7, 2) := by decide +kernel
theorem dL_does_137 : decode cL_does 137 = .ok (.if_icmp .ne 19, 3) := by decide +kernel
theorem dL_does_140 : decode cL_does 140 = .ok (.aload_n 0, 1) := by decide +kernel
theorem dL_does_141 : decode cL_does 141 = .ok (.iload 4, 2) := by decide +kernel
theorem dL_does_143 : decode cL_does 143 = .ok (.iload 5, 2) := by decide +kernel
theorem dL_does_145 : decode cL_does 145 = .ok (.bipush 7, 2) := by decide +kernel
theorem dL_does_147 : decode cL_does 147 = .ok (.irem, 1) := by decide +kernel
theorem dL_does_148 : decode cL_does 148 = .ok (.iconst 1, 1) := by decide +kernel
theorem dL_does_149 : decode cL_does 149 = .ok (.isub, 1) := by decide +kernel
theorem dL_does_150 : decode cL_does 150 = .ok (.invokestatic 158, 3) := by decide +kernel
theorem dL_does_153 : decode cL_does 153 = .ok (.goto 61, 3) := by decide +kernel
theorem dL_does_156 : decode cL_does 156 = .ok (.iload_n 2, 1) := by decide +kernel
theorem dL_does_157 : decode cL_does 157 = .ok (.bipush 8, 2) := by decide +kernel
theorem dL_does_159 : decode cL_does 159 = .ok (.if_icmp .ne 24, 3) := by decide +kernel
theorem dL_does_162 : decode cL_does 162 = .ok (.aload_n 0, 1) := by decide +kernel
theorem dL_does_163 : decode cL_does 163 = .ok (.iload 4, 2) := by decide +kernel
theorem dL_does_165 : decode cL_does 165 = .ok (.iload 5, 2) := by decide +kernel
theorem dL_does_167 : decode cL_does 167 = .ok (.bipush 60, 2) := by decide +kernel
theorem dL_does_169 : decode cL_does 169 = .ok (.irem, 1) := by decide +kernel
theorem dL_does_170 : decode cL_does 170 = .ok (.iload 5, 2) := by decide +kernel
theorem dL_does_172 : decode cL_does 172 = .ok (.bipush 60, 2) := by decide +kernel
theorem dL_does_174 : decode cL_does 174 = .ok (.idiv, 1) := by decide +kernel
theorem dL_does_175 : decode cL_does 175 = .ok (.iconst 5, 1) := by decide +kernel
theorem dL_does_176 : decode cL_does 176 = .ok (.irem, 1) := by decide +kernel
theorem dL_does_177 : decode cL_does 177 = .ok (.invokestatic 160, 3) := by decide +kernel
theorem dL_does_180 : decode cL_does 180 = .ok (.goto 34, 3) := by decide +kernel
theorem dL_does_183 : decode cL_does 183 = .ok (.aload_n 0, 1) := by decide +kernel
theorem dL_does_184 : decode cL_does 184 = .ok (.iload 4, 2) := by decide +kernel
theorem dL_does_186 : decode cL_does 186 = .ok (.iload 4, 2) := by decide +kernel
theorem dL_does_188 : decode cL_does 188 = .ok (.iconst 1, 1) := by decide +kernel
theorem dL_does_189 : decode cL_does 189 = .ok (.iadd, 1) := by decide +kernel
theorem dL_does_190 : decode cL_does 190 = .ok (.iload 5, 2) := by decide +kernel
theorem dL_does_192 : decode cL_does 192 = .ok (.iconst 4, 1) := by decide +kernel
theorem dL_does_193 : decode cL_does 193 = .ok (.irem, 1) := by decide +kernel
theorem dL_does_194 : decode cL_does 194 = .ok (.iadd, 1) := by decide +kernel
theorem dL_does_195 : decode cL_does 195 = .ok (.iconst 5, 1) := by decide +kernel
theorem dL_does_196 : decode cL_does 196 = .ok (.irem, 1) := by decide +kernel
theorem dL_does_197 : decode cL_does 197 = .ok (.iload 5, 2) := by decide +kernel
theorem dL_does_199 : decode cL_does 199 = .ok (.iconst 4, 1) := by decide +kernel
theorem dL_does_200 : decode cL_does 200 = .ok (.idiv, 1) := by decide +kernel
theorem dL_does_201 : decode cL_does 201 = .ok (.iconst 3, 1) := by decide +kernel
theorem dL_does_202 : decode cL_does 202 = .ok (.irem, 1) := by decide +kernel
theorem dL_does_203 : decode cL_does 203 = .ok (.ifCond .le 7, 3) := by decide +kernel
theorem dL_does_206 : decode cL_does 206 = .ok (.iconst 1, 1) := by decide +kernel
theorem dL_does_207 : decode cL_does 207 = .ok (.goto 4, 3) := by decide +kernel
theorem dL_does_210 : decode cL_does 210 = .ok (.iconst 0, 1) := by decide +kernel
theorem dL_does_211 : decode cL_does 211 = .ok (.invokestatic 163, 3) := by decide +kernel
theorem dL_does_214 : decode cL_does 214 = .ok (.ireturn, 1) := by decide +kernel
theorem dL_does_215 : decode cL_does 215 = .ok (.iload_n 2, 1) := by decide +kernel
theorem dL_does_216 : decode cL_does 216 = .ok (.bipush 10, 2) := by decide +kernel
theorem dL_does_218 : decode cL_does 218 = .ok (.if_icmp .ne 19, 3) := by decide +kernel
theorem dL_does_221 : decode cL_does 221 = .ok (.aload_n 0, 1) := by decide +kernel
theorem dL_does_222 : decode cL_does 222 = .ok (.iload 4, 2) := by decide +kernel
theorem dL_does_224 : decode cL_does 224 = .ok (.iload 5, 2) := by decide +kernel
theorem dL_does_226 : decode cL_does 226 = .ok (.bipush 30, 2) := by decide +kernel
theorem dL_does_228 : decode cL_does 228 = .ok (.irem, 1) := by decide +kernel
theorem dL_does_229 : decode cL_does 229 = .ok (.iconst 1, 1) := by decide +kernel
theorem dL_does_230 : decode cL_does 230 = .ok (.isub, 1) := by decide +kernel
theorem dL_does_231 : decode cL_does 231 = .ok (.invokestatic 166, 3) := by decide +kernel
theorem dL_does_234 : decode cL_does 234 = .ok (.goto 30, 3) := by decide +kernel
theorem dL_does_237 : decode cL_does 237 = .ok (.iload 5, 2) := by decide +kernel
theorem dL_does_239 : decode cL_does 239 = .ok (.iconst 4, 1) := by decide +kernel
theorem dL_does_240 : decode cL_does 240 = .ok (.irem, 1) := by decide +kernel
theorem dL_does_241 : decode cL_does 241 = .ok (.ifCond .ne 12, 3) := by decide +kernel
theorem dL_does_244 : decode cL_does 244 = .ok (.aload_n 0, 1) := by decide +kernel
theorem dL_does_245 : decode cL_does 245 = .ok (.iload 4, 2) := by decide +kernel
theorem dL_does_247 : decode cL_does 247 = .ok (.invokestatic 168, 3) := by decide +kernel
theorem dL_does_250 : decode cL_does 250 = .ok (.goto 14, 3) := by decide +kernel
theorem dL_does_253 : decode cL_does 253 = .ok (.aload_n 0, 1) := by decide +kernel
theorem dL_does_254 : decode cL_does 254 = .ok (.iconst 1, 1) := by decide +kernel
theorem dL_does_255 : decode cL_does 255 = .ok (.iload 5, 2) := by decide +kernel
theorem dL_does_257 : decode cL_does 257 = .ok (.bipush 15, 2) := by decide +kernel
theorem dL_does_259 : decode cL_does 259 = .ok (.irem, 1) := by decide +kernel
theorem dL_does_260 : decode cL_does 260 = .ok (.iadd, 1) := by decide +kernel
theorem dL_does_261 : decode cL_does 261 = .ok (.invokestatic 170, 3) := by decide +kernel
theorem dL_does_264 : decode cL_does 264 = .ok (.ireturn, 1) := by decide +kernel
theorem dL_law_0 : decode cL_law 0 = .ok (.new 10, 3) := by decide +kernel
theorem dL_law_3 : decode cL_law 3 = .ok (.dup, 1) := by decide +kernel
theorem dL_law_4 : decode cL_law 4 = .ok (.invokespecial 172, 3) := by decide +kernel
theorem dL_law_7 : decode cL_law 7 = .ok (.astore_n 1, 1) := by decide +kernel
theorem dL_law_8 : decode cL_law 8 = .ok (.bipush 30, 2) := by decide +kernel
theorem dL_law_10 : decode cL_law 10 = .ok (.newarray .int, 2) := by decide +kernel
theorem dL_law_12 : decode cL_law 12 = .ok (.astore_n 2, 1) := by decide +kernel
theorem dL_law_13 : decode cL_law 13 = .ok (.bipush 47, 2) := by decide +kernel
theorem dL_law_15 : decode cL_law 15 = .ok (.newarray .int, 2) := by decide +kernel
theorem dL_law_17 : decode cL_law 17 = .ok (.astore_n 3, 1) := by decide +kernel
theorem dL_law_18 : decode cL_law 18 = .ok (.bipush 47, 2) := by decide +kernel
theorem dL_law_20 : decode cL_law 20 = .ok (.newarray .int, 2) := by decide +kernel
theorem dL_law_22 : decode cL_law 22 = .ok (.astore 4, 2) := by decide +kernel
theorem dL_law_24 : decode cL_law 24 = .ok (.iconst 0, 1) := by decide +kernel
theorem dL_law_25 : decode cL_law 25 = .ok (.istore 5, 2) := by decide +kernel
theorem dL_law_27 : decode cL_law 27 = .ok (.aload_n 1, 1) := by decide +kernel
theorem dL_law_28 : decode cL_law 28 = .ok (.iconst 0, 1) := by decide +kernel
theorem dL_law_29 : decode cL_law 29 = .ok (.invokestatic 173, 3) := by decide +kernel
theorem dL_law_32 : decode cL_law 32 = .ok (.istore 6, 2) := by decide +kernel
theorem dL_law_34 : decode cL_law 34 = .ok (.iconst 0, 1) := by decide +kernel
theorem dL_law_35 : decode cL_law 35 = .ok (.istore 7, 2) := by decide +kernel
theorem dL_law_37 : decode cL_law 37 = .ok (.iload 7, 2) := by decide +kernel
theorem dL_law_39 : decode cL_law 39 = .ok (.bipush 36, 2) := by decide +kernel
theorem dL_law_41 : decode cL_law 41 = .ok (.if_icmp .ge 535, 3) := by decide +kernel
theorem dL_law_44 : decode cL_law 44 = .ok (.iload 6, 2) := by decide +kernel
theorem dL_law_46 : decode cL_law 46 = .ok (.ifCond .eq 530, 3) := by decide +kernel
theorem dL_law_49 : decode cL_law 49 = .ok (.aload_n 0, 1) := by decide +kernel
theorem dL_law_50 : decode cL_law 50 = .ok (.iload 7, 2) := by decide +kernel
theorem dL_law_52 : decode cL_law 52 = .ok (.invokestatic 176, 3) := by decide +kernel
theorem dL_law_55 : decode cL_law 55 = .ok (.istore 8, 2) := by decide +kernel
theorem dL_law_57 : decode cL_law 57 = .ok (.iload 8, 2) := by decide +kernel
theorem dL_law_59 : decode cL_law 59 = .ok (.bipush 12, 2) := by decide +kernel
theorem dL_law_61 : decode cL_law 61 = .ok (.idiv, 1) := by decide +kernel
theorem dL_law_62 : decode cL_law 62 = .ok (.istore 9, 2) := by decide +kernel
theorem dL_law_64 : decode cL_law 64 = .ok (.aload_n 1, 1) := by decide +kernel
theorem dL_law_65 : decode cL_law 65 = .ok (.aload_n 3, 1) := by decide +kernel
theorem dL_law_66 : decode cL_law 66 = .ok (.invokestatic 180, 3) := by decide +kernel
theorem dL_law_69 : decode cL_law 69 = .ok (.aload_n 1, 1) := by decide +kernel
theorem dL_law_70 : decode cL_law 70 = .ok (.iload 8, 2) := by decide +kernel
theorem dL_law_72 : decode cL_law 72 = .ok (.invokestatic 184, 3) := by decide +kernel
theorem dL_law_75 : decode cL_law 75 = .ok (.istore 10, 2) := by decide +kernel
theorem dL_law_77 : decode cL_law 77 = .ok (.aload_n 1, 1) := by decide +kernel
theorem dL_law_78 : decode cL_law 78 = .ok (.aload 4, 2) := by decide +kernel
theorem dL_law_80 : decode cL_law 80 = .ok (.invokestatic 180, 3) := by decide +kernel
theorem dL_law_83 : decode cL_law 83 = .ok (.iload 10, 2) := by decide +kernel
theorem dL_law_85 : decode cL_law 85 = .ok (.bipush (-103), 2) := by decide +kernel
theorem dL_law_87 : decode cL_law 87 = .ok (.if_icmp .ne 12, 3) := by decide +kernel
theorem dL_law_90 : decode cL_law 90 = .ok (.aload_n 3, 1) := by decide +kernel
theorem dL_law_91 : decode cL_law 91 = .ok (.aload 4, 2) := by decide +kernel
theorem dL_law_93 : decode cL_law 93 = .ok (.invokestatic 187, 3) := by decide +kernel
theorem dL_law_96 : decode cL_law 96 = .ok (.goto 72, 3) := by decide +kernel
theorem dL_law_99 : decode cL_law 99 = .ok (.iload 10, 2) := by decide +kernel
theorem dL_law_101 : decode cL_law 101 = .ok (.ifCond .le 66, 3) := by decide +kernel
theorem dL_law_104 : decode cL_law 104 = .ok (.aload 4, 2) := by decide +kernel
theorem dL_law_106 : decode cL_law 106 = .ok (.bipush 46, 2) := by decide +kernel
theorem dL_law_108 : decode cL_law 108 = .ok (.iaload, 1) := by decide +kernel
theorem dL_law_109 : decode cL_law 109 = .ok (.aload_n 3, 1) := by decide +kernel
theorem dL_law_110 : decode cL_law 110 = .ok (.bipush 46, 2) := by decide +kernel
theorem dL_law_112 : decode cL_law 112 = .ok (.iaload, 1) := by decide +kernel
theorem dL_law_113 : decode cL_law 113 = .ok (.iconst 1, 1) := by decide +kernel
theorem dL_law_114 : decode cL_law 114 = .ok (.iadd, 1) := by decide +kernel
theorem dL_law_115 : decode cL_law 115 = .ok (.if_icmp .ne 52, 3) := by decide +kernel
theorem dL_law_118 : decode cL_law 118 = .ok (.aload 4, 2) := by decide +kernel
theorem dL_law_120 : decode cL_law 120 = .ok (.bipush 45, 2) := by decide +kernel
theorem dL_law_122 : decode cL_law 122 = .ok (.iaload, 1) := by decide +kernel
theorem dL_law_123 : decode cL_law 123 = .ok (.aload_n 3, 1) := by decide +kernel
theorem dL_law_124 : decode cL_law 124 = .ok (.bipush 45, 2) := by decide +kernel
theorem dL_law_126 : decode cL_law 126 = .ok (.iaload, 1) := by decide +kernel
theorem dL_law_127 : decode cL_law 127 = .ok (.if_icmp .lt 40, 3) := by decide +kernel
theorem dL_law_130 : decode cL_law 130 = .ok (.iload 8, 2) := by decide +kernel
theorem dL_law_132 : decode cL_law 132 = .ok (.bipush 12, 2) := by decide +kernel
theorem dL_law_134 : decode cL_law 134 = .ok (.irem, 1) := by decide +kernel
theorem dL_law_135 : decode cL_law 135 = .ok (.bipush 11, 2) := by decide +kernel
theorem dL_law_137 : decode cL_law 137 = .ok (.if_icmp .ne 26, 3) := by decide +kernel
theorem dL_law_140 : decode cL_law 140 = .ok (.iload 9, 2) := by decide +kernel
theorem dL_law_142 : decode cL_law 142 = .ok (.iconst 5, 1) := by decide +kernel
theorem dL_law_143 : decode cL_law 143 = .ok (.idiv, 1) := by decide +kernel
theorem dL_law_144 : decode cL_law 144 = .ok (.iconst 4, 1) := by decide +kernel
theorem dL_law_145 : decode cL_law 145 = .ok (.irem, 1) := by decide +kernel
theorem dL_law_146 : decode cL_law 146 = .ok (.ifCond .eq 17, 3) := by decide +kernel
theorem dL_law_149 : decode cL_law 149 = .ok (.iload 10, 2) := by decide +kernel
theorem dL_law_151 : decode cL_law 151 = .ok (.iconst 1, 1) := by decide +kernel
theorem dL_law_152 : decode cL_law 152 = .ok (.iload 9, 2) := by decide +kernel
theorem dL_law_154 : decode cL_law 154 = .ok (.iconst 5, 1) := by decide +kernel
theorem dL_law_155 : decode cL_law 155 = .ok (.idiv, 1) := by decide +kernel
theorem dL_law_156 : decode cL_law 156 = .ok (.bipush 15, 2) := by decide +kernel
theorem dL_law_158 : decode cL_law 158 = .ok (.irem, 1) := by decide +kernel
theorem dL_law_159 : decode cL_law 159 = .ok (.iadd, 1) := by decide +kernel
theorem dL_law_160 : decode cL_law 160 = .ok (.if_icmp .lt 7, 3) := by decide +kernel
theorem dL_law_163 : decode cL_law 163 = .ok (.iconst 1, 1) := by decide +kernel
theorem dL_law_164 : decode cL_law 164 = .ok (.goto 4, 3) := by decide +kernel
theorem dL_law_167 : decode cL_law 167 = .ok (.iconst 0, 1) := by decide +kernel
theorem dL_law_168 : decode cL_law 168 = .ok (.istore 6, 2) := by decide +kernel
theorem dL_law_170 : decode cL_law 170 = .ok (.iload 10, 2) := by decide +kernel
theorem dL_law_172 : decode cL_law 172 = .ok (.ifCond .ge 8, 3) := by decide +kernel
theorem dL_law_175 : decode cL_law 175 = .ok (.iload 5, 2) := by decide +kernel
theorem dL_law_177 : decode cL_law 177 = .ok (.goto 51, 3) := by decide +kernel
theorem dL_law_180 : decode cL_law 180 = .ok (.iload 8, 2) := by decide +kernel
theorem dL_law_182 : decode cL_law 182 = .ok (.bipush 12, 2) := by decide +kernel
theorem dL_law_184 : decode cL_law 184 = .ok (.irem, 1) := by decide +kernel
theorem dL_law_185 : decode cL_law 185 = .ok (.iconst 3, 1) := by decide +kernel
theorem dL_law_186 : decode cL_law 186 = .ok (.if_icmp .ne 16, 3) := by decide +kernel
theorem dL_law_189 : decode cL_law 189 = .ok (.iload 5, 2) := by decide +kernel
theorem dL_law_191 : decode cL_law 191 = .ok (.iconst 1, 1) := by decide +kernel
theorem dL_law_192 : decode cL_law 192 = .ok (.iload 9, 2) := by decide +kernel
theorem dL_law_194 : decode cL_law 194 = .ok (.bipush 6, 2) := by decide +kernel
theorem dL_law_196 : decode cL_law 196 = .ok (.irem, 1) := by decide +kernel
theorem dL_law_197 : decode cL_law 197 = .ok (.ishl, 1) := by decide +kernel
theorem dL_law_198 : decode cL_law 198 = .ok (.ior, 1) := by decide +kernel
theorem dL_law_199 : decode cL_law 199 = .ok (.goto 29, 3) := by decide +kernel
theorem dL_law_202 : decode cL_law 202 = .ok (.iload 8, 2) := by decide +kernel
theorem dL_law_204 : decode cL_law 204 = .ok (.bipush 12, 2) := by decide +kernel
theorem dL_law_206 : decode cL_law 206 = .ok (.irem, 1) := by decide +kernel
theorem dL_law_207 : decode cL_law 207 = .ok (.iconst 4, 1) := by decide +kernel
theorem dL_law_208 : decode cL_law 208 = .ok (.if_icmp .ne 18, 3) := by decide +kernel
theorem dL_law_211 : decode cL_law 211 = .ok (.iload 5, 2) := by decide +kernel
theorem dL_law_213 : decode cL_law 213 = .ok (.iconst 1, 1) := by decide +kernel
theorem dL_law_214 : decode cL_law 214 = .ok (.iload 9, 2) := by decide +kernel
theorem dL_law_216 : decode cL_law 216 = .ok (.bipush 6, 2) := by decide +kernel
theorem dL_law_218 : decode cL_law 218 = .ok (.irem, 1) := by decide +kernel
theorem dL_law_219 : decode cL_law 219 = .ok (.ishl, 1) := by decide +kernel
theorem dL_law_220 : decode cL_law 220 = .ok (.iconst (-1), 1) := by decide +kernel
theorem dL_law_221 : decode cL_law 221 = .ok (.ixor, 1) := by decide +kernel
theorem dL_law_222 : decode cL_law 222 = .ok (.iand, 1) := by decide +kernel
theorem dL_law_223 : decode cL_law 223 = .ok (.goto 5, 3) := by decide +kernel
theorem dL_law_226 : decode cL_law 226 = .ok (.iload 5, 2) := by decide +kernel
theorem dL_law_228 : decode cL_law 228 = .ok (.istore 5, 2) := by decide +kernel
theorem dL_law_230 : decode cL_law 230 = .ok (.iload 6, 2) := by decide +kernel
theorem dL_law_232 : decode cL_law 232 = .ok (.ifCond .eq 37, 3) := by decide +kernel
theorem dL_law_235 : decode cL_law 235 = .ok (.aload_n 1, 1) := by decide +kernel
theorem dL_law_236 : decode cL_law 236 = .ok (.iload 5, 2) := by decide +kernel
theorem dL_law_238 : decode cL_law 238 = .ok (.invokestatic 173, 3) := by decide +kernel
theorem dL_law_241 : decode cL_law 241 = .ok (.ifCond .eq 28, 3) := by decide +kernel
theorem dL_law_244 : decode cL_law 244 = .ok (.aload_n 1, 1) := by decide +kernel
theorem dL_law_245 : decode cL_law 245 = .ok (.iload 7, 2) := by decide +kernel
theorem dL_law_247 : decode cL_law 247 = .ok (.bipush 12, 2) := by decide +kernel
theorem dL_law_249 : decode cL_law 249 = .ok (.irem, 1) := by decide +kernel
theorem dL_law_250 : decode cL_law 250 = .ok (.invokestatic 191, 3) := by decide +kernel
theorem dL_law_253 : decode cL_law 253 = .ok (.aload_n 1, 1) := by decide +kernel
theorem dL_law_254 : decode cL_law 254 = .ok (.iload 7, 2) := by decide +kernel
theorem dL_law_256 : decode cL_law 256 = .ok (.bipush 12, 2) := by decide +kernel
theorem dL_law_258 : decode cL_law 258 = .ok (.irem, 1) := by decide +kernel
theorem dL_law_259 : decode cL_law 259 = .ok (.invokestatic 114, 3) := by decide +kernel
theorem dL_law_262 : decode cL_law 262 = .ok (.if_icmp .ne 7, 3) := by decide +kernel
theorem dL_law_265 : decode cL_law 265 = .ok (.iconst 1, 1) := by decide +kernel
theorem dL_law_266 : decode cL_law 266 = .ok (.goto 4, 3) := by decide +kernel
theorem dL_law_269 : decode cL_law 269 = .ok (.iconst 0, 1) := by decide +kernel
theorem dL_law_270 : decode cL_law 270 = .ok (.istore 6, 2) := by decide +kernel
theorem dL_law_272 : decode cL_law 272 = .ok (.iload 6, 2) := by decide +kernel
theorem dL_law_274 : decode cL_law 274 = .ok (.ifCond .eq 121, 3) := by decide +kernel
theorem dL_law_277 : decode cL_law 277 = .ok (.iload 10, 2) := by decide +kernel
theorem dL_law_279 : decode cL_law 279 = .ok (.ifCond .le 116, 3) := by decide +kernel
theorem dL_law_282 : decode cL_law 282 = .ok (.iload 7, 2) := by decide +kernel
theorem dL_law_284 : decode cL_law 284 = .ok (.iconst 3, 1) := by decide +kernel
theorem dL_law_285 : decode cL_law 285 = .ok (.irem, 1) := by decide +kernel
theorem dL_law_286 : decode cL_law 286 = .ok (.ifCond .ne 109, 3) := by decide +kernel
theorem dL_law_289 : decode cL_law 289 = .ok (.aload_n 1, 1) := by decide +kernel
theorem dL_law_290 : decode cL_law 290 = .ok (.aload 4, 2) := by decide +kernel
theorem dL_law_292 : decode cL_law 292 = .ok (.invokestatic 180, 3) := by decide +kernel
theorem dL_law_295 : decode cL_law 295 = .ok (.aload_n 1, 1) := by decide +kernel
theorem dL_law_296 : decode cL_law 296 = .ok (.invokestatic 194, 3) := by decide +kernel
theorem dL_law_299 : decode cL_law 299 = .ok (.aload_n 3, 1) := by decide +kernel
theorem dL_law_300 : decode cL_law 300 = .ok (.bipush 46, 2) := by decide +kernel
theorem dL_law_302 : decode cL_law 302 = .ok (.iaload, 1) := by decide +kernel
theorem dL_law_303 : decode cL_law 303 = .ok (.if_icmp .ne 7, 3) := by decide +kernel
theorem dL_law_306 : decode cL_law 306 = .ok (.iconst 1, 1) := by decide +kernel
theorem dL_law_307 : decode cL_law 307 = .ok (.goto 4, 3) := by decide +kernel
theorem dL_law_310 : decode cL_law 310 = .ok (.iconst 0, 1) := by decide +kernel
theorem dL_law_311 : decode cL_law 311 = .ok (.istore 6, 2) := by decide +kernel
theorem dL_law_313 : decode cL_law 313 = .ok (.aload 4, 2) := by decide +kernel
theorem dL_law_315 : decode cL_law 315 = .ok (.astore 11, 2) := by decide +kernel
theorem dL_law_317 : decode cL_law 317 = .ok (.aload_n 3, 1) := by decide +kernel
theorem dL_law_318 : decode cL_law 318 = .ok (.astore 4, 2) := by decide +kernel
theorem dL_law_320 : decode cL_law 320 = .ok (.aload 11, 2) := by decide +kernel
theorem dL_law_322 : decode cL_law 322 = .ok (.astore_n 3, 1) := by decide +kernel
theorem dL_law_323 : decode cL_law 323 = .ok (.bipush 47, 2) := by decide +kernel
theorem dL_law_325 : decode cL_law 325 = .ok (.newarray .int, 2) := by decide +kernel
theorem dL_law_327 : decode cL_law 327 = .ok (.astore 12, 2) := by decide +kernel
theorem dL_law_329 : decode cL_law 329 = .ok (.aload_n 1, 1) := by decide +kernel
theorem dL_law_330 : decode cL_law 330 = .ok (.aload 12, 2) := by decide +kernel
theorem dL_law_332 : decode cL_law 332 = .ok (.invokestatic 180, 3) := by decide +kernel
theorem dL_law_335 : decode cL_law 335 = .ok (.iload 6, 2) := by decide +kernel
theorem dL_law_337 : decode cL_law 337 = .ok (.ifCond .eq 28, 3) := by decide +kernel
theorem dL_law_340 : decode cL_law 340 = .ok (.aload 12, 2) := by decide +kernel
theorem dL_law_342 : decode cL_law 342 = .ok (.aload 4, 2) := by decide +kernel
theorem dL_law_344 : decode cL_law 344 = .ok (.invokestatic 187, 3) := by decide +kernel
theorem dL_law_347 : decode cL_law 347 = .ok (.ifCond .eq 18, 3) := by decide +kernel
theorem dL_law_350 : decode cL_law 350 = .ok (.aload_n 1, 1) := by decide +kernel
theorem dL_law_351 : decode cL_law 351 = .ok (.iload 8, 2) := by decide +kernel
theorem dL_law_353 : decode cL_law 353 = .ok (.invokestatic 184, 3) := by decide +kernel
theorem dL_law_356 : decode cL_law 356 = .ok (.iload 10, 2) := by decide +kernel
theorem dL_law_358 : decode cL_law 358 = .ok (.if_icmp .ne 7, 3) := by decide +kernel
theorem dL_law_361 : decode cL_law 361 = .ok (.iconst 1, 1) := by decide +kernel
theorem dL_law_362 : decode cL_law 362 = .ok (.goto 4, 3) := by decide +kernel
theorem dL_law_365 : decode cL_law 365 = .ok (.iconst 0, 1) := by decide +kernel
theorem dL_law_366 : decode cL_law 366 = .ok (.istore 6, 2) := by decide +kernel
theorem dL_law_368 : decode cL_law 368 = .ok (.aload_n 1, 1) := by decide +kernel
theorem dL_law_369 : decode cL_law 369 = .ok (.aload 12, 2) := by decide +kernel
theorem dL_law_371 : decode cL_law 371 = .ok (.invokestatic 180, 3) := by decide +kernel
theorem dL_law_374 : decode cL_law 374 = .ok (.iload 6, 2) := by decide +kernel
theorem dL_law_376 : decode cL_law 376 = .ok (.ifCond .eq 16, 3) := by decide +kernel
theorem dL_law_379 : decode cL_law 379 = .ok (.aload 12, 2) := by decide +kernel
theorem dL_law_381 : decode cL_law 381 = .ok (.aload_n 3, 1) := by decide +kernel
theorem dL_law_382 : decode cL_law 382 = .ok (.invokestatic 187, 3) := by decide +kernel
theorem dL_law_385 : decode cL_law 385 = .ok (.ifCond .eq 7, 3) := by decide +kernel
theorem dL_law_388 : decode cL_law 388 = .ok (.iconst 1, 1) := by decide +kernel
theorem dL_law_389 : decode cL_law 389 = .ok (.goto 4, 3) := by decide +kernel
theorem dL_law_392 : decode cL_law 392 = .ok (.iconst 0, 1) := by decide +kernel
theorem dL_law_393 : decode cL_law 393 = .ok (.istore 6, 2) := by decide +kernel
theorem dL_law_395 : decode cL_law 395 = .ok (.iload 6, 2) := by decide +kernel
theorem dL_law_397 : decode cL_law 397 = .ok (.ifCond .eq 62, 3) := by decide +kernel
theorem dL_law_400 : decode cL_law 400 = .ok (.iload 7, 2) := by decide +kernel
theorem dL_law_402 : decode cL_law 402 = .ok (.iconst 5, 1) := by decide +kernel
theorem dL_law_403 : decode cL_law 403 = .ok (.irem, 1) := by decide +kernel
theorem dL_law_404 : decode cL_law 404 = .ok (.ifCond .ne 55, 3) := by decide +kernel
theorem dL_law_407 : decode cL_law 407 = .ok (.aload_n 1, 1) := by decide +kernel
theorem dL_law_408 : decode cL_law 408 = .ok (.aload_n 3, 1) := by decide +kernel
theorem dL_law_409 : decode cL_law 409 = .ok (.invokestatic 180, 3) := by decide +kernel
theorem dL_law_412 : decode cL_law 412 = .ok (.aload_n 1, 1) := by decide +kernel
theorem dL_law_413 : decode cL_law 413 = .ok (.iload 7, 2) := by decide +kernel
theorem dL_law_415 : decode cL_law 415 = .ok (.iconst 5, 1) := by decide +kernel
theorem dL_law_416 : decode cL_law 416 = .ok (.idiv, 1) := by decide +kernel
theorem dL_law_417 : decode cL_law 417 = .ok (.iconst 5, 1) := by decide +kernel
theorem dL_law_418 : decode cL_law 418 = .ok (.irem, 1) := by decide +kernel
theorem dL_law_419 : decode cL_law 419 = .ok (.invokestatic 197, 3) := by decide +kernel
theorem dL_law_422 : decode cL_law 422 = .ok (.istore 11, 2) := by decide +kernel
theorem dL_law_424 : decode cL_law 424 = .ok (.aload_n 1, 1) := by decide +kernel
theorem dL_law_425 : decode cL_law 425 = .ok (.aload 4, 2) := by decide +kernel
theorem dL_law_427 : decode cL_law 427 = .ok (.invokestatic 180, 3) := by decide +kernel
theorem dL_law_430 : decode cL_law 430 = .ok (.iload 11, 2) := by decide +kernel
theorem dL_law_432 : decode cL_law 432 = .ok (.ifCond .lt 24, 3) := by decide +kernel
theorem dL_law_435 : decode cL_law 435 = .ok (.iload 11, 2) := by decide +kernel
theorem dL_law_437 : decode cL_law 437 = .ok (.sipush 5760, 3) := by decide +kernel
theorem dL_law_440 : decode cL_law 440 = .ok (.if_icmp .gt 16, 3) := by decide +kernel
theorem dL_law_443 : decode cL_law 443 = .ok (.aload_n 3, 1) := by decide +kernel
theorem dL_law_444 : decode cL_law 444 = .ok (.aload 4, 2) := by decide +kernel
theorem dL_law_446 : decode cL_law 446 = .ok (.invokestatic 187, 3) := by decide +kernel
theorem dL_law_449 : decode cL_law 449 = .ok (.ifCond .eq 7, 3) := by decide +kernel
theorem dL_law_452 : decode cL_law 452 = .ok (.iconst 1, 1) := by decide +kernel
theorem dL_law_453 : decode cL_law 453 = .ok (.goto 4, 3) := by decide +kernel
theorem dL_law_456 : decode cL_law 456 = .ok (.iconst 0, 1) := by decide +kernel
theorem dL_law_457 : decode cL_law 457 = .ok (.istore 6, 2) := by decide +kernel
theorem dL_law_459 : decode cL_law 459 = .ok (.iconst 1, 1) := by decide +kernel
theorem dL_law_460 : decode cL_law 460 = .ok (.iload 9, 2) := by decide +kernel
theorem dL_law_462 : decode cL_law 462 = .ok (.bipush 14, 2) := by decide +kernel
theorem dL_law_464 : decode cL_law 464 = .ok (.irem, 1) := by decide +kernel
theorem dL_law_465 : decode cL_law 465 = .ok (.iadd, 1) := by decide +kernel
theorem dL_law_466 : decode cL_law 466 = .ok (.istore 11, 2) := by decide +kernel
theorem dL_law_468 : decode cL_law 468 = .ok (.iconst 0, 1) := by decide +kernel
theorem dL_law_469 : decode cL_law 469 = .ok (.istore 12, 2) := by decide +kernel
theorem dL_law_471 : decode cL_law 471 = .ok (.iload 12, 2) := by decide +kernel
theorem dL_law_473 : decode cL_law 473 = .ok (.iload 11, 2) := by decide +kernel
theorem dL_law_475 : decode cL_law 475 = .ok (.if_icmp .ge 38, 3) := by decide +kernel
theorem dL_law_478 : decode cL_law 478 = .ok (.aload_n 2, 1) := by decide +kernel
theorem dL_law_479 : decode cL_law 479 = .ok (.iload 12, 2) := by decide +kernel
theorem dL_law_481 : decode cL_law 481 = .ok (.aload_n 0, 1) := by decide +kernel
theorem dL_law_482 : decode cL_law 482 = .ok (.iload 7, 2) := by decide +kernel
theorem dL_law_484 : decode cL_law 484 = .ok (.iconst 3, 1) := by decide +kernel
theorem dL_law_485 : decode cL_law 485 = .ok (.iload 12, 2) := by decide +kernel
theorem dL_law_487 : decode cL_law 487 = .ok (.imul, 1) := by decide +kernel
theorem dL_law_488 : decode cL_law 488 = .ok (.iadd, 1) := by decide +kernel
theorem dL_law_489 : decode cL_law 489 = .ok (.bipush 61, 2) := by decide +kernel
theorem dL_law_491 : decode cL_law 491 = .ok (.irem, 1) := by decide +kernel
theorem dL_law_492 : decode cL_law 492 = .ok (.invokestatic 176, 3) := by decide +kernel
theorem dL_law_495 : decode cL_law 495 = .ok (.bipush 7, 2) := by decide +kernel
theorem dL_law_497 : decode cL_law 497 = .ok (.idiv, 1) := by decide +kernel
theorem dL_law_498 : decode cL_law 498 = .ok (.iconst 5, 1) := by decide +kernel
theorem dL_law_499 : decode cL_law 499 = .ok (.iload 12, 2) := by decide +kernel
theorem dL_law_501 : decode cL_law 501 = .ok (.imul, 1) := by decide +kernel
theorem dL_law_502 : decode cL_law 502 = .ok (.iadd, 1) := by decide +kernel
theorem dL_law_503 : decode cL_law 503 = .ok (.invokestatic 199, 3) := by decide +kernel
theorem dL_law_506 : decode cL_law 506 = .ok (.iastore, 1) := by decide +kernel
theorem dL_law_507 : decode cL_law 507 = .ok (.iinc 12 1, 3) := by decide +kernel
theorem dL_law_510 : decode cL_law 510 = .ok (.goto (-39), 3) := by decide +kernel
theorem dL_law_513 : decode cL_law 513 = .ok (.iload 6, 2) := by decide +kernel
theorem dL_law_515 : decode cL_law 515 = .ok (.ifCond .eq 55, 3) := by decide +kernel
theorem dL_law_518 : decode cL_law 518 = .ok (.iload 7, 2) := by decide +kernel
theorem dL_law_520 : decode cL_law 520 = .ok (.iconst 2, 1) := by decide +kernel
theorem dL_law_521 : decode cL_law 521 = .ok (.irem, 1) := by decide +kernel
theorem dL_law_522 : decode cL_law 522 = .ok (.ifCond .ne 48, 3) := by decide +kernel
theorem dL_law_525 : decode cL_law 525 = .ok (.aload_n 1, 1) := by decide +kernel
theorem dL_law_526 : decode cL_law 526 = .ok (.invokevirtual 142, 3) := by decide +kernel
theorem dL_law_529 : decode cL_law 529 = .ok (.istore 12, 2) := by decide +kernel
theorem dL_law_531 : decode cL_law 531 = .ok (.aload_n 1, 1) := by decide +kernel
theorem dL_law_532 : decode cL_law 532 = .ok (.aload_n 2, 1) := by decide +kernel
theorem dL_law_533 : decode cL_law 533 = .ok (.iload 11, 2) := by decide +kernel
theorem dL_law_535 : decode cL_law 535 = .ok (.invokestatic 202, 3) := by decide +kernel
theorem dL_law_538 : decode cL_law 538 = .ok (.istore 6, 2) := by decide +kernel
theorem dL_law_540 : decode cL_law 540 = .ok (.iload 6, 2) := by decide +kernel
theorem dL_law_542 : decode cL_law 542 = .ok (.ifCond .eq 25, 3) := by decide +kernel
theorem dL_law_545 : decode cL_law 545 = .ok (.aload_n 1, 1) := by decide +kernel
theorem dL_law_546 : decode cL_law 546 = .ok (.invokevirtual 142, 3) := by decide +kernel
theorem dL_law_549 : decode cL_law 549 = .ok (.iload 12, 2) := by decide +kernel
theorem dL_law_551 : decode cL_law 551 = .ok (.if_icmp .eq 12, 3) := by decide +kernel
theorem dL_law_554 : decode cL_law 554 = .ok (.aload_n 1, 1) := by decide +kernel
theorem dL_law_555 : decode cL_law 555 = .ok (.invokestatic 194, 3) := by decide +kernel
theorem dL_law_558 : decode cL_law 558 = .ok (.iload 12, 2) := by decide +kernel
theorem dL_law_560 : decode cL_law 560 = .ok (.if_icmp .ne 7, 3) := by decide +kernel
theorem dL_law_563 : decode cL_law 563 = .ok (.iconst 1, 1) := by decide +kernel
theorem dL_law_564 : decode cL_law 564 = .ok (.goto 4, 3) := by decide +kernel
theorem dL_law_567 : decode cL_law 567 = .ok (.iconst 0, 1) := by decide +kernel
theorem dL_law_568 : decode cL_law 568 = .ok (.istore 6, 2) := by decide +kernel
theorem dL_law_570 : decode cL_law 570 = .ok (.iinc 7 1, 3) := by decide +kernel
theorem dL_law_573 : decode cL_law 573 = .ok (.goto (-536), 3) := by decide +kernel
theorem dL_law_576 : decode cL_law 576 = .ok (.iload 6, 2) := by decide +kernel
theorem dL_law_578 : decode cL_law 578 = .ok (.ireturn, 1) := by decide +kernel

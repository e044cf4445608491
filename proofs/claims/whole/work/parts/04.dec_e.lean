theorem dL_dock_0 : decode cL_dock 0 = .ok (.aload_n 1, 1) := by decide +kernel
theorem dL_dock_1 : decode cL_dock 1 = .ok (.iconst 0, 1) := by decide +kernel
theorem dL_dock_2 : decode cL_dock 2 = .ok (.aload_n 0, 1) := by decide +kernel
theorem dL_dock_3 : decode cL_dock 3 = .ok (.invokevirtual 7, 3) := by decide +kernel
theorem dL_dock_6 : decode cL_dock 6 = .ok (.i2l, 1) := by decide +kernel
theorem dL_dock_7 : decode cL_dock 7 = .ok (.lastore, 1) := by decide +kernel
theorem dL_dock_8 : decode cL_dock 8 = .ok (.goto 9, 3) := by decide +kernel
theorem dL_dock_11 : decode cL_dock 11 = .ok (.astore_n 2, 1) := by decide +kernel
theorem dL_dock_12 : decode cL_dock 12 = .ok (.iconst 1, 1) := by decide +kernel
theorem dL_dock_13 : decode cL_dock 13 = .ok (.ireturn, 1) := by decide +kernel
theorem dL_dock_14 : decode cL_dock 14 = .ok (.astore_n 2, 1) := by decide +kernel
theorem dL_dock_15 : decode cL_dock 15 = .ok (.iconst 2, 1) := by decide +kernel
theorem dL_dock_16 : decode cL_dock 16 = .ok (.ireturn, 1) := by decide +kernel
theorem dL_dock_17 : decode cL_dock 17 = .ok (.iconst 0, 1) := by decide +kernel
theorem dL_dock_18 : decode cL_dock 18 = .ok (.ireturn, 1) := by decide +kernel
theorem dL_law_0 : decode cL_law 0 = .ok (.aload_n 1, 1) := by decide +kernel
theorem dL_law_1 : decode cL_law 1 = .ok (.iconst 0, 1) := by decide +kernel
theorem dL_law_2 : decode cL_law 2 = .ok (.aload_n 0, 1) := by decide +kernel
theorem dL_law_3 : decode cL_law 3 = .ok (.invokevirtual 17, 3) := by decide +kernel
theorem dL_law_6 : decode cL_law 6 = .ok (.i2l, 1) := by decide +kernel
theorem dL_law_7 : decode cL_law 7 = .ok (.lastore, 1) := by decide +kernel
theorem dL_law_8 : decode cL_law 8 = .ok (.goto 6, 3) := by decide +kernel
theorem dL_law_11 : decode cL_law 11 = .ok (.astore_n 2, 1) := by decide +kernel
theorem dL_law_12 : decode cL_law 12 = .ok (.iconst 1, 1) := by decide +kernel
theorem dL_law_13 : decode cL_law 13 = .ok (.ireturn, 1) := by decide +kernel
theorem dL_law_14 : decode cL_law 14 = .ok (.iconst 0, 1) := by decide +kernel
theorem dL_law_15 : decode cL_law 15 = .ok (.ireturn, 1) := by decide +kernel
theorem dL_ship_0 : decode cL_ship 0 = .ok (.aload_n 3, 1) := by decide +kernel
theorem dL_ship_1 : decode cL_ship 1 = .ok (.iconst 0, 1) := by decide +kernel
theorem dL_ship_2 : decode cL_ship 2 = .ok (.aload_n 0, 1) := by decide +kernel
theorem dL_ship_3 : decode cL_ship 3 = .ok (.iload_n 1, 1) := by decide +kernel
theorem dL_ship_4 : decode cL_ship 4 = .ok (.iload_n 2, 1) := by decide +kernel
theorem dL_ship_5 : decode cL_ship 5 = .ok (.invokevirtual 20, 3) := by decide +kernel
theorem dL_ship_8 : decode cL_ship 8 = .ok (.i2l, 1) := by decide +kernel
theorem dL_ship_9 : decode cL_ship 9 = .ok (.lastore, 1) := by decide +kernel
theorem dL_ship_10 : decode cL_ship 10 = .ok (.goto 11, 3) := by decide +kernel
theorem dL_ship_13 : decode cL_ship 13 = .ok (.astore 4, 2) := by decide +kernel
theorem dL_ship_15 : decode cL_ship 15 = .ok (.iconst 1, 1) := by decide +kernel
theorem dL_ship_16 : decode cL_ship 16 = .ok (.ireturn, 1) := by decide +kernel
theorem dL_ship_17 : decode cL_ship 17 = .ok (.astore 4, 2) := by decide +kernel
theorem dL_ship_19 : decode cL_ship 19 = .ok (.iconst 2, 1) := by decide +kernel
theorem dL_ship_20 : decode cL_ship 20 = .ok (.ireturn, 1) := by decide +kernel
theorem dL_ship_21 : decode cL_ship 21 = .ok (.iconst 0, 1) := by decide +kernel
theorem dL_ship_22 : decode cL_ship 22 = .ok (.ireturn, 1) := by decide +kernel
theorem dL_place_0 : decode cL_place 0 = .ok (.aload_n 3, 1) := by decide +kernel
theorem dL_place_1 : decode cL_place 1 = .ok (.iconst 0, 1) := by decide +kernel
theorem dL_place_2 : decode cL_place 2 = .ok (.aload_n 0, 1) := by decide +kernel
theorem dL_place_3 : decode cL_place 3 = .ok (.iload_n 1, 1) := by decide +kernel
theorem dL_place_4 : decode cL_place 4 = .ok (.iload_n 2, 1) := by decide +kernel
theorem dL_place_5 : decode cL_place 5 = .ok (.invokevirtual 28, 3) := by decide +kernel
theorem dL_place_8 : decode cL_place 8 = .ok (.i2l, 1) := by decide +kernel
theorem dL_place_9 : decode cL_place 9 = .ok (.lastore, 1) := by decide +kernel
theorem dL_place_10 : decode cL_place 10 = .ok (.goto 11, 3) := by decide +kernel
theorem dL_place_13 : decode cL_place 13 = .ok (.astore 4, 2) := by decide +kernel
theorem dL_place_15 : decode cL_place 15 = .ok (.iconst 1, 1) := by decide +kernel
theorem dL_place_16 : decode cL_place 16 = .ok (.ireturn, 1) := by decide +kernel
theorem dL_place_17 : decode cL_place 17 = .ok (.astore 4, 2) := by decide +kernel
theorem dL_place_19 : decode cL_place 19 = .ok (.iconst 2, 1) := by decide +kernel
theorem dL_place_20 : decode cL_place 20 = .ok (.ireturn, 1) := by decide +kernel
theorem dL_place_21 : decode cL_place 21 = .ok (.iconst 0, 1) := by decide +kernel
theorem dL_place_22 : decode cL_place 22 = .ok (.ireturn, 1) := by decide +kernel
theorem dL_tide_0 : decode cL_tide 0 = .ok (.aload_n 2, 1) := by decide +kernel
theorem dL_tide_1 : decode cL_tide 1 = .ok (.iconst 0, 1) := by decide +kernel
theorem dL_tide_2 : decode cL_tide 2 = .ok (.aload_n 0, 1) := by decide +kernel
theorem dL_tide_3 : decode cL_tide 3 = .ok (.iload_n 1, 1) := by decide +kernel
theorem dL_tide_4 : decode cL_tide 4 = .ok (.invokevirtual 31, 3) := by decide +kernel
theorem dL_tide_7 : decode cL_tide 7 = .ok (.i2l, 1) := by decide +kernel
theorem dL_tide_8 : decode cL_tide 8 = .ok (.lastore, 1) := by decide +kernel
theorem dL_tide_9 : decode cL_tide 9 = .ok (.goto 6, 3) := by decide +kernel
theorem dL_tide_12 : decode cL_tide 12 = .ok (.astore_n 3, 1) := by decide +kernel
theorem dL_tide_13 : decode cL_tide 13 = .ok (.iconst 1, 1) := by decide +kernel
theorem dL_tide_14 : decode cL_tide 14 = .ok (.ireturn, 1) := by decide +kernel
theorem dL_tide_15 : decode cL_tide 15 = .ok (.iconst 0, 1) := by decide +kernel
theorem dL_tide_16 : decode cL_tide 16 = .ok (.ireturn, 1) := by decide +kernel
theorem dL_hours_0 : decode cL_hours 0 = .ok (.aload_n 2, 1) := by decide +kernel
theorem dL_hours_1 : decode cL_hours 1 = .ok (.iconst 0, 1) := by decide +kernel
theorem dL_hours_2 : decode cL_hours 2 = .ok (.aload_n 0, 1) := by decide +kernel
theorem dL_hours_3 : decode cL_hours 3 = .ok (.iload_n 1, 1) := by decide +kernel
theorem dL_hours_4 : decode cL_hours 4 = .ok (.invokevirtual 35, 3) := by decide +kernel
theorem dL_hours_7 : decode cL_hours 7 = .ok (.i2l, 1) := by decide +kernel
theorem dL_hours_8 : decode cL_hours 8 = .ok (.lastore, 1) := by decide +kernel
theorem dL_hours_9 : decode cL_hours 9 = .ok (.goto 6, 3) := by decide +kernel
theorem dL_hours_12 : decode cL_hours 12 = .ok (.astore_n 3, 1) := by decide +kernel
theorem dL_hours_13 : decode cL_hours 13 = .ok (.iconst 1, 1) := by decide +kernel
theorem dL_hours_14 : decode cL_hours 14 = .ok (.ireturn, 1) := by decide +kernel
theorem dL_hours_15 : decode cL_hours 15 = .ok (.iconst 0, 1) := by decide +kernel
theorem dL_hours_16 : decode cL_hours 16 = .ok (.ireturn, 1) := by decide +kernel
theorem dL_gate_0 : decode cL_gate 0 = .ok (.aload_n 2, 1) := by decide +kernel
theorem dL_gate_1 : decode cL_gate 1 = .ok (.iconst 0, 1) := by decide +kernel
theorem dL_gate_2 : decode cL_gate 2 = .ok (.aload_n 0, 1) := by decide +kernel
theorem dL_gate_3 : decode cL_gate 3 = .ok (.iload_n 1, 1) := by decide +kernel
theorem dL_gate_4 : decode cL_gate 4 = .ok (.invokevirtual 38, 3) := by decide +kernel
theorem dL_gate_7 : decode cL_gate 7 = .ok (.ifCond .eq 7, 3) := by decide +kernel
theorem dL_gate_10 : decode cL_gate 10 = .ok (.lconst 1, 1) := by decide +kernel
theorem dL_gate_11 : decode cL_gate 11 = .ok (.goto 4, 3) := by decide +kernel
theorem dL_gate_14 : decode cL_gate 14 = .ok (.lconst 0, 1) := by decide +kernel
theorem dL_gate_15 : decode cL_gate 15 = .ok (.lastore, 1) := by decide +kernel
theorem dL_gate_16 : decode cL_gate 16 = .ok (.goto 6, 3) := by decide +kernel
theorem dL_gate_19 : decode cL_gate 19 = .ok (.astore_n 3, 1) := by decide +kernel
theorem dL_gate_20 : decode cL_gate 20 = .ok (.iconst 1, 1) := by decide +kernel
theorem dL_gate_21 : decode cL_gate 21 = .ok (.ireturn, 1) := by decide +kernel
theorem dL_gate_22 : decode cL_gate 22 = .ok (.iconst 0, 1) := by decide +kernel
theorem dL_gate_23 : decode cL_gate 23 = .ok (.ireturn, 1) := by decide +kernel
theorem dL_enter_0 : decode cL_enter 0 = .ok (.aload_n 3, 1) := by decide +kernel
theorem dL_enter_1 : decode cL_enter 1 = .ok (.iconst 0, 1) := by decide +kernel
theorem dL_enter_2 : decode cL_enter 2 = .ok (.aload_n 0, 1) := by decide +kernel
theorem dL_enter_3 : decode cL_enter 3 = .ok (.iload_n 1, 1) := by decide +kernel
theorem dL_enter_4 : decode cL_enter 4 = .ok (.iload_n 2, 1) := by decide +kernel
theorem dL_enter_5 : decode cL_enter 5 = .ok (.invokevirtual 44, 3) := by decide +kernel
theorem dL_enter_8 : decode cL_enter 8 = .ok (.i2l, 1) := by decide +kernel
theorem dL_enter_9 : decode cL_enter 9 = .ok (.lastore, 1) := by decide +kernel
theorem dL_enter_10 : decode cL_enter 10 = .ok (.goto 11, 3) := by decide +kernel
theorem dL_enter_13 : decode cL_enter 13 = .ok (.astore 4, 2) := by decide +kernel
theorem dL_enter_15 : decode cL_enter 15 = .ok (.iconst 1, 1) := by decide +kernel
theorem dL_enter_16 : decode cL_enter 16 = .ok (.ireturn, 1) := by decide +kernel
theorem dL_enter_17 : decode cL_enter 17 = .ok (.astore 4, 2) := by decide +kernel
theorem dL_enter_19 : decode cL_enter 19 = .ok (.iconst 2, 1) := by decide +kernel
theorem dL_enter_20 : decode cL_enter 20 = .ok (.ireturn, 1) := by decide +kernel
theorem dL_enter_21 : decode cL_enter 21 = .ok (.iconst 0, 1) := by decide +kernel
theorem dL_enter_22 : decode cL_enter 22 = .ok (.ireturn, 1) := by decide +kernel
theorem dL_leave_0 : decode cL_leave 0 = .ok (.aload_n 2, 1) := by decide +kernel
theorem dL_leave_1 : decode cL_leave 1 = .ok (.iconst 0, 1) := by decide +kernel
theorem dL_leave_2 : decode cL_leave 2 = .ok (.aload_n 0, 1) := by decide +kernel
theorem dL_leave_3 : decode cL_leave 3 = .ok (.iload_n 1, 1) := by decide +kernel
theorem dL_leave_4 : decode cL_leave 4 = .ok (.invokevirtual 47, 3) := by decide +kernel
theorem dL_leave_7 : decode cL_leave 7 = .ok (.i2l, 1) := by decide +kernel
theorem dL_leave_8 : decode cL_leave 8 = .ok (.lastore, 1) := by decide +kernel
theorem dL_leave_9 : decode cL_leave 9 = .ok (.goto 9, 3) := by decide +kernel
theorem dL_leave_12 : decode cL_leave 12 = .ok (.astore_n 3, 1) := by decide +kernel
theorem dL_leave_13 : decode cL_leave 13 = .ok (.iconst 1, 1) := by decide +kernel
theorem dL_leave_14 : decode cL_leave 14 = .ok (.ireturn, 1) := by decide +kernel
theorem dL_leave_15 : decode cL_leave 15 = .ok (.astore_n 3, 1) := by decide +kernel
theorem dL_leave_16 : decode cL_leave 16 = .ok (.iconst 2, 1) := by decide +kernel
theorem dL_leave_17 : decode cL_leave 17 = .ok (.ireturn, 1) := by decide +kernel
theorem dL_leave_18 : decode cL_leave 18 = .ok (.iconst 0, 1) := by decide +kernel
theorem dL_leave_19 : decode cL_leave 19 = .ok (.ireturn, 1) := by decide +kernel
theorem dL_comes_0 : decode cL_comes 0 = .ok (.aload 4, 2) := by decide +kernel
theorem dL_comes_2 : decode cL_comes 2 = .ok (.iconst 0, 1) := by decide +kernel
theorem dL_comes_3 : decode cL_comes 3 = .ok (.aload_n 0, 1) := by decide +kernel
theorem dL_comes_4 : decode cL_comes 4 = .ok (.iload_n 1, 1) := by decide +kernel
theorem dL_comes_5 : decode cL_comes 5 = .ok (.iload_n 2, 1) := by decide +kernel
theorem dL_comes_6 : decode cL_comes 6 = .ok (.iload_n 3, 1) := by decide +kernel
theorem dL_comes_7 : decode cL_comes 7 = .ok (.invokevirtual 50, 3) := by decide +kernel
theorem dL_comes_10 : decode cL_comes 10 = .ok (.i2l, 1) := by decide +kernel
theorem dL_comes_11 : decode cL_comes 11 = .ok (.lastore, 1) := by decide +kernel
theorem dL_comes_12 : decode cL_comes 12 = .ok (.goto 11, 3) := by decide +kernel
theorem dL_comes_15 : decode cL_comes 15 = .ok (.astore 5, 2) := by decide +kernel
theorem dL_comes_17 : decode cL_comes 17 = .ok (.iconst 1, 1) := by decide +kernel
theorem dL_comes_18 : decode cL_comes 18 = .ok (.ireturn, 1) := by decide +kernel
theorem dL_comes_19 : decode cL_comes 19 = .ok (.astore 5, 2) := by decide +kernel
theorem dL_comes_21 : decode cL_comes 21 = .ok (.iconst 2, 1) := by decide +kernel
theorem dL_comes_22 : decode cL_comes 22 = .ok (.ireturn, 1) := by decide +kernel
theorem dL_comes_23 : decode cL_comes 23 = .ok (.iconst 0, 1) := by decide +kernel
theorem dL_comes_24 : decode cL_comes 24 = .ok (.ireturn, 1) := by decide +kernel
theorem dL_block_0 : decode cL_block 0 = .ok (.aload_n 3, 1) := by decide +kernel
theorem dL_block_1 : decode cL_block 1 = .ok (.iconst 0, 1) := by decide +kernel
theorem dL_block_2 : decode cL_block 2 = .ok (.aload_n 0, 1) := by decide +kernel
theorem dL_block_3 : decode cL_block 3 = .ok (.iload_n 1, 1) := by decide +kernel
theorem dL_block_4 : decode cL_block 4 = .ok (.iload_n 2, 1) := by decide +kernel
theorem dL_block_5 : decode cL_block 5 = .ok (.invokevirtual 54, 3) := by decide +kernel
theorem dL_block_8 : decode cL_block 8 = .ok (.ifCond .eq 7, 3) := by decide +kernel
theorem dL_block_11 : decode cL_block 11 = .ok (.lconst 1, 1) := by decide +kernel
theorem dL_block_12 : decode cL_block 12 = .ok (.goto 4, 3) := by decide +kernel
theorem dL_block_15 : decode cL_block 15 = .ok (.lconst 0, 1) := by decide +kernel
theorem dL_block_16 : decode cL_block 16 = .ok (.lastore, 1) := by decide +kernel
theorem dL_block_17 : decode cL_block 17 = .ok (.goto 7, 3) := by decide +kernel
theorem dL_block_20 : decode cL_block 20 = .ok (.astore 4, 2) := by decide +kernel
theorem dL_block_22 : decode cL_block 22 = .ok (.iconst 1, 1) := by decide +kernel
theorem dL_block_23 : decode cL_block 23 = .ok (.ireturn, 1) := by decide +kernel
theorem dL_block_24 : decode cL_block 24 = .ok (.iconst 0, 1) := by decide +kernel
theorem dL_block_25 : decode cL_block 25 = .ok (.ireturn, 1) := by decide +kernel
theorem dL_pumps_0 : decode cL_pumps 0 = .ok (.aload_n 2, 1) := by decide +kernel
theorem dL_pumps_1 : decode cL_pumps 1 = .ok (.iconst 0, 1) := by decide +kernel
theorem dL_pumps_2 : decode cL_pumps 2 = .ok (.aload_n 0, 1) := by decide +kernel
theorem dL_pumps_3 : decode cL_pumps 3 = .ok (.iload_n 1, 1) := by decide +kernel
theorem dL_pumps_4 : decode cL_pumps 4 = .ok (.invokevirtual 58, 3) := by decide +kernel
theorem dL_pumps_7 : decode cL_pumps 7 = .ok (.i2l, 1) := by decide +kernel
theorem dL_pumps_8 : decode cL_pumps 8 = .ok (.lastore, 1) := by decide +kernel
theorem dL_pumps_9 : decode cL_pumps 9 = .ok (.goto 6, 3) := by decide +kernel
theorem dL_pumps_12 : decode cL_pumps 12 = .ok (.astore_n 3, 1) := by decide +kernel
theorem dL_pumps_13 : decode cL_pumps 13 = .ok (.iconst 1, 1) := by decide +kernel
theorem dL_pumps_14 : decode cL_pumps 14 = .ok (.ireturn, 1) := by decide +kernel
theorem dL_pumps_15 : decode cL_pumps 15 = .ok (.iconst 0, 1) := by decide +kernel
theorem dL_pumps_16 : decode cL_pumps 16 = .ok (.ireturn, 1) := by decide +kernel
theorem dL_hands_0 : decode cL_hands 0 = .ok (.aload_n 2, 1) := by decide +kernel
theorem dL_hands_1 : decode cL_hands 1 = .ok (.iconst 0, 1) := by decide +kernel
theorem dL_hands_2 : decode cL_hands 2 = .ok (.aload_n 0, 1) := by decide +kernel
theorem dL_hands_3 : decode cL_hands 3 = .ok (.iload_n 1, 1) := by decide +kernel
theorem dL_hands_4 : decode cL_hands 4 = .ok (.invokevirtual 61, 3) := by decide +kernel
theorem dL_hands_7 : decode cL_hands 7 = .ok (.i2l, 1) := by decide +kernel
theorem dL_hands_8 : decode cL_hands 8 = .ok (.lastore, 1) := by decide +kernel
theorem dL_hands_9 : decode cL_hands 9 = .ok (.goto 6, 3) := by decide +kernel
theorem dL_hands_12 : decode cL_hands 12 = .ok (.astore_n 3, 1) := by decide +kernel
theorem dL_hands_13 : decode cL_hands 13 = .ok (.iconst 1, 1) := by decide +kernel
theorem dL_hands_14 : decode cL_hands 14 = .ok (.ireturn, 1) := by decide +kernel
theorem dL_hands_15 : decode cL_hands 15 = .ok (.iconst 0, 1) := by decide +kernel
theorem dL_hands_16 : decode cL_hands 16 = .ok (.ireturn, 1) := by decide +kernel
theorem dL_flow_0 : decode cL_flow 0 = .ok (.aload_n 3, 1) := by decide +kernel
theorem dL_flow_1 : decode cL_flow 1 = .ok (.iconst 0, 1) := by decide +kernel
theorem dL_flow_2 : decode cL_flow 2 = .ok (.aload_n 0, 1) := by decide +kernel
theorem dL_flow_3 : decode cL_flow 3 = .ok (.iload_n 1, 1) := by decide +kernel
theorem dL_flow_4 : decode cL_flow 4 = .ok (.iload_n 2, 1) := by decide +kernel
theorem dL_flow_5 : decode cL_flow 5 = .ok (.invokevirtual 64, 3) := by decide +kernel
theorem dL_flow_8 : decode cL_flow 8 = .ok (.i2l, 1) := by decide +kernel
theorem dL_flow_9 : decode cL_flow 9 = .ok (.lastore, 1) := by decide +kernel
theorem dL_flow_10 : decode cL_flow 10 = .ok (.goto 11, 3) := by decide +kernel
theorem dL_flow_13 : decode cL_flow 13 = .ok (.astore 4, 2) := by decide +kernel
theorem dL_flow_15 : decode cL_flow 15 = .ok (.iconst 1, 1) := by decide +kernel
theorem dL_flow_16 : decode cL_flow 16 = .ok (.ireturn, 1) := by decide +kernel
theorem dL_flow_17 : decode cL_flow 17 = .ok (.astore 4, 2) := by decide +kernel
theorem dL_flow_19 : decode cL_flow 19 = .ok (.iconst 2, 1) := by decide +kernel
theorem dL_flow_20 : decode cL_flow 20 = .ok (.ireturn, 1) := by decide +kernel
theorem dL_flow_21 : decode cL_flow 21 = .ok (.iconst 0, 1) := by decide +kernel
theorem dL_flow_22 : decode cL_flow 22 = .ok (.ireturn, 1) := by decide +kernel
theorem dL_goes_0 : decode cL_goes 0 = .ok (.aload_n 2, 1) := by decide +kernel
theorem dL_goes_1 : decode cL_goes 1 = .ok (.iconst 0, 1) := by decide +kernel
theorem dL_goes_2 : decode cL_goes 2 = .ok (.aload_n 0, 1) := by decide +kernel
theorem dL_goes_3 : decode cL_goes 3 = .ok (.iload_n 1, 1) := by decide +kernel
theorem dL_goes_4 : decode cL_goes 4 = .ok (.invokevirtual 67, 3) := by decide +kernel
theorem dL_goes_7 : decode cL_goes 7 = .ok (.i2l, 1) := by decide +kernel
theorem dL_goes_8 : decode cL_goes 8 = .ok (.lastore, 1) := by decide +kernel
theorem dL_goes_9 : decode cL_goes 9 = .ok (.goto 6, 3) := by decide +kernel
theorem dL_goes_12 : decode cL_goes 12 = .ok (.astore_n 3, 1) := by decide +kernel
theorem dL_goes_13 : decode cL_goes 13 = .ok (.iconst 1, 1) := by decide +kernel
theorem dL_goes_14 : decode cL_goes 14 = .ok (.ireturn, 1) := by decide +kernel
theorem dL_goes_15 : decode cL_goes 15 = .ok (.iconst 0, 1) := by decide +kernel
theorem dL_goes_16 : decode cL_goes 16 = .ok (.ireturn, 1) := by decide +kernel
theorem dL_ask_0 : decode cL_ask 0 = .ok (.aload_n 1, 1) := by decide +kernel
theorem dL_ask_1 : decode cL_ask 1 = .ok (.iconst 0, 1) := by decide +kernel
theorem dL_ask_2 : decode cL_ask 2 = .ok (.aload_n 0, 1) := by decide +kernel
theorem dL_ask_3 : decode cL_ask 3 = .ok (.invokevirtual 71, 3) := by decide +kernel
theorem dL_ask_6 : decode cL_ask 6 = .ok (.i2l, 1) := by decide +kernel
theorem dL_ask_7 : decode cL_ask 7 = .ok (.lastore, 1) := by decide +kernel
theorem dL_ask_8 : decode cL_ask 8 = .ok (.goto 6, 3) := by decide +kernel
theorem dL_ask_11 : decode cL_ask 11 = .ok (.astore_n 2, 1) := by decide +kernel
theorem dL_ask_12 : decode cL_ask 12 = .ok (.iconst 1, 1) := by decide +kernel
theorem dL_ask_13 : decode cL_ask 13 = .ok (.ireturn, 1) := by decide +kernel
theorem dL_ask_14 : decode cL_ask 14 = .ok (.iconst 0, 1) := by decide +kernel
theorem dL_ask_15 : decode cL_ask 15 = .ok (.ireturn, 1) := by decide +kernel
theorem dL_lies_0 : decode cL_lies 0 = .ok (.aload_n 1, 1) := by decide +kernel
theorem dL_lies_1 : decode cL_lies 1 = .ok (.iconst 0, 1) := by decide +kernel
theorem dL_lies_2 : decode cL_lies 2 = .ok (.aload_n 0, 1) := by decide +kernel
theorem dL_lies_3 : decode cL_lies 3 = .ok (.invokevirtual 74, 3) := by decide +kernel
theorem dL_lies_6 : decode cL_lies 6 = .ok (.i2l, 1) := by decide +kernel
theorem dL_lies_7 : decode cL_lies 7 = .ok (.lastore, 1) := by decide +kernel
theorem dL_lies_8 : decode cL_lies 8 = .ok (.goto 6, 3) := by decide +kernel
theorem dL_lies_11 : decode cL_lies 11 = .ok (.astore_n 2, 1) := by decide +kernel
theorem dL_lies_12 : decode cL_lies 12 = .ok (.iconst 1, 1) := by decide +kernel
theorem dL_lies_13 : decode cL_lies 13 = .ok (.ireturn, 1) := by decide +kernel
theorem dL_lies_14 : decode cL_lies 14 = .ok (.iconst 0, 1) := by decide +kernel
theorem dL_lies_15 : decode cL_lies 15 = .ok (.ireturn, 1) := by decide +kernel
theorem dL_likely_0 : decode cL_likely 0 = .ok (.aload_n 1, 1) := by decide +kernel
theorem dL_likely_1 : decode cL_likely 1 = .ok (.iconst 0, 1) := by decide +kernel
theorem dL_likely_2 : decode cL_likely 2 = .ok (.aload_n 0, 1) := by decide +kernel
theorem dL_likely_3 : decode cL_likely 3 = .ok (.invokevirtual 77, 3) := by decide +kernel
theorem dL_likely_6 : decode cL_likely 6 = .ok (.i2l, 1) := by decide +kernel
theorem dL_likely_7 : decode cL_likely 7 = .ok (.lastore, 1) := by decide +kernel
theorem dL_likely_8 : decode cL_likely 8 = .ok (.goto 6, 3) := by decide +kernel
theorem dL_likely_11 : decode cL_likely 11 = .ok (.astore_n 2, 1) := by decide +kernel
theorem dL_likely_12 : decode cL_likely 12 = .ok (.iconst 1, 1) := by decide +kernel
theorem dL_likely_13 : decode cL_likely 13 = .ok (.ireturn, 1) := by decide +kernel
theorem dL_likely_14 : decode cL_likely 14 = .ok (.iconst 0, 1) := by decide +kernel
theorem dL_likely_15 : decode cL_likely 15 = .ok (.ireturn, 1) := by decide +kernel
theorem dL_sound_0 : decode cL_sound 0 = .ok (.aload_n 1, 1) := by decide +kernel
theorem dL_sound_1 : decode cL_sound 1 = .ok (.iconst 0, 1) := by decide +kernel
theorem dL_sound_2 : decode cL_sound 2 = .ok (.aload_n 0, 1) := by decide +kernel
theorem dL_sound_3 : decode cL_sound 3 = .ok (.invokevirtual 80, 3) := by decide +kernel
theorem dL_sound_6 : decode cL_sound 6 = .ok (.i2l, 1) := by decide +kernel
theorem dL_sound_7 : decode cL_sound 7 = .ok (.lastore, 1) := by decide +kernel
theorem dL_sound_8 : decode cL_sound 8 = .ok (.goto 6, 3) := by decide +kernel
theorem dL_sound_11 : decode cL_sound 11 = .ok (.astore_n 2, 1) := by decide +kernel
theorem dL_sound_12 : decode cL_sound 12 = .ok (.iconst 1, 1) := by decide +kernel
theorem dL_sound_13 : decode cL_sound 13 = .ok (.ireturn, 1) := by decide +kernel
theorem dL_sound_14 : decode cL_sound 14 = .ok (.iconst 0, 1) := by decide +kernel
theorem dL_sound_15 : decode cL_sound 15 = .ok (.ireturn, 1) := by decide +kernel
theorem dL_beds_0 : decode cL_beds 0 = .ok (.aload_n 2, 1) := by decide +kernel
theorem dL_beds_1 : decode cL_beds 1 = .ok (.iconst 0, 1) := by decide +kernel
theorem dL_beds_2 : decode cL_beds 2 = .ok (.aload_n 0, 1) := by decide +kernel
theorem dL_beds_3 : decode cL_beds 3 = .ok (.iload_n 1, 1) := by decide +kernel
theorem dL_beds_4 : decode cL_beds 4 = .ok (.invokevirtual 83, 3) := by decide +kernel
theorem dL_beds_7 : decode cL_beds 7 = .ok (.i2l, 1) := by decide +kernel
theorem dL_beds_8 : decode cL_beds 8 = .ok (.lastore, 1) := by decide +kernel
theorem dL_beds_9 : decode cL_beds 9 = .ok (.goto 6, 3) := by decide +kernel
theorem dL_beds_12 : decode cL_beds 12 = .ok (.astore_n 3, 1) := by decide +kernel
theorem dL_beds_13 : decode cL_beds 13 = .ok (.iconst 1, 1) := by decide +kernel
theorem dL_beds_14 : decode cL_beds 14 = .ok (.ireturn, 1) := by decide +kernel
theorem dL_beds_15 : decode cL_beds 15 = .ok (.iconst 0, 1) := by decide +kernel
theorem dL_beds_16 : decode cL_beds 16 = .ok (.ireturn, 1) := by decide +kernel
theorem dL_pairs_0 : decode cL_pairs 0 = .ok (.aload_n 2, 1) := by decide +kernel
theorem dL_pairs_1 : decode cL_pairs 1 = .ok (.iconst 0, 1) := by decide +kernel
theorem dL_pairs_2 : decode cL_pairs 2 = .ok (.aload_n 0, 1) := by decide +kernel
theorem dL_pairs_3 : decode cL_pairs 3 = .ok (.iload_n 1, 1) := by decide +kernel
theorem dL_pairs_4 : decode cL_pairs 4 = .ok (.invokevirtual 86, 3) := by decide +kernel
theorem dL_pairs_7 : decode cL_pairs 7 = .ok (.i2l, 1) := by decide +kernel
theorem dL_pairs_8 : decode cL_pairs 8 = .ok (.lastore, 1) := by decide +kernel
theorem dL_pairs_9 : decode cL_pairs 9 = .ok (.goto 6, 3) := by decide +kernel
theorem dL_pairs_12 : decode cL_pairs 12 = .ok (.astore_n 3, 1) := by decide +kernel
theorem dL_pairs_13 : decode cL_pairs 13 = .ok (.iconst 1, 1) := by decide +kernel
theorem dL_pairs_14 : decode cL_pairs 14 = .ok (.ireturn, 1) := by decide +kernel
theorem dL_pairs_15 : decode cL_pairs 15 = .ok (.iconst 0, 1) := by decide +kernel
theorem dL_pairs_16 : decode cL_pairs 16 = .ok (.ireturn, 1) := by decide +kernel
theorem dL_rests_0 : decode cL_rests 0 = .ok (.aload_n 2, 1) := by decide +kernel
theorem dL_rests_1 : decode cL_rests 1 = .ok (.iconst 0, 1) := by decide +kernel
theorem dL_rests_2 : decode cL_rests 2 = .ok (.aload_n 0, 1) := by decide +kernel
theorem dL_rests_3 : decode cL_rests 3 = .ok (.iload_n 1, 1) := by decide +kernel
theorem dL_rests_4 : decode cL_rests 4 = .ok (.invokevirtual 89, 3) := by decide +kernel
theorem dL_rests_7 : decode cL_rests 7 = .ok (.i2l, 1) := by decide +kernel
theorem dL_rests_8 : decode cL_rests 8 = .ok (.lastore, 1) := by decide +kernel
theorem dL_rests_9 : decode cL_rests 9 = .ok (.goto 6, 3) := by decide +kernel
theorem dL_rests_12 : decode cL_rests 12 = .ok (.astore_n 3, 1) := by decide +kernel
theorem dL_rests_13 : decode cL_rests 13 = .ok (.iconst 1, 1) := by decide +kernel
theorem dL_rests_14 : decode cL_rests 14 = .ok (.ireturn, 1) := by decide +kernel
theorem dL_rests_15 : decode cL_rests 15 = .ok (.iconst 0, 1) := by decide +kernel
theorem dL_rests_16 : decode cL_rests 16 = .ok (.ireturn, 1) := by decide +kernel
theorem dL_odds_0 : decode cL_odds 0 = .ok (.aload_n 3, 1) := by decide +kernel
theorem dL_odds_1 : decode cL_odds 1 = .ok (.iconst 0, 1) := by decide +kernel
theorem dL_odds_2 : decode cL_odds 2 = .ok (.aload_n 0, 1) := by decide +kernel
theorem dL_odds_3 : decode cL_odds 3 = .ok (.iload_n 1, 1) := by decide +kernel
theorem dL_odds_4 : decode cL_odds 4 = .ok (.iload_n 2, 1) := by decide +kernel
theorem dL_odds_5 : decode cL_odds 5 = .ok (.invokevirtual 92, 3) := by decide +kernel
theorem dL_odds_8 : decode cL_odds 8 = .ok (.i2l, 1) := by decide +kernel
theorem dL_odds_9 : decode cL_odds 9 = .ok (.lastore, 1) := by decide +kernel
theorem dL_odds_10 : decode cL_odds 10 = .ok (.goto 7, 3) := by decide +kernel
theorem dL_odds_13 : decode cL_odds 13 = .ok (.astore 4, 2) := by decide +kernel
theorem dL_odds_15 : decode cL_odds 15 = .ok (.iconst 1, 1) := by decide +kernel
theorem dL_odds_16 : decode cL_odds 16 = .ok (.ireturn, 1) := by decide +kernel
theorem dL_odds_17 : decode cL_odds 17 = .ok (.iconst 0, 1) := by decide +kernel
theorem dL_odds_18 : decode cL_odds 18 = .ok (.ireturn, 1) := by decide +kernel
theorem dL_most_0 : decode cL_most 0 = .ok (.aload_n 2, 1) := by decide +kernel
theorem dL_most_1 : decode cL_most 1 = .ok (.iconst 0, 1) := by decide +kernel
theorem dL_most_2 : decode cL_most 2 = .ok (.aload_n 0, 1) := by decide +kernel
theorem dL_most_3 : decode cL_most 3 = .ok (.iload_n 1, 1) := by decide +kernel
theorem dL_most_4 : decode cL_most 4 = .ok (.invokevirtual 95, 3) := by decide +kernel
theorem dL_most_7 : decode cL_most 7 = .ok (.i2l, 1) := by decide +kernel
theorem dL_most_8 : decode cL_most 8 = .ok (.lastore, 1) := by decide +kernel
theorem dL_most_9 : decode cL_most 9 = .ok (.goto 6, 3) := by decide +kernel
theorem dL_most_12 : decode cL_most 12 = .ok (.astore_n 3, 1) := by decide +kernel
theorem dL_most_13 : decode cL_most 13 = .ok (.iconst 1, 1) := by decide +kernel
theorem dL_most_14 : decode cL_most 14 = .ok (.ireturn, 1) := by decide +kernel
theorem dL_most_15 : decode cL_most 15 = .ok (.iconst 0, 1) := by decide +kernel
theorem dL_most_16 : decode cL_most 16 = .ok (.ireturn, 1) := by decide +kernel
theorem dL_ahead_0 : decode cL_ahead 0 = .ok (.aload_n 3, 1) := by decide +kernel
theorem dL_ahead_1 : decode cL_ahead 1 = .ok (.iconst 0, 1) := by decide +kernel
theorem dL_ahead_2 : decode cL_ahead 2 = .ok (.aload_n 0, 1) := by decide +kernel
theorem dL_ahead_3 : decode cL_ahead 3 = .ok (.iload_n 1, 1) := by decide +kernel
theorem dL_ahead_4 : decode cL_ahead 4 = .ok (.iload_n 2, 1) := by decide +kernel
theorem dL_ahead_5 : decode cL_ahead 5 = .ok (.invokevirtual 98, 3) := by decide +kernel
theorem dL_ahead_8 : decode cL_ahead 8 = .ok (.i2l, 1) := by decide +kernel
theorem dL_ahead_9 : decode cL_ahead 9 = .ok (.lastore, 1) := by decide +kernel
theorem dL_ahead_10 : decode cL_ahead 10 = .ok (.goto 7, 3) := by decide +kernel
theorem dL_ahead_13 : decode cL_ahead 13 = .ok (.astore 4, 2) := by decide +kernel
theorem dL_ahead_15 : decode cL_ahead 15 = .ok (.iconst 1, 1) := by decide +kernel
theorem dL_ahead_16 : decode cL_ahead 16 = .ok (.ireturn, 1) := by decide +kernel
theorem dL_ahead_17 : decode cL_ahead 17 = .ok (.iconst 0, 1) := by decide +kernel
theorem dL_ahead_18 : decode cL_ahead 18 = .ok (.ireturn, 1) := by decide +kernel
theorem dL_trial_0 : decode cL_trial 0 = .ok (.aload_n 3, 1) := by decide +kernel
theorem dL_trial_1 : decode cL_trial 1 = .ok (.iconst 0, 1) := by decide +kernel
theorem dL_trial_2 : decode cL_trial 2 = .ok (.aload_n 0, 1) := by decide +kernel
theorem dL_trial_3 : decode cL_trial 3 = .ok (.iload_n 1, 1) := by decide +kernel
theorem dL_trial_4 : decode cL_trial 4 = .ok (.iload_n 2, 1) := by decide +kernel
theorem dL_trial_5 : decode cL_trial 5 = .ok (.invokevirtual 102, 3) := by decide +kernel
theorem dL_trial_8 : decode cL_trial 8 = .ok (.i2l, 1) := by decide +kernel
theorem dL_trial_9 : decode cL_trial 9 = .ok (.lastore, 1) := by decide +kernel
theorem dL_trial_10 : decode cL_trial 10 = .ok (.goto 7, 3) := by decide +kernel
theorem dL_trial_13 : decode cL_trial 13 = .ok (.astore 4, 2) := by decide +kernel
theorem dL_trial_15 : decode cL_trial 15 = .ok (.iconst 1, 1) := by decide +kernel
theorem dL_trial_16 : decode cL_trial 16 = .ok (.ireturn, 1) := by decide +kernel
theorem dL_trial_17 : decode cL_trial 17 = .ok (.iconst 0, 1) := by decide +kernel
theorem dL_trial_18 : decode cL_trial 18 = .ok (.ireturn, 1) := by decide +kernel
theorem dL_span_0 : decode cL_span 0 = .ok (.aload_n 3, 1) := by decide +kernel
theorem dL_span_1 : decode cL_span 1 = .ok (.iconst 0, 1) := by decide +kernel
theorem dL_span_2 : decode cL_span 2 = .ok (.aload_n 0, 1) := by decide +kernel
theorem dL_span_3 : decode cL_span 3 = .ok (.iload_n 1, 1) := by decide +kernel
theorem dL_span_4 : decode cL_span 4 = .ok (.iload_n 2, 1) := by decide +kernel
theorem dL_span_5 : decode cL_span 5 = .ok (.invokevirtual 105, 3) := by decide +kernel
theorem dL_span_8 : decode cL_span 8 = .ok (.i2l, 1) := by decide +kernel
theorem dL_span_9 : decode cL_span 9 = .ok (.lastore, 1) := by decide +kernel
theorem dL_span_10 : decode cL_span 10 = .ok (.goto 7, 3) := by decide +kernel
theorem dL_span_13 : decode cL_span 13 = .ok (.astore 4, 2) := by decide +kernel
theorem dL_span_15 : decode cL_span 15 = .ok (.iconst 1, 1) := by decide +kernel
theorem dL_span_16 : decode cL_span 16 = .ok (.ireturn, 1) := by decide +kernel
theorem dL_span_17 : decode cL_span 17 = .ok (.iconst 0, 1) := by decide +kernel
theorem dL_span_18 : decode cL_span 18 = .ok (.ireturn, 1) := by decide +kernel
theorem dL_led_0 : decode cL_led 0 = .ok (.aload_n 3, 1) := by decide +kernel
theorem dL_led_1 : decode cL_led 1 = .ok (.iconst 0, 1) := by decide +kernel
theorem dL_led_2 : decode cL_led 2 = .ok (.aload_n 0, 1) := by decide +kernel
theorem dL_led_3 : decode cL_led 3 = .ok (.iload_n 1, 1) := by decide +kernel
theorem dL_led_4 : decode cL_led 4 = .ok (.iload_n 2, 1) := by decide +kernel
theorem dL_led_5 : decode cL_led 5 = .ok (.invokevirtual 108, 3) := by decide +kernel
theorem dL_led_8 : decode cL_led 8 = .ok (.i2l, 1) := by decide +kernel
theorem dL_led_9 : decode cL_led 9 = .ok (.lastore, 1) := by decide +kernel
theorem dL_led_10 : decode cL_led 10 = .ok (.goto 7, 3) := by decide +kernel
theorem dL_led_13 : decode cL_led 13 = .ok (.astore 4, 2) := by decide +kernel
theorem dL_led_15 : decode cL_led 15 = .ok (.iconst 1, 1) := by decide +kernel
theorem dL_led_16 : decode cL_led 16 = .ok (.ireturn, 1) := by decide +kernel
theorem dL_led_17 : decode cL_led 17 = .ok (.iconst 0, 1) := by decide +kernel
theorem dL_led_18 : decode cL_led 18 = .ok (.ireturn, 1) := by decide +kernel
theorem dL_log_0 : decode cL_log 0 = .ok (.aload_n 3, 1) := by decide +kernel
theorem dL_log_1 : decode cL_log 1 = .ok (.iconst 0, 1) := by decide +kernel
theorem dL_log_2 : decode cL_log 2 = .ok (.aload_n 0, 1) := by decide +kernel
theorem dL_log_3 : decode cL_log 3 = .ok (.iload_n 1, 1) := by decide +kernel
theorem dL_log_4 : decode cL_log 4 = .ok (.iload_n 2, 1) := by decide +kernel
theorem dL_log_5 : decode cL_log 5 = .ok (.invokevirtual 111, 3) := by decide +kernel
theorem dL_log_8 : decode cL_log 8 = .ok (.i2l, 1) := by decide +kernel
theorem dL_log_9 : decode cL_log 9 = .ok (.lastore, 1) := by decide +kernel
theorem dL_log_10 : decode cL_log 10 = .ok (.goto 7, 3) := by decide +kernel
theorem dL_log_13 : decode cL_log 13 = .ok (.astore 4, 2) := by decide +kernel
theorem dL_log_15 : decode cL_log 15 = .ok (.iconst 1, 1) := by decide +kernel
theorem dL_log_16 : decode cL_log 16 = .ok (.ireturn, 1) := by decide +kernel
theorem dL_log_17 : decode cL_log 17 = .ok (.iconst 0, 1) := by decide +kernel
theorem dL_log_18 : decode cL_log 18 = .ok (.ireturn, 1) := by decide +kernel
theorem dL_law__0 : decode cL_law_ 0 = .ok (.new 8, 3) := by decide +kernel
theorem dL_law__3 : decode cL_law_ 3 = .ok (.dup, 1) := by decide +kernel
theorem dL_law__4 : decode cL_law_ 4 = .ok (.invokespecial 114, 3) := by decide +kernel
theorem dL_law__7 : decode cL_law_ 7 = .ok (.astore_n 1, 1) := by decide +kernel
theorem dL_law__8 : decode cL_law_ 8 = .ok (.new 115, 3) := by decide +kernel
theorem dL_law__11 : decode cL_law_ 11 = .ok (.dup, 1) := by decide +kernel
theorem dL_law__12 : decode cL_law_ 12 = .ok (.invokespecial 117, 3) := by decide +kernel
theorem dL_law__15 : decode cL_law_ 15 = .ok (.astore_n 2, 1) := by decide +kernel
theorem dL_law__16 : decode cL_law_ 16 = .ok (.iconst 1, 1) := by decide +kernel
theorem dL_law__17 : decode cL_law_ 17 = .ok (.newarray .long, 2) := by decide +kernel
theorem dL_law__19 : decode cL_law_ 19 = .ok (.astore_n 3, 1) := by decide +kernel
theorem dL_law__20 : decode cL_law_ 20 = .ok (.iconst 0, 1) := by decide +kernel
theorem dL_law__21 : decode cL_law_ 21 = .ok (.istore 4, 2) := by decide +kernel
theorem dL_law__23 : decode cL_law_ 23 = .ok (.iload 4, 2) := by decide +kernel
theorem dL_law__25 : decode cL_law_ 25 = .ok (.aload_n 0, 1) := by decide +kernel
theorem dL_law__26 : decode cL_law_ 26 = .ok (.arraylength, 1) := by decide +kernel
theorem dL_law__27 : decode cL_law_ 27 = .ok (.bipush 6, 2) := by decide +kernel
theorem dL_law__29 : decode cL_law_ 29 = .ok (.isub, 1) := by decide +kernel
theorem dL_law__30 : decode cL_law_ 30 = .ok (.if_icmp .gt 2563, 3) := by decide +kernel
theorem dL_law__33 : decode cL_law_ 33 = .ok (.aload_n 0, 1) := by decide +kernel
theorem dL_law__34 : decode cL_law_ 34 = .ok (.iload 4, 2) := by decide +kernel
theorem dL_law__36 : decode cL_law_ 36 = .ok (.iaload, 1) := by decide +kernel
theorem dL_law__37 : decode cL_law_ 37 = .ok (.bipush 63, 2) := by decide +kernel
theorem dL_law__39 : decode cL_law_ 39 = .ok (.iand, 1) := by decide +kernel
theorem dL_law__40 : decode cL_law_ 40 = .ok (.tableswitch 2547 0 55 #[240, 313, 338, 382, 426, 439, 507, 575, 631, 687, 766, 834, 890, 970, 1061, 1117, 1173, 1241, 1254, 1267, 1280, 1293, 1306, 1319, 1332, 1345, 1358, 1371, 1384, 1456, 1500, 1544, 1588, 1632, 1645, 1658, 1714, 1770, 1826, 1894, 1950, 1963, 1976, 1989, 2002, 2015, 2056, 2140, 2224, 2308, 2392, 2460, 2485, 2498, 2509, 2522], 240) := by decide +kernel
theorem dL_law__280 : decode cL_law_ 280 = .ok (.aload_n 1, 1) := by decide +kernel
theorem dL_law__281 : decode cL_law_ 281 = .ok (.aload_n 0, 1) := by decide +kernel
theorem dL_law__282 : decode cL_law_ 282 = .ok (.iload 4, 2) := by decide +kernel
theorem dL_law__284 : decode cL_law_ 284 = .ok (.iconst 1, 1) := by decide +kernel
theorem dL_law__285 : decode cL_law_ 285 = .ok (.iadd, 1) := by decide +kernel
theorem dL_law__286 : decode cL_law_ 286 = .ok (.iaload, 1) := by decide +kernel
theorem dL_law__287 : decode cL_law_ 287 = .ok (.aload_n 0, 1) := by decide +kernel
theorem dL_law__288 : decode cL_law_ 288 = .ok (.iload 4, 2) := by decide +kernel
theorem dL_law__290 : decode cL_law_ 290 = .ok (.iconst 2, 1) := by decide +kernel
theorem dL_law__291 : decode cL_law_ 291 = .ok (.iadd, 1) := by decide +kernel
theorem dL_law__292 : decode cL_law_ 292 = .ok (.iaload, 1) := by decide +kernel
theorem dL_law__293 : decode cL_law_ 293 = .ok (.aload_n 0, 1) := by decide +kernel
theorem dL_law__294 : decode cL_law_ 294 = .ok (.iload 4, 2) := by decide +kernel
theorem dL_law__296 : decode cL_law_ 296 = .ok (.iconst 3, 1) := by decide +kernel
theorem dL_law__297 : decode cL_law_ 297 = .ok (.iadd, 1) := by decide +kernel
theorem dL_law__298 : decode cL_law_ 298 = .ok (.iaload, 1) := by decide +kernel
theorem dL_law__299 : decode cL_law_ 299 = .ok (.aload_n 0, 1) := by decide +kernel
theorem dL_law__300 : decode cL_law_ 300 = .ok (.iload 4, 2) := by decide +kernel
theorem dL_law__302 : decode cL_law_ 302 = .ok (.iconst 4, 1) := by decide +kernel
theorem dL_law__303 : decode cL_law_ 303 = .ok (.iadd, 1) := by decide +kernel
theorem dL_law__304 : decode cL_law_ 304 = .ok (.iaload, 1) := by decide +kernel
theorem dL_law__305 : decode cL_law_ 305 = .ok (.aload_n 0, 1) := by decide +kernel
theorem dL_law__306 : decode cL_law_ 306 = .ok (.iload 4, 2) := by decide +kernel
theorem dL_law__308 : decode cL_law_ 308 = .ok (.iconst 5, 1) := by decide +kernel
theorem dL_law__309 : decode cL_law_ 309 = .ok (.iadd, 1) := by decide +kernel
theorem dL_law__310 : decode cL_law_ 310 = .ok (.iaload, 1) := by decide +kernel
theorem dL_law__311 : decode cL_law_ 311 = .ok (.invokevirtual 118, 3) := by decide +kernel
theorem dL_law__314 : decode cL_law_ 314 = .ok (.aload_n 2, 1) := by decide +kernel
theorem dL_law__315 : decode cL_law_ 315 = .ok (.aload_n 0, 1) := by decide +kernel
theorem dL_law__316 : decode cL_law_ 316 = .ok (.iload 4, 2) := by decide +kernel
theorem dL_law__318 : decode cL_law_ 318 = .ok (.iconst 1, 1) := by decide +kernel
theorem dL_law__319 : decode cL_law_ 319 = .ok (.iadd, 1) := by decide +kernel
theorem dL_law__320 : decode cL_law_ 320 = .ok (.iaload, 1) := by decide +kernel
theorem dL_law__321 : decode cL_law_ 321 = .ok (.aload_n 0, 1) := by decide +kernel
theorem dL_law__322 : decode cL_law_ 322 = .ok (.iload 4, 2) := by decide +kernel
theorem dL_law__324 : decode cL_law_ 324 = .ok (.iconst 2, 1) := by decide +kernel
theorem dL_law__325 : decode cL_law_ 325 = .ok (.iadd, 1) := by decide +kernel
theorem dL_law__326 : decode cL_law_ 326 = .ok (.iaload, 1) := by decide +kernel
theorem dL_law__327 : decode cL_law_ 327 = .ok (.aload_n 0, 1) := by decide +kernel
theorem dL_law__328 : decode cL_law_ 328 = .ok (.iload 4, 2) := by decide +kernel
theorem dL_law__330 : decode cL_law_ 330 = .ok (.iconst 3, 1) := by decide +kernel
theorem dL_law__331 : decode cL_law_ 331 = .ok (.iadd, 1) := by decide +kernel
theorem dL_law__332 : decode cL_law_ 332 = .ok (.iaload, 1) := by decide +kernel
theorem dL_law__333 : decode cL_law_ 333 = .ok (.aload_n 0, 1) := by decide +kernel
theorem dL_law__334 : decode cL_law_ 334 = .ok (.iload 4, 2) := by decide +kernel
theorem dL_law__336 : decode cL_law_ 336 = .ok (.iconst 4, 1) := by decide +kernel
theorem dL_law__337 : decode cL_law_ 337 = .ok (.iadd, 1) := by decide +kernel
theorem dL_law__338 : decode cL_law_ 338 = .ok (.iaload, 1) := by decide +kernel
theorem dL_law__339 : decode cL_law_ 339 = .ok (.aload_n 0, 1) := by decide +kernel
theorem dL_law__340 : decode cL_law_ 340 = .ok (.iload 4, 2) := by decide +kernel
theorem dL_law__342 : decode cL_law_ 342 = .ok (.iconst 5, 1) := by decide +kernel
theorem dL_law__343 : decode cL_law_ 343 = .ok (.iadd, 1) := by decide +kernel
theorem dL_law__344 : decode cL_law_ 344 = .ok (.iaload, 1) := by decide +kernel
theorem dL_law__345 : decode cL_law_ 345 = .ok (.invokevirtual 122, 3) := by decide +kernel
theorem dL_law__348 : decode cL_law_ 348 = .ok (.if_icmp .eq 2239, 3) := by decide +kernel
theorem dL_law__351 : decode cL_law_ 351 = .ok (.iconst 0, 1) := by decide +kernel
theorem dL_law__352 : decode cL_law_ 352 = .ok (.ireturn, 1) := by decide +kernel
theorem dL_law__353 : decode cL_law_ 353 = .ok (.aload_n 1, 1) := by decide +kernel
theorem dL_law__354 : decode cL_law_ 354 = .ok (.aload_n 0, 1) := by decide +kernel
theorem dL_law__355 : decode cL_law_ 355 = .ok (.iload 4, 2) := by decide +kernel
theorem dL_law__357 : decode cL_law_ 357 = .ok (.iconst 1, 1) := by decide +kernel
theorem dL_law__358 : decode cL_law_ 358 = .ok (.iadd, 1) := by decide +kernel
theorem dL_law__359 : decode cL_law_ 359 = .ok (.iaload, 1) := by decide +kernel
theorem dL_law__360 : decode cL_law_ 360 = .ok (.invokevirtual 123, 3) := by decide +kernel
theorem dL_law__363 : decode cL_law_ 363 = .ok (.aload_n 2, 1) := by decide +kernel
theorem dL_law__364 : decode cL_law_ 364 = .ok (.aload_n 0, 1) := by decide +kernel
theorem dL_law__365 : decode cL_law_ 365 = .ok (.iload 4, 2) := by decide +kernel
theorem dL_law__367 : decode cL_law_ 367 = .ok (.iconst 1, 1) := by decide +kernel
theorem dL_law__368 : decode cL_law_ 368 = .ok (.iadd, 1) := by decide +kernel
theorem dL_law__369 : decode cL_law_ 369 = .ok (.iaload, 1) := by decide +kernel
theorem dL_law__370 : decode cL_law_ 370 = .ok (.invokevirtual 127, 3) := by decide +kernel
theorem dL_law__373 : decode cL_law_ 373 = .ok (.if_icmp .eq 2214, 3) := by decide +kernel
theorem dL_law__376 : decode cL_law_ 376 = .ok (.iconst 0, 1) := by decide +kernel
theorem dL_law__377 : decode cL_law_ 377 = .ok (.ireturn, 1) := by decide +kernel
theorem dL_law__378 : decode cL_law_ 378 = .ok (.aload_n 1, 1) := by decide +kernel
theorem dL_law__379 : decode cL_law_ 379 = .ok (.aload_n 3, 1) := by decide +kernel
theorem dL_law__380 : decode cL_law_ 380 = .ok (.invokestatic 128, 3) := by decide +kernel
theorem dL_law__383 : decode cL_law_ 383 = .ok (.istore 5, 2) := by decide +kernel
theorem dL_law__385 : decode cL_law_ 385 = .ok (.aload_n 2, 1) := by decide +kernel
theorem dL_law__386 : decode cL_law_ 386 = .ok (.invokevirtual 133, 3) := by decide +kernel
theorem dL_law__389 : decode cL_law_ 389 = .ok (.istore 6, 2) := by decide +kernel
theorem dL_law__391 : decode cL_law_ 391 = .ok (.aload_n 2, 1) := by decide +kernel
theorem dL_law__392 : decode cL_law_ 392 = .ok (.invokevirtual 134, 3) := by decide +kernel
theorem dL_law__395 : decode cL_law_ 395 = .ok (.iload 5, 2) := by decide +kernel
theorem dL_law__397 : decode cL_law_ 397 = .ok (.if_icmp .eq 5, 3) := by decide +kernel
theorem dL_law__400 : decode cL_law_ 400 = .ok (.iconst 0, 1) := by decide +kernel
theorem dL_law__401 : decode cL_law_ 401 = .ok (.ireturn, 1) := by decide +kernel
theorem dL_law__402 : decode cL_law_ 402 = .ok (.iload 5, 2) := by decide +kernel
theorem dL_law__404 : decode cL_law_ 404 = .ok (.ifCond .ne 15, 3) := by decide +kernel
theorem dL_law__407 : decode cL_law_ 407 = .ok (.aload_n 3, 1) := by decide +kernel
theorem dL_law__408 : decode cL_law_ 408 = .ok (.iconst 0, 1) := by decide +kernel
theorem dL_law__409 : decode cL_law_ 409 = .ok (.laload, 1) := by decide +kernel
theorem dL_law__410 : decode cL_law_ 410 = .ok (.iload 6, 2) := by decide +kernel
theorem dL_law__412 : decode cL_law_ 412 = .ok (.i2l, 1) := by decide +kernel
theorem dL_law__413 : decode cL_law_ 413 = .ok (.lcmp, 1) := by decide +kernel
theorem dL_law__414 : decode cL_law_ 414 = .ok (.ifCond .eq 5, 3) := by decide +kernel
theorem dL_law__417 : decode cL_law_ 417 = .ok (.iconst 0, 1) := by decide +kernel
theorem dL_law__418 : decode cL_law_ 418 = .ok (.ireturn, 1) := by decide +kernel
theorem dL_law__419 : decode cL_law_ 419 = .ok (.goto 2168, 3) := by decide +kernel
theorem dL_law__422 : decode cL_law_ 422 = .ok (.aload_n 1, 1) := by decide +kernel
theorem dL_law__423 : decode cL_law_ 423 = .ok (.aload_n 3, 1) := by decide +kernel
theorem dL_law__424 : decode cL_law_ 424 = .ok (.invokestatic 137, 3) := by decide +kernel
theorem dL_law__427 : decode cL_law_ 427 = .ok (.istore 5, 2) := by decide +kernel
theorem dL_law__429 : decode cL_law_ 429 = .ok (.aload_n 2, 1) := by decide +kernel
theorem dL_law__430 : decode cL_law_ 430 = .ok (.invokevirtual 139, 3) := by decide +kernel
theorem dL_law__433 : decode cL_law_ 433 = .ok (.istore 6, 2) := by decide +kernel
theorem dL_law__435 : decode cL_law_ 435 = .ok (.aload_n 2, 1) := by decide +kernel
theorem dL_law__436 : decode cL_law_ 436 = .ok (.invokevirtual 134, 3) := by decide +kernel
theorem dL_law__439 : decode cL_law_ 439 = .ok (.iload 5, 2) := by decide +kernel
theorem dL_law__441 : decode cL_law_ 441 = .ok (.if_icmp .eq 5, 3) := by decide +kernel
theorem dL_law__444 : decode cL_law_ 444 = .ok (.iconst 0, 1) := by decide +kernel
theorem dL_law__445 : decode cL_law_ 445 = .ok (.ireturn, 1) := by decide +kernel
theorem dL_law__446 : decode cL_law_ 446 = .ok (.iload 5, 2) := by decide +kernel
theorem dL_law__448 : decode cL_law_ 448 = .ok (.ifCond .ne 15, 3) := by decide +kernel
theorem dL_law__451 : decode cL_law_ 451 = .ok (.aload_n 3, 1) := by decide +kernel
theorem dL_law__452 : decode cL_law_ 452 = .ok (.iconst 0, 1) := by decide +kernel
theorem dL_law__453 : decode cL_law_ 453 = .ok (.laload, 1) := by decide +kernel
theorem dL_law__454 : decode cL_law_ 454 = .ok (.iload 6, 2) := by decide +kernel
theorem dL_law__456 : decode cL_law_ 456 = .ok (.i2l, 1) := by decide +kernel
theorem dL_law__457 : decode cL_law_ 457 = .ok (.lcmp, 1) := by decide +kernel
theorem dL_law__458 : decode cL_law_ 458 = .ok (.ifCond .eq 5, 3) := by decide +kernel
theorem dL_law__461 : decode cL_law_ 461 = .ok (.iconst 0, 1) := by decide +kernel
theorem dL_law__462 : decode cL_law_ 462 = .ok (.ireturn, 1) := by decide +kernel
theorem dL_law__463 : decode cL_law_ 463 = .ok (.goto 2124, 3) := by decide +kernel
theorem dL_law__466 : decode cL_law_ 466 = .ok (.aload_n 1, 1) := by decide +kernel
theorem dL_law__467 : decode cL_law_ 467 = .ok (.invokevirtual 140, 3) := by decide +kernel
theorem dL_law__470 : decode cL_law_ 470 = .ok (.aload_n 2, 1) := by decide +kernel
theorem dL_law__471 : decode cL_law_ 471 = .ok (.invokevirtual 143, 3) := by decide +kernel
theorem dL_law__474 : decode cL_law_ 474 = .ok (.if_icmp .eq 2113, 3) := by decide +kernel
theorem dL_law__477 : decode cL_law_ 477 = .ok (.iconst 0, 1) := by decide +kernel
theorem dL_law__478 : decode cL_law_ 478 = .ok (.ireturn, 1) := by decide +kernel
theorem dL_law__479 : decode cL_law_ 479 = .ok (.aload_n 1, 1) := by decide +kernel
theorem dL_law__480 : decode cL_law_ 480 = .ok (.aload_n 0, 1) := by decide +kernel
theorem dL_law__481 : decode cL_law_ 481 = .ok (.iload 4, 2) := by decide +kernel
theorem dL_law__483 : decode cL_law_ 483 = .ok (.iconst 1, 1) := by decide +kernel
theorem dL_law__484 : decode cL_law_ 484 = .ok (.iadd, 1) := by decide +kernel
theorem dL_law__485 : decode cL_law_ 485 = .ok (.iaload, 1) := by decide +kernel
theorem dL_law__486 : decode cL_law_ 486 = .ok (.aload_n 0, 1) := by decide +kernel
theorem dL_law__487 : decode cL_law_ 487 = .ok (.iload 4, 2) := by decide +kernel
theorem dL_law__489 : decode cL_law_ 489 = .ok (.iconst 2, 1) := by decide +kernel
theorem dL_law__490 : decode cL_law_ 490 = .ok (.iadd, 1) := by decide +kernel
theorem dL_law__491 : decode cL_law_ 491 = .ok (.iaload, 1) := by decide +kernel
theorem dL_law__492 : decode cL_law_ 492 = .ok (.aload_n 3, 1) := by decide +kernel
theorem dL_law__493 : decode cL_law_ 493 = .ok (.invokestatic 144, 3) := by decide +kernel
theorem dL_law__496 : decode cL_law_ 496 = .ok (.istore 5, 2) := by decide +kernel
theorem dL_law__498 : decode cL_law_ 498 = .ok (.aload_n 2, 1) := by decide +kernel
theorem dL_law__499 : decode cL_law_ 499 = .ok (.aload_n 0, 1) := by decide +kernel
theorem dL_law__500 : decode cL_law_ 500 = .ok (.iload 4, 2) := by decide +kernel
theorem dL_law__502 : decode cL_law_ 502 = .ok (.iconst 1, 1) := by decide +kernel
theorem dL_law__503 : decode cL_law_ 503 = .ok (.iadd, 1) := by decide +kernel
theorem dL_law__504 : decode cL_law_ 504 = .ok (.iaload, 1) := by decide +kernel
theorem dL_law__505 : decode cL_law_ 505 = .ok (.aload_n 0, 1) := by decide +kernel
theorem dL_law__506 : decode cL_law_ 506 = .ok (.iload 4, 2) := by decide +kernel
theorem dL_law__508 : decode cL_law_ 508 = .ok (.iconst 2, 1) := by decide +kernel
theorem dL_law__509 : decode cL_law_ 509 = .ok (.iadd, 1) := by decide +kernel
theorem dL_law__510 : decode cL_law_ 510 = .ok (.iaload, 1) := by decide +kernel
theorem dL_law__511 : decode cL_law_ 511 = .ok (.invokevirtual 147, 3) := by decide +kernel
theorem dL_law__514 : decode cL_law_ 514 = .ok (.istore 6, 2) := by decide +kernel
theorem dL_law__516 : decode cL_law_ 516 = .ok (.aload_n 2, 1) := by decide +kernel
theorem dL_law__517 : decode cL_law_ 517 = .ok (.invokevirtual 134, 3) := by decide +kernel
theorem dL_law__520 : decode cL_law_ 520 = .ok (.iload 5, 2) := by decide +kernel
theorem dL_law__522 : decode cL_law_ 522 = .ok (.if_icmp .eq 5, 3) := by decide +kernel
theorem dL_law__525 : decode cL_law_ 525 = .ok (.iconst 0, 1) := by decide +kernel
theorem dL_law__526 : decode cL_law_ 526 = .ok (.ireturn, 1) := by decide +kernel
theorem dL_law__527 : decode cL_law_ 527 = .ok (.iload 5, 2) := by decide +kernel
theorem dL_law__529 : decode cL_law_ 529 = .ok (.ifCond .ne 15, 3) := by decide +kernel
theorem dL_law__532 : decode cL_law_ 532 = .ok (.aload_n 3, 1) := by decide +kernel
theorem dL_law__533 : decode cL_law_ 533 = .ok (.iconst 0, 1) := by decide +kernel
theorem dL_law__534 : decode cL_law_ 534 = .ok (.laload, 1) := by decide +kernel
theorem dL_law__535 : decode cL_law_ 535 = .ok (.iload 6, 2) := by decide +kernel
theorem dL_law__537 : decode cL_law_ 537 = .ok (.i2l, 1) := by decide +kernel
theorem dL_law__538 : decode cL_law_ 538 = .ok (.lcmp, 1) := by decide +kernel
theorem dL_law__539 : decode cL_law_ 539 = .ok (.ifCond .eq 5, 3) := by decide +kernel
theorem dL_law__542 : decode cL_law_ 542 = .ok (.iconst 0, 1) := by decide +kernel
theorem dL_law__543 : decode cL_law_ 543 = .ok (.ireturn, 1) := by decide +kernel
theorem dL_law__544 : decode cL_law_ 544 = .ok (.goto 2043, 3) := by decide +kernel
theorem dL_law__547 : decode cL_law_ 547 = .ok (.aload_n 1, 1) := by decide +kernel
theorem dL_law__548 : decode cL_law_ 548 = .ok (.aload_n 0, 1) := by decide +kernel
theorem dL_law__549 : decode cL_law_ 549 = .ok (.iload 4, 2) := by decide +kernel
theorem dL_law__551 : decode cL_law_ 551 = .ok (.iconst 1, 1) := by decide +kernel
theorem dL_law__552 : decode cL_law_ 552 = .ok (.iadd, 1) := by decide +kernel
theorem dL_law__553 : decode cL_law_ 553 = .ok (.iaload, 1) := by decide +kernel
theorem dL_law__554 : decode cL_law_ 554 = .ok (.aload_n 0, 1) := by decide +kernel
theorem dL_law__555 : decode cL_law_ 555 = .ok (.iload 4, 2) := by decide +kernel
theorem dL_law__557 : decode cL_law_ 557 = .ok (.iconst 2, 1) := by decide +kernel
theorem dL_law__558 : decode cL_law_ 558 = .ok (.iadd, 1) := by decide +kernel
theorem dL_law__559 : decode cL_law_ 559 = .ok (.iaload, 1) := by decide +kernel
theorem dL_law__560 : decode cL_law_ 560 = .ok (.aload_n 3, 1) := by decide +kernel
theorem dL_law__561 : decode cL_law_ 561 = .ok (.invokestatic 148, 3) := by decide +kernel
theorem dL_law__564 : decode cL_law_ 564 = .ok (.istore 5, 2) := by decide +kernel
theorem dL_law__566 : decode cL_law_ 566 = .ok (.aload_n 2, 1) := by decide +kernel
theorem dL_law__567 : decode cL_law_ 567 = .ok (.aload_n 0, 1) := by decide +kernel
theorem dL_law__568 : decode cL_law_ 568 = .ok (.iload 4, 2) := by decide +kernel
theorem dL_law__570 : decode cL_law_ 570 = .ok (.iconst 1, 1) := by decide +kernel
theorem dL_law__571 : decode cL_law_ 571 = .ok (.iadd, 1) := by decide +kernel
theorem dL_law__572 : decode cL_law_ 572 = .ok (.iaload, 1) := by decide +kernel
theorem dL_law__573 : decode cL_law_ 573 = .ok (.aload_n 0, 1) := by decide +kernel
theorem dL_law__574 : decode cL_law_ 574 = .ok (.iload 4, 2) := by decide +kernel
theorem dL_law__576 : decode cL_law_ 576 = .ok (.iconst 2, 1) := by decide +kernel
theorem dL_law__577 : decode cL_law_ 577 = .ok (.iadd, 1) := by decide +kernel
theorem dL_law__578 : decode cL_law_ 578 = .ok (.iaload, 1) := by decide +kernel
theorem dL_law__579 : decode cL_law_ 579 = .ok (.invokevirtual 150, 3) := by decide +kernel
theorem dL_law__582 : decode cL_law_ 582 = .ok (.istore 6, 2) := by decide +kernel
theorem dL_law__584 : decode cL_law_ 584 = .ok (.aload_n 2, 1) := by decide +kernel
theorem dL_law__585 : decode cL_law_ 585 = .ok (.invokevirtual 134, 3) := by decide +kernel
theorem dL_law__588 : decode cL_law_ 588 = .ok (.iload 5, 2) := by decide +kernel
theorem dL_law__590 : decode cL_law_ 590 = .ok (.if_icmp .eq 5, 3) := by decide +kernel
theorem dL_law__593 : decode cL_law_ 593 = .ok (.iconst 0, 1) := by decide +kernel
theorem dL_law__594 : decode cL_law_ 594 = .ok (.ireturn, 1) := by decide +kernel
theorem dL_law__595 : decode cL_law_ 595 = .ok (.iload 5, 2) := by decide +kernel
theorem dL_law__597 : decode cL_law_ 597 = .ok (.ifCond .ne 15, 3) := by decide +kernel
theorem dL_law__600 : decode cL_law_ 600 = .ok (.aload_n 3, 1) := by decide +kernel
theorem dL_law__601 : decode cL_law_ 601 = .ok (.iconst 0, 1) := by decide +kernel
theorem dL_law__602 : decode cL_law_ 602 = .ok (.laload, 1) := by decide +kernel
theorem dL_law__603 : decode cL_law_ 603 = .ok (.iload 6, 2) := by decide +kernel
theorem dL_law__605 : decode cL_law_ 605 = .ok (.i2l, 1) := by decide +kernel
theorem dL_law__606 : decode cL_law_ 606 = .ok (.lcmp, 1) := by decide +kernel
theorem dL_law__607 : decode cL_law_ 607 = .ok (.ifCond .eq 5, 3) := by decide +kernel
theorem dL_law__610 : decode cL_law_ 610 = .ok (.iconst 0, 1) := by decide +kernel
theorem dL_law__611 : decode cL_law_ 611 = .ok (.ireturn, 1) := by decide +kernel
theorem dL_law__612 : decode cL_law_ 612 = .ok (.goto 1975, 3) := by decide +kernel
theorem dL_law__615 : decode cL_law_ 615 = .ok (.aload_n 1, 1) := by decide +kernel
theorem dL_law__616 : decode cL_law_ 616 = .ok (.aload_n 0, 1) := by decide +kernel
theorem dL_law__617 : decode cL_law_ 617 = .ok (.iload 4, 2) := by decide +kernel
theorem dL_law__619 : decode cL_law_ 619 = .ok (.iconst 1, 1) := by decide +kernel
theorem dL_law__620 : decode cL_law_ 620 = .ok (.iadd, 1) := by decide +kernel
theorem dL_law__621 : decode cL_law_ 621 = .ok (.iaload, 1) := by decide +kernel
theorem dL_law__622 : decode cL_law_ 622 = .ok (.aload_n 3, 1) := by decide +kernel
theorem dL_law__623 : decode cL_law_ 623 = .ok (.invokestatic 151, 3) := by decide +kernel
theorem dL_law__626 : decode cL_law_ 626 = .ok (.istore 5, 2) := by decide +kernel
theorem dL_law__628 : decode cL_law_ 628 = .ok (.aload_n 2, 1) := by decide +kernel
theorem dL_law__629 : decode cL_law_ 629 = .ok (.aload_n 0, 1) := by decide +kernel
theorem dL_law__630 : decode cL_law_ 630 = .ok (.iload 4, 2) := by decide +kernel
theorem dL_law__632 : decode cL_law_ 632 = .ok (.iconst 1, 1) := by decide +kernel
theorem dL_law__633 : decode cL_law_ 633 = .ok (.iadd, 1) := by decide +kernel
theorem dL_law__634 : decode cL_law_ 634 = .ok (.iaload, 1) := by decide +kernel
theorem dL_law__635 : decode cL_law_ 635 = .ok (.invokevirtual 154, 3) := by decide +kernel
theorem dL_law__638 : decode cL_law_ 638 = .ok (.istore 6, 2) := by decide +kernel
theorem dL_law__640 : decode cL_law_ 640 = .ok (.aload_n 2, 1) := by decide +kernel
theorem dL_law__641 : decode cL_law_ 641 = .ok (.invokevirtual 134, 3) := by decide +kernel
theorem dL_law__644 : decode cL_law_ 644 = .ok (.iload 5, 2) := by decide +kernel
theorem dL_law__646 : decode cL_law_ 646 = .ok (.if_icmp .eq 5, 3) := by decide +kernel
theorem dL_law__649 : decode cL_law_ 649 = .ok (.iconst 0, 1) := by decide +kernel
theorem dL_law__650 : decode cL_law_ 650 = .ok (.ireturn, 1) := by decide +kernel
theorem dL_law__651 : decode cL_law_ 651 = .ok (.iload 5, 2) := by decide +kernel
theorem dL_law__653 : decode cL_law_ 653 = .ok (.ifCond .ne 15, 3) := by decide +kernel
theorem dL_law__656 : decode cL_law_ 656 = .ok (.aload_n 3, 1) := by decide +kernel
theorem dL_law__657 : decode cL_law_ 657 = .ok (.iconst 0, 1) := by decide +kernel
theorem dL_law__658 : decode cL_law_ 658 = .ok (.laload, 1) := by decide +kernel
theorem dL_law__659 : decode cL_law_ 659 = .ok (.iload 6, 2) := by decide +kernel
theorem dL_law__661 : decode cL_law_ 661 = .ok (.i2l, 1) := by decide +kernel
theorem dL_law__662 : decode cL_law_ 662 = .ok (.lcmp, 1) := by decide +kernel
theorem dL_law__663 : decode cL_law_ 663 = .ok (.ifCond .eq 5, 3) := by decide +kernel
theorem dL_law__666 : decode cL_law_ 666 = .ok (.iconst 0, 1) := by decide +kernel
theorem dL_law__667 : decode cL_law_ 667 = .ok (.ireturn, 1) := by decide +kernel
theorem dL_law__668 : decode cL_law_ 668 = .ok (.goto 1919, 3) := by decide +kernel
theorem dL_law__671 : decode cL_law_ 671 = .ok (.aload_n 1, 1) := by decide +kernel
theorem dL_law__672 : decode cL_law_ 672 = .ok (.aload_n 0, 1) := by decide +kernel
theorem dL_law__673 : decode cL_law_ 673 = .ok (.iload 4, 2) := by decide +kernel
theorem dL_law__675 : decode cL_law_ 675 = .ok (.iconst 1, 1) := by decide +kernel
theorem dL_law__676 : decode cL_law_ 676 = .ok (.iadd, 1) := by decide +kernel
theorem dL_law__677 : decode cL_law_ 677 = .ok (.iaload, 1) := by decide +kernel
theorem dL_law__678 : decode cL_law_ 678 = .ok (.aload_n 3, 1) := by decide +kernel
theorem dL_law__679 : decode cL_law_ 679 = .ok (.invokestatic 155, 3) := by decide +kernel
theorem dL_law__682 : decode cL_law_ 682 = .ok (.istore 5, 2) := by decide +kernel
theorem dL_law__684 : decode cL_law_ 684 = .ok (.aload_n 2, 1) := by decide +kernel
theorem dL_law__685 : decode cL_law_ 685 = .ok (.aload_n 0, 1) := by decide +kernel
theorem dL_law__686 : decode cL_law_ 686 = .ok (.iload 4, 2) := by decide +kernel
theorem dL_law__688 : decode cL_law_ 688 = .ok (.iconst 1, 1) := by decide +kernel
theorem dL_law__689 : decode cL_law_ 689 = .ok (.iadd, 1) := by decide +kernel
theorem dL_law__690 : decode cL_law_ 690 = .ok (.iaload, 1) := by decide +kernel
theorem dL_law__691 : decode cL_law_ 691 = .ok (.invokevirtual 157, 3) := by decide +kernel
theorem dL_law__694 : decode cL_law_ 694 = .ok (.istore 6, 2) := by decide +kernel
theorem dL_law__696 : decode cL_law_ 696 = .ok (.aload_n 2, 1) := by decide +kernel
theorem dL_law__697 : decode cL_law_ 697 = .ok (.invokevirtual 134, 3) := by decide +kernel
theorem dL_law__700 : decode cL_law_ 700 = .ok (.iload 5, 2) := by decide +kernel
theorem dL_law__702 : decode cL_law_ 702 = .ok (.if_icmp .eq 5, 3) := by decide +kernel
theorem dL_law__705 : decode cL_law_ 705 = .ok (.iconst 0, 1) := by decide +kernel
theorem dL_law__706 : decode cL_law_ 706 = .ok (.ireturn, 1) := by decide +kernel
theorem dL_law__707 : decode cL_law_ 707 = .ok (.iload 5, 2) := by decide +kernel
theorem dL_law__709 : decode cL_law_ 709 = .ok (.ifCond .ne 15, 3) := by decide +kernel
theorem dL_law__712 : decode cL_law_ 712 = .ok (.aload_n 3, 1) := by decide +kernel
theorem dL_law__713 : decode cL_law_ 713 = .ok (.iconst 0, 1) := by decide +kernel
theorem dL_law__714 : decode cL_law_ 714 = .ok (.laload, 1) := by decide +kernel
theorem dL_law__715 : decode cL_law_ 715 = .ok (.iload 6, 2) := by decide +kernel
theorem dL_law__717 : decode cL_law_ 717 = .ok (.i2l, 1) := by decide +kernel
theorem dL_law__718 : decode cL_law_ 718 = .ok (.lcmp, 1) := by decide +kernel
theorem dL_law__719 : decode cL_law_ 719 = .ok (.ifCond .eq 5, 3) := by decide +kernel
theorem dL_law__722 : decode cL_law_ 722 = .ok (.iconst 0, 1) := by decide +kernel
theorem dL_law__723 : decode cL_law_ 723 = .ok (.ireturn, 1) := by decide +kernel
theorem dL_law__724 : decode cL_law_ 724 = .ok (.goto 1863, 3) := by decide +kernel
theorem dL_law__727 : decode cL_law_ 727 = .ok (.aload_n 1, 1) := by decide +kernel
theorem dL_law__728 : decode cL_law_ 728 = .ok (.aload_n 0, 1) := by decide +kernel
theorem dL_law__729 : decode cL_law_ 729 = .ok (.iload 4, 2) := by decide +kernel
theorem dL_law__731 : decode cL_law_ 731 = .ok (.iconst 1, 1) := by decide +kernel
theorem dL_law__732 : decode cL_law_ 732 = .ok (.iadd, 1) := by decide +kernel
theorem dL_law__733 : decode cL_law_ 733 = .ok (.iaload, 1) := by decide +kernel
theorem dL_law__734 : decode cL_law_ 734 = .ok (.ifCond .eq 7, 3) := by decide +kernel
theorem dL_law__737 : decode cL_law_ 737 = .ok (.iconst 1, 1) := by decide +kernel
theorem dL_law__738 : decode cL_law_ 738 = .ok (.goto 4, 3) := by decide +kernel
theorem dL_law__741 : decode cL_law_ 741 = .ok (.iconst 0, 1) := by decide +kernel
theorem dL_law__742 : decode cL_law_ 742 = .ok (.aload_n 3, 1) := by decide +kernel
theorem dL_law__743 : decode cL_law_ 743 = .ok (.invokestatic 158, 3) := by decide +kernel
theorem dL_law__746 : decode cL_law_ 746 = .ok (.istore 5, 2) := by decide +kernel
theorem dL_law__748 : decode cL_law_ 748 = .ok (.aload_n 2, 1) := by decide +kernel
theorem dL_law__749 : decode cL_law_ 749 = .ok (.aload_n 0, 1) := by decide +kernel
theorem dL_law__750 : decode cL_law_ 750 = .ok (.iload 4, 2) := by decide +kernel
theorem dL_law__752 : decode cL_law_ 752 = .ok (.iconst 1, 1) := by decide +kernel
theorem dL_law__753 : decode cL_law_ 753 = .ok (.iadd, 1) := by decide +kernel
theorem dL_law__754 : decode cL_law_ 754 = .ok (.iaload, 1) := by decide +kernel
theorem dL_law__755 : decode cL_law_ 755 = .ok (.ifCond .eq 7, 3) := by decide +kernel
theorem dL_law__758 : decode cL_law_ 758 = .ok (.iconst 1, 1) := by decide +kernel
theorem dL_law__759 : decode cL_law_ 759 = .ok (.goto 4, 3) := by decide +kernel
theorem dL_law__762 : decode cL_law_ 762 = .ok (.iconst 0, 1) := by decide +kernel
theorem dL_law__763 : decode cL_law_ 763 = .ok (.invokevirtual 161, 3) := by decide +kernel
theorem dL_law__766 : decode cL_law_ 766 = .ok (.istore 6, 2) := by decide +kernel
theorem dL_law__768 : decode cL_law_ 768 = .ok (.aload_n 2, 1) := by decide +kernel
theorem dL_law__769 : decode cL_law_ 769 = .ok (.invokevirtual 134, 3) := by decide +kernel
theorem dL_law__772 : decode cL_law_ 772 = .ok (.iload 5, 2) := by decide +kernel
theorem dL_law__774 : decode cL_law_ 774 = .ok (.if_icmp .eq 5, 3) := by decide +kernel
theorem dL_law__777 : decode cL_law_ 777 = .ok (.iconst 0, 1) := by decide +kernel
theorem dL_law__778 : decode cL_law_ 778 = .ok (.ireturn, 1) := by decide +kernel
theorem dL_law__779 : decode cL_law_ 779 = .ok (.iload 5, 2) := by decide +kernel
theorem dL_law__781 : decode cL_law_ 781 = .ok (.ifCond .ne 22, 3) := by decide +kernel
theorem dL_law__784 : decode cL_law_ 784 = .ok (.aload_n 3, 1) := by decide +kernel
theorem dL_law__785 : decode cL_law_ 785 = .ok (.iconst 0, 1) := by decide +kernel
theorem dL_law__786 : decode cL_law_ 786 = .ok (.laload, 1) := by decide +kernel
theorem dL_law__787 : decode cL_law_ 787 = .ok (.iload 6, 2) := by decide +kernel
theorem dL_law__789 : decode cL_law_ 789 = .ok (.ifCond .eq 7, 3) := by decide +kernel
theorem dL_law__792 : decode cL_law_ 792 = .ok (.lconst 1, 1) := by decide +kernel
theorem dL_law__793 : decode cL_law_ 793 = .ok (.goto 4, 3) := by decide +kernel
theorem dL_law__796 : decode cL_law_ 796 = .ok (.lconst 0, 1) := by decide +kernel
theorem dL_law__797 : decode cL_law_ 797 = .ok (.lcmp, 1) := by decide +kernel
theorem dL_law__798 : decode cL_law_ 798 = .ok (.ifCond .eq 5, 3) := by decide +kernel
theorem dL_law__801 : decode cL_law_ 801 = .ok (.iconst 0, 1) := by decide +kernel
theorem dL_law__802 : decode cL_law_ 802 = .ok (.ireturn, 1) := by decide +kernel
theorem dL_law__803 : decode cL_law_ 803 = .ok (.goto 1784, 3) := by decide +kernel
theorem dL_law__806 : decode cL_law_ 806 = .ok (.aload_n 1, 1) := by decide +kernel
theorem dL_law__807 : decode cL_law_ 807 = .ok (.aload_n 0, 1) := by decide +kernel
theorem dL_law__808 : decode cL_law_ 808 = .ok (.iload 4, 2) := by decide +kernel
theorem dL_law__810 : decode cL_law_ 810 = .ok (.iconst 1, 1) := by decide +kernel
theorem dL_law__811 : decode cL_law_ 811 = .ok (.iadd, 1) := by decide +kernel
theorem dL_law__812 : decode cL_law_ 812 = .ok (.iaload, 1) := by decide +kernel
theorem dL_law__813 : decode cL_law_ 813 = .ok (.aload_n 0, 1) := by decide +kernel
theorem dL_law__814 : decode cL_law_ 814 = .ok (.iload 4, 2) := by decide +kernel
theorem dL_law__816 : decode cL_law_ 816 = .ok (.iconst 2, 1) := by decide +kernel
theorem dL_law__817 : decode cL_law_ 817 = .ok (.iadd, 1) := by decide +kernel
theorem dL_law__818 : decode cL_law_ 818 = .ok (.iaload, 1) := by decide +kernel
theorem dL_law__819 : decode cL_law_ 819 = .ok (.aload_n 3, 1) := by decide +kernel
theorem dL_law__820 : decode cL_law_ 820 = .ok (.invokestatic 162, 3) := by decide +kernel
theorem dL_law__823 : decode cL_law_ 823 = .ok (.istore 5, 2) := by decide +kernel
theorem dL_law__825 : decode cL_law_ 825 = .ok (.aload_n 2, 1) := by decide +kernel
theorem dL_law__826 : decode cL_law_ 826 = .ok (.aload_n 0, 1) := by decide +kernel
theorem dL_law__827 : decode cL_law_ 827 = .ok (.iload 4, 2) := by decide +kernel
theorem dL_law__829 : decode cL_law_ 829 = .ok (.iconst 1, 1) := by decide +kernel
theorem dL_law__830 : decode cL_law_ 830 = .ok (.iadd, 1) := by decide +kernel
theorem dL_law__831 : decode cL_law_ 831 = .ok (.iaload, 1) := by decide +kernel
theorem dL_law__832 : decode cL_law_ 832 = .ok (.aload_n 0, 1) := by decide +kernel
theorem dL_law__833 : decode cL_law_ 833 = .ok (.iload 4, 2) := by decide +kernel
theorem dL_law__835 : decode cL_law_ 835 = .ok (.iconst 2, 1) := by decide +kernel
theorem dL_law__836 : decode cL_law_ 836 = .ok (.iadd, 1) := by decide +kernel
theorem dL_law__837 : decode cL_law_ 837 = .ok (.iaload, 1) := by decide +kernel
theorem dL_law__838 : decode cL_law_ 838 = .ok (.invokevirtual 164, 3) := by decide +kernel
theorem dL_law__841 : decode cL_law_ 841 = .ok (.istore 6, 2) := by decide +kernel
theorem dL_law__843 : decode cL_law_ 843 = .ok (.aload_n 2, 1) := by decide +kernel
theorem dL_law__844 : decode cL_law_ 844 = .ok (.invokevirtual 134, 3) := by decide +kernel
theorem dL_law__847 : decode cL_law_ 847 = .ok (.iload 5, 2) := by decide +kernel
theorem dL_law__849 : decode cL_law_ 849 = .ok (.if_icmp .eq 5, 3) := by decide +kernel
theorem dL_law__852 : decode cL_law_ 852 = .ok (.iconst 0, 1) := by decide +kernel
theorem dL_law__853 : decode cL_law_ 853 = .ok (.ireturn, 1) := by decide +kernel
theorem dL_law__854 : decode cL_law_ 854 = .ok (.iload 5, 2) := by decide +kernel
theorem dL_law__856 : decode cL_law_ 856 = .ok (.ifCond .ne 15, 3) := by decide +kernel
theorem dL_law__859 : decode cL_law_ 859 = .ok (.aload_n 3, 1) := by decide +kernel
theorem dL_law__860 : decode cL_law_ 860 = .ok (.iconst 0, 1) := by decide +kernel
theorem dL_law__861 : decode cL_law_ 861 = .ok (.laload, 1) := by decide +kernel
theorem dL_law__862 : decode cL_law_ 862 = .ok (.iload 6, 2) := by decide +kernel
theorem dL_law__864 : decode cL_law_ 864 = .ok (.i2l, 1) := by decide +kernel
theorem dL_law__865 : decode cL_law_ 865 = .ok (.lcmp, 1) := by decide +kernel
theorem dL_law__866 : decode cL_law_ 866 = .ok (.ifCond .eq 5, 3) := by decide +kernel
theorem dL_law__869 : decode cL_law_ 869 = .ok (.iconst 0, 1) := by decide +kernel
theorem dL_law__870 : decode cL_law_ 870 = .ok (.ireturn, 1) := by decide +kernel
theorem dL_law__871 : decode cL_law_ 871 = .ok (.goto 1716, 3) := by decide +kernel
theorem dL_law__874 : decode cL_law_ 874 = .ok (.aload_n 1, 1) := by decide +kernel
theorem dL_law__875 : decode cL_law_ 875 = .ok (.aload_n 0, 1) := by decide +kernel
theorem dL_law__876 : decode cL_law_ 876 = .ok (.iload 4, 2) := by decide +kernel
theorem dL_law__878 : decode cL_law_ 878 = .ok (.iconst 1, 1) := by decide +kernel
theorem dL_law__879 : decode cL_law_ 879 = .ok (.iadd, 1) := by decide +kernel
theorem dL_law__880 : decode cL_law_ 880 = .ok (.iaload, 1) := by decide +kernel
theorem dL_law__881 : decode cL_law_ 881 = .ok (.aload_n 3, 1) := by decide +kernel
theorem dL_law__882 : decode cL_law_ 882 = .ok (.invokestatic 165, 3) := by decide +kernel
theorem dL_law__885 : decode cL_law_ 885 = .ok (.istore 5, 2) := by decide +kernel
theorem dL_law__887 : decode cL_law_ 887 = .ok (.aload_n 2, 1) := by decide +kernel
theorem dL_law__888 : decode cL_law_ 888 = .ok (.aload_n 0, 1) := by decide +kernel
theorem dL_law__889 : decode cL_law_ 889 = .ok (.iload 4, 2) := by decide +kernel
theorem dL_law__891 : decode cL_law_ 891 = .ok (.iconst 1, 1) := by decide +kernel
theorem dL_law__892 : decode cL_law_ 892 = .ok (.iadd, 1) := by decide +kernel
theorem dL_law__893 : decode cL_law_ 893 = .ok (.iaload, 1) := by decide +kernel
theorem dL_law__894 : decode cL_law_ 894 = .ok (.invokevirtual 167, 3) := by decide +kernel
theorem dL_law__897 : decode cL_law_ 897 = .ok (.istore 6, 2) := by decide +kernel
theorem dL_law__899 : decode cL_law_ 899 = .ok (.aload_n 2, 1) := by decide +kernel
theorem dL_law__900 : decode cL_law_ 900 = .ok (.invokevirtual 134, 3) := by decide +kernel
theorem dL_law__903 : decode cL_law_ 903 = .ok (.iload 5, 2) := by decide +kernel
theorem dL_law__905 : decode cL_law_ 905 = .ok (.if_icmp .eq 5, 3) := by decide +kernel
theorem dL_law__908 : decode cL_law_ 908 = .ok (.iconst 0, 1) := by decide +kernel
theorem dL_law__909 : decode cL_law_ 909 = .ok (.ireturn, 1) := by decide +kernel
theorem dL_law__910 : decode cL_law_ 910 = .ok (.iload 5, 2) := by decide +kernel
theorem dL_law__912 : decode cL_law_ 912 = .ok (.ifCond .ne 15, 3) := by decide +kernel
theorem dL_law__915 : decode cL_law_ 915 = .ok (.aload_n 3, 1) := by decide +kernel
theorem dL_law__916 : decode cL_law_ 916 = .ok (.iconst 0, 1) := by decide +kernel
theorem dL_law__917 : decode cL_law_ 917 = .ok (.laload, 1) := by decide +kernel
theorem dL_law__918 : decode cL_law_ 918 = .ok (.iload 6, 2) := by decide +kernel
theorem dL_law__920 : decode cL_law_ 920 = .ok (.i2l, 1) := by decide +kernel
theorem dL_law__921 : decode cL_law_ 921 = .ok (.lcmp, 1) := by decide +kernel
theorem dL_law__922 : decode cL_law_ 922 = .ok (.ifCond .eq 5, 3) := by decide +kernel
theorem dL_law__925 : decode cL_law_ 925 = .ok (.iconst 0, 1) := by decide +kernel
theorem dL_law__926 : decode cL_law_ 926 = .ok (.ireturn, 1) := by decide +kernel
theorem dL_law__927 : decode cL_law_ 927 = .ok (.goto 1660, 3) := by decide +kernel
theorem dL_law__930 : decode cL_law_ 930 = .ok (.aload_n 1, 1) := by decide +kernel
theorem dL_law__931 : decode cL_law_ 931 = .ok (.aload_n 0, 1) := by decide +kernel
theorem dL_law__932 : decode cL_law_ 932 = .ok (.iload 4, 2) := by decide +kernel
theorem dL_law__934 : decode cL_law_ 934 = .ok (.iconst 1, 1) := by decide +kernel
theorem dL_law__935 : decode cL_law_ 935 = .ok (.iadd, 1) := by decide +kernel
theorem dL_law__936 : decode cL_law_ 936 = .ok (.iaload, 1) := by decide +kernel
theorem dL_law__937 : decode cL_law_ 937 = .ok (.aload_n 0, 1) := by decide +kernel
theorem dL_law__938 : decode cL_law_ 938 = .ok (.iload 4, 2) := by decide +kernel
theorem dL_law__940 : decode cL_law_ 940 = .ok (.iconst 2, 1) := by decide +kernel
theorem dL_law__941 : decode cL_law_ 941 = .ok (.iadd, 1) := by decide +kernel
theorem dL_law__942 : decode cL_law_ 942 = .ok (.iaload, 1) := by decide +kernel
theorem dL_law__943 : decode cL_law_ 943 = .ok (.aload_n 0, 1) := by decide +kernel
theorem dL_law__944 : decode cL_law_ 944 = .ok (.iload 4, 2) := by decide +kernel
theorem dL_law__946 : decode cL_law_ 946 = .ok (.iconst 3, 1) := by decide +kernel
theorem dL_law__947 : decode cL_law_ 947 = .ok (.iadd, 1) := by decide +kernel
theorem dL_law__948 : decode cL_law_ 948 = .ok (.iaload, 1) := by decide +kernel
theorem dL_law__949 : decode cL_law_ 949 = .ok (.aload_n 3, 1) := by decide +kernel
theorem dL_law__950 : decode cL_law_ 950 = .ok (.invokestatic 168, 3) := by decide +kernel
theorem dL_law__953 : decode cL_law_ 953 = .ok (.istore 5, 2) := by decide +kernel
theorem dL_law__955 : decode cL_law_ 955 = .ok (.aload_n 2, 1) := by decide +kernel
theorem dL_law__956 : decode cL_law_ 956 = .ok (.aload_n 0, 1) := by decide +kernel
theorem dL_law__957 : decode cL_law_ 957 = .ok (.iload 4, 2) := by decide +kernel
theorem dL_law__959 : decode cL_law_ 959 = .ok (.iconst 1, 1) := by decide +kernel
theorem dL_law__960 : decode cL_law_ 960 = .ok (.iadd, 1) := by decide +kernel
theorem dL_law__961 : decode cL_law_ 961 = .ok (.iaload, 1) := by decide +kernel
theorem dL_law__962 : decode cL_law_ 962 = .ok (.aload_n 0, 1) := by decide +kernel
theorem dL_law__963 : decode cL_law_ 963 = .ok (.iload 4, 2) := by decide +kernel
theorem dL_law__965 : decode cL_law_ 965 = .ok (.iconst 2, 1) := by decide +kernel
theorem dL_law__966 : decode cL_law_ 966 = .ok (.iadd, 1) := by decide +kernel
theorem dL_law__967 : decode cL_law_ 967 = .ok (.iaload, 1) := by decide +kernel
theorem dL_law__968 : decode cL_law_ 968 = .ok (.aload_n 0, 1) := by decide +kernel
theorem dL_law__969 : decode cL_law_ 969 = .ok (.iload 4, 2) := by decide +kernel
theorem dL_law__971 : decode cL_law_ 971 = .ok (.iconst 3, 1) := by decide +kernel
theorem dL_law__972 : decode cL_law_ 972 = .ok (.iadd, 1) := by decide +kernel
theorem dL_law__973 : decode cL_law_ 973 = .ok (.iaload, 1) := by decide +kernel
theorem dL_law__974 : decode cL_law_ 974 = .ok (.invokevirtual 171, 3) := by decide +kernel
theorem dL_law__977 : decode cL_law_ 977 = .ok (.istore 6, 2) := by decide +kernel
theorem dL_law__979 : decode cL_law_ 979 = .ok (.aload_n 2, 1) := by decide +kernel
theorem dL_law__980 : decode cL_law_ 980 = .ok (.invokevirtual 134, 3) := by decide +kernel
theorem dL_law__983 : decode cL_law_ 983 = .ok (.iload 5, 2) := by decide +kernel
theorem dL_law__985 : decode cL_law_ 985 = .ok (.if_icmp .eq 5, 3) := by decide +kernel
theorem dL_law__988 : decode cL_law_ 988 = .ok (.iconst 0, 1) := by decide +kernel
theorem dL_law__989 : decode cL_law_ 989 = .ok (.ireturn, 1) := by decide +kernel
theorem dL_law__990 : decode cL_law_ 990 = .ok (.iload 5, 2) := by decide +kernel
theorem dL_law__992 : decode cL_law_ 992 = .ok (.ifCond .ne 15, 3) := by decide +kernel
theorem dL_law__995 : decode cL_law_ 995 = .ok (.aload_n 3, 1) := by decide +kernel
theorem dL_law__996 : decode cL_law_ 996 = .ok (.iconst 0, 1) := by decide +kernel
theorem dL_law__997 : decode cL_law_ 997 = .ok (.laload, 1) := by decide +kernel
theorem dL_law__998 : decode cL_law_ 998 = .ok (.iload 6, 2) := by decide +kernel
theorem dL_law__1000 : decode cL_law_ 1000 = .ok (.i2l, 1) := by decide +kernel
theorem dL_law__1001 : decode cL_law_ 1001 = .ok (.lcmp, 1) := by decide +kernel
theorem dL_law__1002 : decode cL_law_ 1002 = .ok (.ifCond .eq 5, 3) := by decide +kernel
theorem dL_law__1005 : decode cL_law_ 1005 = .ok (.iconst 0, 1) := by decide +kernel
theorem dL_law__1006 : decode cL_law_ 1006 = .ok (.ireturn, 1) := by decide +kernel
theorem dL_law__1007 : decode cL_law_ 1007 = .ok (.goto 1580, 3) := by decide +kernel
theorem dL_law__1010 : decode cL_law_ 1010 = .ok (.aload_n 1, 1) := by decide +kernel
theorem dL_law__1011 : decode cL_law_ 1011 = .ok (.aload_n 0, 1) := by decide +kernel
theorem dL_law__1012 : decode cL_law_ 1012 = .ok (.iload 4, 2) := by decide +kernel
theorem dL_law__1014 : decode cL_law_ 1014 = .ok (.iconst 1, 1) := by decide +kernel
theorem dL_law__1015 : decode cL_law_ 1015 = .ok (.iadd, 1) := by decide +kernel
theorem dL_law__1016 : decode cL_law_ 1016 = .ok (.iaload, 1) := by decide +kernel
theorem dL_law__1017 : decode cL_law_ 1017 = .ok (.aload_n 0, 1) := by decide +kernel
theorem dL_law__1018 : decode cL_law_ 1018 = .ok (.iload 4, 2) := by decide +kernel
theorem dL_law__1020 : decode cL_law_ 1020 = .ok (.iconst 2, 1) := by decide +kernel
theorem dL_law__1021 : decode cL_law_ 1021 = .ok (.iadd, 1) := by decide +kernel
theorem dL_law__1022 : decode cL_law_ 1022 = .ok (.iaload, 1) := by decide +kernel
theorem dL_law__1023 : decode cL_law_ 1023 = .ok (.ifCond .eq 7, 3) := by decide +kernel
theorem dL_law__1026 : decode cL_law_ 1026 = .ok (.iconst 1, 1) := by decide +kernel
theorem dL_law__1027 : decode cL_law_ 1027 = .ok (.goto 4, 3) := by decide +kernel
theorem dL_law__1030 : decode cL_law_ 1030 = .ok (.iconst 0, 1) := by decide +kernel
theorem dL_law__1031 : decode cL_law_ 1031 = .ok (.aload_n 3, 1) := by decide +kernel
theorem dL_law__1032 : decode cL_law_ 1032 = .ok (.invokestatic 172, 3) := by decide +kernel
theorem dL_law__1035 : decode cL_law_ 1035 = .ok (.istore 5, 2) := by decide +kernel
theorem dL_law__1037 : decode cL_law_ 1037 = .ok (.aload_n 2, 1) := by decide +kernel
theorem dL_law__1038 : decode cL_law_ 1038 = .ok (.aload_n 0, 1) := by decide +kernel
theorem dL_law__1039 : decode cL_law_ 1039 = .ok (.iload 4, 2) := by decide +kernel
theorem dL_law__1041 : decode cL_law_ 1041 = .ok (.iconst 1, 1) := by decide +kernel
theorem dL_law__1042 : decode cL_law_ 1042 = .ok (.iadd, 1) := by decide +kernel
theorem dL_law__1043 : decode cL_law_ 1043 = .ok (.iaload, 1) := by decide +kernel
theorem dL_law__1044 : decode cL_law_ 1044 = .ok (.aload_n 0, 1) := by decide +kernel
theorem dL_law__1045 : decode cL_law_ 1045 = .ok (.iload 4, 2) := by decide +kernel
theorem dL_law__1047 : decode cL_law_ 1047 = .ok (.iconst 2, 1) := by decide +kernel
theorem dL_law__1048 : decode cL_law_ 1048 = .ok (.iadd, 1) := by decide +kernel
theorem dL_law__1049 : decode cL_law_ 1049 = .ok (.iaload, 1) := by decide +kernel
theorem dL_law__1050 : decode cL_law_ 1050 = .ok (.ifCond .eq 7, 3) := by decide +kernel
theorem dL_law__1053 : decode cL_law_ 1053 = .ok (.iconst 1, 1) := by decide +kernel
theorem dL_law__1054 : decode cL_law_ 1054 = .ok (.goto 4, 3) := by decide +kernel
theorem dL_law__1057 : decode cL_law_ 1057 = .ok (.iconst 0, 1) := by decide +kernel
theorem dL_law__1058 : decode cL_law_ 1058 = .ok (.invokevirtual 175, 3) := by decide +kernel
theorem dL_law__1061 : decode cL_law_ 1061 = .ok (.istore 6, 2) := by decide +kernel
theorem dL_law__1063 : decode cL_law_ 1063 = .ok (.aload_n 2, 1) := by decide +kernel
theorem dL_law__1064 : decode cL_law_ 1064 = .ok (.invokevirtual 134, 3) := by decide +kernel
theorem dL_law__1067 : decode cL_law_ 1067 = .ok (.iload 5, 2) := by decide +kernel
theorem dL_law__1069 : decode cL_law_ 1069 = .ok (.if_icmp .eq 5, 3) := by decide +kernel
theorem dL_law__1072 : decode cL_law_ 1072 = .ok (.iconst 0, 1) := by decide +kernel
theorem dL_law__1073 : decode cL_law_ 1073 = .ok (.ireturn, 1) := by decide +kernel
theorem dL_law__1074 : decode cL_law_ 1074 = .ok (.iload 5, 2) := by decide +kernel
theorem dL_law__1076 : decode cL_law_ 1076 = .ok (.ifCond .ne 22, 3) := by decide +kernel
theorem dL_law__1079 : decode cL_law_ 1079 = .ok (.aload_n 3, 1) := by decide +kernel
theorem dL_law__1080 : decode cL_law_ 1080 = .ok (.iconst 0, 1) := by decide +kernel
theorem dL_law__1081 : decode cL_law_ 1081 = .ok (.laload, 1) := by decide +kernel
theorem dL_law__1082 : decode cL_law_ 1082 = .ok (.iload 6, 2) := by decide +kernel
theorem dL_law__1084 : decode cL_law_ 1084 = .ok (.ifCond .eq 7, 3) := by decide +kernel
theorem dL_law__1087 : decode cL_law_ 1087 = .ok (.lconst 1, 1) := by decide +kernel
theorem dL_law__1088 : decode cL_law_ 1088 = .ok (.goto 4, 3) := by decide +kernel
theorem dL_law__1091 : decode cL_law_ 1091 = .ok (.lconst 0, 1) := by decide +kernel
theorem dL_law__1092 : decode cL_law_ 1092 = .ok (.lcmp, 1) := by decide +kernel
theorem dL_law__1093 : decode cL_law_ 1093 = .ok (.ifCond .eq 5, 3) := by decide +kernel
theorem dL_law__1096 : decode cL_law_ 1096 = .ok (.iconst 0, 1) := by decide +kernel
theorem dL_law__1097 : decode cL_law_ 1097 = .ok (.ireturn, 1) := by decide +kernel
theorem dL_law__1098 : decode cL_law_ 1098 = .ok (.goto 1489, 3) := by decide +kernel
theorem dL_law__1101 : decode cL_law_ 1101 = .ok (.aload_n 1, 1) := by decide +kernel
theorem dL_law__1102 : decode cL_law_ 1102 = .ok (.aload_n 0, 1) := by decide +kernel
theorem dL_law__1103 : decode cL_law_ 1103 = .ok (.iload 4, 2) := by decide +kernel
theorem dL_law__1105 : decode cL_law_ 1105 = .ok (.iconst 1, 1) := by decide +kernel
theorem dL_law__1106 : decode cL_law_ 1106 = .ok (.iadd, 1) := by decide +kernel
theorem dL_law__1107 : decode cL_law_ 1107 = .ok (.iaload, 1) := by decide +kernel
theorem dL_law__1108 : decode cL_law_ 1108 = .ok (.aload_n 3, 1) := by decide +kernel
theorem dL_law__1109 : decode cL_law_ 1109 = .ok (.invokestatic 176, 3) := by decide +kernel
theorem dL_law__1112 : decode cL_law_ 1112 = .ok (.istore 5, 2) := by decide +kernel
theorem dL_law__1114 : decode cL_law_ 1114 = .ok (.aload_n 2, 1) := by decide +kernel
theorem dL_law__1115 : decode cL_law_ 1115 = .ok (.aload_n 0, 1) := by decide +kernel
theorem dL_law__1116 : decode cL_law_ 1116 = .ok (.iload 4, 2) := by decide +kernel
theorem dL_law__1118 : decode cL_law_ 1118 = .ok (.iconst 1, 1) := by decide +kernel
theorem dL_law__1119 : decode cL_law_ 1119 = .ok (.iadd, 1) := by decide +kernel
theorem dL_law__1120 : decode cL_law_ 1120 = .ok (.iaload, 1) := by decide +kernel
theorem dL_law__1121 : decode cL_law_ 1121 = .ok (.invokevirtual 178, 3) := by decide +kernel
theorem dL_law__1124 : decode cL_law_ 1124 = .ok (.istore 6, 2) := by decide +kernel
theorem dL_law__1126 : decode cL_law_ 1126 = .ok (.aload_n 2, 1) := by decide +kernel
theorem dL_law__1127 : decode cL_law_ 1127 = .ok (.invokevirtual 134, 3) := by decide +kernel
theorem dL_law__1130 : decode cL_law_ 1130 = .ok (.iload 5, 2) := by decide +kernel
theorem dL_law__1132 : decode cL_law_ 1132 = .ok (.if_icmp .eq 5, 3) := by decide +kernel
theorem dL_law__1135 : decode cL_law_ 1135 = .ok (.iconst 0, 1) := by decide +kernel
theorem dL_law__1136 : decode cL_law_ 1136 = .ok (.ireturn, 1) := by decide +kernel
theorem dL_law__1137 : decode cL_law_ 1137 = .ok (.iload 5, 2) := by decide +kernel
theorem dL_law__1139 : decode cL_law_ 1139 = .ok (.ifCond .ne 15, 3) := by decide +kernel
theorem dL_law__1142 : decode cL_law_ 1142 = .ok (.aload_n 3, 1) := by decide +kernel
theorem dL_law__1143 : decode cL_law_ 1143 = .ok (.iconst 0, 1) := by decide +kernel
theorem dL_law__1144 : decode cL_law_ 1144 = .ok (.laload, 1) := by decide +kernel
theorem dL_law__1145 : decode cL_law_ 1145 = .ok (.iload 6, 2) := by decide +kernel
theorem dL_law__1147 : decode cL_law_ 1147 = .ok (.i2l, 1) := by decide +kernel
theorem dL_law__1148 : decode cL_law_ 1148 = .ok (.lcmp, 1) := by decide +kernel
theorem dL_law__1149 : decode cL_law_ 1149 = .ok (.ifCond .eq 5, 3) := by decide +kernel
theorem dL_law__1152 : decode cL_law_ 1152 = .ok (.iconst 0, 1) := by decide +kernel
theorem dL_law__1153 : decode cL_law_ 1153 = .ok (.ireturn, 1) := by decide +kernel
theorem dL_law__1154 : decode cL_law_ 1154 = .ok (.goto 1433, 3) := by decide +kernel
theorem dL_law__1157 : decode cL_law_ 1157 = .ok (.aload_n 1, 1) := by decide +kernel
theorem dL_law__1158 : decode cL_law_ 1158 = .ok (.aload_n 0, 1) := by decide +kernel
theorem dL_law__1159 : decode cL_law_ 1159 = .ok (.iload 4, 2) := by decide +kernel
theorem dL_law__1161 : decode cL_law_ 1161 = .ok (.iconst 1, 1) := by decide +kernel
theorem dL_law__1162 : decode cL_law_ 1162 = .ok (.iadd, 1) := by decide +kernel
theorem dL_law__1163 : decode cL_law_ 1163 = .ok (.iaload, 1) := by decide +kernel
theorem dL_law__1164 : decode cL_law_ 1164 = .ok (.aload_n 3, 1) := by decide +kernel
theorem dL_law__1165 : decode cL_law_ 1165 = .ok (.invokestatic 179, 3) := by decide +kernel
theorem dL_law__1168 : decode cL_law_ 1168 = .ok (.istore 5, 2) := by decide +kernel
theorem dL_law__1170 : decode cL_law_ 1170 = .ok (.aload_n 2, 1) := by decide +kernel
theorem dL_law__1171 : decode cL_law_ 1171 = .ok (.aload_n 0, 1) := by decide +kernel
theorem dL_law__1172 : decode cL_law_ 1172 = .ok (.iload 4, 2) := by decide +kernel
theorem dL_law__1174 : decode cL_law_ 1174 = .ok (.iconst 1, 1) := by decide +kernel
theorem dL_law__1175 : decode cL_law_ 1175 = .ok (.iadd, 1) := by decide +kernel
theorem dL_law__1176 : decode cL_law_ 1176 = .ok (.iaload, 1) := by decide +kernel
theorem dL_law__1177 : decode cL_law_ 1177 = .ok (.invokevirtual 181, 3) := by decide +kernel
theorem dL_law__1180 : decode cL_law_ 1180 = .ok (.istore 6, 2) := by decide +kernel
theorem dL_law__1182 : decode cL_law_ 1182 = .ok (.aload_n 2, 1) := by decide +kernel
theorem dL_law__1183 : decode cL_law_ 1183 = .ok (.invokevirtual 134, 3) := by decide +kernel
theorem dL_law__1186 : decode cL_law_ 1186 = .ok (.iload 5, 2) := by decide +kernel
theorem dL_law__1188 : decode cL_law_ 1188 = .ok (.if_icmp .eq 5, 3) := by decide +kernel
theorem dL_law__1191 : decode cL_law_ 1191 = .ok (.iconst 0, 1) := by decide +kernel
theorem dL_law__1192 : decode cL_law_ 1192 = .ok (.ireturn, 1) := by decide +kernel
theorem dL_law__1193 : decode cL_law_ 1193 = .ok (.iload 5, 2) := by decide +kernel
theorem dL_law__1195 : decode cL_law_ 1195 = .ok (.ifCond .ne 15, 3) := by decide +kernel
theorem dL_law__1198 : decode cL_law_ 1198 = .ok (.aload_n 3, 1) := by decide +kernel
theorem dL_law__1199 : decode cL_law_ 1199 = .ok (.iconst 0, 1) := by decide +kernel
theorem dL_law__1200 : decode cL_law_ 1200 = .ok (.laload, 1) := by decide +kernel
theorem dL_law__1201 : decode cL_law_ 1201 = .ok (.iload 6, 2) := by decide +kernel
theorem dL_law__1203 : decode cL_law_ 1203 = .ok (.i2l, 1) := by decide +kernel
theorem dL_law__1204 : decode cL_law_ 1204 = .ok (.lcmp, 1) := by decide +kernel
theorem dL_law__1205 : decode cL_law_ 1205 = .ok (.ifCond .eq 5, 3) := by decide +kernel
theorem dL_law__1208 : decode cL_law_ 1208 = .ok (.iconst 0, 1) := by decide +kernel
theorem dL_law__1209 : decode cL_law_ 1209 = .ok (.ireturn, 1) := by decide +kernel
theorem dL_law__1210 : decode cL_law_ 1210 = .ok (.goto 1377, 3) := by decide +kernel
theorem dL_law__1213 : decode cL_law_ 1213 = .ok (.aload_n 1, 1) := by decide +kernel
theorem dL_law__1214 : decode cL_law_ 1214 = .ok (.aload_n 0, 1) := by decide +kernel
theorem dL_law__1215 : decode cL_law_ 1215 = .ok (.iload 4, 2) := by decide +kernel
theorem dL_law__1217 : decode cL_law_ 1217 = .ok (.iconst 1, 1) := by decide +kernel
theorem dL_law__1218 : decode cL_law_ 1218 = .ok (.iadd, 1) := by decide +kernel
theorem dL_law__1219 : decode cL_law_ 1219 = .ok (.iaload, 1) := by decide +kernel
theorem dL_law__1220 : decode cL_law_ 1220 = .ok (.aload_n 0, 1) := by decide +kernel
theorem dL_law__1221 : decode cL_law_ 1221 = .ok (.iload 4, 2) := by decide +kernel
theorem dL_law__1223 : decode cL_law_ 1223 = .ok (.iconst 2, 1) := by decide +kernel
theorem dL_law__1224 : decode cL_law_ 1224 = .ok (.iadd, 1) := by decide +kernel
theorem dL_law__1225 : decode cL_law_ 1225 = .ok (.iaload, 1) := by decide +kernel
theorem dL_law__1226 : decode cL_law_ 1226 = .ok (.aload_n 3, 1) := by decide +kernel
theorem dL_law__1227 : decode cL_law_ 1227 = .ok (.invokestatic 182, 3) := by decide +kernel
theorem dL_law__1230 : decode cL_law_ 1230 = .ok (.istore 5, 2) := by decide +kernel
theorem dL_law__1232 : decode cL_law_ 1232 = .ok (.aload_n 2, 1) := by decide +kernel
theorem dL_law__1233 : decode cL_law_ 1233 = .ok (.aload_n 0, 1) := by decide +kernel
theorem dL_law__1234 : decode cL_law_ 1234 = .ok (.iload 4, 2) := by decide +kernel
theorem dL_law__1236 : decode cL_law_ 1236 = .ok (.iconst 1, 1) := by decide +kernel
theorem dL_law__1237 : decode cL_law_ 1237 = .ok (.iadd, 1) := by decide +kernel
theorem dL_law__1238 : decode cL_law_ 1238 = .ok (.iaload, 1) := by decide +kernel
theorem dL_law__1239 : decode cL_law_ 1239 = .ok (.aload_n 0, 1) := by decide +kernel
theorem dL_law__1240 : decode cL_law_ 1240 = .ok (.iload 4, 2) := by decide +kernel
theorem dL_law__1242 : decode cL_law_ 1242 = .ok (.iconst 2, 1) := by decide +kernel
theorem dL_law__1243 : decode cL_law_ 1243 = .ok (.iadd, 1) := by decide +kernel
theorem dL_law__1244 : decode cL_law_ 1244 = .ok (.iaload, 1) := by decide +kernel
theorem dL_law__1245 : decode cL_law_ 1245 = .ok (.invokevirtual 184, 3) := by decide +kernel
theorem dL_law__1248 : decode cL_law_ 1248 = .ok (.istore 6, 2) := by decide +kernel
theorem dL_law__1250 : decode cL_law_ 1250 = .ok (.aload_n 2, 1) := by decide +kernel
theorem dL_law__1251 : decode cL_law_ 1251 = .ok (.invokevirtual 134, 3) := by decide +kernel
theorem dL_law__1254 : decode cL_law_ 1254 = .ok (.iload 5, 2) := by decide +kernel
theorem dL_law__1256 : decode cL_law_ 1256 = .ok (.if_icmp .eq 5, 3) := by decide +kernel
theorem dL_law__1259 : decode cL_law_ 1259 = .ok (.iconst 0, 1) := by decide +kernel
theorem dL_law__1260 : decode cL_law_ 1260 = .ok (.ireturn, 1) := by decide +kernel
theorem dL_law__1261 : decode cL_law_ 1261 = .ok (.iload 5, 2) := by decide +kernel
theorem dL_law__1263 : decode cL_law_ 1263 = .ok (.ifCond .ne 15, 3) := by decide +kernel
theorem dL_law__1266 : decode cL_law_ 1266 = .ok (.aload_n 3, 1) := by decide +kernel
theorem dL_law__1267 : decode cL_law_ 1267 = .ok (.iconst 0, 1) := by decide +kernel
theorem dL_law__1268 : decode cL_law_ 1268 = .ok (.laload, 1) := by decide +kernel
theorem dL_law__1269 : decode cL_law_ 1269 = .ok (.iload 6, 2) := by decide +kernel
theorem dL_law__1271 : decode cL_law_ 1271 = .ok (.i2l, 1) := by decide +kernel
theorem dL_law__1272 : decode cL_law_ 1272 = .ok (.lcmp, 1) := by decide +kernel
theorem dL_law__1273 : decode cL_law_ 1273 = .ok (.ifCond .eq 5, 3) := by decide +kernel
theorem dL_law__1276 : decode cL_law_ 1276 = .ok (.iconst 0, 1) := by decide +kernel
theorem dL_law__1277 : decode cL_law_ 1277 = .ok (.ireturn, 1) := by decide +kernel
theorem dL_law__1278 : decode cL_law_ 1278 = .ok (.goto 1309, 3) := by decide +kernel
theorem dL_law__1281 : decode cL_law_ 1281 = .ok (.aload_n 1, 1) := by decide +kernel
theorem dL_law__1282 : decode cL_law_ 1282 = .ok (.invokevirtual 185, 3) := by decide +kernel
theorem dL_law__1285 : decode cL_law_ 1285 = .ok (.aload_n 2, 1) := by decide +kernel
theorem dL_law__1286 : decode cL_law_ 1286 = .ok (.invokevirtual 188, 3) := by decide +kernel
theorem dL_law__1289 : decode cL_law_ 1289 = .ok (.if_icmp .eq 1298, 3) := by decide +kernel
theorem dL_law__1292 : decode cL_law_ 1292 = .ok (.iconst 0, 1) := by decide +kernel
theorem dL_law__1293 : decode cL_law_ 1293 = .ok (.ireturn, 1) := by decide +kernel
theorem dL_law__1294 : decode cL_law_ 1294 = .ok (.aload_n 1, 1) := by decide +kernel
theorem dL_law__1295 : decode cL_law_ 1295 = .ok (.invokevirtual 189, 3) := by decide +kernel
theorem dL_law__1298 : decode cL_law_ 1298 = .ok (.aload_n 2, 1) := by decide +kernel
theorem dL_law__1299 : decode cL_law_ 1299 = .ok (.invokevirtual 192, 3) := by decide +kernel
theorem dL_law__1302 : decode cL_law_ 1302 = .ok (.if_icmp .eq 1285, 3) := by decide +kernel
theorem dL_law__1305 : decode cL_law_ 1305 = .ok (.iconst 0, 1) := by decide +kernel
theorem dL_law__1306 : decode cL_law_ 1306 = .ok (.ireturn, 1) := by decide +kernel
theorem dL_law__1307 : decode cL_law_ 1307 = .ok (.aload_n 1, 1) := by decide +kernel
theorem dL_law__1308 : decode cL_law_ 1308 = .ok (.invokevirtual 193, 3) := by decide +kernel
theorem dL_law__1311 : decode cL_law_ 1311 = .ok (.aload_n 2, 1) := by decide +kernel
theorem dL_law__1312 : decode cL_law_ 1312 = .ok (.invokevirtual 197, 3) := by decide +kernel
theorem dL_law__1315 : decode cL_law_ 1315 = .ok (.if_icmp .eq 1272, 3) := by decide +kernel
theorem dL_law__1318 : decode cL_law_ 1318 = .ok (.iconst 0, 1) := by decide +kernel
theorem dL_law__1319 : decode cL_law_ 1319 = .ok (.ireturn, 1) := by decide +kernel
theorem dL_law__1320 : decode cL_law_ 1320 = .ok (.aload_n 1, 1) := by decide +kernel
theorem dL_law__1321 : decode cL_law_ 1321 = .ok (.invokevirtual 198, 3) := by decide +kernel
theorem dL_law__1324 : decode cL_law_ 1324 = .ok (.aload_n 2, 1) := by decide +kernel
theorem dL_law__1325 : decode cL_law_ 1325 = .ok (.invokevirtual 201, 3) := by decide +kernel
theorem dL_law__1328 : decode cL_law_ 1328 = .ok (.if_icmp .eq 1259, 3) := by decide +kernel
theorem dL_law__1331 : decode cL_law_ 1331 = .ok (.iconst 0, 1) := by decide +kernel
theorem dL_law__1332 : decode cL_law_ 1332 = .ok (.ireturn, 1) := by decide +kernel
theorem dL_law__1333 : decode cL_law_ 1333 = .ok (.aload_n 1, 1) := by decide +kernel
theorem dL_law__1334 : decode cL_law_ 1334 = .ok (.invokevirtual 202, 3) := by decide +kernel
theorem dL_law__1337 : decode cL_law_ 1337 = .ok (.aload_n 2, 1) := by decide +kernel
theorem dL_law__1338 : decode cL_law_ 1338 = .ok (.invokevirtual 205, 3) := by decide +kernel
theorem dL_law__1341 : decode cL_law_ 1341 = .ok (.if_icmp .eq 1246, 3) := by decide +kernel
theorem dL_law__1344 : decode cL_law_ 1344 = .ok (.iconst 0, 1) := by decide +kernel
theorem dL_law__1345 : decode cL_law_ 1345 = .ok (.ireturn, 1) := by decide +kernel
theorem dL_law__1346 : decode cL_law_ 1346 = .ok (.aload_n 1, 1) := by decide +kernel
theorem dL_law__1347 : decode cL_law_ 1347 = .ok (.invokevirtual 206, 3) := by decide +kernel
theorem dL_law__1350 : decode cL_law_ 1350 = .ok (.aload_n 2, 1) := by decide +kernel
theorem dL_law__1351 : decode cL_law_ 1351 = .ok (.invokevirtual 209, 3) := by decide +kernel
theorem dL_law__1354 : decode cL_law_ 1354 = .ok (.if_icmp .eq 1233, 3) := by decide +kernel
theorem dL_law__1357 : decode cL_law_ 1357 = .ok (.iconst 0, 1) := by decide +kernel
theorem dL_law__1358 : decode cL_law_ 1358 = .ok (.ireturn, 1) := by decide +kernel
theorem dL_law__1359 : decode cL_law_ 1359 = .ok (.aload_n 1, 1) := by decide +kernel
theorem dL_law__1360 : decode cL_law_ 1360 = .ok (.invokevirtual 210, 3) := by decide +kernel
theorem dL_law__1363 : decode cL_law_ 1363 = .ok (.aload_n 2, 1) := by decide +kernel
theorem dL_law__1364 : decode cL_law_ 1364 = .ok (.invokevirtual 213, 3) := by decide +kernel
theorem dL_law__1367 : decode cL_law_ 1367 = .ok (.if_icmp .eq 1220, 3) := by decide +kernel
theorem dL_law__1370 : decode cL_law_ 1370 = .ok (.iconst 0, 1) := by decide +kernel
theorem dL_law__1371 : decode cL_law_ 1371 = .ok (.ireturn, 1) := by decide +kernel
theorem dL_law__1372 : decode cL_law_ 1372 = .ok (.aload_n 1, 1) := by decide +kernel
theorem dL_law__1373 : decode cL_law_ 1373 = .ok (.invokevirtual 214, 3) := by decide +kernel
theorem dL_law__1376 : decode cL_law_ 1376 = .ok (.aload_n 2, 1) := by decide +kernel
theorem dL_law__1377 : decode cL_law_ 1377 = .ok (.invokevirtual 217, 3) := by decide +kernel
theorem dL_law__1380 : decode cL_law_ 1380 = .ok (.if_icmp .eq 1207, 3) := by decide +kernel
theorem dL_law__1383 : decode cL_law_ 1383 = .ok (.iconst 0, 1) := by decide +kernel
theorem dL_law__1384 : decode cL_law_ 1384 = .ok (.ireturn, 1) := by decide +kernel
theorem dL_law__1385 : decode cL_law_ 1385 = .ok (.aload_n 1, 1) := by decide +kernel
theorem dL_law__1386 : decode cL_law_ 1386 = .ok (.invokevirtual 218, 3) := by decide +kernel
theorem dL_law__1389 : decode cL_law_ 1389 = .ok (.aload_n 2, 1) := by decide +kernel
theorem dL_law__1390 : decode cL_law_ 1390 = .ok (.invokevirtual 221, 3) := by decide +kernel
theorem dL_law__1393 : decode cL_law_ 1393 = .ok (.if_icmp .eq 1194, 3) := by decide +kernel
theorem dL_law__1396 : decode cL_law_ 1396 = .ok (.iconst 0, 1) := by decide +kernel
theorem dL_law__1397 : decode cL_law_ 1397 = .ok (.ireturn, 1) := by decide +kernel
theorem dL_law__1398 : decode cL_law_ 1398 = .ok (.aload_n 1, 1) := by decide +kernel
theorem dL_law__1399 : decode cL_law_ 1399 = .ok (.invokevirtual 222, 3) := by decide +kernel
theorem dL_law__1402 : decode cL_law_ 1402 = .ok (.aload_n 2, 1) := by decide +kernel
theorem dL_law__1403 : decode cL_law_ 1403 = .ok (.invokevirtual 225, 3) := by decide +kernel
theorem dL_law__1406 : decode cL_law_ 1406 = .ok (.if_icmp .eq 1181, 3) := by decide +kernel
theorem dL_law__1409 : decode cL_law_ 1409 = .ok (.iconst 0, 1) := by decide +kernel
theorem dL_law__1410 : decode cL_law_ 1410 = .ok (.ireturn, 1) := by decide +kernel
theorem dL_law__1411 : decode cL_law_ 1411 = .ok (.aload_n 1, 1) := by decide +kernel
theorem dL_law__1412 : decode cL_law_ 1412 = .ok (.invokevirtual 226, 3) := by decide +kernel
theorem dL_law__1415 : decode cL_law_ 1415 = .ok (.aload_n 2, 1) := by decide +kernel
theorem dL_law__1416 : decode cL_law_ 1416 = .ok (.invokevirtual 229, 3) := by decide +kernel
theorem dL_law__1419 : decode cL_law_ 1419 = .ok (.if_icmp .eq 1168, 3) := by decide +kernel
theorem dL_law__1422 : decode cL_law_ 1422 = .ok (.iconst 0, 1) := by decide +kernel
theorem dL_law__1423 : decode cL_law_ 1423 = .ok (.ireturn, 1) := by decide +kernel
theorem dL_law__1424 : decode cL_law_ 1424 = .ok (.aload_n 1, 1) := by decide +kernel
theorem dL_law__1425 : decode cL_law_ 1425 = .ok (.aload_n 0, 1) := by decide +kernel
theorem dL_law__1426 : decode cL_law_ 1426 = .ok (.iload 4, 2) := by decide +kernel
theorem dL_law__1428 : decode cL_law_ 1428 = .ok (.iconst 1, 1) := by decide +kernel
theorem dL_law__1429 : decode cL_law_ 1429 = .ok (.iadd, 1) := by decide +kernel
theorem dL_law__1430 : decode cL_law_ 1430 = .ok (.iaload, 1) := by decide +kernel
theorem dL_law__1431 : decode cL_law_ 1431 = .ok (.ifCond .eq 7, 3) := by decide +kernel
theorem dL_law__1434 : decode cL_law_ 1434 = .ok (.iconst 1, 1) := by decide +kernel
theorem dL_law__1435 : decode cL_law_ 1435 = .ok (.goto 4, 3) := by decide +kernel
theorem dL_law__1438 : decode cL_law_ 1438 = .ok (.iconst 0, 1) := by decide +kernel
theorem dL_law__1439 : decode cL_law_ 1439 = .ok (.aload_n 3, 1) := by decide +kernel
theorem dL_law__1440 : decode cL_law_ 1440 = .ok (.invokestatic 230, 3) := by decide +kernel
theorem dL_law__1443 : decode cL_law_ 1443 = .ok (.istore 5, 2) := by decide +kernel
theorem dL_law__1445 : decode cL_law_ 1445 = .ok (.aload_n 2, 1) := by decide +kernel
theorem dL_law__1446 : decode cL_law_ 1446 = .ok (.aload_n 0, 1) := by decide +kernel
theorem dL_law__1447 : decode cL_law_ 1447 = .ok (.iload 4, 2) := by decide +kernel
theorem dL_law__1449 : decode cL_law_ 1449 = .ok (.iconst 1, 1) := by decide +kernel
theorem dL_law__1450 : decode cL_law_ 1450 = .ok (.iadd, 1) := by decide +kernel
theorem dL_law__1451 : decode cL_law_ 1451 = .ok (.iaload, 1) := by decide +kernel
theorem dL_law__1452 : decode cL_law_ 1452 = .ok (.ifCond .eq 7, 3) := by decide +kernel
theorem dL_law__1455 : decode cL_law_ 1455 = .ok (.iconst 1, 1) := by decide +kernel
theorem dL_law__1456 : decode cL_law_ 1456 = .ok (.goto 4, 3) := by decide +kernel
theorem dL_law__1459 : decode cL_law_ 1459 = .ok (.iconst 0, 1) := by decide +kernel
theorem dL_law__1460 : decode cL_law_ 1460 = .ok (.invokevirtual 232, 3) := by decide +kernel
theorem dL_law__1463 : decode cL_law_ 1463 = .ok (.istore 6, 2) := by decide +kernel
theorem dL_law__1465 : decode cL_law_ 1465 = .ok (.aload_n 2, 1) := by decide +kernel
theorem dL_law__1466 : decode cL_law_ 1466 = .ok (.invokevirtual 134, 3) := by decide +kernel
theorem dL_law__1469 : decode cL_law_ 1469 = .ok (.iload 5, 2) := by decide +kernel
theorem dL_law__1471 : decode cL_law_ 1471 = .ok (.if_icmp .eq 5, 3) := by decide +kernel
theorem dL_law__1474 : decode cL_law_ 1474 = .ok (.iconst 0, 1) := by decide +kernel
theorem dL_law__1475 : decode cL_law_ 1475 = .ok (.ireturn, 1) := by decide +kernel
theorem dL_law__1476 : decode cL_law_ 1476 = .ok (.iload 5, 2) := by decide +kernel
theorem dL_law__1478 : decode cL_law_ 1478 = .ok (.ifCond .ne 15, 3) := by decide +kernel
theorem dL_law__1481 : decode cL_law_ 1481 = .ok (.aload_n 3, 1) := by decide +kernel
theorem dL_law__1482 : decode cL_law_ 1482 = .ok (.iconst 0, 1) := by decide +kernel
theorem dL_law__1483 : decode cL_law_ 1483 = .ok (.laload, 1) := by decide +kernel
theorem dL_law__1484 : decode cL_law_ 1484 = .ok (.iload 6, 2) := by decide +kernel
theorem dL_law__1486 : decode cL_law_ 1486 = .ok (.i2l, 1) := by decide +kernel
theorem dL_law__1487 : decode cL_law_ 1487 = .ok (.lcmp, 1) := by decide +kernel
theorem dL_law__1488 : decode cL_law_ 1488 = .ok (.ifCond .eq 5, 3) := by decide +kernel
theorem dL_law__1491 : decode cL_law_ 1491 = .ok (.iconst 0, 1) := by decide +kernel
theorem dL_law__1492 : decode cL_law_ 1492 = .ok (.ireturn, 1) := by decide +kernel
theorem dL_law__1493 : decode cL_law_ 1493 = .ok (.goto 1094, 3) := by decide +kernel
theorem dL_law__1496 : decode cL_law_ 1496 = .ok (.aload_n 1, 1) := by decide +kernel
theorem dL_law__1497 : decode cL_law_ 1497 = .ok (.aload_n 3, 1) := by decide +kernel
theorem dL_law__1498 : decode cL_law_ 1498 = .ok (.invokestatic 233, 3) := by decide +kernel
theorem dL_law__1501 : decode cL_law_ 1501 = .ok (.istore 5, 2) := by decide +kernel
theorem dL_law__1503 : decode cL_law_ 1503 = .ok (.aload_n 2, 1) := by decide +kernel
theorem dL_law__1504 : decode cL_law_ 1504 = .ok (.invokevirtual 235, 3) := by decide +kernel
theorem dL_law__1507 : decode cL_law_ 1507 = .ok (.istore 6, 2) := by decide +kernel
theorem dL_law__1509 : decode cL_law_ 1509 = .ok (.aload_n 2, 1) := by decide +kernel
theorem dL_law__1510 : decode cL_law_ 1510 = .ok (.invokevirtual 134, 3) := by decide +kernel
theorem dL_law__1513 : decode cL_law_ 1513 = .ok (.iload 5, 2) := by decide +kernel
theorem dL_law__1515 : decode cL_law_ 1515 = .ok (.if_icmp .eq 5, 3) := by decide +kernel
theorem dL_law__1518 : decode cL_law_ 1518 = .ok (.iconst 0, 1) := by decide +kernel
theorem dL_law__1519 : decode cL_law_ 1519 = .ok (.ireturn, 1) := by decide +kernel
theorem dL_law__1520 : decode cL_law_ 1520 = .ok (.iload 5, 2) := by decide +kernel
theorem dL_law__1522 : decode cL_law_ 1522 = .ok (.ifCond .ne 15, 3) := by decide +kernel
theorem dL_law__1525 : decode cL_law_ 1525 = .ok (.aload_n 3, 1) := by decide +kernel
theorem dL_law__1526 : decode cL_law_ 1526 = .ok (.iconst 0, 1) := by decide +kernel
theorem dL_law__1527 : decode cL_law_ 1527 = .ok (.laload, 1) := by decide +kernel
theorem dL_law__1528 : decode cL_law_ 1528 = .ok (.iload 6, 2) := by decide +kernel
theorem dL_law__1530 : decode cL_law_ 1530 = .ok (.i2l, 1) := by decide +kernel
theorem dL_law__1531 : decode cL_law_ 1531 = .ok (.lcmp, 1) := by decide +kernel
theorem dL_law__1532 : decode cL_law_ 1532 = .ok (.ifCond .eq 5, 3) := by decide +kernel
theorem dL_law__1535 : decode cL_law_ 1535 = .ok (.iconst 0, 1) := by decide +kernel
theorem dL_law__1536 : decode cL_law_ 1536 = .ok (.ireturn, 1) := by decide +kernel
theorem dL_law__1537 : decode cL_law_ 1537 = .ok (.goto 1050, 3) := by decide +kernel
theorem dL_law__1540 : decode cL_law_ 1540 = .ok (.aload_n 1, 1) := by decide +kernel
theorem dL_law__1541 : decode cL_law_ 1541 = .ok (.aload_n 3, 1) := by decide +kernel
theorem dL_law__1542 : decode cL_law_ 1542 = .ok (.invokestatic 236, 3) := by decide +kernel
theorem dL_law__1545 : decode cL_law_ 1545 = .ok (.istore 5, 2) := by decide +kernel
theorem dL_law__1547 : decode cL_law_ 1547 = .ok (.aload_n 2, 1) := by decide +kernel
theorem dL_law__1548 : decode cL_law_ 1548 = .ok (.invokevirtual 238, 3) := by decide +kernel
theorem dL_law__1551 : decode cL_law_ 1551 = .ok (.istore 6, 2) := by decide +kernel
theorem dL_law__1553 : decode cL_law_ 1553 = .ok (.aload_n 2, 1) := by decide +kernel
theorem dL_law__1554 : decode cL_law_ 1554 = .ok (.invokevirtual 134, 3) := by decide +kernel
theorem dL_law__1557 : decode cL_law_ 1557 = .ok (.iload 5, 2) := by decide +kernel
theorem dL_law__1559 : decode cL_law_ 1559 = .ok (.if_icmp .eq 5, 3) := by decide +kernel
theorem dL_law__1562 : decode cL_law_ 1562 = .ok (.iconst 0, 1) := by decide +kernel
theorem dL_law__1563 : decode cL_law_ 1563 = .ok (.ireturn, 1) := by decide +kernel
theorem dL_law__1564 : decode cL_law_ 1564 = .ok (.iload 5, 2) := by decide +kernel
theorem dL_law__1566 : decode cL_law_ 1566 = .ok (.ifCond .ne 15, 3) := by decide +kernel
theorem dL_law__1569 : decode cL_law_ 1569 = .ok (.aload_n 3, 1) := by decide +kernel
theorem dL_law__1570 : decode cL_law_ 1570 = .ok (.iconst 0, 1) := by decide +kernel
theorem dL_law__1571 : decode cL_law_ 1571 = .ok (.laload, 1) := by decide +kernel
theorem dL_law__1572 : decode cL_law_ 1572 = .ok (.iload 6, 2) := by decide +kernel
theorem dL_law__1574 : decode cL_law_ 1574 = .ok (.i2l, 1) := by decide +kernel
theorem dL_law__1575 : decode cL_law_ 1575 = .ok (.lcmp, 1) := by decide +kernel
theorem dL_law__1576 : decode cL_law_ 1576 = .ok (.ifCond .eq 5, 3) := by decide +kernel
theorem dL_law__1579 : decode cL_law_ 1579 = .ok (.iconst 0, 1) := by decide +kernel
theorem dL_law__1580 : decode cL_law_ 1580 = .ok (.ireturn, 1) := by decide +kernel
theorem dL_law__1581 : decode cL_law_ 1581 = .ok (.goto 1006, 3) := by decide +kernel
theorem dL_law__1584 : decode cL_law_ 1584 = .ok (.aload_n 1, 1) := by decide +kernel
theorem dL_law__1585 : decode cL_law_ 1585 = .ok (.aload_n 3, 1) := by decide +kernel
theorem dL_law__1586 : decode cL_law_ 1586 = .ok (.invokestatic 239, 3) := by decide +kernel
theorem dL_law__1589 : decode cL_law_ 1589 = .ok (.istore 5, 2) := by decide +kernel
theorem dL_law__1591 : decode cL_law_ 1591 = .ok (.aload_n 2, 1) := by decide +kernel
theorem dL_law__1592 : decode cL_law_ 1592 = .ok (.invokevirtual 241, 3) := by decide +kernel
theorem dL_law__1595 : decode cL_law_ 1595 = .ok (.istore 6, 2) := by decide +kernel
theorem dL_law__1597 : decode cL_law_ 1597 = .ok (.aload_n 2, 1) := by decide +kernel
theorem dL_law__1598 : decode cL_law_ 1598 = .ok (.invokevirtual 134, 3) := by decide +kernel
theorem dL_law__1601 : decode cL_law_ 1601 = .ok (.iload 5, 2) := by decide +kernel
theorem dL_law__1603 : decode cL_law_ 1603 = .ok (.if_icmp .eq 5, 3) := by decide +kernel
theorem dL_law__1606 : decode cL_law_ 1606 = .ok (.iconst 0, 1) := by decide +kernel
theorem dL_law__1607 : decode cL_law_ 1607 = .ok (.ireturn, 1) := by decide +kernel
theorem dL_law__1608 : decode cL_law_ 1608 = .ok (.iload 5, 2) := by decide +kernel
theorem dL_law__1610 : decode cL_law_ 1610 = .ok (.ifCond .ne 15, 3) := by decide +kernel
theorem dL_law__1613 : decode cL_law_ 1613 = .ok (.aload_n 3, 1) := by decide +kernel
theorem dL_law__1614 : decode cL_law_ 1614 = .ok (.iconst 0, 1) := by decide +kernel
theorem dL_law__1615 : decode cL_law_ 1615 = .ok (.laload, 1) := by decide +kernel
theorem dL_law__1616 : decode cL_law_ 1616 = .ok (.iload 6, 2) := by decide +kernel
theorem dL_law__1618 : decode cL_law_ 1618 = .ok (.i2l, 1) := by decide +kernel
theorem dL_law__1619 : decode cL_law_ 1619 = .ok (.lcmp, 1) := by decide +kernel
theorem dL_law__1620 : decode cL_law_ 1620 = .ok (.ifCond .eq 5, 3) := by decide +kernel
theorem dL_law__1623 : decode cL_law_ 1623 = .ok (.iconst 0, 1) := by decide +kernel
theorem dL_law__1624 : decode cL_law_ 1624 = .ok (.ireturn, 1) := by decide +kernel
theorem dL_law__1625 : decode cL_law_ 1625 = .ok (.goto 962, 3) := by decide +kernel
theorem dL_law__1628 : decode cL_law_ 1628 = .ok (.aload_n 1, 1) := by decide +kernel
theorem dL_law__1629 : decode cL_law_ 1629 = .ok (.aload_n 3, 1) := by decide +kernel
theorem dL_law__1630 : decode cL_law_ 1630 = .ok (.invokestatic 242, 3) := by decide +kernel
theorem dL_law__1633 : decode cL_law_ 1633 = .ok (.istore 5, 2) := by decide +kernel
theorem dL_law__1635 : decode cL_law_ 1635 = .ok (.aload_n 2, 1) := by decide +kernel
theorem dL_law__1636 : decode cL_law_ 1636 = .ok (.invokevirtual 244, 3) := by decide +kernel
theorem dL_law__1639 : decode cL_law_ 1639 = .ok (.istore 6, 2) := by decide +kernel
theorem dL_law__1641 : decode cL_law_ 1641 = .ok (.aload_n 2, 1) := by decide +kernel
theorem dL_law__1642 : decode cL_law_ 1642 = .ok (.invokevirtual 134, 3) := by decide +kernel
theorem dL_law__1645 : decode cL_law_ 1645 = .ok (.iload 5, 2) := by decide +kernel
theorem dL_law__1647 : decode cL_law_ 1647 = .ok (.if_icmp .eq 5, 3) := by decide +kernel
theorem dL_law__1650 : decode cL_law_ 1650 = .ok (.iconst 0, 1) := by decide +kernel
theorem dL_law__1651 : decode cL_law_ 1651 = .ok (.ireturn, 1) := by decide +kernel
theorem dL_law__1652 : decode cL_law_ 1652 = .ok (.iload 5, 2) := by decide +kernel
theorem dL_law__1654 : decode cL_law_ 1654 = .ok (.ifCond .ne 15, 3) := by decide +kernel
theorem dL_law__1657 : decode cL_law_ 1657 = .ok (.aload_n 3, 1) := by decide +kernel
theorem dL_law__1658 : decode cL_law_ 1658 = .ok (.iconst 0, 1) := by decide +kernel
theorem dL_law__1659 : decode cL_law_ 1659 = .ok (.laload, 1) := by decide +kernel
theorem dL_law__1660 : decode cL_law_ 1660 = .ok (.iload 6, 2) := by decide +kernel
theorem dL_law__1662 : decode cL_law_ 1662 = .ok (.i2l, 1) := by decide +kernel
theorem dL_law__1663 : decode cL_law_ 1663 = .ok (.lcmp, 1) := by decide +kernel
theorem dL_law__1664 : decode cL_law_ 1664 = .ok (.ifCond .eq 5, 3) := by decide +kernel
theorem dL_law__1667 : decode cL_law_ 1667 = .ok (.iconst 0, 1) := by decide +kernel
theorem dL_law__1668 : decode cL_law_ 1668 = .ok (.ireturn, 1) := by decide +kernel
theorem dL_law__1669 : decode cL_law_ 1669 = .ok (.goto 918, 3) := by decide +kernel
theorem dL_law__1672 : decode cL_law_ 1672 = .ok (.aload_n 1, 1) := by decide +kernel
theorem dL_law__1673 : decode cL_law_ 1673 = .ok (.invokevirtual 245, 3) := by decide +kernel
theorem dL_law__1676 : decode cL_law_ 1676 = .ok (.aload_n 2, 1) := by decide +kernel
theorem dL_law__1677 : decode cL_law_ 1677 = .ok (.invokevirtual 248, 3) := by decide +kernel
theorem dL_law__1680 : decode cL_law_ 1680 = .ok (.if_icmp .eq 907, 3) := by decide +kernel
theorem dL_law__1683 : decode cL_law_ 1683 = .ok (.iconst 0, 1) := by decide +kernel
theorem dL_law__1684 : decode cL_law_ 1684 = .ok (.ireturn, 1) := by decide +kernel
theorem dL_law__1685 : decode cL_law_ 1685 = .ok (.aload_n 1, 1) := by decide +kernel
theorem dL_law__1686 : decode cL_law_ 1686 = .ok (.invokevirtual 249, 3) := by decide +kernel
theorem dL_law__1689 : decode cL_law_ 1689 = .ok (.aload_n 2, 1) := by decide +kernel
theorem dL_law__1690 : decode cL_law_ 1690 = .ok (.invokevirtual 252, 3) := by decide +kernel
theorem dL_law__1693 : decode cL_law_ 1693 = .ok (.if_icmp .eq 894, 3) := by decide +kernel
theorem dL_law__1696 : decode cL_law_ 1696 = .ok (.iconst 0, 1) := by decide +kernel
theorem dL_law__1697 : decode cL_law_ 1697 = .ok (.ireturn, 1) := by decide +kernel
theorem dL_law__1698 : decode cL_law_ 1698 = .ok (.aload_n 1, 1) := by decide +kernel
theorem dL_law__1699 : decode cL_law_ 1699 = .ok (.aload_n 0, 1) := by decide +kernel
theorem dL_law__1700 : decode cL_law_ 1700 = .ok (.iload 4, 2) := by decide +kernel
theorem dL_law__1702 : decode cL_law_ 1702 = .ok (.iconst 1, 1) := by decide +kernel
theorem dL_law__1703 : decode cL_law_ 1703 = .ok (.iadd, 1) := by decide +kernel
theorem dL_law__1704 : decode cL_law_ 1704 = .ok (.iaload, 1) := by decide +kernel
theorem dL_law__1705 : decode cL_law_ 1705 = .ok (.aload_n 3, 1) := by decide +kernel
theorem dL_law__1706 : decode cL_law_ 1706 = .ok (.invokestatic 253, 3) := by decide +kernel
theorem dL_law__1709 : decode cL_law_ 1709 = .ok (.istore 5, 2) := by decide +kernel
theorem dL_law__1711 : decode cL_law_ 1711 = .ok (.aload_n 2, 1) := by decide +kernel
theorem dL_law__1712 : decode cL_law_ 1712 = .ok (.aload_n 0, 1) := by decide +kernel
theorem dL_law__1713 : decode cL_law_ 1713 = .ok (.iload 4, 2) := by decide +kernel
theorem dL_law__1715 : decode cL_law_ 1715 = .ok (.iconst 1, 1) := by decide +kernel
theorem dL_law__1716 : decode cL_law_ 1716 = .ok (.iadd, 1) := by decide +kernel
theorem dL_law__1717 : decode cL_law_ 1717 = .ok (.iaload, 1) := by decide +kernel
theorem dL_law__1718 : decode cL_law_ 1718 = .ok (.invokevirtual 255, 3) := by decide +kernel
theorem dL_law__1721 : decode cL_law_ 1721 = .ok (.istore 6, 2) := by decide +kernel
theorem dL_law__1723 : decode cL_law_ 1723 = .ok (.aload_n 2, 1) := by decide +kernel
theorem dL_law__1724 : decode cL_law_ 1724 = .ok (.invokevirtual 134, 3) := by decide +kernel
theorem dL_law__1727 : decode cL_law_ 1727 = .ok (.iload 5, 2) := by decide +kernel
theorem dL_law__1729 : decode cL_law_ 1729 = .ok (.if_icmp .eq 5, 3) := by decide +kernel
theorem dL_law__1732 : decode cL_law_ 1732 = .ok (.iconst 0, 1) := by decide +kernel
theorem dL_law__1733 : decode cL_law_ 1733 = .ok (.ireturn, 1) := by decide +kernel
theorem dL_law__1734 : decode cL_law_ 1734 = .ok (.iload 5, 2) := by decide +kernel
theorem dL_law__1736 : decode cL_law_ 1736 = .ok (.ifCond .ne 15, 3) := by decide +kernel
theorem dL_law__1739 : decode cL_law_ 1739 = .ok (.aload_n 3, 1) := by decide +kernel
theorem dL_law__1740 : decode cL_law_ 1740 = .ok (.iconst 0, 1) := by decide +kernel
theorem dL_law__1741 : decode cL_law_ 1741 = .ok (.laload, 1) := by decide +kernel
theorem dL_law__1742 : decode cL_law_ 1742 = .ok (.iload 6, 2) := by decide +kernel
theorem dL_law__1744 : decode cL_law_ 1744 = .ok (.i2l, 1) := by decide +kernel
theorem dL_law__1745 : decode cL_law_ 1745 = .ok (.lcmp, 1) := by decide +kernel
theorem dL_law__1746 : decode cL_law_ 1746 = .ok (.ifCond .eq 5, 3) := by decide +kernel
theorem dL_law__1749 : decode cL_law_ 1749 = .ok (.iconst 0, 1) := by decide +kernel
theorem dL_law__1750 : decode cL_law_ 1750 = .ok (.ireturn, 1) := by decide +kernel
theorem dL_law__1751 : decode cL_law_ 1751 = .ok (.goto 836, 3) := by decide +kernel
theorem dL_law__1754 : decode cL_law_ 1754 = .ok (.aload_n 1, 1) := by decide +kernel
theorem dL_law__1755 : decode cL_law_ 1755 = .ok (.aload_n 0, 1) := by decide +kernel
theorem dL_law__1756 : decode cL_law_ 1756 = .ok (.iload 4, 2) := by decide +kernel
theorem dL_law__1758 : decode cL_law_ 1758 = .ok (.iconst 1, 1) := by decide +kernel
theorem dL_law__1759 : decode cL_law_ 1759 = .ok (.iadd, 1) := by decide +kernel
theorem dL_law__1760 : decode cL_law_ 1760 = .ok (.iaload, 1) := by decide +kernel
theorem dL_law__1761 : decode cL_law_ 1761 = .ok (.aload_n 3, 1) := by decide +kernel
theorem dL_law__1762 : decode cL_law_ 1762 = .ok (.invokestatic 256, 3) := by decide +kernel
theorem dL_law__1765 : decode cL_law_ 1765 = .ok (.istore 5, 2) := by decide +kernel
theorem dL_law__1767 : decode cL_law_ 1767 = .ok (.aload_n 2, 1) := by decide +kernel
theorem dL_law__1768 : decode cL_law_ 1768 = .ok (.aload_n 0, 1) := by decide +kernel
theorem dL_law__1769 : decode cL_law_ 1769 = .ok (.iload 4, 2) := by decide +kernel
theorem dL_law__1771 : decode cL_law_ 1771 = .ok (.iconst 1, 1) := by decide +kernel
theorem dL_law__1772 : decode cL_law_ 1772 = .ok (.iadd, 1) := by decide +kernel
theorem dL_law__1773 : decode cL_law_ 1773 = .ok (.iaload, 1) := by decide +kernel
theorem dL_law__1774 : decode cL_law_ 1774 = .ok (.invokevirtual 258, 3) := by decide +kernel
theorem dL_law__1777 : decode cL_law_ 1777 = .ok (.istore 6, 2) := by decide +kernel
theorem dL_law__1779 : decode cL_law_ 1779 = .ok (.aload_n 2, 1) := by decide +kernel
theorem dL_law__1780 : decode cL_law_ 1780 = .ok (.invokevirtual 134, 3) := by decide +kernel
theorem dL_law__1783 : decode cL_law_ 1783 = .ok (.iload 5, 2) := by decide +kernel
theorem dL_law__1785 : decode cL_law_ 1785 = .ok (.if_icmp .eq 5, 3) := by decide +kernel
theorem dL_law__1788 : decode cL_law_ 1788 = .ok (.iconst 0, 1) := by decide +kernel
theorem dL_law__1789 : decode cL_law_ 1789 = .ok (.ireturn, 1) := by decide +kernel
theorem dL_law__1790 : decode cL_law_ 1790 = .ok (.iload 5, 2) := by decide +kernel
theorem dL_law__1792 : decode cL_law_ 1792 = .ok (.ifCond .ne 15, 3) := by decide +kernel
theorem dL_law__1795 : decode cL_law_ 1795 = .ok (.aload_n 3, 1) := by decide +kernel
theorem dL_law__1796 : decode cL_law_ 1796 = .ok (.iconst 0, 1) := by decide +kernel
theorem dL_law__1797 : decode cL_law_ 1797 = .ok (.laload, 1) := by decide +kernel
theorem dL_law__1798 : decode cL_law_ 1798 = .ok (.iload 6, 2) := by decide +kernel
theorem dL_law__1800 : decode cL_law_ 1800 = .ok (.i2l, 1) := by decide +kernel
theorem dL_law__1801 : decode cL_law_ 1801 = .ok (.lcmp, 1) := by decide +kernel
theorem dL_law__1802 : decode cL_law_ 1802 = .ok (.ifCond .eq 5, 3) := by decide +kernel
theorem dL_law__1805 : decode cL_law_ 1805 = .ok (.iconst 0, 1) := by decide +kernel
theorem dL_law__1806 : decode cL_law_ 1806 = .ok (.ireturn, 1) := by decide +kernel
theorem dL_law__1807 : decode cL_law_ 1807 = .ok (.goto 780, 3) := by decide +kernel
theorem dL_law__1810 : decode cL_law_ 1810 = .ok (.aload_n 1, 1) := by decide +kernel
theorem dL_law__1811 : decode cL_law_ 1811 = .ok (.aload_n 0, 1) := by decide +kernel
theorem dL_law__1812 : decode cL_law_ 1812 = .ok (.iload 4, 2) := by decide +kernel
theorem dL_law__1814 : decode cL_law_ 1814 = .ok (.iconst 1, 1) := by decide +kernel
theorem dL_law__1815 : decode cL_law_ 1815 = .ok (.iadd, 1) := by decide +kernel
theorem dL_law__1816 : decode cL_law_ 1816 = .ok (.iaload, 1) := by decide +kernel
theorem dL_law__1817 : decode cL_law_ 1817 = .ok (.aload_n 3, 1) := by decide +kernel
theorem dL_law__1818 : decode cL_law_ 1818 = .ok (.invokestatic 259, 3) := by decide +kernel
theorem dL_law__1821 : decode cL_law_ 1821 = .ok (.istore 5, 2) := by decide +kernel
theorem dL_law__1823 : decode cL_law_ 1823 = .ok (.aload_n 2, 1) := by decide +kernel
theorem dL_law__1824 : decode cL_law_ 1824 = .ok (.aload_n 0, 1) := by decide +kernel
theorem dL_law__1825 : decode cL_law_ 1825 = .ok (.iload 4, 2) := by decide +kernel
theorem dL_law__1827 : decode cL_law_ 1827 = .ok (.iconst 1, 1) := by decide +kernel
theorem dL_law__1828 : decode cL_law_ 1828 = .ok (.iadd, 1) := by decide +kernel
theorem dL_law__1829 : decode cL_law_ 1829 = .ok (.iaload, 1) := by decide +kernel
theorem dL_law__1830 : decode cL_law_ 1830 = .ok (.invokevirtual 261, 3) := by decide +kernel
theorem dL_law__1833 : decode cL_law_ 1833 = .ok (.istore 6, 2) := by decide +kernel
theorem dL_law__1835 : decode cL_law_ 1835 = .ok (.aload_n 2, 1) := by decide +kernel
theorem dL_law__1836 : decode cL_law_ 1836 = .ok (.invokevirtual 134, 3) := by decide +kernel
theorem dL_law__1839 : decode cL_law_ 1839 = .ok (.iload 5, 2) := by decide +kernel
theorem dL_law__1841 : decode cL_law_ 1841 = .ok (.if_icmp .eq 5, 3) := by decide +kernel
theorem dL_law__1844 : decode cL_law_ 1844 = .ok (.iconst 0, 1) := by decide +kernel
theorem dL_law__1845 : decode cL_law_ 1845 = .ok (.ireturn, 1) := by decide +kernel
theorem dL_law__1846 : decode cL_law_ 1846 = .ok (.iload 5, 2) := by decide +kernel
theorem dL_law__1848 : decode cL_law_ 1848 = .ok (.ifCond .ne 15, 3) := by decide +kernel
theorem dL_law__1851 : decode cL_law_ 1851 = .ok (.aload_n 3, 1) := by decide +kernel
theorem dL_law__1852 : decode cL_law_ 1852 = .ok (.iconst 0, 1) := by decide +kernel
theorem dL_law__1853 : decode cL_law_ 1853 = .ok (.laload, 1) := by decide +kernel
theorem dL_law__1854 : decode cL_law_ 1854 = .ok (.iload 6, 2) := by decide +kernel
theorem dL_law__1856 : decode cL_law_ 1856 = .ok (.i2l, 1) := by decide +kernel
theorem dL_law__1857 : decode cL_law_ 1857 = .ok (.lcmp, 1) := by decide +kernel
theorem dL_law__1858 : decode cL_law_ 1858 = .ok (.ifCond .eq 5, 3) := by decide +kernel
theorem dL_law__1861 : decode cL_law_ 1861 = .ok (.iconst 0, 1) := by decide +kernel
theorem dL_law__1862 : decode cL_law_ 1862 = .ok (.ireturn, 1) := by decide +kernel
theorem dL_law__1863 : decode cL_law_ 1863 = .ok (.goto 724, 3) := by decide +kernel
theorem dL_law__1866 : decode cL_law_ 1866 = .ok (.aload_n 1, 1) := by decide +kernel
theorem dL_law__1867 : decode cL_law_ 1867 = .ok (.aload_n 0, 1) := by decide +kernel
theorem dL_law__1868 : decode cL_law_ 1868 = .ok (.iload 4, 2) := by decide +kernel
theorem dL_law__1870 : decode cL_law_ 1870 = .ok (.iconst 1, 1) := by decide +kernel
theorem dL_law__1871 : decode cL_law_ 1871 = .ok (.iadd, 1) := by decide +kernel
theorem dL_law__1872 : decode cL_law_ 1872 = .ok (.iaload, 1) := by decide +kernel
theorem dL_law__1873 : decode cL_law_ 1873 = .ok (.aload_n 0, 1) := by decide +kernel
theorem dL_law__1874 : decode cL_law_ 1874 = .ok (.iload 4, 2) := by decide +kernel
theorem dL_law__1876 : decode cL_law_ 1876 = .ok (.iconst 2, 1) := by decide +kernel
theorem dL_law__1877 : decode cL_law_ 1877 = .ok (.iadd, 1) := by decide +kernel
theorem dL_law__1878 : decode cL_law_ 1878 = .ok (.iaload, 1) := by decide +kernel
theorem dL_law__1879 : decode cL_law_ 1879 = .ok (.aload_n 3, 1) := by decide +kernel
theorem dL_law__1880 : decode cL_law_ 1880 = .ok (.invokestatic 262, 3) := by decide +kernel
theorem dL_law__1883 : decode cL_law_ 1883 = .ok (.istore 5, 2) := by decide +kernel
theorem dL_law__1885 : decode cL_law_ 1885 = .ok (.aload_n 2, 1) := by decide +kernel
theorem dL_law__1886 : decode cL_law_ 1886 = .ok (.aload_n 0, 1) := by decide +kernel
theorem dL_law__1887 : decode cL_law_ 1887 = .ok (.iload 4, 2) := by decide +kernel
theorem dL_law__1889 : decode cL_law_ 1889 = .ok (.iconst 1, 1) := by decide +kernel
theorem dL_law__1890 : decode cL_law_ 1890 = .ok (.iadd, 1) := by decide +kernel
theorem dL_law__1891 : decode cL_law_ 1891 = .ok (.iaload, 1) := by decide +kernel
theorem dL_law__1892 : decode cL_law_ 1892 = .ok (.aload_n 0, 1) := by decide +kernel
theorem dL_law__1893 : decode cL_law_ 1893 = .ok (.iload 4, 2) := by decide +kernel
theorem dL_law__1895 : decode cL_law_ 1895 = .ok (.iconst 2, 1) := by decide +kernel
theorem dL_law__1896 : decode cL_law_ 1896 = .ok (.iadd, 1) := by decide +kernel
theorem dL_law__1897 : decode cL_law_ 1897 = .ok (.iaload, 1) := by decide +kernel
theorem dL_law__1898 : decode cL_law_ 1898 = .ok (.invokevirtual 264, 3) := by decide +kernel
theorem dL_law__1901 : decode cL_law_ 1901 = .ok (.istore 6, 2) := by decide +kernel
theorem dL_law__1903 : decode cL_law_ 1903 = .ok (.aload_n 2, 1) := by decide +kernel
theorem dL_law__1904 : decode cL_law_ 1904 = .ok (.invokevirtual 134, 3) := by decide +kernel
theorem dL_law__1907 : decode cL_law_ 1907 = .ok (.iload 5, 2) := by decide +kernel
theorem dL_law__1909 : decode cL_law_ 1909 = .ok (.if_icmp .eq 5, 3) := by decide +kernel
theorem dL_law__1912 : decode cL_law_ 1912 = .ok (.iconst 0, 1) := by decide +kernel
theorem dL_law__1913 : decode cL_law_ 1913 = .ok (.ireturn, 1) := by decide +kernel
theorem dL_law__1914 : decode cL_law_ 1914 = .ok (.iload 5, 2) := by decide +kernel
theorem dL_law__1916 : decode cL_law_ 1916 = .ok (.ifCond .ne 15, 3) := by decide +kernel
theorem dL_law__1919 : decode cL_law_ 1919 = .ok (.aload_n 3, 1) := by decide +kernel
theorem dL_law__1920 : decode cL_law_ 1920 = .ok (.iconst 0, 1) := by decide +kernel
theorem dL_law__1921 : decode cL_law_ 1921 = .ok (.laload, 1) := by decide +kernel
theorem dL_law__1922 : decode cL_law_ 1922 = .ok (.iload 6, 2) := by decide +kernel
theorem dL_law__1924 : decode cL_law_ 1924 = .ok (.i2l, 1) := by decide +kernel
theorem dL_law__1925 : decode cL_law_ 1925 = .ok (.lcmp, 1) := by decide +kernel
theorem dL_law__1926 : decode cL_law_ 1926 = .ok (.ifCond .eq 5, 3) := by decide +kernel
theorem dL_law__1929 : decode cL_law_ 1929 = .ok (.iconst 0, 1) := by decide +kernel
theorem dL_law__1930 : decode cL_law_ 1930 = .ok (.ireturn, 1) := by decide +kernel
theorem dL_law__1931 : decode cL_law_ 1931 = .ok (.goto 656, 3) := by decide +kernel
theorem dL_law__1934 : decode cL_law_ 1934 = .ok (.aload_n 1, 1) := by decide +kernel
theorem dL_law__1935 : decode cL_law_ 1935 = .ok (.aload_n 0, 1) := by decide +kernel
theorem dL_law__1936 : decode cL_law_ 1936 = .ok (.iload 4, 2) := by decide +kernel
theorem dL_law__1938 : decode cL_law_ 1938 = .ok (.iconst 1, 1) := by decide +kernel
theorem dL_law__1939 : decode cL_law_ 1939 = .ok (.iadd, 1) := by decide +kernel
theorem dL_law__1940 : decode cL_law_ 1940 = .ok (.iaload, 1) := by decide +kernel
theorem dL_law__1941 : decode cL_law_ 1941 = .ok (.aload_n 3, 1) := by decide +kernel
theorem dL_law__1942 : decode cL_law_ 1942 = .ok (.invokestatic 265, 3) := by decide +kernel
theorem dL_law__1945 : decode cL_law_ 1945 = .ok (.istore 5, 2) := by decide +kernel
theorem dL_law__1947 : decode cL_law_ 1947 = .ok (.aload_n 2, 1) := by decide +kernel
theorem dL_law__1948 : decode cL_law_ 1948 = .ok (.aload_n 0, 1) := by decide +kernel
theorem dL_law__1949 : decode cL_law_ 1949 = .ok (.iload 4, 2) := by decide +kernel
theorem dL_law__1951 : decode cL_law_ 1951 = .ok (.iconst 1, 1) := by decide +kernel
theorem dL_law__1952 : decode cL_law_ 1952 = .ok (.iadd, 1) := by decide +kernel
theorem dL_law__1953 : decode cL_law_ 1953 = .ok (.iaload, 1) := by decide +kernel
theorem dL_law__1954 : decode cL_law_ 1954 = .ok (.invokevirtual 267, 3) := by decide +kernel
theorem dL_law__1957 : decode cL_law_ 1957 = .ok (.istore 6, 2) := by decide +kernel
theorem dL_law__1959 : decode cL_law_ 1959 = .ok (.aload_n 2, 1) := by decide +kernel
theorem dL_law__1960 : decode cL_law_ 1960 = .ok (.invokevirtual 134, 3) := by decide +kernel
theorem dL_law__1963 : decode cL_law_ 1963 = .ok (.iload 5, 2) := by decide +kernel
theorem dL_law__1965 : decode cL_law_ 1965 = .ok (.if_icmp .eq 5, 3) := by decide +kernel
theorem dL_law__1968 : decode cL_law_ 1968 = .ok (.iconst 0, 1) := by decide +kernel
theorem dL_law__1969 : decode cL_law_ 1969 = .ok (.ireturn, 1) := by decide +kernel
theorem dL_law__1970 : decode cL_law_ 1970 = .ok (.iload 5, 2) := by decide +kernel
theorem dL_law__1972 : decode cL_law_ 1972 = .ok (.ifCond .ne 15, 3) := by decide +kernel
theorem dL_law__1975 : decode cL_law_ 1975 = .ok (.aload_n 3, 1) := by decide +kernel
theorem dL_law__1976 : decode cL_law_ 1976 = .ok (.iconst 0, 1) := by decide +kernel
theorem dL_law__1977 : decode cL_law_ 1977 = .ok (.laload, 1) := by decide +kernel
theorem dL_law__1978 : decode cL_law_ 1978 = .ok (.iload 6, 2) := by decide +kernel
theorem dL_law__1980 : decode cL_law_ 1980 = .ok (.i2l, 1) := by decide +kernel
theorem dL_law__1981 : decode cL_law_ 1981 = .ok (.lcmp, 1) := by decide +kernel
theorem dL_law__1982 : decode cL_law_ 1982 = .ok (.ifCond .eq 5, 3) := by decide +kernel
theorem dL_law__1985 : decode cL_law_ 1985 = .ok (.iconst 0, 1) := by decide +kernel
theorem dL_law__1986 : decode cL_law_ 1986 = .ok (.ireturn, 1) := by decide +kernel
theorem dL_law__1987 : decode cL_law_ 1987 = .ok (.goto 600, 3) := by decide +kernel
theorem dL_law__1990 : decode cL_law_ 1990 = .ok (.aload_n 1, 1) := by decide +kernel
theorem dL_law__1991 : decode cL_law_ 1991 = .ok (.invokevirtual 268, 3) := by decide +kernel
theorem dL_law__1994 : decode cL_law_ 1994 = .ok (.aload_n 2, 1) := by decide +kernel
theorem dL_law__1995 : decode cL_law_ 1995 = .ok (.invokevirtual 271, 3) := by decide +kernel
theorem dL_law__1998 : decode cL_law_ 1998 = .ok (.if_icmp .eq 589, 3) := by decide +kernel
theorem dL_law__2001 : decode cL_law_ 2001 = .ok (.iconst 0, 1) := by decide +kernel
theorem dL_law__2002 : decode cL_law_ 2002 = .ok (.ireturn, 1) := by decide +kernel
theorem dL_law__2003 : decode cL_law_ 2003 = .ok (.aload_n 1, 1) := by decide +kernel
theorem dL_law__2004 : decode cL_law_ 2004 = .ok (.invokevirtual 272, 3) := by decide +kernel
theorem dL_law__2007 : decode cL_law_ 2007 = .ok (.aload_n 2, 1) := by decide +kernel
theorem dL_law__2008 : decode cL_law_ 2008 = .ok (.invokevirtual 275, 3) := by decide +kernel
theorem dL_law__2011 : decode cL_law_ 2011 = .ok (.if_icmp .eq 576, 3) := by decide +kernel
theorem dL_law__2014 : decode cL_law_ 2014 = .ok (.iconst 0, 1) := by decide +kernel
theorem dL_law__2015 : decode cL_law_ 2015 = .ok (.ireturn, 1) := by decide +kernel
theorem dL_law__2016 : decode cL_law_ 2016 = .ok (.aload_n 1, 1) := by decide +kernel
theorem dL_law__2017 : decode cL_law_ 2017 = .ok (.invokevirtual 276, 3) := by decide +kernel
theorem dL_law__2020 : decode cL_law_ 2020 = .ok (.aload_n 2, 1) := by decide +kernel
theorem dL_law__2021 : decode cL_law_ 2021 = .ok (.invokevirtual 279, 3) := by decide +kernel
theorem dL_law__2024 : decode cL_law_ 2024 = .ok (.if_icmp .eq 563, 3) := by decide +kernel
theorem dL_law__2027 : decode cL_law_ 2027 = .ok (.iconst 0, 1) := by decide +kernel
theorem dL_law__2028 : decode cL_law_ 2028 = .ok (.ireturn, 1) := by decide +kernel
theorem dL_law__2029 : decode cL_law_ 2029 = .ok (.aload_n 1, 1) := by decide +kernel
theorem dL_law__2030 : decode cL_law_ 2030 = .ok (.invokevirtual 280, 3) := by decide +kernel
theorem dL_law__2033 : decode cL_law_ 2033 = .ok (.aload_n 2, 1) := by decide +kernel
theorem dL_law__2034 : decode cL_law_ 2034 = .ok (.invokevirtual 283, 3) := by decide +kernel
theorem dL_law__2037 : decode cL_law_ 2037 = .ok (.if_icmp .eq 550, 3) := by decide +kernel
theorem dL_law__2040 : decode cL_law_ 2040 = .ok (.iconst 0, 1) := by decide +kernel
theorem dL_law__2041 : decode cL_law_ 2041 = .ok (.ireturn, 1) := by decide +kernel
theorem dL_law__2042 : decode cL_law_ 2042 = .ok (.aload_n 1, 1) := by decide +kernel
theorem dL_law__2043 : decode cL_law_ 2043 = .ok (.invokevirtual 284, 3) := by decide +kernel
theorem dL_law__2046 : decode cL_law_ 2046 = .ok (.aload_n 2, 1) := by decide +kernel
theorem dL_law__2047 : decode cL_law_ 2047 = .ok (.invokevirtual 287, 3) := by decide +kernel
theorem dL_law__2050 : decode cL_law_ 2050 = .ok (.if_icmp .eq 537, 3) := by decide +kernel
theorem dL_law__2053 : decode cL_law_ 2053 = .ok (.iconst 0, 1) := by decide +kernel
theorem dL_law__2054 : decode cL_law_ 2054 = .ok (.ireturn, 1) := by decide +kernel
theorem dL_law__2055 : decode cL_law_ 2055 = .ok (.aload_n 1, 1) := by decide +kernel
theorem dL_law__2056 : decode cL_law_ 2056 = .ok (.aload_n 0, 1) := by decide +kernel
theorem dL_law__2057 : decode cL_law_ 2057 = .ok (.iload 4, 2) := by decide +kernel
theorem dL_law__2059 : decode cL_law_ 2059 = .ok (.iconst 1, 1) := by decide +kernel
theorem dL_law__2060 : decode cL_law_ 2060 = .ok (.iadd, 1) := by decide +kernel
theorem dL_law__2061 : decode cL_law_ 2061 = .ok (.iaload, 1) := by decide +kernel
theorem dL_law__2062 : decode cL_law_ 2062 = .ok (.ifCond .eq 7, 3) := by decide +kernel
theorem dL_law__2065 : decode cL_law_ 2065 = .ok (.iconst 1, 1) := by decide +kernel
theorem dL_law__2066 : decode cL_law_ 2066 = .ok (.goto 4, 3) := by decide +kernel
theorem dL_law__2069 : decode cL_law_ 2069 = .ok (.iconst 0, 1) := by decide +kernel
theorem dL_law__2070 : decode cL_law_ 2070 = .ok (.invokevirtual 288, 3) := by decide +kernel
theorem dL_law__2073 : decode cL_law_ 2073 = .ok (.aload_n 2, 1) := by decide +kernel
theorem dL_law__2074 : decode cL_law_ 2074 = .ok (.aload_n 0, 1) := by decide +kernel
theorem dL_law__2075 : decode cL_law_ 2075 = .ok (.iload 4, 2) := by decide +kernel
theorem dL_law__2077 : decode cL_law_ 2077 = .ok (.iconst 1, 1) := by decide +kernel
theorem dL_law__2078 : decode cL_law_ 2078 = .ok (.iadd, 1) := by decide +kernel
theorem dL_law__2079 : decode cL_law_ 2079 = .ok (.iaload, 1) := by decide +kernel
theorem dL_law__2080 : decode cL_law_ 2080 = .ok (.ifCond .eq 7, 3) := by decide +kernel
theorem dL_law__2083 : decode cL_law_ 2083 = .ok (.iconst 1, 1) := by decide +kernel
theorem dL_law__2084 : decode cL_law_ 2084 = .ok (.goto 4, 3) := by decide +kernel
theorem dL_law__2087 : decode cL_law_ 2087 = .ok (.iconst 0, 1) := by decide +kernel
theorem dL_law__2088 : decode cL_law_ 2088 = .ok (.invokevirtual 291, 3) := by decide +kernel
theorem dL_law__2091 : decode cL_law_ 2091 = .ok (.if_icmp .eq 496, 3) := by decide +kernel
theorem dL_law__2094 : decode cL_law_ 2094 = .ok (.iconst 0, 1) := by decide +kernel
theorem dL_law__2095 : decode cL_law_ 2095 = .ok (.ireturn, 1) := by decide +kernel
theorem dL_law__2096 : decode cL_law_ 2096 = .ok (.aload_n 1, 1) := by decide +kernel
theorem dL_law__2097 : decode cL_law_ 2097 = .ok (.aload_n 0, 1) := by decide +kernel
theorem dL_law__2098 : decode cL_law_ 2098 = .ok (.iload 4, 2) := by decide +kernel
theorem dL_law__2100 : decode cL_law_ 2100 = .ok (.iconst 1, 1) := by decide +kernel
theorem dL_law__2101 : decode cL_law_ 2101 = .ok (.iadd, 1) := by decide +kernel
theorem dL_law__2102 : decode cL_law_ 2102 = .ok (.iaload, 1) := by decide +kernel
theorem dL_law__2103 : decode cL_law_ 2103 = .ok (.aload_n 0, 1) := by decide +kernel
theorem dL_law__2104 : decode cL_law_ 2104 = .ok (.iload 4, 2) := by decide +kernel
theorem dL_law__2106 : decode cL_law_ 2106 = .ok (.iconst 2, 1) := by decide +kernel
theorem dL_law__2107 : decode cL_law_ 2107 = .ok (.iadd, 1) := by decide +kernel
theorem dL_law__2108 : decode cL_law_ 2108 = .ok (.iaload, 1) := by decide +kernel
theorem dL_law__2109 : decode cL_law_ 2109 = .ok (.ifCond .eq 7, 3) := by decide +kernel
theorem dL_law__2112 : decode cL_law_ 2112 = .ok (.iconst 1, 1) := by decide +kernel
theorem dL_law__2113 : decode cL_law_ 2113 = .ok (.goto 4, 3) := by decide +kernel
theorem dL_law__2116 : decode cL_law_ 2116 = .ok (.iconst 0, 1) := by decide +kernel
theorem dL_law__2117 : decode cL_law_ 2117 = .ok (.aload_n 3, 1) := by decide +kernel
theorem dL_law__2118 : decode cL_law_ 2118 = .ok (.invokestatic 292, 3) := by decide +kernel
theorem dL_law__2121 : decode cL_law_ 2121 = .ok (.istore 5, 2) := by decide +kernel
theorem dL_law__2123 : decode cL_law_ 2123 = .ok (.aload_n 2, 1) := by decide +kernel
theorem dL_law__2124 : decode cL_law_ 2124 = .ok (.aload_n 0, 1) := by decide +kernel
theorem dL_law__2125 : decode cL_law_ 2125 = .ok (.iload 4, 2) := by decide +kernel
theorem dL_law__2127 : decode cL_law_ 2127 = .ok (.iconst 1, 1) := by decide +kernel
theorem dL_law__2128 : decode cL_law_ 2128 = .ok (.iadd, 1) := by decide +kernel
theorem dL_law__2129 : decode cL_law_ 2129 = .ok (.iaload, 1) := by decide +kernel
theorem dL_law__2130 : decode cL_law_ 2130 = .ok (.aload_n 0, 1) := by decide +kernel
theorem dL_law__2131 : decode cL_law_ 2131 = .ok (.iload 4, 2) := by decide +kernel
theorem dL_law__2133 : decode cL_law_ 2133 = .ok (.iconst 2, 1) := by decide +kernel
theorem dL_law__2134 : decode cL_law_ 2134 = .ok (.iadd, 1) := by decide +kernel
theorem dL_law__2135 : decode cL_law_ 2135 = .ok (.iaload, 1) := by decide +kernel
theorem dL_law__2136 : decode cL_law_ 2136 = .ok (.ifCond .eq 7, 3) := by decide +kernel
theorem dL_law__2139 : decode cL_law_ 2139 = .ok (.iconst 1, 1) := by decide +kernel
theorem dL_law__2140 : decode cL_law_ 2140 = .ok (.goto 4, 3) := by decide +kernel
theorem dL_law__2143 : decode cL_law_ 2143 = .ok (.iconst 0, 1) := by decide +kernel
theorem dL_law__2144 : decode cL_law_ 2144 = .ok (.invokevirtual 294, 3) := by decide +kernel
theorem dL_law__2147 : decode cL_law_ 2147 = .ok (.istore 6, 2) := by decide +kernel
theorem dL_law__2149 : decode cL_law_ 2149 = .ok (.aload_n 2, 1) := by decide +kernel
theorem dL_law__2150 : decode cL_law_ 2150 = .ok (.invokevirtual 134, 3) := by decide +kernel
theorem dL_law__2153 : decode cL_law_ 2153 = .ok (.iload 5, 2) := by decide +kernel
theorem dL_law__2155 : decode cL_law_ 2155 = .ok (.if_icmp .eq 5, 3) := by decide +kernel
theorem dL_law__2158 : decode cL_law_ 2158 = .ok (.iconst 0, 1) := by decide +kernel
theorem dL_law__2159 : decode cL_law_ 2159 = .ok (.ireturn, 1) := by decide +kernel
theorem dL_law__2160 : decode cL_law_ 2160 = .ok (.iload 5, 2) := by decide +kernel
theorem dL_law__2162 : decode cL_law_ 2162 = .ok (.ifCond .ne 15, 3) := by decide +kernel
theorem dL_law__2165 : decode cL_law_ 2165 = .ok (.aload_n 3, 1) := by decide +kernel
theorem dL_law__2166 : decode cL_law_ 2166 = .ok (.iconst 0, 1) := by decide +kernel
theorem dL_law__2167 : decode cL_law_ 2167 = .ok (.laload, 1) := by decide +kernel
theorem dL_law__2168 : decode cL_law_ 2168 = .ok (.iload 6, 2) := by decide +kernel
theorem dL_law__2170 : decode cL_law_ 2170 = .ok (.i2l, 1) := by decide +kernel
theorem dL_law__2171 : decode cL_law_ 2171 = .ok (.lcmp, 1) := by decide +kernel
theorem dL_law__2172 : decode cL_law_ 2172 = .ok (.ifCond .eq 5, 3) := by decide +kernel
theorem dL_law__2175 : decode cL_law_ 2175 = .ok (.iconst 0, 1) := by decide +kernel
theorem dL_law__2176 : decode cL_law_ 2176 = .ok (.ireturn, 1) := by decide +kernel
theorem dL_law__2177 : decode cL_law_ 2177 = .ok (.goto 410, 3) := by decide +kernel
theorem dL_law__2180 : decode cL_law_ 2180 = .ok (.aload_n 1, 1) := by decide +kernel
theorem dL_law__2181 : decode cL_law_ 2181 = .ok (.aload_n 0, 1) := by decide +kernel
theorem dL_law__2182 : decode cL_law_ 2182 = .ok (.iload 4, 2) := by decide +kernel
theorem dL_law__2184 : decode cL_law_ 2184 = .ok (.iconst 1, 1) := by decide +kernel
theorem dL_law__2185 : decode cL_law_ 2185 = .ok (.iadd, 1) := by decide +kernel
theorem dL_law__2186 : decode cL_law_ 2186 = .ok (.iaload, 1) := by decide +kernel
theorem dL_law__2187 : decode cL_law_ 2187 = .ok (.aload_n 0, 1) := by decide +kernel
theorem dL_law__2188 : decode cL_law_ 2188 = .ok (.iload 4, 2) := by decide +kernel
theorem dL_law__2190 : decode cL_law_ 2190 = .ok (.iconst 2, 1) := by decide +kernel
theorem dL_law__2191 : decode cL_law_ 2191 = .ok (.iadd, 1) := by decide +kernel
theorem dL_law__2192 : decode cL_law_ 2192 = .ok (.iaload, 1) := by decide +kernel
theorem dL_law__2193 : decode cL_law_ 2193 = .ok (.ifCond .eq 7, 3) := by decide +kernel
theorem dL_law__2196 : decode cL_law_ 2196 = .ok (.iconst 1, 1) := by decide +kernel
theorem dL_law__2197 : decode cL_law_ 2197 = .ok (.goto 4, 3) := by decide +kernel
theorem dL_law__2200 : decode cL_law_ 2200 = .ok (.iconst 0, 1) := by decide +kernel
theorem dL_law__2201 : decode cL_law_ 2201 = .ok (.aload_n 3, 1) := by decide +kernel
theorem dL_law__2202 : decode cL_law_ 2202 = .ok (.invokestatic 295, 3) := by decide +kernel
theorem dL_law__2205 : decode cL_law_ 2205 = .ok (.istore 5, 2) := by decide +kernel
theorem dL_law__2207 : decode cL_law_ 2207 = .ok (.aload_n 2, 1) := by decide +kernel
theorem dL_law__2208 : decode cL_law_ 2208 = .ok (.aload_n 0, 1) := by decide +kernel
theorem dL_law__2209 : decode cL_law_ 2209 = .ok (.iload 4, 2) := by decide +kernel
theorem dL_law__2211 : decode cL_law_ 2211 = .ok (.iconst 1, 1) := by decide +kernel
theorem dL_law__2212 : decode cL_law_ 2212 = .ok (.iadd, 1) := by decide +kernel
theorem dL_law__2213 : decode cL_law_ 2213 = .ok (.iaload, 1) := by decide +kernel
theorem dL_law__2214 : decode cL_law_ 2214 = .ok (.aload_n 0, 1) := by decide +kernel
theorem dL_law__2215 : decode cL_law_ 2215 = .ok (.iload 4, 2) := by decide +kernel
theorem dL_law__2217 : decode cL_law_ 2217 = .ok (.iconst 2, 1) := by decide +kernel
theorem dL_law__2218 : decode cL_law_ 2218 = .ok (.iadd, 1) := by decide +kernel
theorem dL_law__2219 : decode cL_law_ 2219 = .ok (.iaload, 1) := by decide +kernel
theorem dL_law__2220 : decode cL_law_ 2220 = .ok (.ifCond .eq 7, 3) := by decide +kernel
theorem dL_law__2223 : decode cL_law_ 2223 = .ok (.iconst 1, 1) := by decide +kernel
theorem dL_law__2224 : decode cL_law_ 2224 = .ok (.goto 4, 3) := by decide +kernel
theorem dL_law__2227 : decode cL_law_ 2227 = .ok (.iconst 0, 1) := by decide +kernel
theorem dL_law__2228 : decode cL_law_ 2228 = .ok (.invokevirtual 297, 3) := by decide +kernel
theorem dL_law__2231 : decode cL_law_ 2231 = .ok (.istore 6, 2) := by decide +kernel
theorem dL_law__2233 : decode cL_law_ 2233 = .ok (.aload_n 2, 1) := by decide +kernel
theorem dL_law__2234 : decode cL_law_ 2234 = .ok (.invokevirtual 134, 3) := by decide +kernel
theorem dL_law__2237 : decode cL_law_ 2237 = .ok (.iload 5, 2) := by decide +kernel
theorem dL_law__2239 : decode cL_law_ 2239 = .ok (.if_icmp .eq 5, 3) := by decide +kernel
theorem dL_law__2242 : decode cL_law_ 2242 = .ok (.iconst 0, 1) := by decide +kernel
theorem dL_law__2243 : decode cL_law_ 2243 = .ok (.ireturn, 1) := by decide +kernel
theorem dL_law__2244 : decode cL_law_ 2244 = .ok (.iload 5, 2) := by decide +kernel
theorem dL_law__2246 : decode cL_law_ 2246 = .ok (.ifCond .ne 15, 3) := by decide +kernel
theorem dL_law__2249 : decode cL_law_ 2249 = .ok (.aload_n 3, 1) := by decide +kernel
theorem dL_law__2250 : decode cL_law_ 2250 = .ok (.iconst 0, 1) := by decide +kernel
theorem dL_law__2251 : decode cL_law_ 2251 = .ok (.laload, 1) := by decide +kernel
theorem dL_law__2252 : decode cL_law_ 2252 = .ok (.iload 6, 2) := by decide +kernel
theorem dL_law__2254 : decode cL_law_ 2254 = .ok (.i2l, 1) := by decide +kernel
theorem dL_law__2255 : decode cL_law_ 2255 = .ok (.lcmp, 1) := by decide +kernel
theorem dL_law__2256 : decode cL_law_ 2256 = .ok (.ifCond .eq 5, 3) := by decide +kernel
theorem dL_law__2259 : decode cL_law_ 2259 = .ok (.iconst 0, 1) := by decide +kernel
theorem dL_law__2260 : decode cL_law_ 2260 = .ok (.ireturn, 1) := by decide +kernel
theorem dL_law__2261 : decode cL_law_ 2261 = .ok (.goto 326, 3) := by decide +kernel
theorem dL_law__2264 : decode cL_law_ 2264 = .ok (.aload_n 1, 1) := by decide +kernel
theorem dL_law__2265 : decode cL_law_ 2265 = .ok (.aload_n 0, 1) := by decide +kernel
theorem dL_law__2266 : decode cL_law_ 2266 = .ok (.iload 4, 2) := by decide +kernel
theorem dL_law__2268 : decode cL_law_ 2268 = .ok (.iconst 1, 1) := by decide +kernel
theorem dL_law__2269 : decode cL_law_ 2269 = .ok (.iadd, 1) := by decide +kernel
theorem dL_law__2270 : decode cL_law_ 2270 = .ok (.iaload, 1) := by decide +kernel
theorem dL_law__2271 : decode cL_law_ 2271 = .ok (.aload_n 0, 1) := by decide +kernel
theorem dL_law__2272 : decode cL_law_ 2272 = .ok (.iload 4, 2) := by decide +kernel
theorem dL_law__2274 : decode cL_law_ 2274 = .ok (.iconst 2, 1) := by decide +kernel
theorem dL_law__2275 : decode cL_law_ 2275 = .ok (.iadd, 1) := by decide +kernel
theorem dL_law__2276 : decode cL_law_ 2276 = .ok (.iaload, 1) := by decide +kernel
theorem dL_law__2277 : decode cL_law_ 2277 = .ok (.ifCond .eq 7, 3) := by decide +kernel
theorem dL_law__2280 : decode cL_law_ 2280 = .ok (.iconst 1, 1) := by decide +kernel
theorem dL_law__2281 : decode cL_law_ 2281 = .ok (.goto 4, 3) := by decide +kernel
theorem dL_law__2284 : decode cL_law_ 2284 = .ok (.iconst 0, 1) := by decide +kernel
theorem dL_law__2285 : decode cL_law_ 2285 = .ok (.aload_n 3, 1) := by decide +kernel
theorem dL_law__2286 : decode cL_law_ 2286 = .ok (.invokestatic 298, 3) := by decide +kernel
theorem dL_law__2289 : decode cL_law_ 2289 = .ok (.istore 5, 2) := by decide +kernel
theorem dL_law__2291 : decode cL_law_ 2291 = .ok (.aload_n 2, 1) := by decide +kernel
theorem dL_law__2292 : decode cL_law_ 2292 = .ok (.aload_n 0, 1) := by decide +kernel
theorem dL_law__2293 : decode cL_law_ 2293 = .ok (.iload 4, 2) := by decide +kernel
theorem dL_law__2295 : decode cL_law_ 2295 = .ok (.iconst 1, 1) := by decide +kernel
theorem dL_law__2296 : decode cL_law_ 2296 = .ok (.iadd, 1) := by decide +kernel
theorem dL_law__2297 : decode cL_law_ 2297 = .ok (.iaload, 1) := by decide +kernel
theorem dL_law__2298 : decode cL_law_ 2298 = .ok (.aload_n 0, 1) := by decide +kernel
theorem dL_law__2299 : decode cL_law_ 2299 = .ok (.iload 4, 2) := by decide +kernel
theorem dL_law__2301 : decode cL_law_ 2301 = .ok (.iconst 2, 1) := by decide +kernel
theorem dL_law__2302 : decode cL_law_ 2302 = .ok (.iadd, 1) := by decide +kernel
theorem dL_law__2303 : decode cL_law_ 2303 = .ok (.iaload, 1) := by decide +kernel
theorem dL_law__2304 : decode cL_law_ 2304 = .ok (.ifCond .eq 7, 3) := by decide +kernel
theorem dL_law__2307 : decode cL_law_ 2307 = .ok (.iconst 1, 1) := by decide +kernel
theorem dL_law__2308 : decode cL_law_ 2308 = .ok (.goto 4, 3) := by decide +kernel
theorem dL_law__2311 : decode cL_law_ 2311 = .ok (.iconst 0, 1) := by decide +kernel
theorem dL_law__2312 : decode cL_law_ 2312 = .ok (.invokevirtual 300, 3) := by decide +kernel
theorem dL_law__2315 : decode cL_law_ 2315 = .ok (.istore 6, 2) := by decide +kernel
theorem dL_law__2317 : decode cL_law_ 2317 = .ok (.aload_n 2, 1) := by decide +kernel
theorem dL_law__2318 : decode cL_law_ 2318 = .ok (.invokevirtual 134, 3) := by decide +kernel
theorem dL_law__2321 : decode cL_law_ 2321 = .ok (.iload 5, 2) := by decide +kernel
theorem dL_law__2323 : decode cL_law_ 2323 = .ok (.if_icmp .eq 5, 3) := by decide +kernel
theorem dL_law__2326 : decode cL_law_ 2326 = .ok (.iconst 0, 1) := by decide +kernel
theorem dL_law__2327 : decode cL_law_ 2327 = .ok (.ireturn, 1) := by decide +kernel
theorem dL_law__2328 : decode cL_law_ 2328 = .ok (.iload 5, 2) := by decide +kernel
theorem dL_law__2330 : decode cL_law_ 2330 = .ok (.ifCond .ne 15, 3) := by decide +kernel
theorem dL_law__2333 : decode cL_law_ 2333 = .ok (.aload_n 3, 1) := by decide +kernel
theorem dL_law__2334 : decode cL_law_ 2334 = .ok (.iconst 0, 1) := by decide +kernel
theorem dL_law__2335 : decode cL_law_ 2335 = .ok (.laload, 1) := by decide +kernel
theorem dL_law__2336 : decode cL_law_ 2336 = .ok (.iload 6, 2) := by decide +kernel
theorem dL_law__2338 : decode cL_law_ 2338 = .ok (.i2l, 1) := by decide +kernel
theorem dL_law__2339 : decode cL_law_ 2339 = .ok (.lcmp, 1) := by decide +kernel
theorem dL_law__2340 : decode cL_law_ 2340 = .ok (.ifCond .eq 5, 3) := by decide +kernel
theorem dL_law__2343 : decode cL_law_ 2343 = .ok (.iconst 0, 1) := by decide +kernel
theorem dL_law__2344 : decode cL_law_ 2344 = .ok (.ireturn, 1) := by decide +kernel
theorem dL_law__2345 : decode cL_law_ 2345 = .ok (.goto 242, 3) := by decide +kernel
theorem dL_law__2348 : decode cL_law_ 2348 = .ok (.aload_n 1, 1) := by decide +kernel
theorem dL_law__2349 : decode cL_law_ 2349 = .ok (.aload_n 0, 1) := by decide +kernel
theorem dL_law__2350 : decode cL_law_ 2350 = .ok (.iload 4, 2) := by decide +kernel
theorem dL_law__2352 : decode cL_law_ 2352 = .ok (.iconst 1, 1) := by decide +kernel
theorem dL_law__2353 : decode cL_law_ 2353 = .ok (.iadd, 1) := by decide +kernel
theorem dL_law__2354 : decode cL_law_ 2354 = .ok (.iaload, 1) := by decide +kernel
theorem dL_law__2355 : decode cL_law_ 2355 = .ok (.aload_n 0, 1) := by decide +kernel
theorem dL_law__2356 : decode cL_law_ 2356 = .ok (.iload 4, 2) := by decide +kernel
theorem dL_law__2358 : decode cL_law_ 2358 = .ok (.iconst 2, 1) := by decide +kernel
theorem dL_law__2359 : decode cL_law_ 2359 = .ok (.iadd, 1) := by decide +kernel
theorem dL_law__2360 : decode cL_law_ 2360 = .ok (.iaload, 1) := by decide +kernel
theorem dL_law__2361 : decode cL_law_ 2361 = .ok (.ifCond .eq 7, 3) := by decide +kernel
theorem dL_law__2364 : decode cL_law_ 2364 = .ok (.iconst 1, 1) := by decide +kernel
theorem dL_law__2365 : decode cL_law_ 2365 = .ok (.goto 4, 3) := by decide +kernel
theorem dL_law__2368 : decode cL_law_ 2368 = .ok (.iconst 0, 1) := by decide +kernel
theorem dL_law__2369 : decode cL_law_ 2369 = .ok (.aload_n 3, 1) := by decide +kernel
theorem dL_law__2370 : decode cL_law_ 2370 = .ok (.invokestatic 301, 3) := by decide +kernel
theorem dL_law__2373 : decode cL_law_ 2373 = .ok (.istore 5, 2) := by decide +kernel
theorem dL_law__2375 : decode cL_law_ 2375 = .ok (.aload_n 2, 1) := by decide +kernel
theorem dL_law__2376 : decode cL_law_ 2376 = .ok (.aload_n 0, 1) := by decide +kernel
theorem dL_law__2377 : decode cL_law_ 2377 = .ok (.iload 4, 2) := by decide +kernel
theorem dL_law__2379 : decode cL_law_ 2379 = .ok (.iconst 1, 1) := by decide +kernel
theorem dL_law__2380 : decode cL_law_ 2380 = .ok (.iadd, 1) := by decide +kernel
theorem dL_law__2381 : decode cL_law_ 2381 = .ok (.iaload, 1) := by decide +kernel
theorem dL_law__2382 : decode cL_law_ 2382 = .ok (.aload_n 0, 1) := by decide +kernel
theorem dL_law__2383 : decode cL_law_ 2383 = .ok (.iload 4, 2) := by decide +kernel
theorem dL_law__2385 : decode cL_law_ 2385 = .ok (.iconst 2, 1) := by decide +kernel
theorem dL_law__2386 : decode cL_law_ 2386 = .ok (.iadd, 1) := by decide +kernel
theorem dL_law__2387 : decode cL_law_ 2387 = .ok (.iaload, 1) := by decide +kernel
theorem dL_law__2388 : decode cL_law_ 2388 = .ok (.ifCond .eq 7, 3) := by decide +kernel
theorem dL_law__2391 : decode cL_law_ 2391 = .ok (.iconst 1, 1) := by decide +kernel
theorem dL_law__2392 : decode cL_law_ 2392 = .ok (.goto 4, 3) := by decide +kernel
theorem dL_law__2395 : decode cL_law_ 2395 = .ok (.iconst 0, 1) := by decide +kernel
theorem dL_law__2396 : decode cL_law_ 2396 = .ok (.invokevirtual 303, 3) := by decide +kernel
theorem dL_law__2399 : decode cL_law_ 2399 = .ok (.istore 6, 2) := by decide +kernel
theorem dL_law__2401 : decode cL_law_ 2401 = .ok (.aload_n 2, 1) := by decide +kernel
theorem dL_law__2402 : decode cL_law_ 2402 = .ok (.invokevirtual 134, 3) := by decide +kernel
theorem dL_law__2405 : decode cL_law_ 2405 = .ok (.iload 5, 2) := by decide +kernel
theorem dL_law__2407 : decode cL_law_ 2407 = .ok (.if_icmp .eq 5, 3) := by decide +kernel
theorem dL_law__2410 : decode cL_law_ 2410 = .ok (.iconst 0, 1) := by decide +kernel
theorem dL_law__2411 : decode cL_law_ 2411 = .ok (.ireturn, 1) := by decide +kernel
theorem dL_law__2412 : decode cL_law_ 2412 = .ok (.iload 5, 2) := by decide +kernel
theorem dL_law__2414 : decode cL_law_ 2414 = .ok (.ifCond .ne 15, 3) := by decide +kernel
theorem dL_law__2417 : decode cL_law_ 2417 = .ok (.aload_n 3, 1) := by decide +kernel
theorem dL_law__2418 : decode cL_law_ 2418 = .ok (.iconst 0, 1) := by decide +kernel
theorem dL_law__2419 : decode cL_law_ 2419 = .ok (.laload, 1) := by decide +kernel
theorem dL_law__2420 : decode cL_law_ 2420 = .ok (.iload 6, 2) := by decide +kernel
theorem dL_law__2422 : decode cL_law_ 2422 = .ok (.i2l, 1) := by decide +kernel
theorem dL_law__2423 : decode cL_law_ 2423 = .ok (.lcmp, 1) := by decide +kernel
theorem dL_law__2424 : decode cL_law_ 2424 = .ok (.ifCond .eq 5, 3) := by decide +kernel
theorem dL_law__2427 : decode cL_law_ 2427 = .ok (.iconst 0, 1) := by decide +kernel
theorem dL_law__2428 : decode cL_law_ 2428 = .ok (.ireturn, 1) := by decide +kernel
theorem dL_law__2429 : decode cL_law_ 2429 = .ok (.goto 158, 3) := by decide +kernel
theorem dL_law__2432 : decode cL_law_ 2432 = .ok (.aload_n 1, 1) := by decide +kernel
theorem dL_law__2433 : decode cL_law_ 2433 = .ok (.aload_n 0, 1) := by decide +kernel
theorem dL_law__2434 : decode cL_law_ 2434 = .ok (.iload 4, 2) := by decide +kernel
theorem dL_law__2436 : decode cL_law_ 2436 = .ok (.iconst 1, 1) := by decide +kernel
theorem dL_law__2437 : decode cL_law_ 2437 = .ok (.iadd, 1) := by decide +kernel
theorem dL_law__2438 : decode cL_law_ 2438 = .ok (.iaload, 1) := by decide +kernel
theorem dL_law__2439 : decode cL_law_ 2439 = .ok (.aload_n 0, 1) := by decide +kernel
theorem dL_law__2440 : decode cL_law_ 2440 = .ok (.iload 4, 2) := by decide +kernel
theorem dL_law__2442 : decode cL_law_ 2442 = .ok (.iconst 2, 1) := by decide +kernel
theorem dL_law__2443 : decode cL_law_ 2443 = .ok (.iadd, 1) := by decide +kernel
theorem dL_law__2444 : decode cL_law_ 2444 = .ok (.iaload, 1) := by decide +kernel
theorem dL_law__2445 : decode cL_law_ 2445 = .ok (.aload_n 3, 1) := by decide +kernel
theorem dL_law__2446 : decode cL_law_ 2446 = .ok (.invokestatic 304, 3) := by decide +kernel
theorem dL_law__2449 : decode cL_law_ 2449 = .ok (.istore 5, 2) := by decide +kernel
theorem dL_law__2451 : decode cL_law_ 2451 = .ok (.aload_n 2, 1) := by decide +kernel
theorem dL_law__2452 : decode cL_law_ 2452 = .ok (.aload_n 0, 1) := by decide +kernel
theorem dL_law__2453 : decode cL_law_ 2453 = .ok (.iload 4, 2) := by decide +kernel
theorem dL_law__2455 : decode cL_law_ 2455 = .ok (.iconst 1, 1) := by decide +kernel
theorem dL_law__2456 : decode cL_law_ 2456 = .ok (.iadd, 1) := by decide +kernel
theorem dL_law__2457 : decode cL_law_ 2457 = .ok (.iaload, 1) := by decide +kernel
theorem dL_law__2458 : decode cL_law_ 2458 = .ok (.aload_n 0, 1) := by decide +kernel
theorem dL_law__2459 : decode cL_law_ 2459 = .ok (.iload 4, 2) := by decide +kernel
theorem dL_law__2461 : decode cL_law_ 2461 = .ok (.iconst 2, 1) := by decide +kernel
theorem dL_law__2462 : decode cL_law_ 2462 = .ok (.iadd, 1) := by decide +kernel
theorem dL_law__2463 : decode cL_law_ 2463 = .ok (.iaload, 1) := by decide +kernel
theorem dL_law__2464 : decode cL_law_ 2464 = .ok (.invokevirtual 306, 3) := by decide +kernel
theorem dL_law__2467 : decode cL_law_ 2467 = .ok (.istore 6, 2) := by decide +kernel
theorem dL_law__2469 : decode cL_law_ 2469 = .ok (.aload_n 2, 1) := by decide +kernel
theorem dL_law__2470 : decode cL_law_ 2470 = .ok (.invokevirtual 134, 3) := by decide +kernel
theorem dL_law__2473 : decode cL_law_ 2473 = .ok (.iload 5, 2) := by decide +kernel
theorem dL_law__2475 : decode cL_law_ 2475 = .ok (.if_icmp .eq 5, 3) := by decide +kernel
theorem dL_law__2478 : decode cL_law_ 2478 = .ok (.iconst 0, 1) := by decide +kernel
theorem dL_law__2479 : decode cL_law_ 2479 = .ok (.ireturn, 1) := by decide +kernel
theorem dL_law__2480 : decode cL_law_ 2480 = .ok (.iload 5, 2) := by decide +kernel
theorem dL_law__2482 : decode cL_law_ 2482 = .ok (.ifCond .ne 15, 3) := by decide +kernel
theorem dL_law__2485 : decode cL_law_ 2485 = .ok (.aload_n 3, 1) := by decide +kernel
theorem dL_law__2486 : decode cL_law_ 2486 = .ok (.iconst 0, 1) := by decide +kernel
theorem dL_law__2487 : decode cL_law_ 2487 = .ok (.laload, 1) := by decide +kernel
theorem dL_law__2488 : decode cL_law_ 2488 = .ok (.iload 6, 2) := by decide +kernel
theorem dL_law__2490 : decode cL_law_ 2490 = .ok (.i2l, 1) := by decide +kernel
theorem dL_law__2491 : decode cL_law_ 2491 = .ok (.lcmp, 1) := by decide +kernel
theorem dL_law__2492 : decode cL_law_ 2492 = .ok (.ifCond .eq 5, 3) := by decide +kernel
theorem dL_law__2495 : decode cL_law_ 2495 = .ok (.iconst 0, 1) := by decide +kernel
theorem dL_law__2496 : decode cL_law_ 2496 = .ok (.ireturn, 1) := by decide +kernel
theorem dL_law__2497 : decode cL_law_ 2497 = .ok (.goto 90, 3) := by decide +kernel
theorem dL_law__2500 : decode cL_law_ 2500 = .ok (.aload_n 1, 1) := by decide +kernel
theorem dL_law__2501 : decode cL_law_ 2501 = .ok (.aload_n 0, 1) := by decide +kernel
theorem dL_law__2502 : decode cL_law_ 2502 = .ok (.iload 4, 2) := by decide +kernel
theorem dL_law__2504 : decode cL_law_ 2504 = .ok (.iconst 1, 1) := by decide +kernel
theorem dL_law__2505 : decode cL_law_ 2505 = .ok (.iadd, 1) := by decide +kernel
theorem dL_law__2506 : decode cL_law_ 2506 = .ok (.iaload, 1) := by decide +kernel
theorem dL_law__2507 : decode cL_law_ 2507 = .ok (.invokevirtual 307, 3) := by decide +kernel
theorem dL_law__2510 : decode cL_law_ 2510 = .ok (.aload_n 2, 1) := by decide +kernel
theorem dL_law__2511 : decode cL_law_ 2511 = .ok (.aload_n 0, 1) := by decide +kernel
theorem dL_law__2512 : decode cL_law_ 2512 = .ok (.iload 4, 2) := by decide +kernel
theorem dL_law__2514 : decode cL_law_ 2514 = .ok (.iconst 1, 1) := by decide +kernel
theorem dL_law__2515 : decode cL_law_ 2515 = .ok (.iadd, 1) := by decide +kernel
theorem dL_law__2516 : decode cL_law_ 2516 = .ok (.iaload, 1) := by decide +kernel
theorem dL_law__2517 : decode cL_law_ 2517 = .ok (.invokevirtual 310, 3) := by decide +kernel
theorem dL_law__2520 : decode cL_law_ 2520 = .ok (.if_icmp .eq 67, 3) := by decide +kernel
theorem dL_law__2523 : decode cL_law_ 2523 = .ok (.iconst 0, 1) := by decide +kernel
theorem dL_law__2524 : decode cL_law_ 2524 = .ok (.ireturn, 1) := by decide +kernel
theorem dL_law__2525 : decode cL_law_ 2525 = .ok (.aload_n 1, 1) := by decide +kernel
theorem dL_law__2526 : decode cL_law_ 2526 = .ok (.invokevirtual 311, 3) := by decide +kernel
theorem dL_law__2529 : decode cL_law_ 2529 = .ok (.aload_n 2, 1) := by decide +kernel
theorem dL_law__2530 : decode cL_law_ 2530 = .ok (.invokevirtual 314, 3) := by decide +kernel
theorem dL_law__2533 : decode cL_law_ 2533 = .ok (.if_icmp .eq 54, 3) := by decide +kernel
theorem dL_law__2536 : decode cL_law_ 2536 = .ok (.iconst 0, 1) := by decide +kernel
theorem dL_law__2537 : decode cL_law_ 2537 = .ok (.ireturn, 1) := by decide +kernel
theorem dL_law__2538 : decode cL_law_ 2538 = .ok (.aload_n 1, 1) := by decide +kernel
theorem dL_law__2539 : decode cL_law_ 2539 = .ok (.invokevirtual 315, 3) := by decide +kernel
theorem dL_law__2542 : decode cL_law_ 2542 = .ok (.aload_n 2, 1) := by decide +kernel
theorem dL_law__2543 : decode cL_law_ 2543 = .ok (.invokevirtual 318, 3) := by decide +kernel
theorem dL_law__2546 : decode cL_law_ 2546 = .ok (.goto 41, 3) := by decide +kernel
theorem dL_law__2549 : decode cL_law_ 2549 = .ok (.aload_n 1, 1) := by decide +kernel
theorem dL_law__2550 : decode cL_law_ 2550 = .ok (.invokevirtual 319, 3) := by decide +kernel
theorem dL_law__2553 : decode cL_law_ 2553 = .ok (.aload_n 2, 1) := by decide +kernel
theorem dL_law__2554 : decode cL_law_ 2554 = .ok (.invokevirtual 322, 3) := by decide +kernel
theorem dL_law__2557 : decode cL_law_ 2557 = .ok (.if_icmp .eq 30, 3) := by decide +kernel
theorem dL_law__2560 : decode cL_law_ 2560 = .ok (.iconst 0, 1) := by decide +kernel
theorem dL_law__2561 : decode cL_law_ 2561 = .ok (.ireturn, 1) := by decide +kernel
theorem dL_law__2562 : decode cL_law_ 2562 = .ok (.aload_n 1, 1) := by decide +kernel
theorem dL_law__2563 : decode cL_law_ 2563 = .ok (.aload_n 0, 1) := by decide +kernel
theorem dL_law__2564 : decode cL_law_ 2564 = .ok (.iload 4, 2) := by decide +kernel
theorem dL_law__2566 : decode cL_law_ 2566 = .ok (.iconst 1, 1) := by decide +kernel
theorem dL_law__2567 : decode cL_law_ 2567 = .ok (.iadd, 1) := by decide +kernel
theorem dL_law__2568 : decode cL_law_ 2568 = .ok (.iaload, 1) := by decide +kernel
theorem dL_law__2569 : decode cL_law_ 2569 = .ok (.invokevirtual 323, 3) := by decide +kernel
theorem dL_law__2572 : decode cL_law_ 2572 = .ok (.aload_n 2, 1) := by decide +kernel
theorem dL_law__2573 : decode cL_law_ 2573 = .ok (.aload_n 0, 1) := by decide +kernel
theorem dL_law__2574 : decode cL_law_ 2574 = .ok (.iload 4, 2) := by decide +kernel
theorem dL_law__2576 : decode cL_law_ 2576 = .ok (.iconst 1, 1) := by decide +kernel
theorem dL_law__2577 : decode cL_law_ 2577 = .ok (.iadd, 1) := by decide +kernel
theorem dL_law__2578 : decode cL_law_ 2578 = .ok (.iaload, 1) := by decide +kernel
theorem dL_law__2579 : decode cL_law_ 2579 = .ok (.invokevirtual 326, 3) := by decide +kernel
theorem dL_law__2582 : decode cL_law_ 2582 = .ok (.if_icmp .eq 5, 3) := by decide +kernel
theorem dL_law__2585 : decode cL_law_ 2585 = .ok (.iconst 0, 1) := by decide +kernel
theorem dL_law__2586 : decode cL_law_ 2586 = .ok (.ireturn, 1) := by decide +kernel
theorem dL_law__2587 : decode cL_law_ 2587 = .ok (.iinc 4 6, 3) := by decide +kernel
theorem dL_law__2590 : decode cL_law_ 2590 = .ok (.goto (-2567), 3) := by decide +kernel
theorem dL_law__2593 : decode cL_law_ 2593 = .ok (.iconst 1, 1) := by decide +kernel
theorem dL_law__2594 : decode cL_law_ 2594 = .ok (.ireturn, 1) := by decide +kernel

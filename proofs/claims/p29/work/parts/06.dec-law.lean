theorem dL_draw_0 : decode cL_draw 0 = .ok (.iload_n 1, 1) := by decide +kernel
theorem dL_draw_1 : decode cL_draw 1 = .ok (.aload_n 0, 1) := by decide +kernel
theorem dL_draw_2 : decode cL_draw 2 = .ok (.arraylength, 1) := by decide +kernel
theorem dL_draw_3 : decode cL_draw 3 = .ok (.if_icmp .ge 9, 3) := by decide +kernel
theorem dL_draw_6 : decode cL_draw 6 = .ok (.aload_n 0, 1) := by decide +kernel
theorem dL_draw_7 : decode cL_draw 7 = .ok (.iload_n 1, 1) := by decide +kernel
theorem dL_draw_8 : decode cL_draw 8 = .ok (.iaload, 1) := by decide +kernel
theorem dL_draw_9 : decode cL_draw 9 = .ok (.goto 11, 3) := by decide +kernel
theorem dL_draw_12 : decode cL_draw 12 = .ok (.ldc 7, 2) := by decide +kernel
theorem dL_draw_14 : decode cL_draw 14 = .ok (.iload_n 1, 1) := by decide +kernel
theorem dL_draw_15 : decode cL_draw 15 = .ok (.imul, 1) := by decide +kernel
theorem dL_draw_16 : decode cL_draw 16 = .ok (.sipush 10861, 3) := by decide +kernel
theorem dL_draw_19 : decode cL_draw 19 = .ok (.iadd, 1) := by decide +kernel
theorem dL_draw_20 : decode cL_draw 20 = .ok (.ldc 8, 2) := by decide +kernel
theorem dL_draw_22 : decode cL_draw 22 = .ok (.iand, 1) := by decide +kernel
theorem dL_draw_23 : decode cL_draw 23 = .ok (.ireturn, 1) := by decide +kernel
theorem dL_in_0 : decode cL_in 0 = .ok (.lload_n 0, 1) := by decide +kernel
theorem dL_in_1 : decode cL_in 1 = .ok (.lload_n 2, 1) := by decide +kernel
theorem dL_in_2 : decode cL_in 2 = .ok (.lcmp, 1) := by decide +kernel
theorem dL_in_3 : decode cL_in 3 = .ok (.ifCond .lt 14, 3) := by decide +kernel
theorem dL_in_6 : decode cL_in 6 = .ok (.lload_n 0, 1) := by decide +kernel
theorem dL_in_7 : decode cL_in 7 = .ok (.lload 4, 2) := by decide +kernel
theorem dL_in_9 : decode cL_in 9 = .ok (.lcmp, 1) := by decide +kernel
theorem dL_in_10 : decode cL_in 10 = .ok (.ifCond .gt 7, 3) := by decide +kernel
theorem dL_in_13 : decode cL_in 13 = .ok (.iconst 1, 1) := by decide +kernel
theorem dL_in_14 : decode cL_in 14 = .ok (.goto 4, 3) := by decide +kernel
theorem dL_in_17 : decode cL_in 17 = .ok (.iconst 0, 1) := by decide +kernel
theorem dL_in_18 : decode cL_in 18 = .ok (.ireturn, 1) := by decide +kernel
theorem dL_append_0 : decode cL_append 0 = .ok (.aload_n 0, 1) := by decide +kernel
theorem dL_append_1 : decode cL_append 1 = .ok (.iload_n 1, 1) := by decide +kernel
theorem dL_append_2 : decode cL_append 2 = .ok (.invokevirtual 9, 3) := by decide +kernel
theorem dL_append_5 : decode cL_append 5 = .ok (.i2l, 1) := by decide +kernel
theorem dL_append_6 : decode cL_append 6 = .ok (.lreturn, 1) := by decide +kernel
theorem dL_append_7 : decode cL_append 7 = .ok (.astore_n 2, 1) := by decide +kernel
theorem dL_append_8 : decode cL_append 8 = .ok (.ldc2_w 17, 3) := by decide +kernel
theorem dL_append_11 : decode cL_append 11 = .ok (.lreturn, 1) := by decide +kernel
theorem dL_append_12 : decode cL_append 12 = .ok (.astore_n 2, 1) := by decide +kernel
theorem dL_append_13 : decode cL_append 13 = .ok (.ldc2_w 21, 3) := by decide +kernel
theorem dL_append_16 : decode cL_append 16 = .ok (.lreturn, 1) := by decide +kernel
theorem dL_load_0 : decode cL_load 0 = .ok (.aload_n 0, 1) := by decide +kernel
theorem dL_load_1 : decode cL_load 1 = .ok (.invokevirtual 23, 3) := by decide +kernel
theorem dL_load_4 : decode cL_load 4 = .ok (.i2l, 1) := by decide +kernel
theorem dL_load_5 : decode cL_load 5 = .ok (.lreturn, 1) := by decide +kernel
theorem dL_load_6 : decode cL_load 6 = .ok (.astore_n 1, 1) := by decide +kernel
theorem dL_load_7 : decode cL_load 7 = .ok (.ldc2_w 21, 3) := by decide +kernel
theorem dL_load_10 : decode cL_load 10 = .ok (.lreturn, 1) := by decide +kernel
theorem dL_about_0 : decode cL_about 0 = .ok (.aload_n 0, 1) := by decide +kernel
theorem dL_about_1 : decode cL_about 1 = .ok (.iload_n 1, 1) := by decide +kernel
theorem dL_about_2 : decode cL_about 2 = .ok (.invokevirtual 27, 3) := by decide +kernel
theorem dL_about_5 : decode cL_about 5 = .ok (.i2l, 1) := by decide +kernel
theorem dL_about_6 : decode cL_about 6 = .ok (.lreturn, 1) := by decide +kernel
theorem dL_about_7 : decode cL_about 7 = .ok (.astore_n 2, 1) := by decide +kernel
theorem dL_about_8 : decode cL_about 8 = .ok (.ldc2_w 17, 3) := by decide +kernel
theorem dL_about_11 : decode cL_about 11 = .ok (.lreturn, 1) := by decide +kernel
theorem dL_gutterOf_0 : decode cL_gutterOf 0 = .ok (.aload_n 0, 1) := by decide +kernel
theorem dL_gutterOf_1 : decode cL_gutterOf 1 = .ok (.iload_n 1, 1) := by decide +kernel
theorem dL_gutterOf_2 : decode cL_gutterOf 2 = .ok (.iload_n 2, 1) := by decide +kernel
theorem dL_gutterOf_3 : decode cL_gutterOf 3 = .ok (.invokevirtual 30, 3) := by decide +kernel
theorem dL_gutterOf_6 : decode cL_gutterOf 6 = .ok (.i2l, 1) := by decide +kernel
theorem dL_gutterOf_7 : decode cL_gutterOf 7 = .ok (.lreturn, 1) := by decide +kernel
theorem dL_gutterOf_8 : decode cL_gutterOf 8 = .ok (.astore_n 3, 1) := by decide +kernel
theorem dL_gutterOf_9 : decode cL_gutterOf 9 = .ok (.ldc2_w 36, 3) := by decide +kernel
theorem dL_gutterOf_12 : decode cL_gutterOf 12 = .ok (.lreturn, 1) := by decide +kernel
theorem dL_gutterOf_13 : decode cL_gutterOf 13 = .ok (.astore_n 3, 1) := by decide +kernel
theorem dL_gutterOf_14 : decode cL_gutterOf 14 = .ok (.ldc2_w 17, 3) := by decide +kernel
theorem dL_gutterOf_17 : decode cL_gutterOf 17 = .ok (.lreturn, 1) := by decide +kernel
theorem dL_boatOf_0 : decode cL_boatOf 0 = .ok (.aload_n 0, 1) := by decide +kernel
theorem dL_boatOf_1 : decode cL_boatOf 1 = .ok (.iload_n 1, 1) := by decide +kernel
theorem dL_boatOf_2 : decode cL_boatOf 2 = .ok (.iload_n 2, 1) := by decide +kernel
theorem dL_boatOf_3 : decode cL_boatOf 3 = .ok (.invokevirtual 38, 3) := by decide +kernel
theorem dL_boatOf_6 : decode cL_boatOf 6 = .ok (.i2l, 1) := by decide +kernel
theorem dL_boatOf_7 : decode cL_boatOf 7 = .ok (.lreturn, 1) := by decide +kernel
theorem dL_boatOf_8 : decode cL_boatOf 8 = .ok (.astore_n 3, 1) := by decide +kernel
theorem dL_boatOf_9 : decode cL_boatOf 9 = .ok (.ldc2_w 36, 3) := by decide +kernel
theorem dL_boatOf_12 : decode cL_boatOf 12 = .ok (.lreturn, 1) := by decide +kernel
theorem dL_boatOf_13 : decode cL_boatOf 13 = .ok (.astore_n 3, 1) := by decide +kernel
theorem dL_boatOf_14 : decode cL_boatOf 14 = .ok (.ldc2_w 17, 3) := by decide +kernel
theorem dL_boatOf_17 : decode cL_boatOf 17 = .ok (.lreturn, 1) := by decide +kernel
theorem dL_ownerOf_0 : decode cL_ownerOf 0 = .ok (.aload_n 0, 1) := by decide +kernel
theorem dL_ownerOf_1 : decode cL_ownerOf 1 = .ok (.iload_n 1, 1) := by decide +kernel
theorem dL_ownerOf_2 : decode cL_ownerOf 2 = .ok (.iload_n 2, 1) := by decide +kernel
theorem dL_ownerOf_3 : decode cL_ownerOf 3 = .ok (.invokevirtual 41, 3) := by decide +kernel
theorem dL_ownerOf_6 : decode cL_ownerOf 6 = .ok (.i2l, 1) := by decide +kernel
theorem dL_ownerOf_7 : decode cL_ownerOf 7 = .ok (.lreturn, 1) := by decide +kernel
theorem dL_ownerOf_8 : decode cL_ownerOf 8 = .ok (.astore_n 3, 1) := by decide +kernel
theorem dL_ownerOf_9 : decode cL_ownerOf 9 = .ok (.ldc2_w 36, 3) := by decide +kernel
theorem dL_ownerOf_12 : decode cL_ownerOf 12 = .ok (.lreturn, 1) := by decide +kernel
theorem dL_ownerOf_13 : decode cL_ownerOf 13 = .ok (.astore_n 3, 1) := by decide +kernel
theorem dL_ownerOf_14 : decode cL_ownerOf 14 = .ok (.ldc2_w 17, 3) := by decide +kernel
theorem dL_ownerOf_17 : decode cL_ownerOf 17 = .ok (.lreturn, 1) := by decide +kernel
theorem dL_way_0 : decode cL_way 0 = .ok (.aload_n 0, 1) := by decide +kernel
theorem dL_way_1 : decode cL_way 1 = .ok (.iload_n 1, 1) := by decide +kernel
theorem dL_way_2 : decode cL_way 2 = .ok (.iload_n 2, 1) := by decide +kernel
theorem dL_way_3 : decode cL_way 3 = .ok (.iload_n 3, 1) := by decide +kernel
theorem dL_way_4 : decode cL_way 4 = .ok (.invokevirtual 44, 3) := by decide +kernel
theorem dL_way_7 : decode cL_way 7 = .ok (.i2l, 1) := by decide +kernel
theorem dL_way_8 : decode cL_way 8 = .ok (.lreturn, 1) := by decide +kernel
theorem dL_way_9 : decode cL_way 9 = .ok (.astore 4, 2) := by decide +kernel
theorem dL_way_11 : decode cL_way 11 = .ok (.ldc2_w 36, 3) := by decide +kernel
theorem dL_way_14 : decode cL_way 14 = .ok (.lreturn, 1) := by decide +kernel
theorem dL_way_15 : decode cL_way 15 = .ok (.astore 4, 2) := by decide +kernel
theorem dL_way_17 : decode cL_way 17 = .ok (.ldc2_w 17, 3) := by decide +kernel
theorem dL_way_20 : decode cL_way 20 = .ok (.lreturn, 1) := by decide +kernel
theorem dL_setting_0 : decode cL_setting 0 = .ok (.aload_n 0, 1) := by decide +kernel
theorem dL_setting_1 : decode cL_setting 1 = .ok (.iload_n 1, 1) := by decide +kernel
theorem dL_setting_2 : decode cL_setting 2 = .ok (.invokevirtual 48, 3) := by decide +kernel
theorem dL_setting_5 : decode cL_setting 5 = .ok (.i2l, 1) := by decide +kernel
theorem dL_setting_6 : decode cL_setting 6 = .ok (.lreturn, 1) := by decide +kernel
theorem dL_setting_7 : decode cL_setting 7 = .ok (.astore_n 2, 1) := by decide +kernel
theorem dL_setting_8 : decode cL_setting 8 = .ok (.ldc2_w 17, 3) := by decide +kernel
theorem dL_setting_11 : decode cL_setting 11 = .ok (.lreturn, 1) := by decide +kernel
theorem dL_gutter_0 : decode cL_gutter 0 = .ok (.aload_n 0, 1) := by decide +kernel
theorem dL_gutter_1 : decode cL_gutter 1 = .ok (.iload_n 1, 1) := by decide +kernel
theorem dL_gutter_2 : decode cL_gutter 2 = .ok (.iload_n 2, 1) := by decide +kernel
theorem dL_gutter_3 : decode cL_gutter 3 = .ok (.iload_n 3, 1) := by decide +kernel
theorem dL_gutter_4 : decode cL_gutter 4 = .ok (.iload 4, 2) := by decide +kernel
theorem dL_gutter_6 : decode cL_gutter 6 = .ok (.invokevirtual 51, 3) := by decide +kernel
theorem dL_gutter_9 : decode cL_gutter 9 = .ok (.i2l, 1) := by decide +kernel
theorem dL_gutter_10 : decode cL_gutter 10 = .ok (.lreturn, 1) := by decide +kernel
theorem dL_gutter_11 : decode cL_gutter 11 = .ok (.astore 5, 2) := by decide +kernel
theorem dL_gutter_13 : decode cL_gutter 13 = .ok (.ldc2_w 36, 3) := by decide +kernel
theorem dL_gutter_16 : decode cL_gutter 16 = .ok (.lreturn, 1) := by decide +kernel
theorem dL_gutter_17 : decode cL_gutter 17 = .ok (.astore 5, 2) := by decide +kernel
theorem dL_gutter_19 : decode cL_gutter 19 = .ok (.ldc2_w 17, 3) := by decide +kernel
theorem dL_gutter_22 : decode cL_gutter 22 = .ok (.lreturn, 1) := by decide +kernel
theorem dL_gutter_23 : decode cL_gutter 23 = .ok (.astore 5, 2) := by decide +kernel
theorem dL_gutter_25 : decode cL_gutter 25 = .ok (.ldc2_w 21, 3) := by decide +kernel
theorem dL_gutter_28 : decode cL_gutter 28 = .ok (.lreturn, 1) := by decide +kernel
theorem dL_boat_0 : decode cL_boat 0 = .ok (.aload_n 0, 1) := by decide +kernel
theorem dL_boat_1 : decode cL_boat 1 = .ok (.iload_n 1, 1) := by decide +kernel
theorem dL_boat_2 : decode cL_boat 2 = .ok (.iload_n 2, 1) := by decide +kernel
theorem dL_boat_3 : decode cL_boat 3 = .ok (.iload_n 3, 1) := by decide +kernel
theorem dL_boat_4 : decode cL_boat 4 = .ok (.invokevirtual 55, 3) := by decide +kernel
theorem dL_boat_7 : decode cL_boat 7 = .ok (.i2l, 1) := by decide +kernel
theorem dL_boat_8 : decode cL_boat 8 = .ok (.lreturn, 1) := by decide +kernel
theorem dL_boat_9 : decode cL_boat 9 = .ok (.astore 4, 2) := by decide +kernel
theorem dL_boat_11 : decode cL_boat 11 = .ok (.ldc2_w 36, 3) := by decide +kernel
theorem dL_boat_14 : decode cL_boat 14 = .ok (.lreturn, 1) := by decide +kernel
theorem dL_boat_15 : decode cL_boat 15 = .ok (.astore 4, 2) := by decide +kernel
theorem dL_boat_17 : decode cL_boat 17 = .ok (.ldc2_w 17, 3) := by decide +kernel
theorem dL_boat_20 : decode cL_boat 20 = .ok (.lreturn, 1) := by decide +kernel
theorem dL_boat_21 : decode cL_boat 21 = .ok (.astore 4, 2) := by decide +kernel
theorem dL_boat_23 : decode cL_boat 23 = .ok (.ldc2_w 21, 3) := by decide +kernel
theorem dL_boat_26 : decode cL_boat 26 = .ok (.lreturn, 1) := by decide +kernel
theorem dL_launch_0 : decode cL_launch 0 = .ok (.aload_n 0, 1) := by decide +kernel
theorem dL_launch_1 : decode cL_launch 1 = .ok (.iload_n 1, 1) := by decide +kernel
theorem dL_launch_2 : decode cL_launch 2 = .ok (.iload_n 2, 1) := by decide +kernel
theorem dL_launch_3 : decode cL_launch 3 = .ok (.invokevirtual 58, 3) := by decide +kernel
theorem dL_launch_6 : decode cL_launch 6 = .ok (.i2l, 1) := by decide +kernel
theorem dL_launch_7 : decode cL_launch 7 = .ok (.lreturn, 1) := by decide +kernel
theorem dL_launch_8 : decode cL_launch 8 = .ok (.astore_n 3, 1) := by decide +kernel
theorem dL_launch_9 : decode cL_launch 9 = .ok (.ldc2_w 36, 3) := by decide +kernel
theorem dL_launch_12 : decode cL_launch 12 = .ok (.lreturn, 1) := by decide +kernel
theorem dL_launch_13 : decode cL_launch 13 = .ok (.astore_n 3, 1) := by decide +kernel
theorem dL_launch_14 : decode cL_launch 14 = .ok (.ldc2_w 21, 3) := by decide +kernel
theorem dL_launch_17 : decode cL_launch 17 = .ok (.lreturn, 1) := by decide +kernel
theorem dL_hook_0 : decode cL_hook 0 = .ok (.aload_n 0, 1) := by decide +kernel
theorem dL_hook_1 : decode cL_hook 1 = .ok (.iload_n 1, 1) := by decide +kernel
theorem dL_hook_2 : decode cL_hook 2 = .ok (.iload_n 2, 1) := by decide +kernel
theorem dL_hook_3 : decode cL_hook 3 = .ok (.iload_n 3, 1) := by decide +kernel
theorem dL_hook_4 : decode cL_hook 4 = .ok (.invokevirtual 61, 3) := by decide +kernel
theorem dL_hook_7 : decode cL_hook 7 = .ok (.i2l, 1) := by decide +kernel
theorem dL_hook_8 : decode cL_hook 8 = .ok (.lreturn, 1) := by decide +kernel
theorem dL_hook_9 : decode cL_hook 9 = .ok (.astore 4, 2) := by decide +kernel
theorem dL_hook_11 : decode cL_hook 11 = .ok (.ldc2_w 36, 3) := by decide +kernel
theorem dL_hook_14 : decode cL_hook 14 = .ok (.lreturn, 1) := by decide +kernel
theorem dL_claim_0 : decode cL_claim 0 = .ok (.aload_n 0, 1) := by decide +kernel
theorem dL_claim_1 : decode cL_claim 1 = .ok (.iload_n 1, 1) := by decide +kernel
theorem dL_claim_2 : decode cL_claim 2 = .ok (.iload_n 2, 1) := by decide +kernel
theorem dL_claim_3 : decode cL_claim 3 = .ok (.invokevirtual 64, 3) := by decide +kernel
theorem dL_claim_6 : decode cL_claim 6 = .ok (.i2l, 1) := by decide +kernel
theorem dL_claim_7 : decode cL_claim 7 = .ok (.lreturn, 1) := by decide +kernel
theorem dL_claim_8 : decode cL_claim 8 = .ok (.astore_n 3, 1) := by decide +kernel
theorem dL_claim_9 : decode cL_claim 9 = .ok (.ldc2_w 36, 3) := by decide +kernel
theorem dL_claim_12 : decode cL_claim 12 = .ok (.lreturn, 1) := by decide +kernel
theorem dL_minutes_0 : decode cL_minutes 0 = .ok (.aload_n 0, 1) := by decide +kernel
theorem dL_minutes_1 : decode cL_minutes 1 = .ok (.iload_n 1, 1) := by decide +kernel
theorem dL_minutes_2 : decode cL_minutes 2 = .ok (.invokevirtual 67, 3) := by decide +kernel
theorem dL_minutes_5 : decode cL_minutes 5 = .ok (.i2l, 1) := by decide +kernel
theorem dL_minutes_6 : decode cL_minutes 6 = .ok (.lreturn, 1) := by decide +kernel
theorem dL_minutes_7 : decode cL_minutes 7 = .ok (.astore_n 2, 1) := by decide +kernel
theorem dL_minutes_8 : decode cL_minutes 8 = .ok (.ldc2_w 17, 3) := by decide +kernel
theorem dL_minutes_11 : decode cL_minutes 11 = .ok (.lreturn, 1) := by decide +kernel
theorem dL_set_0 : decode cL_set 0 = .ok (.aload_n 0, 1) := by decide +kernel
theorem dL_set_1 : decode cL_set 1 = .ok (.iload_n 1, 1) := by decide +kernel
theorem dL_set_2 : decode cL_set 2 = .ok (.iload_n 2, 1) := by decide +kernel
theorem dL_set_3 : decode cL_set 3 = .ok (.invokevirtual 70, 3) := by decide +kernel
theorem dL_set_6 : decode cL_set 6 = .ok (.i2l, 1) := by decide +kernel
theorem dL_set_7 : decode cL_set 7 = .ok (.lreturn, 1) := by decide +kernel
theorem dL_set_8 : decode cL_set 8 = .ok (.astore_n 3, 1) := by decide +kernel
theorem dL_set_9 : decode cL_set 9 = .ok (.ldc2_w 17, 3) := by decide +kernel
theorem dL_set_12 : decode cL_set 12 = .ok (.lreturn, 1) := by decide +kernel
theorem dL_undo_0 : decode cL_undo 0 = .ok (.aload_n 0, 1) := by decide +kernel
theorem dL_undo_1 : decode cL_undo 1 = .ok (.invokevirtual 73, 3) := by decide +kernel
theorem dL_undo_4 : decode cL_undo 4 = .ok (.i2l, 1) := by decide +kernel
theorem dL_undo_5 : decode cL_undo 5 = .ok (.lreturn, 1) := by decide +kernel
theorem dL_undo_6 : decode cL_undo 6 = .ok (.astore_n 1, 1) := by decide +kernel
theorem dL_undo_7 : decode cL_undo 7 = .ok (.ldc2_w 21, 3) := by decide +kernel
theorem dL_undo_10 : decode cL_undo 10 = .ok (.lreturn, 1) := by decide +kernel
theorem dL_why_0 : decode cL_why 0 = .ok (.aload_n 0, 1) := by decide +kernel
theorem dL_why_1 : decode cL_why 1 = .ok (.iload_n 1, 1) := by decide +kernel
theorem dL_why_2 : decode cL_why 2 = .ok (.iload_n 2, 1) := by decide +kernel
theorem dL_why_3 : decode cL_why 3 = .ok (.invokevirtual 76, 3) := by decide +kernel
theorem dL_why_6 : decode cL_why 6 = .ok (.i2l, 1) := by decide +kernel
theorem dL_why_7 : decode cL_why 7 = .ok (.lreturn, 1) := by decide +kernel
theorem dL_why_8 : decode cL_why 8 = .ok (.astore_n 3, 1) := by decide +kernel
theorem dL_why_9 : decode cL_why 9 = .ok (.ldc2_w 36, 3) := by decide +kernel
theorem dL_why_12 : decode cL_why 12 = .ok (.lreturn, 1) := by decide +kernel
theorem dL_endsIn_0 : decode cL_endsIn 0 = .ok (.aload_n 0, 1) := by decide +kernel
theorem dL_endsIn_1 : decode cL_endsIn 1 = .ok (.iload_n 1, 1) := by decide +kernel
theorem dL_endsIn_2 : decode cL_endsIn 2 = .ok (.iload_n 2, 1) := by decide +kernel
theorem dL_endsIn_3 : decode cL_endsIn 3 = .ok (.invokevirtual 79, 3) := by decide +kernel
theorem dL_endsIn_6 : decode cL_endsIn 6 = .ok (.i2l, 1) := by decide +kernel
theorem dL_endsIn_7 : decode cL_endsIn 7 = .ok (.lreturn, 1) := by decide +kernel
theorem dL_endsIn_8 : decode cL_endsIn 8 = .ok (.astore_n 3, 1) := by decide +kernel
theorem dL_endsIn_9 : decode cL_endsIn 9 = .ok (.ldc2_w 36, 3) := by decide +kernel
theorem dL_endsIn_12 : decode cL_endsIn 12 = .ok (.lreturn, 1) := by decide +kernel
theorem dL_endsIn_13 : decode cL_endsIn 13 = .ok (.astore_n 3, 1) := by decide +kernel
theorem dL_endsIn_14 : decode cL_endsIn 14 = .ok (.ldc2_w 17, 3) := by decide +kernel
theorem dL_endsIn_17 : decode cL_endsIn 17 = .ok (.lreturn, 1) := by decide +kernel
theorem dL_endsIn_18 : decode cL_endsIn 18 = .ok (.astore_n 3, 1) := by decide +kernel
theorem dL_endsIn_19 : decode cL_endsIn 19 = .ok (.ldc2_w 21, 3) := by decide +kernel
theorem dL_endsIn_22 : decode cL_endsIn 22 = .ok (.lreturn, 1) := by decide +kernel
theorem dL_leastFolds_0 : decode cL_leastFolds 0 = .ok (.aload_n 0, 1) := by decide +kernel
theorem dL_leastFolds_1 : decode cL_leastFolds 1 = .ok (.iload_n 1, 1) := by decide +kernel
theorem dL_leastFolds_2 : decode cL_leastFolds 2 = .ok (.iload_n 2, 1) := by decide +kernel
theorem dL_leastFolds_3 : decode cL_leastFolds 3 = .ok (.invokevirtual 82, 3) := by decide +kernel
theorem dL_leastFolds_6 : decode cL_leastFolds 6 = .ok (.i2l, 1) := by decide +kernel
theorem dL_leastFolds_7 : decode cL_leastFolds 7 = .ok (.lreturn, 1) := by decide +kernel
theorem dL_leastFolds_8 : decode cL_leastFolds 8 = .ok (.astore_n 3, 1) := by decide +kernel
theorem dL_leastFolds_9 : decode cL_leastFolds 9 = .ok (.ldc2_w 36, 3) := by decide +kernel
theorem dL_leastFolds_12 : decode cL_leastFolds 12 = .ok (.lreturn, 1) := by decide +kernel
theorem dL_leastFolds_13 : decode cL_leastFolds 13 = .ok (.astore_n 3, 1) := by decide +kernel
theorem dL_leastFolds_14 : decode cL_leastFolds 14 = .ok (.ldc2_w 17, 3) := by decide +kernel
theorem dL_leastFolds_17 : decode cL_leastFolds 17 = .ok (.lreturn, 1) := by decide +kernel
theorem dL_script_0 : decode cL_script 0 = .ok (.aload_n 0, 1) := by decide +kernel
theorem dL_script_1 : decode cL_script 1 = .ok (.iload_n 1, 1) := by decide +kernel
theorem dL_script_2 : decode cL_script 2 = .ok (.lload_n 2, 1) := by decide +kernel
theorem dL_script_3 : decode cL_script 3 = .ok (.invokevirtual 85, 3) := by decide +kernel
theorem dL_script_6 : decode cL_script 6 = .ok (.i2l, 1) := by decide +kernel
theorem dL_script_7 : decode cL_script 7 = .ok (.lreturn, 1) := by decide +kernel
theorem dL_script_8 : decode cL_script 8 = .ok (.astore 4, 2) := by decide +kernel
theorem dL_script_10 : decode cL_script 10 = .ok (.ldc2_w 17, 3) := by decide +kernel
theorem dL_script_13 : decode cL_script 13 = .ok (.lreturn, 1) := by decide +kernel
theorem dL_simulate_0 : decode cL_simulate 0 = .ok (.aload_n 0, 1) := by decide +kernel
theorem dL_simulate_1 : decode cL_simulate 1 = .ok (.lload_n 1, 1) := by decide +kernel
theorem dL_simulate_2 : decode cL_simulate 2 = .ok (.iload_n 3, 1) := by decide +kernel
theorem dL_simulate_3 : decode cL_simulate 3 = .ok (.invokevirtual 89, 3) := by decide +kernel
theorem dL_simulate_6 : decode cL_simulate 6 = .ok (.i2l, 1) := by decide +kernel
theorem dL_simulate_7 : decode cL_simulate 7 = .ok (.lreturn, 1) := by decide +kernel
theorem dL_simulate_8 : decode cL_simulate 8 = .ok (.astore 4, 2) := by decide +kernel
theorem dL_simulate_10 : decode cL_simulate 10 = .ok (.ldc2_w 17, 3) := by decide +kernel
theorem dL_simulate_13 : decode cL_simulate 13 = .ok (.lreturn, 1) := by decide +kernel
theorem dL_save_0 : decode cL_save 0 = .ok (.aload_n 0, 1) := by decide +kernel
theorem dL_save_1 : decode cL_save 1 = .ok (.iload_n 1, 1) := by decide +kernel
theorem dL_save_2 : decode cL_save 2 = .ok (.invokevirtual 93, 3) := by decide +kernel
theorem dL_save_5 : decode cL_save 5 = .ok (.i2l, 1) := by decide +kernel
theorem dL_save_6 : decode cL_save 6 = .ok (.lreturn, 1) := by decide +kernel
theorem dL_save_7 : decode cL_save 7 = .ok (.astore_n 2, 1) := by decide +kernel
theorem dL_save_8 : decode cL_save 8 = .ok (.ldc2_w 36, 3) := by decide +kernel
theorem dL_save_11 : decode cL_save 11 = .ok (.lreturn, 1) := by decide +kernel
theorem dL_restore_0 : decode cL_restore 0 = .ok (.aload_n 0, 1) := by decide +kernel
theorem dL_restore_1 : decode cL_restore 1 = .ok (.iload_n 1, 1) := by decide +kernel
theorem dL_restore_2 : decode cL_restore 2 = .ok (.invokevirtual 96, 3) := by decide +kernel
theorem dL_restore_5 : decode cL_restore 5 = .ok (.i2l, 1) := by decide +kernel
theorem dL_restore_6 : decode cL_restore 6 = .ok (.lreturn, 1) := by decide +kernel
theorem dL_restore_7 : decode cL_restore 7 = .ok (.astore_n 2, 1) := by decide +kernel
theorem dL_restore_8 : decode cL_restore 8 = .ok (.ldc2_w 36, 3) := by decide +kernel
theorem dL_restore_11 : decode cL_restore 11 = .ok (.lreturn, 1) := by decide +kernel
theorem dL_restore_12 : decode cL_restore 12 = .ok (.astore_n 2, 1) := by decide +kernel
theorem dL_restore_13 : decode cL_restore 13 = .ok (.ldc2_w 21, 3) := by decide +kernel
theorem dL_restore_16 : decode cL_restore 16 = .ok (.lreturn, 1) := by decide +kernel
theorem dL_now_0 : decode cL_now 0 = .ok (.ldc2_w 99, 3) := by decide +kernel
theorem dL_now_3 : decode cL_now 3 = .ok (.lstore_n 1, 1) := by decide +kernel
theorem dL_now_4 : decode cL_now 4 = .ok (.iconst 0, 1) := by decide +kernel
theorem dL_now_5 : decode cL_now 5 = .ok (.istore_n 3, 1) := by decide +kernel
theorem dL_now_6 : decode cL_now 6 = .ok (.iload_n 3, 1) := by decide +kernel
theorem dL_now_7 : decode cL_now 7 = .ok (.bipush 14, 2) := by decide +kernel
theorem dL_now_9 : decode cL_now 9 = .ok (.if_icmp .ge 40, 3) := by decide +kernel
theorem dL_now_12 : decode cL_now 12 = .ok (.ldc2_w 101, 3) := by decide +kernel
theorem dL_now_15 : decode cL_now 15 = .ok (.lload_n 1, 1) := by decide +kernel
theorem dL_now_16 : decode cL_now 16 = .ok (.lmul, 1) := by decide +kernel
theorem dL_now_17 : decode cL_now 17 = .ok (.aload_n 0, 1) := by decide +kernel
theorem dL_now_18 : decode cL_now 18 = .ok (.iload_n 3, 1) := by decide +kernel
theorem dL_now_19 : decode cL_now 19 = .ok (.invokestatic 103, 3) := by decide +kernel
theorem dL_now_22 : decode cL_now 22 = .ok (.ladd, 1) := by decide +kernel
theorem dL_now_23 : decode cL_now 23 = .ok (.iload_n 3, 1) := by decide +kernel
theorem dL_now_24 : decode cL_now 24 = .ok (.iconst 3, 1) := by decide +kernel
theorem dL_now_25 : decode cL_now 25 = .ok (.if_icmp .ge 15, 3) := by decide +kernel
theorem dL_now_28 : decode cL_now 28 = .ok (.ldc2_w 108, 3) := by decide +kernel
theorem dL_now_31 : decode cL_now 31 = .ok (.aload_n 0, 1) := by decide +kernel
theorem dL_now_32 : decode cL_now 32 = .ok (.iload_n 3, 1) := by decide +kernel
theorem dL_now_33 : decode cL_now 33 = .ok (.invokestatic 110, 3) := by decide +kernel
theorem dL_now_36 : decode cL_now 36 = .ok (.lmul, 1) := by decide +kernel
theorem dL_now_37 : decode cL_now 37 = .ok (.goto 4, 3) := by decide +kernel
theorem dL_now_40 : decode cL_now 40 = .ok (.lconst 0, 1) := by decide +kernel
theorem dL_now_41 : decode cL_now 41 = .ok (.ladd, 1) := by decide +kernel
theorem dL_now_42 : decode cL_now 42 = .ok (.lstore_n 1, 1) := by decide +kernel
theorem dL_now_43 : decode cL_now 43 = .ok (.iinc 3 1, 3) := by decide +kernel
theorem dL_now_46 : decode cL_now 46 = .ok (.goto (-40), 3) := by decide +kernel
theorem dL_now_49 : decode cL_now 49 = .ok (.iconst 0, 1) := by decide +kernel
theorem dL_now_50 : decode cL_now 50 = .ok (.istore_n 3, 1) := by decide +kernel
theorem dL_now_51 : decode cL_now 51 = .ok (.iload_n 3, 1) := by decide +kernel
theorem dL_now_52 : decode cL_now 52 = .ok (.i2l, 1) := by decide +kernel
theorem dL_now_53 : decode cL_now 53 = .ok (.aload_n 0, 1) := by decide +kernel
theorem dL_now_54 : decode cL_now 54 = .ok (.iconst 0, 1) := by decide +kernel
theorem dL_now_55 : decode cL_now 55 = .ok (.invokestatic 103, 3) := by decide +kernel
theorem dL_now_58 : decode cL_now 58 = .ok (.lcmp, 1) := by decide +kernel
theorem dL_now_59 : decode cL_now 59 = .ok (.ifCond .ge 39, 3) := by decide +kernel
theorem dL_now_62 : decode cL_now 62 = .ok (.iconst 0, 1) := by decide +kernel
theorem dL_now_63 : decode cL_now 63 = .ok (.istore 4, 2) := by decide +kernel
theorem dL_now_65 : decode cL_now 65 = .ok (.iload 4, 2) := by decide +kernel
theorem dL_now_67 : decode cL_now 67 = .ok (.bipush 7, 2) := by decide +kernel
theorem dL_now_69 : decode cL_now 69 = .ok (.if_icmp .ge 23, 3) := by decide +kernel
theorem dL_now_72 : decode cL_now 72 = .ok (.ldc2_w 101, 3) := by decide +kernel
theorem dL_now_75 : decode cL_now 75 = .ok (.lload_n 1, 1) := by decide +kernel
theorem dL_now_76 : decode cL_now 76 = .ok (.lmul, 1) := by decide +kernel
theorem dL_now_77 : decode cL_now 77 = .ok (.aload_n 0, 1) := by decide +kernel
theorem dL_now_78 : decode cL_now 78 = .ok (.iload_n 3, 1) := by decide +kernel
theorem dL_now_79 : decode cL_now 79 = .ok (.iload 4, 2) := by decide +kernel
theorem dL_now_81 : decode cL_now 81 = .ok (.invokestatic 112, 3) := by decide +kernel
theorem dL_now_84 : decode cL_now 84 = .ok (.ladd, 1) := by decide +kernel
theorem dL_now_85 : decode cL_now 85 = .ok (.lstore_n 1, 1) := by decide +kernel
theorem dL_now_86 : decode cL_now 86 = .ok (.iinc 4 1, 3) := by decide +kernel
theorem dL_now_89 : decode cL_now 89 = .ok (.goto (-24), 3) := by decide +kernel
theorem dL_now_92 : decode cL_now 92 = .ok (.iinc 3 1, 3) := by decide +kernel
theorem dL_now_95 : decode cL_now 95 = .ok (.goto (-44), 3) := by decide +kernel
theorem dL_now_98 : decode cL_now 98 = .ok (.iconst 0, 1) := by decide +kernel
theorem dL_now_99 : decode cL_now 99 = .ok (.istore_n 3, 1) := by decide +kernel
theorem dL_now_100 : decode cL_now 100 = .ok (.iload_n 3, 1) := by decide +kernel
theorem dL_now_101 : decode cL_now 101 = .ok (.i2l, 1) := by decide +kernel
theorem dL_now_102 : decode cL_now 102 = .ok (.aload_n 0, 1) := by decide +kernel
theorem dL_now_103 : decode cL_now 103 = .ok (.iconst 1, 1) := by decide +kernel
theorem dL_now_104 : decode cL_now 104 = .ok (.invokestatic 103, 3) := by decide +kernel
theorem dL_now_107 : decode cL_now 107 = .ok (.lcmp, 1) := by decide +kernel
theorem dL_now_108 : decode cL_now 108 = .ok (.ifCond .ge 39, 3) := by decide +kernel
theorem dL_now_111 : decode cL_now 111 = .ok (.iconst 0, 1) := by decide +kernel
theorem dL_now_112 : decode cL_now 112 = .ok (.istore 4, 2) := by decide +kernel
theorem dL_now_114 : decode cL_now 114 = .ok (.iload 4, 2) := by decide +kernel
theorem dL_now_116 : decode cL_now 116 = .ok (.bipush 10, 2) := by decide +kernel
theorem dL_now_118 : decode cL_now 118 = .ok (.if_icmp .ge 23, 3) := by decide +kernel
theorem dL_now_121 : decode cL_now 121 = .ok (.ldc2_w 101, 3) := by decide +kernel
theorem dL_now_124 : decode cL_now 124 = .ok (.lload_n 1, 1) := by decide +kernel
theorem dL_now_125 : decode cL_now 125 = .ok (.lmul, 1) := by decide +kernel
theorem dL_now_126 : decode cL_now 126 = .ok (.aload_n 0, 1) := by decide +kernel
theorem dL_now_127 : decode cL_now 127 = .ok (.iload_n 3, 1) := by decide +kernel
theorem dL_now_128 : decode cL_now 128 = .ok (.iload 4, 2) := by decide +kernel
theorem dL_now_130 : decode cL_now 130 = .ok (.invokestatic 115, 3) := by decide +kernel
theorem dL_now_133 : decode cL_now 133 = .ok (.ladd, 1) := by decide +kernel
theorem dL_now_134 : decode cL_now 134 = .ok (.lstore_n 1, 1) := by decide +kernel
theorem dL_now_135 : decode cL_now 135 = .ok (.iinc 4 1, 3) := by decide +kernel
theorem dL_now_138 : decode cL_now 138 = .ok (.goto (-24), 3) := by decide +kernel
theorem dL_now_141 : decode cL_now 141 = .ok (.iinc 3 1, 3) := by decide +kernel
theorem dL_now_144 : decode cL_now 144 = .ok (.goto (-44), 3) := by decide +kernel
theorem dL_now_147 : decode cL_now 147 = .ok (.iconst 0, 1) := by decide +kernel
theorem dL_now_148 : decode cL_now 148 = .ok (.istore_n 3, 1) := by decide +kernel
theorem dL_now_149 : decode cL_now 149 = .ok (.iload_n 3, 1) := by decide +kernel
theorem dL_now_150 : decode cL_now 150 = .ok (.iconst 4, 1) := by decide +kernel
theorem dL_now_151 : decode cL_now 151 = .ok (.if_icmp .ge 38, 3) := by decide +kernel
theorem dL_now_154 : decode cL_now 154 = .ok (.iconst 0, 1) := by decide +kernel
theorem dL_now_155 : decode cL_now 155 = .ok (.istore 4, 2) := by decide +kernel
theorem dL_now_157 : decode cL_now 157 = .ok (.iload 4, 2) := by decide +kernel
theorem dL_now_159 : decode cL_now 159 = .ok (.iconst 5, 1) := by decide +kernel
theorem dL_now_160 : decode cL_now 160 = .ok (.if_icmp .ge 23, 3) := by decide +kernel
theorem dL_now_163 : decode cL_now 163 = .ok (.ldc2_w 101, 3) := by decide +kernel
theorem dL_now_166 : decode cL_now 166 = .ok (.lload_n 1, 1) := by decide +kernel
theorem dL_now_167 : decode cL_now 167 = .ok (.lmul, 1) := by decide +kernel
theorem dL_now_168 : decode cL_now 168 = .ok (.aload_n 0, 1) := by decide +kernel
theorem dL_now_169 : decode cL_now 169 = .ok (.iload_n 3, 1) := by decide +kernel
theorem dL_now_170 : decode cL_now 170 = .ok (.iload 4, 2) := by decide +kernel
theorem dL_now_172 : decode cL_now 172 = .ok (.invokestatic 117, 3) := by decide +kernel
theorem dL_now_175 : decode cL_now 175 = .ok (.ladd, 1) := by decide +kernel
theorem dL_now_176 : decode cL_now 176 = .ok (.lstore_n 1, 1) := by decide +kernel
theorem dL_now_177 : decode cL_now 177 = .ok (.iinc 4 1, 3) := by decide +kernel
theorem dL_now_180 : decode cL_now 180 = .ok (.goto (-23), 3) := by decide +kernel
theorem dL_now_183 : decode cL_now 183 = .ok (.iinc 3 1, 3) := by decide +kernel
theorem dL_now_186 : decode cL_now 186 = .ok (.goto (-37), 3) := by decide +kernel
theorem dL_now_189 : decode cL_now 189 = .ok (.lload_n 1, 1) := by decide +kernel
theorem dL_now_190 : decode cL_now 190 = .ok (.lreturn, 1) := by decide +kernel
theorem dL_errors_0 : decode cL_errors 0 = .ok (.aload_n 0, 1) := by decide +kernel
theorem dL_errors_1 : decode cL_errors 1 = .ok (.invokestatic 119, 3) := by decide +kernel
theorem dL_errors_4 : decode cL_errors 4 = .ok (.lstore_n 1, 1) := by decide +kernel
theorem dL_errors_5 : decode cL_errors 5 = .ok (.aload_n 0, 1) := by decide +kernel
theorem dL_errors_6 : decode cL_errors 6 = .ok (.iconst 0, 1) := by decide +kernel
theorem dL_errors_7 : decode cL_errors 7 = .ok (.invokestatic 103, 3) := by decide +kernel
theorem dL_errors_10 : decode cL_errors 10 = .ok (.l2i, 1) := by decide +kernel
theorem dL_errors_11 : decode cL_errors 11 = .ok (.istore_n 3, 1) := by decide +kernel
theorem dL_errors_12 : decode cL_errors 12 = .ok (.aload_n 0, 1) := by decide +kernel
theorem dL_errors_13 : decode cL_errors 13 = .ok (.iconst 1, 1) := by decide +kernel
theorem dL_errors_14 : decode cL_errors 14 = .ok (.invokestatic 103, 3) := by decide +kernel
theorem dL_errors_17 : decode cL_errors 17 = .ok (.l2i, 1) := by decide +kernel
theorem dL_errors_18 : decode cL_errors 18 = .ok (.istore 4, 2) := by decide +kernel
theorem dL_errors_20 : decode cL_errors 20 = .ok (.aload_n 0, 1) := by decide +kernel
theorem dL_errors_21 : decode cL_errors 21 = .ok (.iconst (-1), 1) := by decide +kernel
theorem dL_errors_22 : decode cL_errors 22 = .ok (.invokestatic 103, 3) := by decide +kernel
theorem dL_errors_25 : decode cL_errors 25 = .ok (.ldc2_w 17, 3) := by decide +kernel
theorem dL_errors_28 : decode cL_errors 28 = .ok (.lcmp, 1) := by decide +kernel
theorem dL_errors_29 : decode cL_errors 29 = .ok (.ifCond .ne 382, 3) := by decide +kernel
theorem dL_errors_32 : decode cL_errors 32 = .ok (.aload_n 0, 1) := by decide +kernel
theorem dL_errors_33 : decode cL_errors 33 = .ok (.bipush 14, 2) := by decide +kernel
theorem dL_errors_35 : decode cL_errors 35 = .ok (.invokestatic 103, 3) := by decide +kernel
theorem dL_errors_38 : decode cL_errors 38 = .ok (.ldc2_w 17, 3) := by decide +kernel
theorem dL_errors_41 : decode cL_errors 41 = .ok (.lcmp, 1) := by decide +kernel
theorem dL_errors_42 : decode cL_errors 42 = .ok (.ifCond .ne 369, 3) := by decide +kernel
theorem dL_errors_45 : decode cL_errors 45 = .ok (.aload_n 0, 1) := by decide +kernel
theorem dL_errors_46 : decode cL_errors 46 = .ok (.iload_n 3, 1) := by decide +kernel
theorem dL_errors_47 : decode cL_errors 47 = .ok (.bipush 7, 2) := by decide +kernel
theorem dL_errors_49 : decode cL_errors 49 = .ok (.invokestatic 112, 3) := by decide +kernel
theorem dL_errors_52 : decode cL_errors 52 = .ok (.ldc2_w 36, 3) := by decide +kernel
theorem dL_errors_55 : decode cL_errors 55 = .ok (.lcmp, 1) := by decide +kernel
theorem dL_errors_56 : decode cL_errors 56 = .ok (.ifCond .ne 355, 3) := by decide +kernel
theorem dL_errors_59 : decode cL_errors 59 = .ok (.aload_n 0, 1) := by decide +kernel
theorem dL_errors_60 : decode cL_errors 60 = .ok (.iconst (-1), 1) := by decide +kernel
theorem dL_errors_61 : decode cL_errors 61 = .ok (.iconst 0, 1) := by decide +kernel
theorem dL_errors_62 : decode cL_errors 62 = .ok (.invokestatic 112, 3) := by decide +kernel
theorem dL_errors_65 : decode cL_errors 65 = .ok (.ldc2_w 36, 3) := by decide +kernel
theorem dL_errors_68 : decode cL_errors 68 = .ok (.lcmp, 1) := by decide +kernel
theorem dL_errors_69 : decode cL_errors 69 = .ok (.ifCond .ne 342, 3) := by decide +kernel
theorem dL_errors_72 : decode cL_errors 72 = .ok (.aload_n 0, 1) := by decide +kernel
theorem dL_errors_73 : decode cL_errors 73 = .ok (.iload 4, 2) := by decide +kernel
theorem dL_errors_75 : decode cL_errors 75 = .ok (.bipush 11, 2) := by decide +kernel
theorem dL_errors_77 : decode cL_errors 77 = .ok (.invokestatic 115, 3) := by decide +kernel
theorem dL_errors_80 : decode cL_errors 80 = .ok (.ldc2_w 36, 3) := by decide +kernel
theorem dL_errors_83 : decode cL_errors 83 = .ok (.lcmp, 1) := by decide +kernel
theorem dL_errors_84 : decode cL_errors 84 = .ok (.ifCond .ne 327, 3) := by decide +kernel
theorem dL_errors_87 : decode cL_errors 87 = .ok (.aload_n 0, 1) := by decide +kernel
theorem dL_errors_88 : decode cL_errors 88 = .ok (.iconst 4, 1) := by decide +kernel
theorem dL_errors_89 : decode cL_errors 89 = .ok (.iconst 5, 1) := by decide +kernel
theorem dL_errors_90 : decode cL_errors 90 = .ok (.invokestatic 117, 3) := by decide +kernel
theorem dL_errors_93 : decode cL_errors 93 = .ok (.ldc2_w 36, 3) := by decide +kernel
theorem dL_errors_96 : decode cL_errors 96 = .ok (.lcmp, 1) := by decide +kernel
theorem dL_errors_97 : decode cL_errors 97 = .ok (.ifCond .ne 314, 3) := by decide +kernel
theorem dL_errors_100 : decode cL_errors 100 = .ok (.aload_n 0, 1) := by decide +kernel
theorem dL_errors_101 : decode cL_errors 101 = .ok (.iconst 0, 1) := by decide +kernel
theorem dL_errors_102 : decode cL_errors 102 = .ok (.iconst 5, 1) := by decide +kernel
theorem dL_errors_103 : decode cL_errors 103 = .ok (.invokestatic 117, 3) := by decide +kernel
theorem dL_errors_106 : decode cL_errors 106 = .ok (.ldc2_w 17, 3) := by decide +kernel
theorem dL_errors_109 : decode cL_errors 109 = .ok (.lcmp, 1) := by decide +kernel
theorem dL_errors_110 : decode cL_errors 110 = .ok (.ifCond .ne 301, 3) := by decide +kernel
theorem dL_errors_113 : decode cL_errors 113 = .ok (.aload_n 0, 1) := by decide +kernel
theorem dL_errors_114 : decode cL_errors 114 = .ok (.iload_n 3, 1) := by decide +kernel
theorem dL_errors_115 : decode cL_errors 115 = .ok (.iconst 0, 1) := by decide +kernel
theorem dL_errors_116 : decode cL_errors 116 = .ok (.iconst 2, 1) := by decide +kernel
theorem dL_errors_117 : decode cL_errors 117 = .ok (.invokestatic 123, 3) := by decide +kernel
theorem dL_errors_120 : decode cL_errors 120 = .ok (.ldc2_w 36, 3) := by decide +kernel
theorem dL_errors_123 : decode cL_errors 123 = .ok (.lcmp, 1) := by decide +kernel
theorem dL_errors_124 : decode cL_errors 124 = .ok (.ifCond .ne 287, 3) := by decide +kernel
theorem dL_errors_127 : decode cL_errors 127 = .ok (.aload_n 0, 1) := by decide +kernel
theorem dL_errors_128 : decode cL_errors 128 = .ok (.iconst 3, 1) := by decide +kernel
theorem dL_errors_129 : decode cL_errors 129 = .ok (.invokestatic 110, 3) := by decide +kernel
theorem dL_errors_132 : decode cL_errors 132 = .ok (.ldc2_w 17, 3) := by decide +kernel
theorem dL_errors_135 : decode cL_errors 135 = .ok (.lcmp, 1) := by decide +kernel
theorem dL_errors_136 : decode cL_errors 136 = .ok (.ifCond .ne 275, 3) := by decide +kernel
theorem dL_errors_139 : decode cL_errors 139 = .ok (.aload_n 0, 1) := by decide +kernel
theorem dL_errors_140 : decode cL_errors 140 = .ok (.iconst 3, 1) := by decide +kernel
theorem dL_errors_141 : decode cL_errors 141 = .ok (.iconst 0, 1) := by decide +kernel
theorem dL_errors_142 : decode cL_errors 142 = .ok (.iload_n 3, 1) := by decide +kernel
theorem dL_errors_143 : decode cL_errors 143 = .ok (.iconst 0, 1) := by decide +kernel
theorem dL_errors_144 : decode cL_errors 144 = .ok (.invokestatic 126, 3) := by decide +kernel
theorem dL_errors_147 : decode cL_errors 147 = .ok (.iload_n 3, 1) := by decide +kernel
theorem dL_errors_148 : decode cL_errors 148 = .ok (.ifCond .ne 9, 3) := by decide +kernel
theorem dL_errors_151 : decode cL_errors 151 = .ok (.ldc2_w 17, 3) := by decide +kernel
theorem dL_errors_154 : decode cL_errors 154 = .ok (.goto 6, 3) := by decide +kernel
theorem dL_errors_157 : decode cL_errors 157 = .ok (.ldc2_w 36, 3) := by decide +kernel
theorem dL_errors_160 : decode cL_errors 160 = .ok (.lcmp, 1) := by decide +kernel
theorem dL_errors_161 : decode cL_errors 161 = .ok (.ifCond .ne 250, 3) := by decide +kernel
theorem dL_errors_164 : decode cL_errors 164 = .ok (.aload_n 0, 1) := by decide +kernel
theorem dL_errors_165 : decode cL_errors 165 = .ok (.iconst 0, 1) := by decide +kernel
theorem dL_errors_166 : decode cL_errors 166 = .ok (.iconst 0, 1) := by decide +kernel
theorem dL_errors_167 : decode cL_errors 167 = .ok (.iconst 4, 1) := by decide +kernel
theorem dL_errors_168 : decode cL_errors 168 = .ok (.invokestatic 129, 3) := by decide +kernel
theorem dL_errors_171 : decode cL_errors 171 = .ok (.ldc2_w 36, 3) := by decide +kernel
theorem dL_errors_174 : decode cL_errors 174 = .ok (.lcmp, 1) := by decide +kernel
theorem dL_errors_175 : decode cL_errors 175 = .ok (.ifCond .ne 236, 3) := by decide +kernel
theorem dL_errors_178 : decode cL_errors 178 = .ok (.aload_n 0, 1) := by decide +kernel
theorem dL_errors_179 : decode cL_errors 179 = .ok (.iconst 0, 1) := by decide +kernel
theorem dL_errors_180 : decode cL_errors 180 = .ok (.iconst 0, 1) := by decide +kernel
theorem dL_errors_181 : decode cL_errors 181 = .ok (.iconst 0, 1) := by decide +kernel
theorem dL_errors_182 : decode cL_errors 182 = .ok (.invokestatic 129, 3) := by decide +kernel
theorem dL_errors_185 : decode cL_errors 185 = .ok (.ldc2_w 17, 3) := by decide +kernel
theorem dL_errors_188 : decode cL_errors 188 = .ok (.lcmp, 1) := by decide +kernel
theorem dL_errors_189 : decode cL_errors 189 = .ok (.ifCond .ne 222, 3) := by decide +kernel
theorem dL_errors_192 : decode cL_errors 192 = .ok (.aload_n 0, 1) := by decide +kernel
theorem dL_errors_193 : decode cL_errors 193 = .ok (.iconst 1, 1) := by decide +kernel
theorem dL_errors_194 : decode cL_errors 194 = .ok (.iconst 4, 1) := by decide +kernel
theorem dL_errors_195 : decode cL_errors 195 = .ok (.iconst 0, 1) := by decide +kernel
theorem dL_errors_196 : decode cL_errors 196 = .ok (.invokestatic 129, 3) := by decide +kernel
theorem dL_errors_199 : decode cL_errors 199 = .ok (.ldc2_w 17, 3) := by decide +kernel
theorem dL_errors_202 : decode cL_errors 202 = .ok (.lcmp, 1) := by decide +kernel
theorem dL_errors_203 : decode cL_errors 203 = .ok (.ifCond .ne 208, 3) := by decide +kernel
theorem dL_errors_206 : decode cL_errors 206 = .ok (.aload_n 0, 1) := by decide +kernel
theorem dL_errors_207 : decode cL_errors 207 = .ok (.iload 4, 2) := by decide +kernel
theorem dL_errors_209 : decode cL_errors 209 = .ok (.iconst 0, 1) := by decide +kernel
theorem dL_errors_210 : decode cL_errors 210 = .ok (.invokestatic 131, 3) := by decide +kernel
theorem dL_errors_213 : decode cL_errors 213 = .ok (.ldc2_w 36, 3) := by decide +kernel
theorem dL_errors_216 : decode cL_errors 216 = .ok (.lcmp, 1) := by decide +kernel
theorem dL_errors_217 : decode cL_errors 217 = .ok (.ifCond .ne 194, 3) := by decide +kernel
theorem dL_errors_220 : decode cL_errors 220 = .ok (.aload_n 0, 1) := by decide +kernel
theorem dL_errors_221 : decode cL_errors 221 = .ok (.iconst 0, 1) := by decide +kernel
theorem dL_errors_222 : decode cL_errors 222 = .ok (.iload_n 3, 1) := by decide +kernel
theorem dL_errors_223 : decode cL_errors 223 = .ok (.invokestatic 131, 3) := by decide +kernel
theorem dL_errors_226 : decode cL_errors 226 = .ok (.ldc2_w 36, 3) := by decide +kernel
theorem dL_errors_229 : decode cL_errors 229 = .ok (.lcmp, 1) := by decide +kernel
theorem dL_errors_230 : decode cL_errors 230 = .ok (.ifCond .ne 181, 3) := by decide +kernel
theorem dL_errors_233 : decode cL_errors 233 = .ok (.aload_n 0, 1) := by decide +kernel
theorem dL_errors_234 : decode cL_errors 234 = .ok (.iconst (-1), 1) := by decide +kernel
theorem dL_errors_235 : decode cL_errors 235 = .ok (.iconst 0, 1) := by decide +kernel
theorem dL_errors_236 : decode cL_errors 236 = .ok (.iconst 0, 1) := by decide +kernel
theorem dL_errors_237 : decode cL_errors 237 = .ok (.invokestatic 133, 3) := by decide +kernel
theorem dL_errors_240 : decode cL_errors 240 = .ok (.ldc2_w 36, 3) := by decide +kernel
theorem dL_errors_243 : decode cL_errors 243 = .ok (.lcmp, 1) := by decide +kernel
theorem dL_errors_244 : decode cL_errors 244 = .ok (.ifCond .ne 167, 3) := by decide +kernel
theorem dL_errors_247 : decode cL_errors 247 = .ok (.aload_n 0, 1) := by decide +kernel
theorem dL_errors_248 : decode cL_errors 248 = .ok (.iconst 0, 1) := by decide +kernel
theorem dL_errors_249 : decode cL_errors 249 = .ok (.iload_n 3, 1) := by decide +kernel
theorem dL_errors_250 : decode cL_errors 250 = .ok (.iconst 0, 1) := by decide +kernel
theorem dL_errors_251 : decode cL_errors 251 = .ok (.invokestatic 133, 3) := by decide +kernel
theorem dL_errors_254 : decode cL_errors 254 = .ok (.ldc2_w 36, 3) := by decide +kernel
theorem dL_errors_257 : decode cL_errors 257 = .ok (.lcmp, 1) := by decide +kernel
theorem dL_errors_258 : decode cL_errors 258 = .ok (.ifCond .ne 153, 3) := by decide +kernel
theorem dL_errors_261 : decode cL_errors 261 = .ok (.aload_n 0, 1) := by decide +kernel
theorem dL_errors_262 : decode cL_errors 262 = .ok (.iconst 4, 1) := by decide +kernel
theorem dL_errors_263 : decode cL_errors 263 = .ok (.iconst 0, 1) := by decide +kernel
theorem dL_errors_264 : decode cL_errors 264 = .ok (.invokestatic 135, 3) := by decide +kernel
theorem dL_errors_267 : decode cL_errors 267 = .ok (.ldc2_w 36, 3) := by decide +kernel
theorem dL_errors_270 : decode cL_errors 270 = .ok (.lcmp, 1) := by decide +kernel
theorem dL_errors_271 : decode cL_errors 271 = .ok (.ifCond .ne 140, 3) := by decide +kernel
theorem dL_errors_274 : decode cL_errors 274 = .ok (.aload_n 0, 1) := by decide +kernel
theorem dL_errors_275 : decode cL_errors 275 = .ok (.iconst 0, 1) := by decide +kernel
theorem dL_errors_276 : decode cL_errors 276 = .ok (.iload 4, 2) := by decide +kernel
theorem dL_errors_278 : decode cL_errors 278 = .ok (.invokestatic 135, 3) := by decide +kernel
theorem dL_errors_281 : decode cL_errors 281 = .ok (.ldc2_w 36, 3) := by decide +kernel
theorem dL_errors_284 : decode cL_errors 284 = .ok (.lcmp, 1) := by decide +kernel
theorem dL_errors_285 : decode cL_errors 285 = .ok (.ifCond .ne 126, 3) := by decide +kernel
theorem dL_errors_288 : decode cL_errors 288 = .ok (.aload_n 0, 1) := by decide +kernel
theorem dL_errors_289 : decode cL_errors 289 = .ok (.iconst 0, 1) := by decide +kernel
theorem dL_errors_290 : decode cL_errors 290 = .ok (.invokestatic 137, 3) := by decide +kernel
theorem dL_errors_293 : decode cL_errors 293 = .ok (.ldc2_w 17, 3) := by decide +kernel
theorem dL_errors_296 : decode cL_errors 296 = .ok (.lcmp, 1) := by decide +kernel
theorem dL_errors_297 : decode cL_errors 297 = .ok (.ifCond .ne 114, 3) := by decide +kernel
theorem dL_errors_300 : decode cL_errors 300 = .ok (.aload_n 0, 1) := by decide +kernel
theorem dL_errors_301 : decode cL_errors 301 = .ok (.iconst 0, 1) := by decide +kernel
theorem dL_errors_302 : decode cL_errors 302 = .ok (.iconst 4, 1) := by decide +kernel
theorem dL_errors_303 : decode cL_errors 303 = .ok (.invokestatic 139, 3) := by decide +kernel
theorem dL_errors_306 : decode cL_errors 306 = .ok (.ldc2_w 17, 3) := by decide +kernel
theorem dL_errors_309 : decode cL_errors 309 = .ok (.lcmp, 1) := by decide +kernel
theorem dL_errors_310 : decode cL_errors 310 = .ok (.ifCond .ne 101, 3) := by decide +kernel
theorem dL_errors_313 : decode cL_errors 313 = .ok (.aload_n 0, 1) := by decide +kernel
theorem dL_errors_314 : decode cL_errors 314 = .ok (.iconst 1, 1) := by decide +kernel
theorem dL_errors_315 : decode cL_errors 315 = .ok (.iconst 0, 1) := by decide +kernel
theorem dL_errors_316 : decode cL_errors 316 = .ok (.invokestatic 139, 3) := by decide +kernel
theorem dL_errors_319 : decode cL_errors 319 = .ok (.ldc2_w 17, 3) := by decide +kernel
theorem dL_errors_322 : decode cL_errors 322 = .ok (.lcmp, 1) := by decide +kernel
theorem dL_errors_323 : decode cL_errors 323 = .ok (.ifCond .ne 88, 3) := by decide +kernel
theorem dL_errors_326 : decode cL_errors 326 = .ok (.aload_n 0, 1) := by decide +kernel
theorem dL_errors_327 : decode cL_errors 327 = .ok (.iconst 2, 1) := by decide +kernel
theorem dL_errors_328 : decode cL_errors 328 = .ok (.bipush 10, 2) := by decide +kernel
theorem dL_errors_330 : decode cL_errors 330 = .ok (.invokestatic 139, 3) := by decide +kernel
theorem dL_errors_333 : decode cL_errors 333 = .ok (.ldc2_w 17, 3) := by decide +kernel
theorem dL_errors_336 : decode cL_errors 336 = .ok (.lcmp, 1) := by decide +kernel
theorem dL_errors_337 : decode cL_errors 337 = .ok (.ifCond .ne 74, 3) := by decide +kernel
theorem dL_errors_340 : decode cL_errors 340 = .ok (.aload_n 0, 1) := by decide +kernel
theorem dL_errors_341 : decode cL_errors 341 = .ok (.iconst 3, 1) := by decide +kernel
theorem dL_errors_342 : decode cL_errors 342 = .ok (.iconst 0, 1) := by decide +kernel
theorem dL_errors_343 : decode cL_errors 343 = .ok (.invokestatic 139, 3) := by decide +kernel
theorem dL_errors_346 : decode cL_errors 346 = .ok (.ldc2_w 17, 3) := by decide +kernel
theorem dL_errors_349 : decode cL_errors 349 = .ok (.lcmp, 1) := by decide +kernel
theorem dL_errors_350 : decode cL_errors 350 = .ok (.ifCond .ne 61, 3) := by decide +kernel
theorem dL_errors_353 : decode cL_errors 353 = .ok (.aload_n 0, 1) := by decide +kernel
theorem dL_errors_354 : decode cL_errors 354 = .ok (.iconst 4, 1) := by decide +kernel
theorem dL_errors_355 : decode cL_errors 355 = .ok (.iconst 0, 1) := by decide +kernel
theorem dL_errors_356 : decode cL_errors 356 = .ok (.invokestatic 141, 3) := by decide +kernel
theorem dL_errors_359 : decode cL_errors 359 = .ok (.ldc2_w 36, 3) := by decide +kernel
theorem dL_errors_362 : decode cL_errors 362 = .ok (.lcmp, 1) := by decide +kernel
theorem dL_errors_363 : decode cL_errors 363 = .ok (.ifCond .ne 48, 3) := by decide +kernel
theorem dL_errors_366 : decode cL_errors 366 = .ok (.aload_n 0, 1) := by decide +kernel
theorem dL_errors_367 : decode cL_errors 367 = .ok (.iconst 0, 1) := by decide +kernel
theorem dL_errors_368 : decode cL_errors 368 = .ok (.iload 4, 2) := by decide +kernel
theorem dL_errors_370 : decode cL_errors 370 = .ok (.invokestatic 141, 3) := by decide +kernel
theorem dL_errors_373 : decode cL_errors 373 = .ok (.ldc2_w 36, 3) := by decide +kernel
theorem dL_errors_376 : decode cL_errors 376 = .ok (.lcmp, 1) := by decide +kernel
theorem dL_errors_377 : decode cL_errors 377 = .ok (.ifCond .ne 34, 3) := by decide +kernel
theorem dL_errors_380 : decode cL_errors 380 = .ok (.aload_n 0, 1) := by decide +kernel
theorem dL_errors_381 : decode cL_errors 381 = .ok (.iload 4, 2) := by decide +kernel
theorem dL_errors_383 : decode cL_errors 383 = .ok (.iconst 2, 1) := by decide +kernel
theorem dL_errors_384 : decode cL_errors 384 = .ok (.invokestatic 143, 3) := by decide +kernel
theorem dL_errors_387 : decode cL_errors 387 = .ok (.ldc2_w 36, 3) := by decide +kernel
theorem dL_errors_390 : decode cL_errors 390 = .ok (.lcmp, 1) := by decide +kernel
theorem dL_errors_391 : decode cL_errors 391 = .ok (.ifCond .ne 20, 3) := by decide +kernel
theorem dL_errors_394 : decode cL_errors 394 = .ok (.aload_n 0, 1) := by decide +kernel
theorem dL_errors_395 : decode cL_errors 395 = .ok (.iload_n 3, 1) := by decide +kernel
theorem dL_errors_396 : decode cL_errors 396 = .ok (.iconst 4, 1) := by decide +kernel
theorem dL_errors_397 : decode cL_errors 397 = .ok (.invokestatic 145, 3) := by decide +kernel
theorem dL_errors_400 : decode cL_errors 400 = .ok (.ldc2_w 36, 3) := by decide +kernel
theorem dL_errors_403 : decode cL_errors 403 = .ok (.lcmp, 1) := by decide +kernel
theorem dL_errors_404 : decode cL_errors 404 = .ok (.ifCond .ne 7, 3) := by decide +kernel
theorem dL_errors_407 : decode cL_errors 407 = .ok (.iconst 1, 1) := by decide +kernel
theorem dL_errors_408 : decode cL_errors 408 = .ok (.goto 4, 3) := by decide +kernel
theorem dL_errors_411 : decode cL_errors 411 = .ok (.iconst 0, 1) := by decide +kernel
theorem dL_errors_412 : decode cL_errors 412 = .ok (.istore 5, 2) := by decide +kernel
theorem dL_errors_414 : decode cL_errors 414 = .ok (.iload 5, 2) := by decide +kernel
theorem dL_errors_416 : decode cL_errors 416 = .ok (.ifCond .eq 336, 3) := by decide +kernel
theorem dL_errors_419 : decode cL_errors 419 = .ok (.iload_n 3, 1) := by decide +kernel
theorem dL_errors_420 : decode cL_errors 420 = .ok (.ifCond .eq 122, 3) := by decide +kernel
theorem dL_errors_423 : decode cL_errors 423 = .ok (.aload_n 0, 1) := by decide +kernel
theorem dL_errors_424 : decode cL_errors 424 = .ok (.iconst 0, 1) := by decide +kernel
theorem dL_errors_425 : decode cL_errors 425 = .ok (.bipush 7, 2) := by decide +kernel
theorem dL_errors_427 : decode cL_errors 427 = .ok (.invokestatic 112, 3) := by decide +kernel
theorem dL_errors_430 : decode cL_errors 430 = .ok (.ldc2_w 17, 3) := by decide +kernel
theorem dL_errors_433 : decode cL_errors 433 = .ok (.lcmp, 1) := by decide +kernel
theorem dL_errors_434 : decode cL_errors 434 = .ok (.ifCond .ne 318, 3) := by decide +kernel
theorem dL_errors_437 : decode cL_errors 437 = .ok (.aload_n 0, 1) := by decide +kernel
theorem dL_errors_438 : decode cL_errors 438 = .ok (.bipush 41, 2) := by decide +kernel
theorem dL_errors_440 : decode cL_errors 440 = .ok (.iconst 0, 1) := by decide +kernel
theorem dL_errors_441 : decode cL_errors 441 = .ok (.iconst 0, 1) := by decide +kernel
theorem dL_errors_442 : decode cL_errors 442 = .ok (.iconst 0, 1) := by decide +kernel
theorem dL_errors_443 : decode cL_errors 443 = .ok (.invokestatic 126, 3) := by decide +kernel
theorem dL_errors_446 : decode cL_errors 446 = .ok (.ldc2_w 17, 3) := by decide +kernel
theorem dL_errors_449 : decode cL_errors 449 = .ok (.lcmp, 1) := by decide +kernel
theorem dL_errors_450 : decode cL_errors 450 = .ok (.ifCond .ne 302, 3) := by decide +kernel
theorem dL_errors_453 : decode cL_errors 453 = .ok (.aload_n 0, 1) := by decide +kernel
theorem dL_errors_454 : decode cL_errors 454 = .ok (.bipush 9, 2) := by decide +kernel
theorem dL_errors_456 : decode cL_errors 456 = .ok (.iconst (-1), 1) := by decide +kernel
theorem dL_errors_457 : decode cL_errors 457 = .ok (.iconst 0, 1) := by decide +kernel
theorem dL_errors_458 : decode cL_errors 458 = .ok (.iconst 0, 1) := by decide +kernel
theorem dL_errors_459 : decode cL_errors 459 = .ok (.invokestatic 126, 3) := by decide +kernel
theorem dL_errors_462 : decode cL_errors 462 = .ok (.ldc2_w 17, 3) := by decide +kernel
theorem dL_errors_465 : decode cL_errors 465 = .ok (.lcmp, 1) := by decide +kernel
theorem dL_errors_466 : decode cL_errors 466 = .ok (.ifCond .ne 286, 3) := by decide +kernel
theorem dL_errors_469 : decode cL_errors 469 = .ok (.aload_n 0, 1) := by decide +kernel
theorem dL_errors_470 : decode cL_errors 470 = .ok (.bipush 9, 2) := by decide +kernel
theorem dL_errors_472 : decode cL_errors 472 = .ok (.iconst 0, 1) := by decide +kernel
theorem dL_errors_473 : decode cL_errors 473 = .ok (.iconst 0, 1) := by decide +kernel
theorem dL_errors_474 : decode cL_errors 474 = .ok (.bipush 40, 2) := by decide +kernel
theorem dL_errors_476 : decode cL_errors 476 = .ok (.invokestatic 126, 3) := by decide +kernel
theorem dL_errors_479 : decode cL_errors 479 = .ok (.ldc2_w 36, 3) := by decide +kernel
theorem dL_errors_482 : decode cL_errors 482 = .ok (.lcmp, 1) := by decide +kernel
theorem dL_errors_483 : decode cL_errors 483 = .ok (.ifCond .ne 269, 3) := by decide +kernel
theorem dL_errors_486 : decode cL_errors 486 = .ok (.aload_n 0, 1) := by decide +kernel
theorem dL_errors_487 : decode cL_errors 487 = .ok (.iconst 0, 1) := by decide +kernel
theorem dL_errors_488 : decode cL_errors 488 = .ok (.bipush 40, 2) := by decide +kernel
theorem dL_errors_490 : decode cL_errors 490 = .ok (.iconst 0, 1) := by decide +kernel
theorem dL_errors_491 : decode cL_errors 491 = .ok (.invokestatic 123, 3) := by decide +kernel
theorem dL_errors_494 : decode cL_errors 494 = .ok (.ldc2_w 36, 3) := by decide +kernel
theorem dL_errors_497 : decode cL_errors 497 = .ok (.lcmp, 1) := by decide +kernel
theorem dL_errors_498 : decode cL_errors 498 = .ok (.ifCond .ne 254, 3) := by decide +kernel
theorem dL_errors_501 : decode cL_errors 501 = .ok (.aload_n 0, 1) := by decide +kernel
theorem dL_errors_502 : decode cL_errors 502 = .ok (.iconst 0, 1) := by decide +kernel
theorem dL_errors_503 : decode cL_errors 503 = .ok (.iconst 0, 1) := by decide +kernel
theorem dL_errors_504 : decode cL_errors 504 = .ok (.iconst (-1), 1) := by decide +kernel
theorem dL_errors_505 : decode cL_errors 505 = .ok (.invokestatic 123, 3) := by decide +kernel
theorem dL_errors_508 : decode cL_errors 508 = .ok (.ldc2_w 17, 3) := by decide +kernel
theorem dL_errors_511 : decode cL_errors 511 = .ok (.lcmp, 1) := by decide +kernel
theorem dL_errors_512 : decode cL_errors 512 = .ok (.ifCond .ne 240, 3) := by decide +kernel
theorem dL_errors_515 : decode cL_errors 515 = .ok (.aload_n 0, 1) := by decide +kernel
theorem dL_errors_516 : decode cL_errors 516 = .ok (.iconst 0, 1) := by decide +kernel
theorem dL_errors_517 : decode cL_errors 517 = .ok (.iconst 0, 1) := by decide +kernel
theorem dL_errors_518 : decode cL_errors 518 = .ok (.iconst (-1), 1) := by decide +kernel
theorem dL_errors_519 : decode cL_errors 519 = .ok (.invokestatic 133, 3) := by decide +kernel
theorem dL_errors_522 : decode cL_errors 522 = .ok (.ldc2_w 36, 3) := by decide +kernel
theorem dL_errors_525 : decode cL_errors 525 = .ok (.lcmp, 1) := by decide +kernel
theorem dL_errors_526 : decode cL_errors 526 = .ok (.ifCond .ne 226, 3) := by decide +kernel
theorem dL_errors_529 : decode cL_errors 529 = .ok (.aload_n 0, 1) := by decide +kernel
theorem dL_errors_530 : decode cL_errors 530 = .ok (.iconst 0, 1) := by decide +kernel
theorem dL_errors_531 : decode cL_errors 531 = .ok (.iconst (-1), 1) := by decide +kernel
theorem dL_errors_532 : decode cL_errors 532 = .ok (.invokestatic 145, 3) := by decide +kernel
theorem dL_errors_535 : decode cL_errors 535 = .ok (.ldc2_w 17, 3) := by decide +kernel
theorem dL_errors_538 : decode cL_errors 538 = .ok (.lcmp, 1) := by decide +kernel
theorem dL_errors_539 : decode cL_errors 539 = .ok (.ifCond .ne 213, 3) := by decide +kernel
theorem dL_errors_542 : decode cL_errors 542 = .ok (.iload 4, 2) := by decide +kernel
theorem dL_errors_544 : decode cL_errors 544 = .ok (.ifCond .eq 82, 3) := by decide +kernel
theorem dL_errors_547 : decode cL_errors 547 = .ok (.aload_n 0, 1) := by decide +kernel
theorem dL_errors_548 : decode cL_errors 548 = .ok (.iconst 0, 1) := by decide +kernel
theorem dL_errors_549 : decode cL_errors 549 = .ok (.bipush 11, 2) := by decide +kernel
theorem dL_errors_551 : decode cL_errors 551 = .ok (.invokestatic 115, 3) := by decide +kernel
theorem dL_errors_554 : decode cL_errors 554 = .ok (.ldc2_w 17, 3) := by decide +kernel
theorem dL_errors_557 : decode cL_errors 557 = .ok (.lcmp, 1) := by decide +kernel
theorem dL_errors_558 : decode cL_errors 558 = .ok (.ifCond .ne 194, 3) := by decide +kernel
theorem dL_errors_561 : decode cL_errors 561 = .ok (.aload_n 0, 1) := by decide +kernel
theorem dL_errors_562 : decode cL_errors 562 = .ok (.iconst 0, 1) := by decide +kernel
theorem dL_errors_563 : decode cL_errors 563 = .ok (.iconst 2, 1) := by decide +kernel
theorem dL_errors_564 : decode cL_errors 564 = .ok (.invokestatic 143, 3) := by decide +kernel
theorem dL_errors_567 : decode cL_errors 567 = .ok (.ldc2_w 17, 3) := by decide +kernel
theorem dL_errors_570 : decode cL_errors 570 = .ok (.lcmp, 1) := by decide +kernel
theorem dL_errors_571 : decode cL_errors 571 = .ok (.ifCond .ne 181, 3) := by decide +kernel
theorem dL_errors_574 : decode cL_errors 574 = .ok (.aload_n 0, 1) := by decide +kernel
theorem dL_errors_575 : decode cL_errors 575 = .ok (.iconst 0, 1) := by decide +kernel
theorem dL_errors_576 : decode cL_errors 576 = .ok (.iconst 3, 1) := by decide +kernel
theorem dL_errors_577 : decode cL_errors 577 = .ok (.invokestatic 115, 3) := by decide +kernel
theorem dL_errors_580 : decode cL_errors 580 = .ok (.lconst 1, 1) := by decide +kernel
theorem dL_errors_581 : decode cL_errors 581 = .ok (.lcmp, 1) := by decide +kernel
theorem dL_errors_582 : decode cL_errors 582 = .ok (.ifCond .eq 16, 3) := by decide +kernel
theorem dL_errors_585 : decode cL_errors 585 = .ok (.aload_n 0, 1) := by decide +kernel
theorem dL_errors_586 : decode cL_errors 586 = .ok (.iconst 0, 1) := by decide +kernel
theorem dL_errors_587 : decode cL_errors 587 = .ok (.iconst 0, 1) := by decide +kernel
theorem dL_errors_588 : decode cL_errors 588 = .ok (.invokestatic 143, 3) := by decide +kernel
theorem dL_errors_591 : decode cL_errors 591 = .ok (.ldc2_w 21, 3) := by decide +kernel
theorem dL_errors_594 : decode cL_errors 594 = .ok (.lcmp, 1) := by decide +kernel
theorem dL_errors_595 : decode cL_errors 595 = .ok (.ifCond .ne 157, 3) := by decide +kernel
theorem dL_errors_598 : decode cL_errors 598 = .ok (.iload_n 3, 1) := by decide +kernel
theorem dL_errors_599 : decode cL_errors 599 = .ok (.ifCond .eq 27, 3) := by decide +kernel
theorem dL_errors_602 : decode cL_errors 602 = .ok (.aload_n 0, 1) := by decide +kernel
theorem dL_errors_603 : decode cL_errors 603 = .ok (.iconst 0, 1) := by decide +kernel
theorem dL_errors_604 : decode cL_errors 604 = .ok (.iconst 3, 1) := by decide +kernel
theorem dL_errors_605 : decode cL_errors 605 = .ok (.invokestatic 115, 3) := by decide +kernel
theorem dL_errors_608 : decode cL_errors 608 = .ok (.lconst 0, 1) := by decide +kernel
theorem dL_errors_609 : decode cL_errors 609 = .ok (.lcmp, 1) := by decide +kernel
theorem dL_errors_610 : decode cL_errors 610 = .ok (.ifCond .eq 16, 3) := by decide +kernel
theorem dL_errors_613 : decode cL_errors 613 = .ok (.aload_n 0, 1) := by decide +kernel
theorem dL_errors_614 : decode cL_errors 614 = .ok (.iconst 0, 1) := by decide +kernel
theorem dL_errors_615 : decode cL_errors 615 = .ok (.iconst 0, 1) := by decide +kernel
theorem dL_errors_616 : decode cL_errors 616 = .ok (.invokestatic 131, 3) := by decide +kernel
theorem dL_errors_619 : decode cL_errors 619 = .ok (.ldc2_w 21, 3) := by decide +kernel
theorem dL_errors_622 : decode cL_errors 622 = .ok (.lcmp, 1) := by decide +kernel
theorem dL_errors_623 : decode cL_errors 623 = .ok (.ifCond .ne 129, 3) := by decide +kernel
theorem dL_errors_626 : decode cL_errors 626 = .ok (.iload_n 3, 1) := by decide +kernel
theorem dL_errors_627 : decode cL_errors 627 = .ok (.bipush 6, 2) := by decide +kernel
theorem dL_errors_629 : decode cL_errors 629 = .ok (.if_icmp .lt 19, 3) := by decide +kernel
theorem dL_errors_632 : decode cL_errors 632 = .ok (.aload_n 0, 1) := by decide +kernel
theorem dL_errors_633 : decode cL_errors 633 = .ok (.bipush 9, 2) := by decide +kernel
theorem dL_errors_635 : decode cL_errors 635 = .ok (.iconst 0, 1) := by decide +kernel
theorem dL_errors_636 : decode cL_errors 636 = .ok (.iconst 0, 1) := by decide +kernel
theorem dL_errors_637 : decode cL_errors 637 = .ok (.iconst 0, 1) := by decide +kernel
theorem dL_errors_638 : decode cL_errors 638 = .ok (.invokestatic 126, 3) := by decide +kernel
theorem dL_errors_641 : decode cL_errors 641 = .ok (.ldc2_w 21, 3) := by decide +kernel
theorem dL_errors_644 : decode cL_errors 644 = .ok (.lcmp, 1) := by decide +kernel
theorem dL_errors_645 : decode cL_errors 645 = .ok (.ifCond .ne 107, 3) := by decide +kernel
theorem dL_errors_648 : decode cL_errors 648 = .ok (.iload 4, 2) := by decide +kernel
theorem dL_errors_650 : decode cL_errors 650 = .ok (.bipush 10, 2) := by decide +kernel
theorem dL_errors_652 : decode cL_errors 652 = .ok (.if_icmp .lt 17, 3) := by decide +kernel
theorem dL_errors_655 : decode cL_errors 655 = .ok (.aload_n 0, 1) := by decide +kernel
theorem dL_errors_656 : decode cL_errors 656 = .ok (.iconst 1, 1) := by decide +kernel
theorem dL_errors_657 : decode cL_errors 657 = .ok (.iconst 0, 1) := by decide +kernel
theorem dL_errors_658 : decode cL_errors 658 = .ok (.iconst 0, 1) := by decide +kernel
theorem dL_errors_659 : decode cL_errors 659 = .ok (.invokestatic 129, 3) := by decide +kernel
theorem dL_errors_662 : decode cL_errors 662 = .ok (.ldc2_w 21, 3) := by decide +kernel
theorem dL_errors_665 : decode cL_errors 665 = .ok (.lcmp, 1) := by decide +kernel
theorem dL_errors_666 : decode cL_errors 666 = .ok (.ifCond .ne 86, 3) := by decide +kernel
theorem dL_errors_669 : decode cL_errors 669 = .ok (.aload_n 0, 1) := by decide +kernel
theorem dL_errors_670 : decode cL_errors 670 = .ok (.iconst 0, 1) := by decide +kernel
theorem dL_errors_671 : decode cL_errors 671 = .ok (.lconst 0, 1) := by decide +kernel
theorem dL_errors_672 : decode cL_errors 672 = .ok (.invokestatic 147, 3) := by decide +kernel
theorem dL_errors_675 : decode cL_errors 675 = .ok (.ldc2_w 17, 3) := by decide +kernel
theorem dL_errors_678 : decode cL_errors 678 = .ok (.lcmp, 1) := by decide +kernel
theorem dL_errors_679 : decode cL_errors 679 = .ok (.ifCond .ne 73, 3) := by decide +kernel
theorem dL_errors_682 : decode cL_errors 682 = .ok (.aload_n 0, 1) := by decide +kernel
theorem dL_errors_683 : decode cL_errors 683 = .ok (.iconst 3, 1) := by decide +kernel
theorem dL_errors_684 : decode cL_errors 684 = .ok (.ldc2_w 151, 3) := by decide +kernel
theorem dL_errors_687 : decode cL_errors 687 = .ok (.invokestatic 147, 3) := by decide +kernel
theorem dL_errors_690 : decode cL_errors 690 = .ok (.ldc2_w 17, 3) := by decide +kernel
theorem dL_errors_693 : decode cL_errors 693 = .ok (.lcmp, 1) := by decide +kernel
theorem dL_errors_694 : decode cL_errors 694 = .ok (.ifCond .ne 58, 3) := by decide +kernel
theorem dL_errors_697 : decode cL_errors 697 = .ok (.aload_n 0, 1) := by decide +kernel
theorem dL_errors_698 : decode cL_errors 698 = .ok (.lconst 1, 1) := by decide +kernel
theorem dL_errors_699 : decode cL_errors 699 = .ok (.iconst 0, 1) := by decide +kernel
theorem dL_errors_700 : decode cL_errors 700 = .ok (.invokestatic 153, 3) := by decide +kernel
theorem dL_errors_703 : decode cL_errors 703 = .ok (.ldc2_w 17, 3) := by decide +kernel
theorem dL_errors_706 : decode cL_errors 706 = .ok (.lcmp, 1) := by decide +kernel
theorem dL_errors_707 : decode cL_errors 707 = .ok (.ifCond .ne 45, 3) := by decide +kernel
theorem dL_errors_710 : decode cL_errors 710 = .ok (.aload_n 0, 1) := by decide +kernel
theorem dL_errors_711 : decode cL_errors 711 = .ok (.iconst 2, 1) := by decide +kernel
theorem dL_errors_712 : decode cL_errors 712 = .ok (.invokestatic 156, 3) := by decide +kernel
theorem dL_errors_715 : decode cL_errors 715 = .ok (.ldc2_w 36, 3) := by decide +kernel
theorem dL_errors_718 : decode cL_errors 718 = .ok (.lcmp, 1) := by decide +kernel
theorem dL_errors_719 : decode cL_errors 719 = .ok (.ifCond .ne 33, 3) := by decide +kernel
theorem dL_errors_722 : decode cL_errors 722 = .ok (.aload_n 0, 1) := by decide +kernel
theorem dL_errors_723 : decode cL_errors 723 = .ok (.iconst 2, 1) := by decide +kernel
theorem dL_errors_724 : decode cL_errors 724 = .ok (.invokestatic 158, 3) := by decide +kernel
theorem dL_errors_727 : decode cL_errors 727 = .ok (.ldc2_w 36, 3) := by decide +kernel
theorem dL_errors_730 : decode cL_errors 730 = .ok (.lcmp, 1) := by decide +kernel
theorem dL_errors_731 : decode cL_errors 731 = .ok (.ifCond .ne 21, 3) := by decide +kernel
theorem dL_errors_734 : decode cL_errors 734 = .ok (.aload_n 0, 1) := by decide +kernel
theorem dL_errors_735 : decode cL_errors 735 = .ok (.sipush 256, 3) := by decide +kernel
theorem dL_errors_738 : decode cL_errors 738 = .ok (.invokestatic 160, 3) := by decide +kernel
theorem dL_errors_741 : decode cL_errors 741 = .ok (.ldc2_w 17, 3) := by decide +kernel
theorem dL_errors_744 : decode cL_errors 744 = .ok (.lcmp, 1) := by decide +kernel
theorem dL_errors_745 : decode cL_errors 745 = .ok (.ifCond .ne 7, 3) := by decide +kernel
theorem dL_errors_748 : decode cL_errors 748 = .ok (.iconst 1, 1) := by decide +kernel
theorem dL_errors_749 : decode cL_errors 749 = .ok (.goto 4, 3) := by decide +kernel
theorem dL_errors_752 : decode cL_errors 752 = .ok (.iconst 0, 1) := by decide +kernel
theorem dL_errors_753 : decode cL_errors 753 = .ok (.istore 5, 2) := by decide +kernel
theorem dL_errors_755 : decode cL_errors 755 = .ok (.iload 5, 2) := by decide +kernel
theorem dL_errors_757 : decode cL_errors 757 = .ok (.ifCond .eq 16, 3) := by decide +kernel
theorem dL_errors_760 : decode cL_errors 760 = .ok (.aload_n 0, 1) := by decide +kernel
theorem dL_errors_761 : decode cL_errors 761 = .ok (.invokestatic 119, 3) := by decide +kernel
theorem dL_errors_764 : decode cL_errors 764 = .ok (.lload_n 1, 1) := by decide +kernel
theorem dL_errors_765 : decode cL_errors 765 = .ok (.lcmp, 1) := by decide +kernel
theorem dL_errors_766 : decode cL_errors 766 = .ok (.ifCond .ne 7, 3) := by decide +kernel
theorem dL_errors_769 : decode cL_errors 769 = .ok (.iconst 1, 1) := by decide +kernel
theorem dL_errors_770 : decode cL_errors 770 = .ok (.goto 4, 3) := by decide +kernel
theorem dL_errors_773 : decode cL_errors 773 = .ok (.iconst 0, 1) := by decide +kernel
theorem dL_errors_774 : decode cL_errors 774 = .ok (.ireturn, 1) := by decide +kernel
theorem dL_kept_0 : decode cL_kept 0 = .ok (.iconst 1, 1) := by decide +kernel
theorem dL_kept_1 : decode cL_kept 1 = .ok (.istore_n 1, 1) := by decide +kernel
theorem dL_kept_2 : decode cL_kept 2 = .ok (.iconst 0, 1) := by decide +kernel
theorem dL_kept_3 : decode cL_kept 3 = .ok (.istore_n 2, 1) := by decide +kernel
theorem dL_kept_4 : decode cL_kept 4 = .ok (.iload_n 2, 1) := by decide +kernel
theorem dL_kept_5 : decode cL_kept 5 = .ok (.i2l, 1) := by decide +kernel
theorem dL_kept_6 : decode cL_kept 6 = .ok (.aload_n 0, 1) := by decide +kernel
theorem dL_kept_7 : decode cL_kept 7 = .ok (.iconst 0, 1) := by decide +kernel
theorem dL_kept_8 : decode cL_kept 8 = .ok (.invokestatic 103, 3) := by decide +kernel
theorem dL_kept_11 : decode cL_kept 11 = .ok (.lcmp, 1) := by decide +kernel
theorem dL_kept_12 : decode cL_kept 12 = .ok (.ifCond .ge 208, 3) := by decide +kernel
theorem dL_kept_15 : decode cL_kept 15 = .ok (.iload_n 1, 1) := by decide +kernel
theorem dL_kept_16 : decode cL_kept 16 = .ok (.ifCond .eq 204, 3) := by decide +kernel
theorem dL_kept_19 : decode cL_kept 19 = .ok (.aload_n 0, 1) := by decide +kernel
theorem dL_kept_20 : decode cL_kept 20 = .ok (.iload_n 2, 1) := by decide +kernel
theorem dL_kept_21 : decode cL_kept 21 = .ok (.iconst 0, 1) := by decide +kernel
theorem dL_kept_22 : decode cL_kept 22 = .ok (.invokestatic 112, 3) := by decide +kernel
theorem dL_kept_25 : decode cL_kept 25 = .ok (.l2i, 1) := by decide +kernel
theorem dL_kept_26 : decode cL_kept 26 = .ok (.istore_n 3, 1) := by decide +kernel
theorem dL_kept_27 : decode cL_kept 27 = .ok (.iconst 0, 1) := by decide +kernel
theorem dL_kept_28 : decode cL_kept 28 = .ok (.istore 4, 2) := by decide +kernel
theorem dL_kept_30 : decode cL_kept 30 = .ok (.iload 4, 2) := by decide +kernel
theorem dL_kept_32 : decode cL_kept 32 = .ok (.iload_n 3, 1) := by decide +kernel
theorem dL_kept_33 : decode cL_kept 33 = .ok (.if_icmp .ge 101, 3) := by decide +kernel
theorem dL_kept_36 : decode cL_kept 36 = .ok (.iload_n 1, 1) := by decide +kernel
theorem dL_kept_37 : decode cL_kept 37 = .ok (.ifCond .eq 97, 3) := by decide +kernel
theorem dL_kept_40 : decode cL_kept 40 = .ok (.iload 4, 2) := by decide +kernel
theorem dL_kept_42 : decode cL_kept 42 = .ok (.iconst 1, 1) := by decide +kernel
theorem dL_kept_43 : decode cL_kept 43 = .ok (.iadd, 1) := by decide +kernel
theorem dL_kept_44 : decode cL_kept 44 = .ok (.iload_n 3, 1) := by decide +kernel
theorem dL_kept_45 : decode cL_kept 45 = .ok (.if_icmp .ge 16, 3) := by decide +kernel
theorem dL_kept_48 : decode cL_kept 48 = .ok (.aload_n 0, 1) := by decide +kernel
theorem dL_kept_49 : decode cL_kept 49 = .ok (.iload_n 2, 1) := by decide +kernel
theorem dL_kept_50 : decode cL_kept 50 = .ok (.iload 4, 2) := by decide +kernel
theorem dL_kept_52 : decode cL_kept 52 = .ok (.iconst 1, 1) := by decide +kernel
theorem dL_kept_53 : decode cL_kept 53 = .ok (.iadd, 1) := by decide +kernel
theorem dL_kept_54 : decode cL_kept 54 = .ok (.iconst 0, 1) := by decide +kernel
theorem dL_kept_55 : decode cL_kept 55 = .ok (.invokestatic 123, 3) := by decide +kernel
theorem dL_kept_58 : decode cL_kept 58 = .ok (.goto 30, 3) := by decide +kernel
theorem dL_kept_61 : decode cL_kept 61 = .ok (.iload_n 2, 1) := by decide +kernel
theorem dL_kept_62 : decode cL_kept 62 = .ok (.ifCond .ne 7, 3) := by decide +kernel
theorem dL_kept_65 : decode cL_kept 65 = .ok (.lconst 0, 1) := by decide +kernel
theorem dL_kept_66 : decode cL_kept 66 = .ok (.goto 22, 3) := by decide +kernel
theorem dL_kept_69 : decode cL_kept 69 = .ok (.aload_n 0, 1) := by decide +kernel
theorem dL_kept_70 : decode cL_kept 70 = .ok (.aload_n 0, 1) := by decide +kernel
theorem dL_kept_71 : decode cL_kept 71 = .ok (.iload_n 2, 1) := by decide +kernel
theorem dL_kept_72 : decode cL_kept 72 = .ok (.iconst 2, 1) := by decide +kernel
theorem dL_kept_73 : decode cL_kept 73 = .ok (.invokestatic 112, 3) := by decide +kernel
theorem dL_kept_76 : decode cL_kept 76 = .ok (.l2i, 1) := by decide +kernel
theorem dL_kept_77 : decode cL_kept 77 = .ok (.aload_n 0, 1) := by decide +kernel
theorem dL_kept_78 : decode cL_kept 78 = .ok (.iload_n 2, 1) := by decide +kernel
theorem dL_kept_79 : decode cL_kept 79 = .ok (.iconst 3, 1) := by decide +kernel
theorem dL_kept_80 : decode cL_kept 80 = .ok (.invokestatic 112, 3) := by decide +kernel
theorem dL_kept_83 : decode cL_kept 83 = .ok (.l2i, 1) := by decide +kernel
theorem dL_kept_84 : decode cL_kept 84 = .ok (.iconst 0, 1) := by decide +kernel
theorem dL_kept_85 : decode cL_kept 85 = .ok (.invokestatic 123, 3) := by decide +kernel
theorem dL_kept_88 : decode cL_kept 88 = .ok (.lstore 5, 2) := by decide +kernel
theorem dL_kept_90 : decode cL_kept 90 = .ok (.aload_n 0, 1) := by decide +kernel
theorem dL_kept_91 : decode cL_kept 91 = .ok (.iload_n 2, 1) := by decide +kernel
theorem dL_kept_92 : decode cL_kept 92 = .ok (.iload 4, 2) := by decide +kernel
theorem dL_kept_94 : decode cL_kept 94 = .ok (.iconst 0, 1) := by decide +kernel
theorem dL_kept_95 : decode cL_kept 95 = .ok (.invokestatic 123, 3) := by decide +kernel
theorem dL_kept_98 : decode cL_kept 98 = .ok (.lload 5, 2) := by decide +kernel
theorem dL_kept_100 : decode cL_kept 100 = .ok (.lconst 1, 1) := by decide +kernel
theorem dL_kept_101 : decode cL_kept 101 = .ok (.ladd, 1) := by decide +kernel
theorem dL_kept_102 : decode cL_kept 102 = .ok (.lcmp, 1) := by decide +kernel
theorem dL_kept_103 : decode cL_kept 103 = .ok (.ifCond .ne 23, 3) := by decide +kernel
theorem dL_kept_106 : decode cL_kept 106 = .ok (.aload_n 0, 1) := by decide +kernel
theorem dL_kept_107 : decode cL_kept 107 = .ok (.iload_n 2, 1) := by decide +kernel
theorem dL_kept_108 : decode cL_kept 108 = .ok (.iload 4, 2) := by decide +kernel
theorem dL_kept_110 : decode cL_kept 110 = .ok (.iconst 1, 1) := by decide +kernel
theorem dL_kept_111 : decode cL_kept 111 = .ok (.invokestatic 123, 3) := by decide +kernel
theorem dL_kept_114 : decode cL_kept 114 = .ok (.lload 5, 2) := by decide +kernel
theorem dL_kept_116 : decode cL_kept 116 = .ok (.lconst 1, 1) := by decide +kernel
theorem dL_kept_117 : decode cL_kept 117 = .ok (.ladd, 1) := by decide +kernel
theorem dL_kept_118 : decode cL_kept 118 = .ok (.lcmp, 1) := by decide +kernel
theorem dL_kept_119 : decode cL_kept 119 = .ok (.ifCond .ne 7, 3) := by decide +kernel
theorem dL_kept_122 : decode cL_kept 122 = .ok (.iconst 1, 1) := by decide +kernel
theorem dL_kept_123 : decode cL_kept 123 = .ok (.goto 4, 3) := by decide +kernel
theorem dL_kept_126 : decode cL_kept 126 = .ok (.iconst 0, 1) := by decide +kernel
theorem dL_kept_127 : decode cL_kept 127 = .ok (.istore_n 1, 1) := by decide +kernel
theorem dL_kept_128 : decode cL_kept 128 = .ok (.iinc 4 3, 3) := by decide +kernel
theorem dL_kept_131 : decode cL_kept 131 = .ok (.goto (-101), 3) := by decide +kernel
theorem dL_kept_134 : decode cL_kept 134 = .ok (.iload_n 1, 1) := by decide +kernel
theorem dL_kept_135 : decode cL_kept 135 = .ok (.ifCond .eq 77, 3) := by decide +kernel
theorem dL_kept_138 : decode cL_kept 138 = .ok (.iload_n 2, 1) := by decide +kernel
theorem dL_kept_139 : decode cL_kept 139 = .ok (.ifCond .ne 19, 3) := by decide +kernel
theorem dL_kept_142 : decode cL_kept 142 = .ok (.aload_n 0, 1) := by decide +kernel
theorem dL_kept_143 : decode cL_kept 143 = .ok (.iload_n 2, 1) := by decide +kernel
theorem dL_kept_144 : decode cL_kept 144 = .ok (.iconst 2, 1) := by decide +kernel
theorem dL_kept_145 : decode cL_kept 145 = .ok (.invokestatic 112, 3) := by decide +kernel
theorem dL_kept_148 : decode cL_kept 148 = .ok (.ldc2_w 162, 3) := by decide +kernel
theorem dL_kept_151 : decode cL_kept 151 = .ok (.lcmp, 1) := by decide +kernel
theorem dL_kept_152 : decode cL_kept 152 = .ok (.ifCond .ne 60, 3) := by decide +kernel
theorem dL_kept_155 : decode cL_kept 155 = .ok (.goto 15, 3) := by decide +kernel
theorem dL_kept_158 : decode cL_kept 158 = .ok (.aload_n 0, 1) := by decide +kernel
theorem dL_kept_159 : decode cL_kept 159 = .ok (.iload_n 2, 1) := by decide +kernel
theorem dL_kept_160 : decode cL_kept 160 = .ok (.iconst 2, 1) := by decide +kernel
theorem dL_kept_161 : decode cL_kept 161 = .ok (.invokestatic 112, 3) := by decide +kernel
theorem dL_kept_164 : decode cL_kept 164 = .ok (.iload_n 2, 1) := by decide +kernel
theorem dL_kept_165 : decode cL_kept 165 = .ok (.i2l, 1) := by decide +kernel
theorem dL_kept_166 : decode cL_kept 166 = .ok (.lcmp, 1) := by decide +kernel
theorem dL_kept_167 : decode cL_kept 167 = .ok (.ifCond .ge 45, 3) := by decide +kernel
theorem dL_kept_170 : decode cL_kept 170 = .ok (.aload_n 0, 1) := by decide +kernel
theorem dL_kept_171 : decode cL_kept 171 = .ok (.iload_n 2, 1) := by decide +kernel
theorem dL_kept_172 : decode cL_kept 172 = .ok (.iconst 5, 1) := by decide +kernel
theorem dL_kept_173 : decode cL_kept 173 = .ok (.invokestatic 112, 3) := by decide +kernel
theorem dL_kept_176 : decode cL_kept 176 = .ok (.lconst 0, 1) := by decide +kernel
theorem dL_kept_177 : decode cL_kept 177 = .ok (.lcmp, 1) := by decide +kernel
theorem dL_kept_178 : decode cL_kept 178 = .ok (.ifCond .ne 7, 3) := by decide +kernel
theorem dL_kept_181 : decode cL_kept 181 = .ok (.iconst 1, 1) := by decide +kernel
theorem dL_kept_182 : decode cL_kept 182 = .ok (.goto 4, 3) := by decide +kernel
theorem dL_kept_185 : decode cL_kept 185 = .ok (.iconst 0, 1) := by decide +kernel
theorem dL_kept_186 : decode cL_kept 186 = .ok (.aload_n 0, 1) := by decide +kernel
theorem dL_kept_187 : decode cL_kept 187 = .ok (.iload_n 2, 1) := by decide +kernel
theorem dL_kept_188 : decode cL_kept 188 = .ok (.bipush 6, 2) := by decide +kernel
theorem dL_kept_190 : decode cL_kept 190 = .ok (.invokestatic 112, 3) := by decide +kernel
theorem dL_kept_193 : decode cL_kept 193 = .ok (.ldc2_w 162, 3) := by decide +kernel
theorem dL_kept_196 : decode cL_kept 196 = .ok (.lcmp, 1) := by decide +kernel
theorem dL_kept_197 : decode cL_kept 197 = .ok (.ifCond .ne 7, 3) := by decide +kernel
theorem dL_kept_200 : decode cL_kept 200 = .ok (.iconst 1, 1) := by decide +kernel
theorem dL_kept_201 : decode cL_kept 201 = .ok (.goto 4, 3) := by decide +kernel
theorem dL_kept_204 : decode cL_kept 204 = .ok (.iconst 0, 1) := by decide +kernel
theorem dL_kept_205 : decode cL_kept 205 = .ok (.if_icmp .ne 7, 3) := by decide +kernel
theorem dL_kept_208 : decode cL_kept 208 = .ok (.iconst 1, 1) := by decide +kernel
theorem dL_kept_209 : decode cL_kept 209 = .ok (.goto 4, 3) := by decide +kernel
theorem dL_kept_212 : decode cL_kept 212 = .ok (.iconst 0, 1) := by decide +kernel
theorem dL_kept_213 : decode cL_kept 213 = .ok (.istore_n 1, 1) := by decide +kernel
theorem dL_kept_214 : decode cL_kept 214 = .ok (.iinc 2 1, 3) := by decide +kernel
theorem dL_kept_217 : decode cL_kept 217 = .ok (.goto (-213), 3) := by decide +kernel
theorem dL_kept_220 : decode cL_kept 220 = .ok (.lconst 0, 1) := by decide +kernel
theorem dL_kept_221 : decode cL_kept 221 = .ok (.lstore_n 2, 1) := by decide +kernel
theorem dL_kept_222 : decode cL_kept 222 = .ok (.lconst 0, 1) := by decide +kernel
theorem dL_kept_223 : decode cL_kept 223 = .ok (.lstore 4, 2) := by decide +kernel
theorem dL_kept_225 : decode cL_kept 225 = .ok (.iconst 0, 1) := by decide +kernel
theorem dL_kept_226 : decode cL_kept 226 = .ok (.istore 6, 2) := by decide +kernel
theorem dL_kept_228 : decode cL_kept 228 = .ok (.iconst 0, 1) := by decide +kernel
theorem dL_kept_229 : decode cL_kept 229 = .ok (.istore 7, 2) := by decide +kernel
theorem dL_kept_231 : decode cL_kept 231 = .ok (.iconst 0, 1) := by decide +kernel
theorem dL_kept_232 : decode cL_kept 232 = .ok (.istore 8, 2) := by decide +kernel
theorem dL_kept_234 : decode cL_kept 234 = .ok (.lconst 0, 1) := by decide +kernel
theorem dL_kept_235 : decode cL_kept 235 = .ok (.lstore 9, 2) := by decide +kernel
theorem dL_kept_237 : decode cL_kept 237 = .ok (.lconst 0, 1) := by decide +kernel
theorem dL_kept_238 : decode cL_kept 238 = .ok (.lstore 11, 2) := by decide +kernel
theorem dL_kept_240 : decode cL_kept 240 = .ok (.iconst 0, 1) := by decide +kernel
theorem dL_kept_241 : decode cL_kept 241 = .ok (.istore 13, 2) := by decide +kernel
theorem dL_kept_243 : decode cL_kept 243 = .ok (.iload 13, 2) := by decide +kernel
theorem dL_kept_245 : decode cL_kept 245 = .ok (.i2l, 1) := by decide +kernel
theorem dL_kept_246 : decode cL_kept 246 = .ok (.aload_n 0, 1) := by decide +kernel
theorem dL_kept_247 : decode cL_kept 247 = .ok (.iconst 1, 1) := by decide +kernel
theorem dL_kept_248 : decode cL_kept 248 = .ok (.invokestatic 103, 3) := by decide +kernel
theorem dL_kept_251 : decode cL_kept 251 = .ok (.lcmp, 1) := by decide +kernel
theorem dL_kept_252 : decode cL_kept 252 = .ok (.ifCond .ge 280, 3) := by decide +kernel
theorem dL_kept_255 : decode cL_kept 255 = .ok (.iload_n 1, 1) := by decide +kernel
theorem dL_kept_256 : decode cL_kept 256 = .ok (.ifCond .eq 276, 3) := by decide +kernel
theorem dL_kept_259 : decode cL_kept 259 = .ok (.aload_n 0, 1) := by decide +kernel
theorem dL_kept_260 : decode cL_kept 260 = .ok (.iload 13, 2) := by decide +kernel
theorem dL_kept_262 : decode cL_kept 262 = .ok (.iconst 3, 1) := by decide +kernel
theorem dL_kept_263 : decode cL_kept 263 = .ok (.invokestatic 115, 3) := by decide +kernel
theorem dL_kept_266 : decode cL_kept 266 = .ok (.lstore 14, 2) := by decide +kernel
theorem dL_kept_268 : decode cL_kept 268 = .ok (.lload 14, 2) := by decide +kernel
theorem dL_kept_270 : decode cL_kept 270 = .ok (.lconst 1, 1) := by decide +kernel
theorem dL_kept_271 : decode cL_kept 271 = .ok (.lcmp, 1) := by decide +kernel
theorem dL_kept_272 : decode cL_kept 272 = .ok (.ifCond .eq 12, 3) := by decide +kernel
theorem dL_kept_275 : decode cL_kept 275 = .ok (.lload 14, 2) := by decide +kernel
theorem dL_kept_277 : decode cL_kept 277 = .ok (.ldc2_w 164, 3) := by decide +kernel
theorem dL_kept_280 : decode cL_kept 280 = .ok (.lcmp, 1) := by decide +kernel
theorem dL_kept_281 : decode cL_kept 281 = .ok (.ifCond .ne 7, 3) := by decide +kernel
theorem dL_kept_284 : decode cL_kept 284 = .ok (.iconst 1, 1) := by decide +kernel
theorem dL_kept_285 : decode cL_kept 285 = .ok (.goto 4, 3) := by decide +kernel
theorem dL_kept_288 : decode cL_kept 288 = .ok (.iconst 0, 1) := by decide +kernel
theorem dL_kept_289 : decode cL_kept 289 = .ok (.istore 16, 2) := by decide +kernel
theorem dL_kept_291 : decode cL_kept 291 = .ok (.aload_n 0, 1) := by decide +kernel
theorem dL_kept_292 : decode cL_kept 292 = .ok (.iload 13, 2) := by decide +kernel
theorem dL_kept_294 : decode cL_kept 294 = .ok (.iconst 4, 1) := by decide +kernel
theorem dL_kept_295 : decode cL_kept 295 = .ok (.invokestatic 115, 3) := by decide +kernel
theorem dL_kept_298 : decode cL_kept 298 = .ok (.l2i, 1) := by decide +kernel
theorem dL_kept_299 : decode cL_kept 299 = .ok (.istore 17, 2) := by decide +kernel
theorem dL_kept_301 : decode cL_kept 301 = .ok (.lload 14, 2) := by decide +kernel
theorem dL_kept_303 : decode cL_kept 303 = .ok (.lconst 0, 1) := by decide +kernel
theorem dL_kept_304 : decode cL_kept 304 = .ok (.ldc2_w 166, 3) := by decide +kernel
theorem dL_kept_307 : decode cL_kept 307 = .ok (.invokestatic 168, 3) := by decide +kernel
theorem dL_kept_310 : decode cL_kept 310 = .ok (.ifCond .eq 135, 3) := by decide +kernel
theorem dL_kept_313 : decode cL_kept 313 = .ok (.iload 16, 2) := by decide +kernel
theorem dL_kept_315 : decode cL_kept 315 = .ok (.ifCond .eq 46, 3) := by decide +kernel
theorem dL_kept_318 : decode cL_kept 318 = .ok (.iload 17, 2) := by decide +kernel
theorem dL_kept_320 : decode cL_kept 320 = .ok (.i2l, 1) := by decide +kernel
theorem dL_kept_321 : decode cL_kept 321 = .ok (.lconst 0, 1) := by decide +kernel
theorem dL_kept_322 : decode cL_kept 322 = .ok (.aload_n 0, 1) := by decide +kernel
theorem dL_kept_323 : decode cL_kept 323 = .ok (.iconst 0, 1) := by decide +kernel
theorem dL_kept_324 : decode cL_kept 324 = .ok (.invokestatic 103, 3) := by decide +kernel
theorem dL_kept_327 : decode cL_kept 327 = .ok (.lconst 1, 1) := by decide +kernel
theorem dL_kept_328 : decode cL_kept 328 = .ok (.lsub, 1) := by decide +kernel
theorem dL_kept_329 : decode cL_kept 329 = .ok (.invokestatic 168, 3) := by decide +kernel
theorem dL_kept_332 : decode cL_kept 332 = .ok (.ifCond .eq 113, 3) := by decide +kernel
theorem dL_kept_335 : decode cL_kept 335 = .ok (.aload_n 0, 1) := by decide +kernel
theorem dL_kept_336 : decode cL_kept 336 = .ok (.iload 13, 2) := by decide +kernel
theorem dL_kept_338 : decode cL_kept 338 = .ok (.iconst 5, 1) := by decide +kernel
theorem dL_kept_339 : decode cL_kept 339 = .ok (.invokestatic 115, 3) := by decide +kernel
theorem dL_kept_342 : decode cL_kept 342 = .ok (.lconst 0, 1) := by decide +kernel
theorem dL_kept_343 : decode cL_kept 343 = .ok (.aload_n 0, 1) := by decide +kernel
theorem dL_kept_344 : decode cL_kept 344 = .ok (.iload 17, 2) := by decide +kernel
theorem dL_kept_346 : decode cL_kept 346 = .ok (.iconst 0, 1) := by decide +kernel
theorem dL_kept_347 : decode cL_kept 347 = .ok (.invokestatic 112, 3) := by decide +kernel
theorem dL_kept_350 : decode cL_kept 350 = .ok (.lconst 1, 1) := by decide +kernel
theorem dL_kept_351 : decode cL_kept 351 = .ok (.lsub, 1) := by decide +kernel
theorem dL_kept_352 : decode cL_kept 352 = .ok (.invokestatic 168, 3) := by decide +kernel
theorem dL_kept_355 : decode cL_kept 355 = .ok (.ifCond .eq 90, 3) := by decide +kernel
theorem dL_kept_358 : decode cL_kept 358 = .ok (.goto 23, 3) := by decide +kernel
theorem dL_kept_361 : decode cL_kept 361 = .ok (.iload 17, 2) := by decide +kernel
theorem dL_kept_363 : decode cL_kept 363 = .ok (.iconst (-1), 1) := by decide +kernel
theorem dL_kept_364 : decode cL_kept 364 = .ok (.if_icmp .ne 81, 3) := by decide +kernel
theorem dL_kept_367 : decode cL_kept 367 = .ok (.aload_n 0, 1) := by decide +kernel
theorem dL_kept_368 : decode cL_kept 368 = .ok (.iload 13, 2) := by decide +kernel
theorem dL_kept_370 : decode cL_kept 370 = .ok (.iconst 5, 1) := by decide +kernel
theorem dL_kept_371 : decode cL_kept 371 = .ok (.invokestatic 115, 3) := by decide +kernel
theorem dL_kept_374 : decode cL_kept 374 = .ok (.ldc2_w 162, 3) := by decide +kernel
theorem dL_kept_377 : decode cL_kept 377 = .ok (.lcmp, 1) := by decide +kernel
theorem dL_kept_378 : decode cL_kept 378 = .ok (.ifCond .ne 67, 3) := by decide +kernel
theorem dL_kept_381 : decode cL_kept 381 = .ok (.lload 14, 2) := by decide +kernel
theorem dL_kept_383 : decode cL_kept 383 = .ok (.ldc2_w 172, 3) := by decide +kernel
theorem dL_kept_386 : decode cL_kept 386 = .ok (.lcmp, 1) := by decide +kernel
theorem dL_kept_387 : decode cL_kept 387 = .ok (.ifCond .ne 19, 3) := by decide +kernel
theorem dL_kept_390 : decode cL_kept 390 = .ok (.aload_n 0, 1) := by decide +kernel
theorem dL_kept_391 : decode cL_kept 391 = .ok (.iload 13, 2) := by decide +kernel
theorem dL_kept_393 : decode cL_kept 393 = .ok (.bipush 7, 2) := by decide +kernel
theorem dL_kept_395 : decode cL_kept 395 = .ok (.invokestatic 115, 3) := by decide +kernel
theorem dL_kept_398 : decode cL_kept 398 = .ok (.lconst 1, 1) := by decide +kernel
theorem dL_kept_399 : decode cL_kept 399 = .ok (.lcmp, 1) := by decide +kernel
theorem dL_kept_400 : decode cL_kept 400 = .ok (.ifCond .lt 45, 3) := by decide +kernel
theorem dL_kept_403 : decode cL_kept 403 = .ok (.goto 18, 3) := by decide +kernel
theorem dL_kept_406 : decode cL_kept 406 = .ok (.aload_n 0, 1) := by decide +kernel
theorem dL_kept_407 : decode cL_kept 407 = .ok (.iload 13, 2) := by decide +kernel
theorem dL_kept_409 : decode cL_kept 409 = .ok (.bipush 7, 2) := by decide +kernel
theorem dL_kept_411 : decode cL_kept 411 = .ok (.invokestatic 115, 3) := by decide +kernel
theorem dL_kept_414 : decode cL_kept 414 = .ok (.ldc2_w 162, 3) := by decide +kernel
theorem dL_kept_417 : decode cL_kept 417 = .ok (.lcmp, 1) := by decide +kernel
theorem dL_kept_418 : decode cL_kept 418 = .ok (.ifCond .ne 27, 3) := by decide +kernel
theorem dL_kept_421 : decode cL_kept 421 = .ok (.lload 14, 2) := by decide +kernel
theorem dL_kept_423 : decode cL_kept 423 = .ok (.ldc2_w 172, 3) := by decide +kernel
theorem dL_kept_426 : decode cL_kept 426 = .ok (.lcmp, 1) := by decide +kernel
theorem dL_kept_427 : decode cL_kept 427 = .ok (.ifCond .ne 14, 3) := by decide +kernel
theorem dL_kept_430 : decode cL_kept 430 = .ok (.aload_n 0, 1) := by decide +kernel
theorem dL_kept_431 : decode cL_kept 431 = .ok (.bipush 9, 2) := by decide +kernel
theorem dL_kept_433 : decode cL_kept 433 = .ok (.invokestatic 103, 3) := by decide +kernel
theorem dL_kept_436 : decode cL_kept 436 = .ok (.lconst 1, 1) := by decide +kernel
theorem dL_kept_437 : decode cL_kept 437 = .ok (.lcmp, 1) := by decide +kernel
theorem dL_kept_438 : decode cL_kept 438 = .ok (.ifCond .ne 7, 3) := by decide +kernel
theorem dL_kept_441 : decode cL_kept 441 = .ok (.iconst 1, 1) := by decide +kernel
theorem dL_kept_442 : decode cL_kept 442 = .ok (.goto 4, 3) := by decide +kernel
theorem dL_kept_445 : decode cL_kept 445 = .ok (.iconst 0, 1) := by decide +kernel
theorem dL_kept_446 : decode cL_kept 446 = .ok (.istore_n 1, 1) := by decide +kernel
theorem dL_kept_447 : decode cL_kept 447 = .ok (.lload_n 2, 1) := by decide +kernel
theorem dL_kept_448 : decode cL_kept 448 = .ok (.aload_n 0, 1) := by decide +kernel
theorem dL_kept_449 : decode cL_kept 449 = .ok (.iload 13, 2) := by decide +kernel
theorem dL_kept_451 : decode cL_kept 451 = .ok (.bipush 9, 2) := by decide +kernel
theorem dL_kept_453 : decode cL_kept 453 = .ok (.invokestatic 115, 3) := by decide +kernel
theorem dL_kept_456 : decode cL_kept 456 = .ok (.ladd, 1) := by decide +kernel
theorem dL_kept_457 : decode cL_kept 457 = .ok (.lstore_n 2, 1) := by decide +kernel
theorem dL_kept_458 : decode cL_kept 458 = .ok (.lload 4, 2) := by decide +kernel
theorem dL_kept_460 : decode cL_kept 460 = .ok (.aload_n 0, 1) := by decide +kernel
theorem dL_kept_461 : decode cL_kept 461 = .ok (.iload 13, 2) := by decide +kernel
theorem dL_kept_463 : decode cL_kept 463 = .ok (.bipush 8, 2) := by decide +kernel
theorem dL_kept_465 : decode cL_kept 465 = .ok (.invokestatic 115, 3) := by decide +kernel
theorem dL_kept_468 : decode cL_kept 468 = .ok (.ladd, 1) := by decide +kernel
theorem dL_kept_469 : decode cL_kept 469 = .ok (.lstore 4, 2) := by decide +kernel
theorem dL_kept_471 : decode cL_kept 471 = .ok (.iload 6, 2) := by decide +kernel
theorem dL_kept_473 : decode cL_kept 473 = .ok (.lload 14, 2) := by decide +kernel
theorem dL_kept_475 : decode cL_kept 475 = .ok (.lconst 1, 1) := by decide +kernel
theorem dL_kept_476 : decode cL_kept 476 = .ok (.lcmp, 1) := by decide +kernel
theorem dL_kept_477 : decode cL_kept 477 = .ok (.ifCond .ne 7, 3) := by decide +kernel
theorem dL_kept_480 : decode cL_kept 480 = .ok (.iconst 1, 1) := by decide +kernel
theorem dL_kept_481 : decode cL_kept 481 = .ok (.goto 4, 3) := by decide +kernel
theorem dL_kept_484 : decode cL_kept 484 = .ok (.iconst 0, 1) := by decide +kernel
theorem dL_kept_485 : decode cL_kept 485 = .ok (.iadd, 1) := by decide +kernel
theorem dL_kept_486 : decode cL_kept 486 = .ok (.istore 6, 2) := by decide +kernel
theorem dL_kept_488 : decode cL_kept 488 = .ok (.iload 7, 2) := by decide +kernel
theorem dL_kept_490 : decode cL_kept 490 = .ok (.lload 14, 2) := by decide +kernel
theorem dL_kept_492 : decode cL_kept 492 = .ok (.ldc2_w 172, 3) := by decide +kernel
theorem dL_kept_495 : decode cL_kept 495 = .ok (.lcmp, 1) := by decide +kernel
theorem dL_kept_496 : decode cL_kept 496 = .ok (.ifCond .ne 7, 3) := by decide +kernel
theorem dL_kept_499 : decode cL_kept 499 = .ok (.iconst 1, 1) := by decide +kernel
theorem dL_kept_500 : decode cL_kept 500 = .ok (.goto 4, 3) := by decide +kernel
theorem dL_kept_503 : decode cL_kept 503 = .ok (.iconst 0, 1) := by decide +kernel
theorem dL_kept_504 : decode cL_kept 504 = .ok (.iadd, 1) := by decide +kernel
theorem dL_kept_505 : decode cL_kept 505 = .ok (.istore 7, 2) := by decide +kernel
theorem dL_kept_507 : decode cL_kept 507 = .ok (.iload 8, 2) := by decide +kernel
theorem dL_kept_509 : decode cL_kept 509 = .ok (.lload 14, 2) := by decide +kernel
theorem dL_kept_511 : decode cL_kept 511 = .ok (.ldc2_w 164, 3) := by decide +kernel
theorem dL_kept_514 : decode cL_kept 514 = .ok (.lcmp, 1) := by decide +kernel
theorem dL_kept_515 : decode cL_kept 515 = .ok (.ifCond .ne 7, 3) := by decide +kernel
theorem dL_kept_518 : decode cL_kept 518 = .ok (.iconst 1, 1) := by decide +kernel
theorem dL_kept_519 : decode cL_kept 519 = .ok (.goto 4, 3) := by decide +kernel
theorem dL_kept_522 : decode cL_kept 522 = .ok (.iconst 0, 1) := by decide +kernel
theorem dL_kept_523 : decode cL_kept 523 = .ok (.iadd, 1) := by decide +kernel
theorem dL_kept_524 : decode cL_kept 524 = .ok (.istore 8, 2) := by decide +kernel
theorem dL_kept_526 : decode cL_kept 526 = .ok (.iinc 13 1, 3) := by decide +kernel
theorem dL_kept_529 : decode cL_kept 529 = .ok (.goto (-286), 3) := by decide +kernel
theorem dL_kept_532 : decode cL_kept 532 = .ok (.iconst 0, 1) := by decide +kernel
theorem dL_kept_533 : decode cL_kept 533 = .ok (.istore 13, 2) := by decide +kernel
theorem dL_kept_535 : decode cL_kept 535 = .ok (.iload 13, 2) := by decide +kernel
theorem dL_kept_537 : decode cL_kept 537 = .ok (.iconst 4, 1) := by decide +kernel
theorem dL_kept_538 : decode cL_kept 538 = .ok (.if_icmp .ge 100, 3) := by decide +kernel
theorem dL_kept_541 : decode cL_kept 541 = .ok (.lload 11, 2) := by decide +kernel
theorem dL_kept_543 : decode cL_kept 543 = .ok (.aload_n 0, 1) := by decide +kernel
theorem dL_kept_544 : decode cL_kept 544 = .ok (.iload 13, 2) := by decide +kernel
theorem dL_kept_546 : decode cL_kept 546 = .ok (.iconst 0, 1) := by decide +kernel
theorem dL_kept_547 : decode cL_kept 547 = .ok (.invokestatic 117, 3) := by decide +kernel
theorem dL_kept_550 : decode cL_kept 550 = .ok (.ladd, 1) := by decide +kernel
theorem dL_kept_551 : decode cL_kept 551 = .ok (.lstore 11, 2) := by decide +kernel
theorem dL_kept_553 : decode cL_kept 553 = .ok (.lload 9, 2) := by decide +kernel
theorem dL_kept_555 : decode cL_kept 555 = .ok (.aload_n 0, 1) := by decide +kernel
theorem dL_kept_556 : decode cL_kept 556 = .ok (.iload 13, 2) := by decide +kernel
theorem dL_kept_558 : decode cL_kept 558 = .ok (.iconst 1, 1) := by decide +kernel
theorem dL_kept_559 : decode cL_kept 559 = .ok (.invokestatic 117, 3) := by decide +kernel
theorem dL_kept_562 : decode cL_kept 562 = .ok (.ladd, 1) := by decide +kernel
theorem dL_kept_563 : decode cL_kept 563 = .ok (.lstore 9, 2) := by decide +kernel
theorem dL_kept_565 : decode cL_kept 565 = .ok (.iload_n 1, 1) := by decide +kernel
theorem dL_kept_566 : decode cL_kept 566 = .ok (.ifCond .eq 64, 3) := by decide +kernel
theorem dL_kept_569 : decode cL_kept 569 = .ok (.aload_n 0, 1) := by decide +kernel
theorem dL_kept_570 : decode cL_kept 570 = .ok (.iload 13, 2) := by decide +kernel
theorem dL_kept_572 : decode cL_kept 572 = .ok (.iconst 2, 1) := by decide +kernel
theorem dL_kept_573 : decode cL_kept 573 = .ok (.invokestatic 117, 3) := by decide +kernel
theorem dL_kept_576 : decode cL_kept 576 = .ok (.ldc2_w 162, 3) := by decide +kernel
theorem dL_kept_579 : decode cL_kept 579 = .ok (.lcmp, 1) := by decide +kernel
theorem dL_kept_580 : decode cL_kept 580 = .ok (.ifCond .ne 7, 3) := by decide +kernel
theorem dL_kept_583 : decode cL_kept 583 = .ok (.iconst 1, 1) := by decide +kernel
theorem dL_kept_584 : decode cL_kept 584 = .ok (.goto 4, 3) := by decide +kernel
theorem dL_kept_587 : decode cL_kept 587 = .ok (.iconst 0, 1) := by decide +kernel
theorem dL_kept_588 : decode cL_kept 588 = .ok (.aload_n 0, 1) := by decide +kernel
theorem dL_kept_589 : decode cL_kept 589 = .ok (.iload 13, 2) := by decide +kernel
theorem dL_kept_591 : decode cL_kept 591 = .ok (.iconst 3, 1) := by decide +kernel
theorem dL_kept_592 : decode cL_kept 592 = .ok (.invokestatic 117, 3) := by decide +kernel
theorem dL_kept_595 : decode cL_kept 595 = .ok (.ldc2_w 162, 3) := by decide +kernel
theorem dL_kept_598 : decode cL_kept 598 = .ok (.lcmp, 1) := by decide +kernel
theorem dL_kept_599 : decode cL_kept 599 = .ok (.ifCond .ne 7, 3) := by decide +kernel
theorem dL_kept_602 : decode cL_kept 602 = .ok (.iconst 1, 1) := by decide +kernel
theorem dL_kept_603 : decode cL_kept 603 = .ok (.goto 4, 3) := by decide +kernel
theorem dL_kept_606 : decode cL_kept 606 = .ok (.iconst 0, 1) := by decide +kernel
theorem dL_kept_607 : decode cL_kept 607 = .ok (.if_icmp .ne 23, 3) := by decide +kernel
theorem dL_kept_610 : decode cL_kept 610 = .ok (.aload_n 0, 1) := by decide +kernel
theorem dL_kept_611 : decode cL_kept 611 = .ok (.iload 13, 2) := by decide +kernel
theorem dL_kept_613 : decode cL_kept 613 = .ok (.iconst 4, 1) := by decide +kernel
theorem dL_kept_614 : decode cL_kept 614 = .ok (.invokestatic 117, 3) := by decide +kernel
theorem dL_kept_617 : decode cL_kept 617 = .ok (.aload_n 0, 1) := by decide +kernel
theorem dL_kept_618 : decode cL_kept 618 = .ok (.iconst 5, 1) := by decide +kernel
theorem dL_kept_619 : decode cL_kept 619 = .ok (.invokestatic 103, 3) := by decide +kernel
theorem dL_kept_622 : decode cL_kept 622 = .ok (.lcmp, 1) := by decide +kernel
theorem dL_kept_623 : decode cL_kept 623 = .ok (.ifCond .gt 7, 3) := by decide +kernel
theorem dL_kept_626 : decode cL_kept 626 = .ok (.iconst 1, 1) := by decide +kernel
theorem dL_kept_627 : decode cL_kept 627 = .ok (.goto 4, 3) := by decide +kernel
theorem dL_kept_630 : decode cL_kept 630 = .ok (.iconst 0, 1) := by decide +kernel
theorem dL_kept_631 : decode cL_kept 631 = .ok (.istore_n 1, 1) := by decide +kernel
theorem dL_kept_632 : decode cL_kept 632 = .ok (.iinc 13 1, 3) := by decide +kernel
theorem dL_kept_635 : decode cL_kept 635 = .ok (.goto (-100), 3) := by decide +kernel
theorem dL_kept_638 : decode cL_kept 638 = .ok (.iload_n 1, 1) := by decide +kernel
theorem dL_kept_639 : decode cL_kept 639 = .ok (.ifCond .eq 181, 3) := by decide +kernel
theorem dL_kept_642 : decode cL_kept 642 = .ok (.aload_n 0, 1) := by decide +kernel
theorem dL_kept_643 : decode cL_kept 643 = .ok (.bipush 13, 2) := by decide +kernel
theorem dL_kept_645 : decode cL_kept 645 = .ok (.invokestatic 103, 3) := by decide +kernel
theorem dL_kept_648 : decode cL_kept 648 = .ok (.lload_n 2, 1) := by decide +kernel
theorem dL_kept_649 : decode cL_kept 649 = .ok (.lcmp, 1) := by decide +kernel
theorem dL_kept_650 : decode cL_kept 650 = .ok (.ifCond .ne 170, 3) := by decide +kernel
theorem dL_kept_653 : decode cL_kept 653 = .ok (.aload_n 0, 1) := by decide +kernel
theorem dL_kept_654 : decode cL_kept 654 = .ok (.bipush 10, 2) := by decide +kernel
theorem dL_kept_656 : decode cL_kept 656 = .ok (.invokestatic 103, 3) := by decide +kernel
theorem dL_kept_659 : decode cL_kept 659 = .ok (.lload 4, 2) := by decide +kernel
theorem dL_kept_661 : decode cL_kept 661 = .ok (.lcmp, 1) := by decide +kernel
theorem dL_kept_662 : decode cL_kept 662 = .ok (.ifCond .ne 158, 3) := by decide +kernel
theorem dL_kept_665 : decode cL_kept 665 = .ok (.lload 4, 2) := by decide +kernel
theorem dL_kept_667 : decode cL_kept 667 = .ok (.aload_n 0, 1) := by decide +kernel
theorem dL_kept_668 : decode cL_kept 668 = .ok (.bipush 8, 2) := by decide +kernel
theorem dL_kept_670 : decode cL_kept 670 = .ok (.invokestatic 103, 3) := by decide +kernel
theorem dL_kept_673 : decode cL_kept 673 = .ok (.lcmp, 1) := by decide +kernel
theorem dL_kept_674 : decode cL_kept 674 = .ok (.ifCond .gt 146, 3) := by decide +kernel
theorem dL_kept_677 : decode cL_kept 677 = .ok (.aload_n 0, 1) := by decide +kernel
theorem dL_kept_678 : decode cL_kept 678 = .ok (.iconst 3, 1) := by decide +kernel
theorem dL_kept_679 : decode cL_kept 679 = .ok (.invokestatic 103, 3) := by decide +kernel
theorem dL_kept_682 : decode cL_kept 682 = .ok (.iload 6, 2) := by decide +kernel
theorem dL_kept_684 : decode cL_kept 684 = .ok (.i2l, 1) := by decide +kernel
theorem dL_kept_685 : decode cL_kept 685 = .ok (.lcmp, 1) := by decide +kernel
theorem dL_kept_686 : decode cL_kept 686 = .ok (.ifCond .ne 134, 3) := by decide +kernel
theorem dL_kept_689 : decode cL_kept 689 = .ok (.aload_n 0, 1) := by decide +kernel
theorem dL_kept_690 : decode cL_kept 690 = .ok (.iconst 4, 1) := by decide +kernel
theorem dL_kept_691 : decode cL_kept 691 = .ok (.invokestatic 103, 3) := by decide +kernel
theorem dL_kept_694 : decode cL_kept 694 = .ok (.iload 7, 2) := by decide +kernel
theorem dL_kept_696 : decode cL_kept 696 = .ok (.i2l, 1) := by decide +kernel
theorem dL_kept_697 : decode cL_kept 697 = .ok (.lcmp, 1) := by decide +kernel
theorem dL_kept_698 : decode cL_kept 698 = .ok (.ifCond .ne 122, 3) := by decide +kernel
theorem dL_kept_701 : decode cL_kept 701 = .ok (.aload_n 0, 1) := by decide +kernel
theorem dL_kept_702 : decode cL_kept 702 = .ok (.iconst 5, 1) := by decide +kernel
theorem dL_kept_703 : decode cL_kept 703 = .ok (.invokestatic 103, 3) := by decide +kernel
theorem dL_kept_706 : decode cL_kept 706 = .ok (.iload 8, 2) := by decide +kernel
theorem dL_kept_708 : decode cL_kept 708 = .ok (.i2l, 1) := by decide +kernel
theorem dL_kept_709 : decode cL_kept 709 = .ok (.lcmp, 1) := by decide +kernel
theorem dL_kept_710 : decode cL_kept 710 = .ok (.ifCond .ne 110, 3) := by decide +kernel
theorem dL_kept_713 : decode cL_kept 713 = .ok (.aload_n 0, 1) := by decide +kernel
theorem dL_kept_714 : decode cL_kept 714 = .ok (.iconst 2, 1) := by decide +kernel
theorem dL_kept_715 : decode cL_kept 715 = .ok (.invokestatic 103, 3) := by decide +kernel
theorem dL_kept_718 : decode cL_kept 718 = .ok (.aload_n 0, 1) := by decide +kernel
theorem dL_kept_719 : decode cL_kept 719 = .ok (.iconst 3, 1) := by decide +kernel
theorem dL_kept_720 : decode cL_kept 720 = .ok (.invokestatic 103, 3) := by decide +kernel
theorem dL_kept_723 : decode cL_kept 723 = .ok (.ladd, 1) := by decide +kernel
theorem dL_kept_724 : decode cL_kept 724 = .ok (.aload_n 0, 1) := by decide +kernel
theorem dL_kept_725 : decode cL_kept 725 = .ok (.iconst 4, 1) := by decide +kernel
theorem dL_kept_726 : decode cL_kept 726 = .ok (.invokestatic 103, 3) := by decide +kernel
theorem dL_kept_729 : decode cL_kept 729 = .ok (.ladd, 1) := by decide +kernel
theorem dL_kept_730 : decode cL_kept 730 = .ok (.aload_n 0, 1) := by decide +kernel
theorem dL_kept_731 : decode cL_kept 731 = .ok (.iconst 5, 1) := by decide +kernel
theorem dL_kept_732 : decode cL_kept 732 = .ok (.invokestatic 103, 3) := by decide +kernel
theorem dL_kept_735 : decode cL_kept 735 = .ok (.ladd, 1) := by decide +kernel
theorem dL_kept_736 : decode cL_kept 736 = .ok (.aload_n 0, 1) := by decide +kernel
theorem dL_kept_737 : decode cL_kept 737 = .ok (.bipush 6, 2) := by decide +kernel
theorem dL_kept_739 : decode cL_kept 739 = .ok (.invokestatic 103, 3) := by decide +kernel
theorem dL_kept_742 : decode cL_kept 742 = .ok (.ladd, 1) := by decide +kernel
theorem dL_kept_743 : decode cL_kept 743 = .ok (.aload_n 0, 1) := by decide +kernel
theorem dL_kept_744 : decode cL_kept 744 = .ok (.iconst 1, 1) := by decide +kernel
theorem dL_kept_745 : decode cL_kept 745 = .ok (.invokestatic 103, 3) := by decide +kernel
theorem dL_kept_748 : decode cL_kept 748 = .ok (.lcmp, 1) := by decide +kernel
theorem dL_kept_749 : decode cL_kept 749 = .ok (.ifCond .ne 71, 3) := by decide +kernel
theorem dL_kept_752 : decode cL_kept 752 = .ok (.lload 9, 2) := by decide +kernel
theorem dL_kept_754 : decode cL_kept 754 = .ok (.aload_n 0, 1) := by decide +kernel
theorem dL_kept_755 : decode cL_kept 755 = .ok (.iconst 1, 1) := by decide +kernel
theorem dL_kept_756 : decode cL_kept 756 = .ok (.invokestatic 103, 3) := by decide +kernel
theorem dL_kept_759 : decode cL_kept 759 = .ok (.lcmp, 1) := by decide +kernel
theorem dL_kept_760 : decode cL_kept 760 = .ok (.ifCond .ne 60, 3) := by decide +kernel
theorem dL_kept_763 : decode cL_kept 763 = .ok (.lload 11, 2) := by decide +kernel
theorem dL_kept_765 : decode cL_kept 765 = .ok (.aload_n 0, 1) := by decide +kernel
theorem dL_kept_766 : decode cL_kept 766 = .ok (.bipush 12, 2) := by decide +kernel
theorem dL_kept_768 : decode cL_kept 768 = .ok (.invokestatic 103, 3) := by decide +kernel
theorem dL_kept_771 : decode cL_kept 771 = .ok (.lcmp, 1) := by decide +kernel
theorem dL_kept_772 : decode cL_kept 772 = .ok (.ifCond .ne 48, 3) := by decide +kernel
theorem dL_kept_775 : decode cL_kept 775 = .ok (.lload 11, 2) := by decide +kernel
theorem dL_kept_777 : decode cL_kept 777 = .ok (.ldc2_w 164, 3) := by decide +kernel
theorem dL_kept_780 : decode cL_kept 780 = .ok (.lload 4, 2) := by decide +kernel
theorem dL_kept_782 : decode cL_kept 782 = .ok (.lmul, 1) := by decide +kernel
theorem dL_kept_783 : decode cL_kept 783 = .ok (.lcmp, 1) := by decide +kernel
theorem dL_kept_784 : decode cL_kept 784 = .ok (.ifCond .lt 36, 3) := by decide +kernel
theorem dL_kept_787 : decode cL_kept 787 = .ok (.iload 6, 2) := by decide +kernel
theorem dL_kept_789 : decode cL_kept 789 = .ok (.ifCond .le 7, 3) := by decide +kernel
theorem dL_kept_792 : decode cL_kept 792 = .ok (.iconst 1, 1) := by decide +kernel
theorem dL_kept_793 : decode cL_kept 793 = .ok (.goto 4, 3) := by decide +kernel
theorem dL_kept_796 : decode cL_kept 796 = .ok (.iconst 0, 1) := by decide +kernel
theorem dL_kept_797 : decode cL_kept 797 = .ok (.aload_n 0, 1) := by decide +kernel
theorem dL_kept_798 : decode cL_kept 798 = .ok (.bipush 9, 2) := by decide +kernel
theorem dL_kept_800 : decode cL_kept 800 = .ok (.invokestatic 103, 3) := by decide +kernel
theorem dL_kept_803 : decode cL_kept 803 = .ok (.lconst 1, 1) := by decide +kernel
theorem dL_kept_804 : decode cL_kept 804 = .ok (.lcmp, 1) := by decide +kernel
theorem dL_kept_805 : decode cL_kept 805 = .ok (.ifCond .ne 7, 3) := by decide +kernel
theorem dL_kept_808 : decode cL_kept 808 = .ok (.iconst 1, 1) := by decide +kernel
theorem dL_kept_809 : decode cL_kept 809 = .ok (.goto 4, 3) := by decide +kernel
theorem dL_kept_812 : decode cL_kept 812 = .ok (.iconst 0, 1) := by decide +kernel
theorem dL_kept_813 : decode cL_kept 813 = .ok (.if_icmp .ne 7, 3) := by decide +kernel
theorem dL_kept_816 : decode cL_kept 816 = .ok (.iconst 1, 1) := by decide +kernel
theorem dL_kept_817 : decode cL_kept 817 = .ok (.goto 4, 3) := by decide +kernel
theorem dL_kept_820 : decode cL_kept 820 = .ok (.iconst 0, 1) := by decide +kernel
theorem dL_kept_821 : decode cL_kept 821 = .ok (.ireturn, 1) := by decide +kernel
theorem dL_follows_0 : decode cL_follows 0 = .ok (.aload_n 0, 1) := by decide +kernel
theorem dL_follows_1 : decode cL_follows 1 = .ok (.invokestatic 119, 3) := by decide +kernel
theorem dL_follows_4 : decode cL_follows 4 = .ok (.lstore_n 2, 1) := by decide +kernel
theorem dL_follows_5 : decode cL_follows 5 = .ok (.aload_n 0, 1) := by decide +kernel
theorem dL_follows_6 : decode cL_follows 6 = .ok (.iconst 1, 1) := by decide +kernel
theorem dL_follows_7 : decode cL_follows 7 = .ok (.invokestatic 156, 3) := by decide +kernel
theorem dL_follows_10 : decode cL_follows 10 = .ok (.aload_n 0, 1) := by decide +kernel
theorem dL_follows_11 : decode cL_follows 11 = .ok (.bipush 7, 2) := by decide +kernel
theorem dL_follows_13 : decode cL_follows 13 = .ok (.invokestatic 103, 3) := by decide +kernel
theorem dL_follows_16 : decode cL_follows 16 = .ok (.lcmp, 1) := by decide +kernel
theorem dL_follows_17 : decode cL_follows 17 = .ok (.ifCond .ne 36, 3) := by decide +kernel
theorem dL_follows_20 : decode cL_follows 20 = .ok (.aload_n 0, 1) := by decide +kernel
theorem dL_follows_21 : decode cL_follows 21 = .ok (.iload_n 1, 1) := by decide +kernel
theorem dL_follows_22 : decode cL_follows 22 = .ok (.i2l, 1) := by decide +kernel
theorem dL_follows_23 : decode cL_follows 23 = .ok (.bipush 6, 2) := by decide +kernel
theorem dL_follows_25 : decode cL_follows 25 = .ok (.invokestatic 153, 3) := by decide +kernel
theorem dL_follows_28 : decode cL_follows 28 = .ok (.aload_n 0, 1) := by decide +kernel
theorem dL_follows_29 : decode cL_follows 29 = .ok (.iload_n 1, 1) := by decide +kernel
theorem dL_follows_30 : decode cL_follows 30 = .ok (.i2l, 1) := by decide +kernel
theorem dL_follows_31 : decode cL_follows 31 = .ok (.bipush 6, 2) := by decide +kernel
theorem dL_follows_33 : decode cL_follows 33 = .ok (.invokestatic 153, 3) := by decide +kernel
theorem dL_follows_36 : decode cL_follows 36 = .ok (.lcmp, 1) := by decide +kernel
theorem dL_follows_37 : decode cL_follows 37 = .ok (.ifCond .ne 16, 3) := by decide +kernel
theorem dL_follows_40 : decode cL_follows 40 = .ok (.aload_n 0, 1) := by decide +kernel
theorem dL_follows_41 : decode cL_follows 41 = .ok (.invokestatic 119, 3) := by decide +kernel
theorem dL_follows_44 : decode cL_follows 44 = .ok (.lload_n 2, 1) := by decide +kernel
theorem dL_follows_45 : decode cL_follows 45 = .ok (.lcmp, 1) := by decide +kernel
theorem dL_follows_46 : decode cL_follows 46 = .ok (.ifCond .ne 7, 3) := by decide +kernel
theorem dL_follows_49 : decode cL_follows 49 = .ok (.iconst 1, 1) := by decide +kernel
theorem dL_follows_50 : decode cL_follows 50 = .ok (.goto 4, 3) := by decide +kernel
theorem dL_follows_53 : decode cL_follows 53 = .ok (.iconst 0, 1) := by decide +kernel
theorem dL_follows_54 : decode cL_follows 54 = .ok (.istore 4, 2) := by decide +kernel
theorem dL_follows_56 : decode cL_follows 56 = .ok (.aload_n 0, 1) := by decide +kernel
theorem dL_follows_57 : decode cL_follows 57 = .ok (.iconst 1, 1) := by decide +kernel
theorem dL_follows_58 : decode cL_follows 58 = .ok (.invokestatic 103, 3) := by decide +kernel
theorem dL_follows_61 : decode cL_follows 61 = .ok (.lconst 0, 1) := by decide +kernel
theorem dL_follows_62 : decode cL_follows 62 = .ok (.lcmp, 1) := by decide +kernel
theorem dL_follows_63 : decode cL_follows 63 = .ok (.ifCond .le 310, 3) := by decide +kernel
theorem dL_follows_66 : decode cL_follows 66 = .ok (.iload 4, 2) := by decide +kernel
theorem dL_follows_68 : decode cL_follows 68 = .ok (.ifCond .eq 305, 3) := by decide +kernel
theorem dL_follows_71 : decode cL_follows 71 = .ok (.iload_n 1, 1) := by decide +kernel
theorem dL_follows_72 : decode cL_follows 72 = .ok (.aload_n 0, 1) := by decide +kernel
theorem dL_follows_73 : decode cL_follows 73 = .ok (.iconst 1, 1) := by decide +kernel
theorem dL_follows_74 : decode cL_follows 74 = .ok (.invokestatic 103, 3) := by decide +kernel
theorem dL_follows_77 : decode cL_follows 77 = .ok (.l2i, 1) := by decide +kernel
theorem dL_follows_78 : decode cL_follows 78 = .ok (.irem, 1) := by decide +kernel
theorem dL_follows_79 : decode cL_follows 79 = .ok (.istore 5, 2) := by decide +kernel
theorem dL_follows_81 : decode cL_follows 81 = .ok (.iload_n 1, 1) := by decide +kernel
theorem dL_follows_82 : decode cL_follows 82 = .ok (.bipush 11, 2) := by decide +kernel
theorem dL_follows_84 : decode cL_follows 84 = .ok (.idiv, 1) := by decide +kernel
theorem dL_follows_85 : decode cL_follows 85 = .ok (.iconst 4, 1) := by decide +kernel
theorem dL_follows_86 : decode cL_follows 86 = .ok (.irem, 1) := by decide +kernel
theorem dL_follows_87 : decode cL_follows 87 = .ok (.istore 6, 2) := by decide +kernel
theorem dL_follows_89 : decode cL_follows 89 = .ok (.aload_n 0, 1) := by decide +kernel
theorem dL_follows_90 : decode cL_follows 90 = .ok (.iload 6, 2) := by decide +kernel
theorem dL_follows_92 : decode cL_follows 92 = .ok (.iload 5, 2) := by decide +kernel
theorem dL_follows_94 : decode cL_follows 94 = .ok (.invokestatic 141, 3) := by decide +kernel
theorem dL_follows_97 : decode cL_follows 97 = .ok (.lstore 7, 2) := by decide +kernel
theorem dL_follows_99 : decode cL_follows 99 = .ok (.aload_n 0, 1) := by decide +kernel
theorem dL_follows_100 : decode cL_follows 100 = .ok (.iload 6, 2) := by decide +kernel
theorem dL_follows_102 : decode cL_follows 102 = .ok (.iload 5, 2) := by decide +kernel
theorem dL_follows_104 : decode cL_follows 104 = .ok (.invokestatic 135, 3) := by decide +kernel
theorem dL_follows_107 : decode cL_follows 107 = .ok (.lload 7, 2) := by decide +kernel
theorem dL_follows_109 : decode cL_follows 109 = .ok (.lcmp, 1) := by decide +kernel
theorem dL_follows_110 : decode cL_follows 110 = .ok (.ifCond .ne 37, 3) := by decide +kernel
theorem dL_follows_113 : decode cL_follows 113 = .ok (.lload 7, 2) := by decide +kernel
theorem dL_follows_115 : decode cL_follows 115 = .ok (.lconst 0, 1) := by decide +kernel
theorem dL_follows_116 : decode cL_follows 116 = .ok (.lcmp, 1) := by decide +kernel
theorem dL_follows_117 : decode cL_follows 117 = .ok (.ifCond .ne 17, 3) := by decide +kernel
theorem dL_follows_120 : decode cL_follows 120 = .ok (.aload_n 0, 1) := by decide +kernel
theorem dL_follows_121 : decode cL_follows 121 = .ok (.iload 5, 2) := by decide +kernel
theorem dL_follows_123 : decode cL_follows 123 = .ok (.iconst 3, 1) := by decide +kernel
theorem dL_follows_124 : decode cL_follows 124 = .ok (.invokestatic 115, 3) := by decide +kernel
theorem dL_follows_127 : decode cL_follows 127 = .ok (.ldc2_w 166, 3) := by decide +kernel
theorem dL_follows_130 : decode cL_follows 130 = .ok (.lcmp, 1) := by decide +kernel
theorem dL_follows_131 : decode cL_follows 131 = .ok (.ifCond .ne 16, 3) := by decide +kernel
theorem dL_follows_134 : decode cL_follows 134 = .ok (.aload_n 0, 1) := by decide +kernel
theorem dL_follows_135 : decode cL_follows 135 = .ok (.invokestatic 174, 3) := by decide +kernel
theorem dL_follows_138 : decode cL_follows 138 = .ok (.lconst 0, 1) := by decide +kernel
theorem dL_follows_139 : decode cL_follows 139 = .ok (.lcmp, 1) := by decide +kernel
theorem dL_follows_140 : decode cL_follows 140 = .ok (.ifCond .lt 7, 3) := by decide +kernel
theorem dL_follows_143 : decode cL_follows 143 = .ok (.iconst 1, 1) := by decide +kernel
theorem dL_follows_144 : decode cL_follows 144 = .ok (.goto 4, 3) := by decide +kernel
theorem dL_follows_147 : decode cL_follows 147 = .ok (.iconst 0, 1) := by decide +kernel
theorem dL_follows_148 : decode cL_follows 148 = .ok (.istore 4, 2) := by decide +kernel
theorem dL_follows_150 : decode cL_follows 150 = .ok (.aload_n 0, 1) := by decide +kernel
theorem dL_follows_151 : decode cL_follows 151 = .ok (.iload 5, 2) := by decide +kernel
theorem dL_follows_153 : decode cL_follows 153 = .ok (.iconst 3, 1) := by decide +kernel
theorem dL_follows_154 : decode cL_follows 154 = .ok (.invokestatic 115, 3) := by decide +kernel
theorem dL_follows_157 : decode cL_follows 157 = .ok (.lconst 1, 1) := by decide +kernel
theorem dL_follows_158 : decode cL_follows 158 = .ok (.lcmp, 1) := by decide +kernel
theorem dL_follows_159 : decode cL_follows 159 = .ok (.ifCond .ne 214, 3) := by decide +kernel
theorem dL_follows_162 : decode cL_follows 162 = .ok (.iload 4, 2) := by decide +kernel
theorem dL_follows_164 : decode cL_follows 164 = .ok (.ifCond .eq 209, 3) := by decide +kernel
theorem dL_follows_167 : decode cL_follows 167 = .ok (.aload_n 0, 1) := by decide +kernel
theorem dL_follows_168 : decode cL_follows 168 = .ok (.iload 5, 2) := by decide +kernel
theorem dL_follows_170 : decode cL_follows 170 = .ok (.iconst 0, 1) := by decide +kernel
theorem dL_follows_171 : decode cL_follows 171 = .ok (.invokestatic 143, 3) := by decide +kernel
theorem dL_follows_174 : decode cL_follows 174 = .ok (.lstore 9, 2) := by decide +kernel
theorem dL_follows_176 : decode cL_follows 176 = .ok (.aload_n 0, 1) := by decide +kernel
theorem dL_follows_177 : decode cL_follows 177 = .ok (.iload 5, 2) := by decide +kernel
theorem dL_follows_179 : decode cL_follows 179 = .ok (.iconst 1, 1) := by decide +kernel
theorem dL_follows_180 : decode cL_follows 180 = .ok (.invokestatic 143, 3) := by decide +kernel
theorem dL_follows_183 : decode cL_follows 183 = .ok (.lstore 11, 2) := by decide +kernel
theorem dL_follows_185 : decode cL_follows 185 = .ok (.lload 9, 2) := by decide +kernel
theorem dL_follows_187 : decode cL_follows 187 = .ok (.ldc2_w 162, 3) := by decide +kernel
theorem dL_follows_190 : decode cL_follows 190 = .ok (.lcmp, 1) := by decide +kernel
theorem dL_follows_191 : decode cL_follows 191 = .ok (.ifCond .ne 8, 3) := by decide +kernel
theorem dL_follows_194 : decode cL_follows 194 = .ok (.lload 11, 2) := by decide +kernel
theorem dL_follows_196 : decode cL_follows 196 = .ok (.goto 5, 3) := by decide +kernel
theorem dL_follows_199 : decode cL_follows 199 = .ok (.lload 9, 2) := by decide +kernel
theorem dL_follows_201 : decode cL_follows 201 = .ok (.l2i, 1) := by decide +kernel
theorem dL_follows_202 : decode cL_follows 202 = .ok (.istore 13, 2) := by decide +kernel
theorem dL_follows_204 : decode cL_follows 204 = .ok (.lload 9, 2) := by decide +kernel
theorem dL_follows_206 : decode cL_follows 206 = .ok (.ldc2_w 162, 3) := by decide +kernel
theorem dL_follows_209 : decode cL_follows 209 = .ok (.lcmp, 1) := by decide +kernel
theorem dL_follows_210 : decode cL_follows 210 = .ok (.ifCond .ne 7, 3) := by decide +kernel
theorem dL_follows_213 : decode cL_follows 213 = .ok (.iconst 1, 1) := by decide +kernel
theorem dL_follows_214 : decode cL_follows 214 = .ok (.goto 4, 3) := by decide +kernel
theorem dL_follows_217 : decode cL_follows 217 = .ok (.iconst 0, 1) := by decide +kernel
theorem dL_follows_218 : decode cL_follows 218 = .ok (.lload 11, 2) := by decide +kernel
theorem dL_follows_220 : decode cL_follows 220 = .ok (.ldc2_w 162, 3) := by decide +kernel
theorem dL_follows_223 : decode cL_follows 223 = .ok (.lcmp, 1) := by decide +kernel
theorem dL_follows_224 : decode cL_follows 224 = .ok (.ifCond .ne 7, 3) := by decide +kernel
theorem dL_follows_227 : decode cL_follows 227 = .ok (.iconst 1, 1) := by decide +kernel
theorem dL_follows_228 : decode cL_follows 228 = .ok (.goto 4, 3) := by decide +kernel
theorem dL_follows_231 : decode cL_follows 231 = .ok (.iconst 0, 1) := by decide +kernel
theorem dL_follows_232 : decode cL_follows 232 = .ok (.if_icmp .eq 7, 3) := by decide +kernel
theorem dL_follows_235 : decode cL_follows 235 = .ok (.iconst 1, 1) := by decide +kernel
theorem dL_follows_236 : decode cL_follows 236 = .ok (.goto 4, 3) := by decide +kernel
theorem dL_follows_239 : decode cL_follows 239 = .ok (.iconst 0, 1) := by decide +kernel
theorem dL_follows_240 : decode cL_follows 240 = .ok (.istore 4, 2) := by decide +kernel
theorem dL_follows_242 : decode cL_follows 242 = .ok (.iload 13, 2) := by decide +kernel
theorem dL_follows_244 : decode cL_follows 244 = .ok (.bipush 60, 2) := by decide +kernel
theorem dL_follows_246 : decode cL_follows 246 = .ok (.if_icmp .gt 127, 3) := by decide +kernel
theorem dL_follows_249 : decode cL_follows 249 = .ok (.iload 4, 2) := by decide +kernel
theorem dL_follows_251 : decode cL_follows 251 = .ok (.ifCond .eq 122, 3) := by decide +kernel
theorem dL_follows_254 : decode cL_follows 254 = .ok (.aload_n 0, 1) := by decide +kernel
theorem dL_follows_255 : decode cL_follows 255 = .ok (.iload 13, 2) := by decide +kernel
theorem dL_follows_257 : decode cL_follows 257 = .ok (.invokestatic 137, 3) := by decide +kernel
theorem dL_follows_260 : decode cL_follows 260 = .ok (.lconst 0, 1) := by decide +kernel
theorem dL_follows_261 : decode cL_follows 261 = .ok (.lcmp, 1) := by decide +kernel
theorem dL_follows_262 : decode cL_follows 262 = .ok (.ifCond .lt 108, 3) := by decide +kernel
theorem dL_follows_265 : decode cL_follows 265 = .ok (.lload 11, 2) := by decide +kernel
theorem dL_follows_267 : decode cL_follows 267 = .ok (.ldc2_w 162, 3) := by decide +kernel
theorem dL_follows_270 : decode cL_follows 270 = .ok (.lcmp, 1) := by decide +kernel
theorem dL_follows_271 : decode cL_follows 271 = .ok (.ifCond .ne 32, 3) := by decide +kernel
theorem dL_follows_274 : decode cL_follows 274 = .ok (.aload_n 0, 1) := by decide +kernel
theorem dL_follows_275 : decode cL_follows 275 = .ok (.iload 5, 2) := by decide +kernel
theorem dL_follows_277 : decode cL_follows 277 = .ok (.iconst 3, 1) := by decide +kernel
theorem dL_follows_278 : decode cL_follows 278 = .ok (.invokestatic 115, 3) := by decide +kernel
theorem dL_follows_281 : decode cL_follows 281 = .ok (.ldc2_w 172, 3) := by decide +kernel
theorem dL_follows_284 : decode cL_follows 284 = .ok (.lcmp, 1) := by decide +kernel
theorem dL_follows_285 : decode cL_follows 285 = .ok (.ifCond .eq 32, 3) := by decide +kernel
theorem dL_follows_288 : decode cL_follows 288 = .ok (.aload_n 0, 1) := by decide +kernel
theorem dL_follows_289 : decode cL_follows 289 = .ok (.iload 5, 2) := by decide +kernel
theorem dL_follows_291 : decode cL_follows 291 = .ok (.iconst 3, 1) := by decide +kernel
theorem dL_follows_292 : decode cL_follows 292 = .ok (.invokestatic 115, 3) := by decide +kernel
theorem dL_follows_295 : decode cL_follows 295 = .ok (.lconst 0, 1) := by decide +kernel
theorem dL_follows_296 : decode cL_follows 296 = .ok (.lcmp, 1) := by decide +kernel
theorem dL_follows_297 : decode cL_follows 297 = .ok (.ifCond .ne 73, 3) := by decide +kernel
theorem dL_follows_300 : decode cL_follows 300 = .ok (.goto 17, 3) := by decide +kernel
theorem dL_follows_303 : decode cL_follows 303 = .ok (.aload_n 0, 1) := by decide +kernel
theorem dL_follows_304 : decode cL_follows 304 = .ok (.iload 5, 2) := by decide +kernel
theorem dL_follows_306 : decode cL_follows 306 = .ok (.iconst 3, 1) := by decide +kernel
theorem dL_follows_307 : decode cL_follows 307 = .ok (.invokestatic 115, 3) := by decide +kernel
theorem dL_follows_310 : decode cL_follows 310 = .ok (.ldc2_w 164, 3) := by decide +kernel
theorem dL_follows_313 : decode cL_follows 313 = .ok (.lcmp, 1) := by decide +kernel
theorem dL_follows_314 : decode cL_follows 314 = .ok (.ifCond .ne 56, 3) := by decide +kernel
theorem dL_follows_317 : decode cL_follows 317 = .ok (.aload_n 0, 1) := by decide +kernel
theorem dL_follows_318 : decode cL_follows 318 = .ok (.invokestatic 174, 3) := by decide +kernel
theorem dL_follows_321 : decode cL_follows 321 = .ok (.lconst 0, 1) := by decide +kernel
theorem dL_follows_322 : decode cL_follows 322 = .ok (.lcmp, 1) := by decide +kernel
theorem dL_follows_323 : decode cL_follows 323 = .ok (.ifCond .lt 47, 3) := by decide +kernel
theorem dL_follows_326 : decode cL_follows 326 = .ok (.iload 13, 2) := by decide +kernel
theorem dL_follows_328 : decode cL_follows 328 = .ok (.iconst 1, 1) := by decide +kernel
theorem dL_follows_329 : decode cL_follows 329 = .ok (.if_icmp .eq 37, 3) := by decide +kernel
theorem dL_follows_332 : decode cL_follows 332 = .ok (.aload_n 0, 1) := by decide +kernel
theorem dL_follows_333 : decode cL_follows 333 = .ok (.iload 13, 2) := by decide +kernel
theorem dL_follows_335 : decode cL_follows 335 = .ok (.iconst 1, 1) := by decide +kernel
theorem dL_follows_336 : decode cL_follows 336 = .ok (.isub, 1) := by decide +kernel
theorem dL_follows_337 : decode cL_follows 337 = .ok (.invokestatic 137, 3) := by decide +kernel
theorem dL_follows_340 : decode cL_follows 340 = .ok (.lconst 0, 1) := by decide +kernel
theorem dL_follows_341 : decode cL_follows 341 = .ok (.lcmp, 1) := by decide +kernel
theorem dL_follows_342 : decode cL_follows 342 = .ok (.ifCond .lt 28, 3) := by decide +kernel
theorem dL_follows_345 : decode cL_follows 345 = .ok (.aload_n 0, 1) := by decide +kernel
theorem dL_follows_346 : decode cL_follows 346 = .ok (.iload 5, 2) := by decide +kernel
theorem dL_follows_348 : decode cL_follows 348 = .ok (.iconst 3, 1) := by decide +kernel
theorem dL_follows_349 : decode cL_follows 349 = .ok (.invokestatic 115, 3) := by decide +kernel
theorem dL_follows_352 : decode cL_follows 352 = .ok (.lconst 1, 1) := by decide +kernel
theorem dL_follows_353 : decode cL_follows 353 = .ok (.lcmp, 1) := by decide +kernel
theorem dL_follows_354 : decode cL_follows 354 = .ok (.ifCond .ne 16, 3) := by decide +kernel
theorem dL_follows_357 : decode cL_follows 357 = .ok (.aload_n 0, 1) := by decide +kernel
theorem dL_follows_358 : decode cL_follows 358 = .ok (.invokestatic 174, 3) := by decide +kernel
theorem dL_follows_361 : decode cL_follows 361 = .ok (.lconst 0, 1) := by decide +kernel
theorem dL_follows_362 : decode cL_follows 362 = .ok (.lcmp, 1) := by decide +kernel
theorem dL_follows_363 : decode cL_follows 363 = .ok (.ifCond .lt 7, 3) := by decide +kernel
theorem dL_follows_366 : decode cL_follows 366 = .ok (.iconst 1, 1) := by decide +kernel
theorem dL_follows_367 : decode cL_follows 367 = .ok (.goto 4, 3) := by decide +kernel
theorem dL_follows_370 : decode cL_follows 370 = .ok (.iconst 0, 1) := by decide +kernel
theorem dL_follows_371 : decode cL_follows 371 = .ok (.istore 4, 2) := by decide +kernel
theorem dL_follows_373 : decode cL_follows 373 = .ok (.aload_n 0, 1) := by decide +kernel
theorem dL_follows_374 : decode cL_follows 374 = .ok (.iconst 0, 1) := by decide +kernel
theorem dL_follows_375 : decode cL_follows 375 = .ok (.invokestatic 103, 3) := by decide +kernel
theorem dL_follows_378 : decode cL_follows 378 = .ok (.lconst 0, 1) := by decide +kernel
theorem dL_follows_379 : decode cL_follows 379 = .ok (.lcmp, 1) := by decide +kernel
theorem dL_follows_380 : decode cL_follows 380 = .ok (.ifCond .le 230, 3) := by decide +kernel
theorem dL_follows_383 : decode cL_follows 383 = .ok (.aload_n 0, 1) := by decide +kernel
theorem dL_follows_384 : decode cL_follows 384 = .ok (.iconst 1, 1) := by decide +kernel
theorem dL_follows_385 : decode cL_follows 385 = .ok (.invokestatic 103, 3) := by decide +kernel
theorem dL_follows_388 : decode cL_follows 388 = .ok (.ldc2_w 176, 3) := by decide +kernel
theorem dL_follows_391 : decode cL_follows 391 = .ok (.lcmp, 1) := by decide +kernel
theorem dL_follows_392 : decode cL_follows 392 = .ok (.ifCond .ge 218, 3) := by decide +kernel
theorem dL_follows_395 : decode cL_follows 395 = .ok (.iload 4, 2) := by decide +kernel
theorem dL_follows_397 : decode cL_follows 397 = .ok (.ifCond .eq 213, 3) := by decide +kernel
theorem dL_follows_400 : decode cL_follows 400 = .ok (.iload_n 1, 1) := by decide +kernel
theorem dL_follows_401 : decode cL_follows 401 = .ok (.iconst 3, 1) := by decide +kernel
theorem dL_follows_402 : decode cL_follows 402 = .ok (.idiv, 1) := by decide +kernel
theorem dL_follows_403 : decode cL_follows 403 = .ok (.aload_n 0, 1) := by decide +kernel
theorem dL_follows_404 : decode cL_follows 404 = .ok (.iconst 0, 1) := by decide +kernel
theorem dL_follows_405 : decode cL_follows 405 = .ok (.invokestatic 103, 3) := by decide +kernel
theorem dL_follows_408 : decode cL_follows 408 = .ok (.l2i, 1) := by decide +kernel
theorem dL_follows_409 : decode cL_follows 409 = .ok (.irem, 1) := by decide +kernel
theorem dL_follows_410 : decode cL_follows 410 = .ok (.istore 5, 2) := by decide +kernel
theorem dL_follows_412 : decode cL_follows 412 = .ok (.iload_n 1, 1) := by decide +kernel
theorem dL_follows_413 : decode cL_follows 413 = .ok (.iconst 5, 1) := by decide +kernel
theorem dL_follows_414 : decode cL_follows 414 = .ok (.idiv, 1) := by decide +kernel
theorem dL_follows_415 : decode cL_follows 415 = .ok (.iconst 4, 1) := by decide +kernel
theorem dL_follows_416 : decode cL_follows 416 = .ok (.irem, 1) := by decide +kernel
theorem dL_follows_417 : decode cL_follows 417 = .ok (.istore 6, 2) := by decide +kernel
theorem dL_follows_419 : decode cL_follows 419 = .ok (.aload_n 0, 1) := by decide +kernel
theorem dL_follows_420 : decode cL_follows 420 = .ok (.iload 5, 2) := by decide +kernel
theorem dL_follows_422 : decode cL_follows 422 = .ok (.iload 6, 2) := by decide +kernel
theorem dL_follows_424 : decode cL_follows 424 = .ok (.invokestatic 145, 3) := by decide +kernel
theorem dL_follows_427 : decode cL_follows 427 = .ok (.lstore 7, 2) := by decide +kernel
theorem dL_follows_429 : decode cL_follows 429 = .ok (.aload_n 0, 1) := by decide +kernel
theorem dL_follows_430 : decode cL_follows 430 = .ok (.iconst 1, 1) := by decide +kernel
theorem dL_follows_431 : decode cL_follows 431 = .ok (.invokestatic 103, 3) := by decide +kernel
theorem dL_follows_434 : decode cL_follows 434 = .ok (.l2i, 1) := by decide +kernel
theorem dL_follows_435 : decode cL_follows 435 = .ok (.istore 9, 2) := by decide +kernel
theorem dL_follows_437 : decode cL_follows 437 = .ok (.lload 7, 2) := by decide +kernel
theorem dL_follows_439 : decode cL_follows 439 = .ok (.ldc2_w 162, 3) := by decide +kernel
theorem dL_follows_442 : decode cL_follows 442 = .ok (.lcmp, 1) := by decide +kernel
theorem dL_follows_443 : decode cL_follows 443 = .ok (.ifCond .eq 70, 3) := by decide +kernel
theorem dL_follows_446 : decode cL_follows 446 = .ok (.aload_n 0, 1) := by decide +kernel
theorem dL_follows_447 : decode cL_follows 447 = .ok (.lload 7, 2) := by decide +kernel
theorem dL_follows_449 : decode cL_follows 449 = .ok (.l2i, 1) := by decide +kernel
theorem dL_follows_450 : decode cL_follows 450 = .ok (.iload 6, 2) := by decide +kernel
theorem dL_follows_452 : decode cL_follows 452 = .ok (.iconst 0, 1) := by decide +kernel
theorem dL_follows_453 : decode cL_follows 453 = .ok (.invokestatic 129, 3) := by decide +kernel
theorem dL_follows_456 : decode cL_follows 456 = .ok (.iload 9, 2) := by decide +kernel
theorem dL_follows_458 : decode cL_follows 458 = .ok (.i2l, 1) := by decide +kernel
theorem dL_follows_459 : decode cL_follows 459 = .ok (.lcmp, 1) := by decide +kernel
theorem dL_follows_460 : decode cL_follows 460 = .ok (.ifCond .ne 57, 3) := by decide +kernel
theorem dL_follows_463 : decode cL_follows 463 = .ok (.aload_n 0, 1) := by decide +kernel
theorem dL_follows_464 : decode cL_follows 464 = .ok (.iload 9, 2) := by decide +kernel
theorem dL_follows_466 : decode cL_follows 466 = .ok (.iload 5, 2) := by decide +kernel
theorem dL_follows_468 : decode cL_follows 468 = .ok (.invokestatic 131, 3) := by decide +kernel
theorem dL_follows_471 : decode cL_follows 471 = .ok (.aload_n 0, 1) := by decide +kernel
theorem dL_follows_472 : decode cL_follows 472 = .ok (.iload 5, 2) := by decide +kernel
theorem dL_follows_474 : decode cL_follows 474 = .ok (.iconst 0, 1) := by decide +kernel
theorem dL_follows_475 : decode cL_follows 475 = .ok (.iconst 0, 1) := by decide +kernel
theorem dL_follows_476 : decode cL_follows 476 = .ok (.invokestatic 123, 3) := by decide +kernel
theorem dL_follows_479 : decode cL_follows 479 = .ok (.lcmp, 1) := by decide +kernel
theorem dL_follows_480 : decode cL_follows 480 = .ok (.ifCond .ne 37, 3) := by decide +kernel
theorem dL_follows_483 : decode cL_follows 483 = .ok (.aload_n 0, 1) := by decide +kernel
theorem dL_follows_484 : decode cL_follows 484 = .ok (.iload 9, 2) := by decide +kernel
theorem dL_follows_486 : decode cL_follows 486 = .ok (.iconst 0, 1) := by decide +kernel
theorem dL_follows_487 : decode cL_follows 487 = .ok (.invokestatic 143, 3) := by decide +kernel
theorem dL_follows_490 : decode cL_follows 490 = .ok (.lconst 1, 1) := by decide +kernel
theorem dL_follows_491 : decode cL_follows 491 = .ok (.lcmp, 1) := by decide +kernel
theorem dL_follows_492 : decode cL_follows 492 = .ok (.ifCond .lt 25, 3) := by decide +kernel
theorem dL_follows_495 : decode cL_follows 495 = .ok (.aload_n 0, 1) := by decide +kernel
theorem dL_follows_496 : decode cL_follows 496 = .ok (.invokestatic 174, 3) := by decide +kernel
theorem dL_follows_499 : decode cL_follows 499 = .ok (.lconst 0, 1) := by decide +kernel
theorem dL_follows_500 : decode cL_follows 500 = .ok (.lcmp, 1) := by decide +kernel
theorem dL_follows_501 : decode cL_follows 501 = .ok (.ifCond .lt 16, 3) := by decide +kernel
theorem dL_follows_504 : decode cL_follows 504 = .ok (.aload_n 0, 1) := by decide +kernel
theorem dL_follows_505 : decode cL_follows 505 = .ok (.invokestatic 174, 3) := by decide +kernel
theorem dL_follows_508 : decode cL_follows 508 = .ok (.lconst 0, 1) := by decide +kernel
theorem dL_follows_509 : decode cL_follows 509 = .ok (.lcmp, 1) := by decide +kernel
theorem dL_follows_510 : decode cL_follows 510 = .ok (.ifCond .lt 7, 3) := by decide +kernel
theorem dL_follows_513 : decode cL_follows 513 = .ok (.iconst 1, 1) := by decide +kernel
theorem dL_follows_514 : decode cL_follows 514 = .ok (.goto 4, 3) := by decide +kernel
theorem dL_follows_517 : decode cL_follows 517 = .ok (.iconst 0, 1) := by decide +kernel
theorem dL_follows_518 : decode cL_follows 518 = .ok (.istore 4, 2) := by decide +kernel
theorem dL_follows_520 : decode cL_follows 520 = .ok (.iload 4, 2) := by decide +kernel
theorem dL_follows_522 : decode cL_follows 522 = .ok (.ifCond .eq 85, 3) := by decide +kernel
theorem dL_follows_525 : decode cL_follows 525 = .ok (.lload 7, 2) := by decide +kernel
theorem dL_follows_527 : decode cL_follows 527 = .ok (.ldc2_w 162, 3) := by decide +kernel
theorem dL_follows_530 : decode cL_follows 530 = .ok (.lcmp, 1) := by decide +kernel
theorem dL_follows_531 : decode cL_follows 531 = .ok (.ifCond .eq 72, 3) := by decide +kernel
theorem dL_follows_534 : decode cL_follows 534 = .ok (.lload 7, 2) := by decide +kernel
theorem dL_follows_536 : decode cL_follows 536 = .ok (.lconst 1, 1) := by decide +kernel
theorem dL_follows_537 : decode cL_follows 537 = .ok (.lcmp, 1) := by decide +kernel
theorem dL_follows_538 : decode cL_follows 538 = .ok (.ifCond .eq 65, 3) := by decide +kernel
theorem dL_follows_541 : decode cL_follows 541 = .ok (.aload_n 0, 1) := by decide +kernel
theorem dL_follows_542 : decode cL_follows 542 = .ok (.lload 7, 2) := by decide +kernel
theorem dL_follows_544 : decode cL_follows 544 = .ok (.l2i, 1) := by decide +kernel
theorem dL_follows_545 : decode cL_follows 545 = .ok (.iconst 1, 1) := by decide +kernel
theorem dL_follows_546 : decode cL_follows 546 = .ok (.isub, 1) := by decide +kernel
theorem dL_follows_547 : decode cL_follows 547 = .ok (.iload 6, 2) := by decide +kernel
theorem dL_follows_549 : decode cL_follows 549 = .ok (.iconst 0, 1) := by decide +kernel
theorem dL_follows_550 : decode cL_follows 550 = .ok (.invokestatic 129, 3) := by decide +kernel
theorem dL_follows_553 : decode cL_follows 553 = .ok (.iload 9, 2) := by decide +kernel
theorem dL_follows_555 : decode cL_follows 555 = .ok (.i2l, 1) := by decide +kernel
theorem dL_follows_556 : decode cL_follows 556 = .ok (.lcmp, 1) := by decide +kernel
theorem dL_follows_557 : decode cL_follows 557 = .ok (.ifCond .ne 50, 3) := by decide +kernel
theorem dL_follows_560 : decode cL_follows 560 = .ok (.aload_n 0, 1) := by decide +kernel
theorem dL_follows_561 : decode cL_follows 561 = .ok (.iload 9, 2) := by decide +kernel
theorem dL_follows_563 : decode cL_follows 563 = .ok (.iload 5, 2) := by decide +kernel
theorem dL_follows_565 : decode cL_follows 565 = .ok (.invokestatic 131, 3) := by decide +kernel
theorem dL_follows_568 : decode cL_follows 568 = .ok (.lconst 0, 1) := by decide +kernel
theorem dL_follows_569 : decode cL_follows 569 = .ok (.lcmp, 1) := by decide +kernel
theorem dL_follows_570 : decode cL_follows 570 = .ok (.ifCond .le 37, 3) := by decide +kernel
theorem dL_follows_573 : decode cL_follows 573 = .ok (.aload_n 0, 1) := by decide +kernel
theorem dL_follows_574 : decode cL_follows 574 = .ok (.iload 9, 2) := by decide +kernel
theorem dL_follows_576 : decode cL_follows 576 = .ok (.iconst 1, 1) := by decide +kernel
theorem dL_follows_577 : decode cL_follows 577 = .ok (.invokestatic 143, 3) := by decide +kernel
theorem dL_follows_580 : decode cL_follows 580 = .ok (.lconst 1, 1) := by decide +kernel
theorem dL_follows_581 : decode cL_follows 581 = .ok (.lcmp, 1) := by decide +kernel
theorem dL_follows_582 : decode cL_follows 582 = .ok (.ifCond .lt 25, 3) := by decide +kernel
theorem dL_follows_585 : decode cL_follows 585 = .ok (.aload_n 0, 1) := by decide +kernel
theorem dL_follows_586 : decode cL_follows 586 = .ok (.invokestatic 174, 3) := by decide +kernel
theorem dL_follows_589 : decode cL_follows 589 = .ok (.lconst 0, 1) := by decide +kernel
theorem dL_follows_590 : decode cL_follows 590 = .ok (.lcmp, 1) := by decide +kernel
theorem dL_follows_591 : decode cL_follows 591 = .ok (.ifCond .lt 16, 3) := by decide +kernel
theorem dL_follows_594 : decode cL_follows 594 = .ok (.aload_n 0, 1) := by decide +kernel
theorem dL_follows_595 : decode cL_follows 595 = .ok (.invokestatic 174, 3) := by decide +kernel
theorem dL_follows_598 : decode cL_follows 598 = .ok (.lconst 0, 1) := by decide +kernel
theorem dL_follows_599 : decode cL_follows 599 = .ok (.lcmp, 1) := by decide +kernel
theorem dL_follows_600 : decode cL_follows 600 = .ok (.ifCond .lt 7, 3) := by decide +kernel
theorem dL_follows_603 : decode cL_follows 603 = .ok (.iconst 1, 1) := by decide +kernel
theorem dL_follows_604 : decode cL_follows 604 = .ok (.goto 4, 3) := by decide +kernel
theorem dL_follows_607 : decode cL_follows 607 = .ok (.iconst 0, 1) := by decide +kernel
theorem dL_follows_608 : decode cL_follows 608 = .ok (.istore 4, 2) := by decide +kernel
theorem dL_follows_610 : decode cL_follows 610 = .ok (.iload 4, 2) := by decide +kernel
theorem dL_follows_612 : decode cL_follows 612 = .ok (.ifCond .eq 46, 3) := by decide +kernel
theorem dL_follows_615 : decode cL_follows 615 = .ok (.aload_n 0, 1) := by decide +kernel
theorem dL_follows_616 : decode cL_follows 616 = .ok (.invokestatic 119, 3) := by decide +kernel
theorem dL_follows_619 : decode cL_follows 619 = .ok (.lload_n 2, 1) := by decide +kernel
theorem dL_follows_620 : decode cL_follows 620 = .ok (.lcmp, 1) := by decide +kernel
theorem dL_follows_621 : decode cL_follows 621 = .ok (.ifCond .ne 37, 3) := by decide +kernel
theorem dL_follows_624 : decode cL_follows 624 = .ok (.aload_n 0, 1) := by decide +kernel
theorem dL_follows_625 : decode cL_follows 625 = .ok (.iconst 1, 1) := by decide +kernel
theorem dL_follows_626 : decode cL_follows 626 = .ok (.invokestatic 158, 3) := by decide +kernel
theorem dL_follows_629 : decode cL_follows 629 = .ok (.lconst 0, 1) := by decide +kernel
theorem dL_follows_630 : decode cL_follows 630 = .ok (.lcmp, 1) := by decide +kernel
theorem dL_follows_631 : decode cL_follows 631 = .ok (.ifCond .lt 27, 3) := by decide +kernel
theorem dL_follows_634 : decode cL_follows 634 = .ok (.aload_n 0, 1) := by decide +kernel
theorem dL_follows_635 : decode cL_follows 635 = .ok (.invokestatic 119, 3) := by decide +kernel
theorem dL_follows_638 : decode cL_follows 638 = .ok (.lload_n 2, 1) := by decide +kernel
theorem dL_follows_639 : decode cL_follows 639 = .ok (.lcmp, 1) := by decide +kernel
theorem dL_follows_640 : decode cL_follows 640 = .ok (.ifCond .ne 18, 3) := by decide +kernel
theorem dL_follows_643 : decode cL_follows 643 = .ok (.aload_n 0, 1) := by decide +kernel
theorem dL_follows_644 : decode cL_follows 644 = .ok (.invokestatic 174, 3) := by decide +kernel
theorem dL_follows_647 : decode cL_follows 647 = .ok (.ldc2_w 21, 3) := by decide +kernel
theorem dL_follows_650 : decode cL_follows 650 = .ok (.lcmp, 1) := by decide +kernel
theorem dL_follows_651 : decode cL_follows 651 = .ok (.ifCond .ne 7, 3) := by decide +kernel
theorem dL_follows_654 : decode cL_follows 654 = .ok (.iconst 1, 1) := by decide +kernel
theorem dL_follows_655 : decode cL_follows 655 = .ok (.goto 4, 3) := by decide +kernel
theorem dL_follows_658 : decode cL_follows 658 = .ok (.iconst 0, 1) := by decide +kernel
theorem dL_follows_659 : decode cL_follows 659 = .ok (.ireturn, 1) := by decide +kernel
theorem dL_alike_0 : decode cL_alike 0 = .ok (.aload_n 0, 1) := by decide +kernel
theorem dL_alike_1 : decode cL_alike 1 = .ok (.invokestatic 119, 3) := by decide +kernel
theorem dL_alike_4 : decode cL_alike 4 = .ok (.aload_n 1, 1) := by decide +kernel
theorem dL_alike_5 : decode cL_alike 5 = .ok (.invokestatic 119, 3) := by decide +kernel
theorem dL_alike_8 : decode cL_alike 8 = .ok (.lcmp, 1) := by decide +kernel
theorem dL_alike_9 : decode cL_alike 9 = .ok (.ifCond .ne 109, 3) := by decide +kernel
theorem dL_alike_12 : decode cL_alike 12 = .ok (.aload_n 0, 1) := by decide +kernel
theorem dL_alike_13 : decode cL_alike 13 = .ok (.invokevirtual 178, 3) := by decide +kernel
theorem dL_alike_16 : decode cL_alike 16 = .ok (.aload_n 1, 1) := by decide +kernel
theorem dL_alike_17 : decode cL_alike 17 = .ok (.invokevirtual 178, 3) := by decide +kernel
theorem dL_alike_20 : decode cL_alike 20 = .ok (.if_icmp .ne 98, 3) := by decide +kernel
theorem dL_alike_23 : decode cL_alike 23 = .ok (.aload_n 0, 1) := by decide +kernel
theorem dL_alike_24 : decode cL_alike 24 = .ok (.invokevirtual 181, 3) := by decide +kernel
theorem dL_alike_27 : decode cL_alike 27 = .ok (.aload_n 1, 1) := by decide +kernel
theorem dL_alike_28 : decode cL_alike 28 = .ok (.invokevirtual 181, 3) := by decide +kernel
theorem dL_alike_31 : decode cL_alike 31 = .ok (.if_icmp .ne 87, 3) := by decide +kernel
theorem dL_alike_34 : decode cL_alike 34 = .ok (.aload_n 0, 1) := by decide +kernel
theorem dL_alike_35 : decode cL_alike 35 = .ok (.iload_n 2, 1) := by decide +kernel
theorem dL_alike_36 : decode cL_alike 36 = .ok (.bipush 6, 2) := by decide +kernel
theorem dL_alike_38 : decode cL_alike 38 = .ok (.irem, 1) := by decide +kernel
theorem dL_alike_39 : decode cL_alike 39 = .ok (.iconst 1, 1) := by decide +kernel
theorem dL_alike_40 : decode cL_alike 40 = .ok (.invokestatic 145, 3) := by decide +kernel
theorem dL_alike_43 : decode cL_alike 43 = .ok (.aload_n 1, 1) := by decide +kernel
theorem dL_alike_44 : decode cL_alike 44 = .ok (.iload_n 2, 1) := by decide +kernel
theorem dL_alike_45 : decode cL_alike 45 = .ok (.bipush 6, 2) := by decide +kernel
theorem dL_alike_47 : decode cL_alike 47 = .ok (.irem, 1) := by decide +kernel
theorem dL_alike_48 : decode cL_alike 48 = .ok (.iconst 1, 1) := by decide +kernel
theorem dL_alike_49 : decode cL_alike 49 = .ok (.invokestatic 145, 3) := by decide +kernel
theorem dL_alike_52 : decode cL_alike 52 = .ok (.lcmp, 1) := by decide +kernel
theorem dL_alike_53 : decode cL_alike 53 = .ok (.ifCond .ne 65, 3) := by decide +kernel
theorem dL_alike_56 : decode cL_alike 56 = .ok (.aload_n 0, 1) := by decide +kernel
theorem dL_alike_57 : decode cL_alike 57 = .ok (.iload_n 2, 1) := by decide +kernel
theorem dL_alike_58 : decode cL_alike 58 = .ok (.i2l, 1) := by decide +kernel
theorem dL_alike_59 : decode cL_alike 59 = .ok (.iconst 5, 1) := by decide +kernel
theorem dL_alike_60 : decode cL_alike 60 = .ok (.invokestatic 153, 3) := by decide +kernel
theorem dL_alike_63 : decode cL_alike 63 = .ok (.aload_n 1, 1) := by decide +kernel
theorem dL_alike_64 : decode cL_alike 64 = .ok (.iload_n 2, 1) := by decide +kernel
theorem dL_alike_65 : decode cL_alike 65 = .ok (.i2l, 1) := by decide +kernel
theorem dL_alike_66 : decode cL_alike 66 = .ok (.iconst 5, 1) := by decide +kernel
theorem dL_alike_67 : decode cL_alike 67 = .ok (.invokestatic 153, 3) := by decide +kernel
theorem dL_alike_70 : decode cL_alike 70 = .ok (.lcmp, 1) := by decide +kernel
theorem dL_alike_71 : decode cL_alike 71 = .ok (.ifCond .ne 47, 3) := by decide +kernel
theorem dL_alike_74 : decode cL_alike 74 = .ok (.aload_n 0, 1) := by decide +kernel
theorem dL_alike_75 : decode cL_alike 75 = .ok (.iconst 2, 1) := by decide +kernel
theorem dL_alike_76 : decode cL_alike 76 = .ok (.ldc2_w 184, 3) := by decide +kernel
theorem dL_alike_79 : decode cL_alike 79 = .ok (.ldc2_w 186, 3) := by decide +kernel
theorem dL_alike_82 : decode cL_alike 82 = .ok (.iload_n 2, 1) := by decide +kernel
theorem dL_alike_83 : decode cL_alike 83 = .ok (.bipush 9, 2) := by decide +kernel
theorem dL_alike_85 : decode cL_alike 85 = .ok (.irem, 1) := by decide +kernel
theorem dL_alike_86 : decode cL_alike 86 = .ok (.i2l, 1) := by decide +kernel
theorem dL_alike_87 : decode cL_alike 87 = .ok (.lmul, 1) := by decide +kernel
theorem dL_alike_88 : decode cL_alike 88 = .ok (.ladd, 1) := by decide +kernel
theorem dL_alike_89 : decode cL_alike 89 = .ok (.invokestatic 147, 3) := by decide +kernel
theorem dL_alike_92 : decode cL_alike 92 = .ok (.aload_n 1, 1) := by decide +kernel
theorem dL_alike_93 : decode cL_alike 93 = .ok (.iconst 2, 1) := by decide +kernel
theorem dL_alike_94 : decode cL_alike 94 = .ok (.ldc2_w 184, 3) := by decide +kernel
theorem dL_alike_97 : decode cL_alike 97 = .ok (.ldc2_w 186, 3) := by decide +kernel
theorem dL_alike_100 : decode cL_alike 100 = .ok (.iload_n 2, 1) := by decide +kernel
theorem dL_alike_101 : decode cL_alike 101 = .ok (.bipush 9, 2) := by decide +kernel
theorem dL_alike_103 : decode cL_alike 103 = .ok (.irem, 1) := by decide +kernel
theorem dL_alike_104 : decode cL_alike 104 = .ok (.i2l, 1) := by decide +kernel
theorem dL_alike_105 : decode cL_alike 105 = .ok (.lmul, 1) := by decide +kernel
theorem dL_alike_106 : decode cL_alike 106 = .ok (.ladd, 1) := by decide +kernel
theorem dL_alike_107 : decode cL_alike 107 = .ok (.invokestatic 147, 3) := by decide +kernel
theorem dL_alike_110 : decode cL_alike 110 = .ok (.lcmp, 1) := by decide +kernel
theorem dL_alike_111 : decode cL_alike 111 = .ok (.ifCond .ne 7, 3) := by decide +kernel
theorem dL_alike_114 : decode cL_alike 114 = .ok (.iconst 1, 1) := by decide +kernel
theorem dL_alike_115 : decode cL_alike 115 = .ok (.goto 4, 3) := by decide +kernel
theorem dL_alike_118 : decode cL_alike 118 = .ok (.iconst 0, 1) := by decide +kernel
theorem dL_alike_119 : decode cL_alike 119 = .ok (.ireturn, 1) := by decide +kernel
theorem dL_says_0 : decode cL_says 0 = .ok (.aload_n 0, 1) := by decide +kernel
theorem dL_says_1 : decode cL_says 1 = .ok (.iload_n 1, 1) := by decide +kernel
theorem dL_says_2 : decode cL_says 2 = .ok (.invokestatic 160, 3) := by decide +kernel
theorem dL_says_5 : decode cL_says 5 = .ok (.lconst 0, 1) := by decide +kernel
theorem dL_says_6 : decode cL_says 6 = .ok (.lcmp, 1) := by decide +kernel
theorem dL_says_7 : decode cL_says 7 = .ok (.ifCond .le 38, 3) := by decide +kernel
theorem dL_says_10 : decode cL_says 10 = .ok (.aload_n 0, 1) := by decide +kernel
theorem dL_says_11 : decode cL_says 11 = .ok (.iload_n 2, 1) := by decide +kernel
theorem dL_says_12 : decode cL_says 12 = .ok (.invokestatic 160, 3) := by decide +kernel
theorem dL_says_15 : decode cL_says 15 = .ok (.lconst 0, 1) := by decide +kernel
theorem dL_says_16 : decode cL_says 16 = .ok (.lcmp, 1) := by decide +kernel
theorem dL_says_17 : decode cL_says 17 = .ok (.ifCond .le 28, 3) := by decide +kernel
theorem dL_says_20 : decode cL_says 20 = .ok (.aload_n 0, 1) := by decide +kernel
theorem dL_says_21 : decode cL_says 21 = .ok (.iload_n 3, 1) := by decide +kernel
theorem dL_says_22 : decode cL_says 22 = .ok (.invokestatic 160, 3) := by decide +kernel
theorem dL_says_25 : decode cL_says 25 = .ok (.lconst 0, 1) := by decide +kernel
theorem dL_says_26 : decode cL_says 26 = .ok (.lcmp, 1) := by decide +kernel
theorem dL_says_27 : decode cL_says 27 = .ok (.ifCond .le 18, 3) := by decide +kernel
theorem dL_says_30 : decode cL_says 30 = .ok (.aload_n 0, 1) := by decide +kernel
theorem dL_says_31 : decode cL_says 31 = .ok (.iload 4, 2) := by decide +kernel
theorem dL_says_33 : decode cL_says 33 = .ok (.invokestatic 160, 3) := by decide +kernel
theorem dL_says_36 : decode cL_says 36 = .ok (.lconst 0, 1) := by decide +kernel
theorem dL_says_37 : decode cL_says 37 = .ok (.lcmp, 1) := by decide +kernel
theorem dL_says_38 : decode cL_says 38 = .ok (.ifCond .le 7, 3) := by decide +kernel
theorem dL_says_41 : decode cL_says 41 = .ok (.iconst 1, 1) := by decide +kernel
theorem dL_says_42 : decode cL_says 42 = .ok (.goto 4, 3) := by decide +kernel
theorem dL_says_45 : decode cL_says 45 = .ok (.iconst 0, 1) := by decide +kernel
theorem dL_says_46 : decode cL_says 46 = .ok (.ireturn, 1) := by decide +kernel
theorem dL_told_0 : decode cL_told 0 = .ok (.aload_n 0, 1) := by decide +kernel
theorem dL_told_1 : decode cL_told 1 = .ok (.invokevirtual 188, 3) := by decide +kernel
theorem dL_told_4 : decode cL_told 4 = .ok (.ifCond .lt 122, 3) := by decide +kernel
theorem dL_told_7 : decode cL_told 7 = .ok (.aload_n 0, 1) := by decide +kernel
theorem dL_told_8 : decode cL_told 8 = .ok (.bipush 84, 2) := by decide +kernel
theorem dL_told_10 : decode cL_told 10 = .ok (.invokestatic 160, 3) := by decide +kernel
theorem dL_told_13 : decode cL_told 13 = .ok (.lconst 0, 1) := by decide +kernel
theorem dL_told_14 : decode cL_told 14 = .ok (.lcmp, 1) := by decide +kernel
theorem dL_told_15 : decode cL_told 15 = .ok (.ifCond .le 111, 3) := by decide +kernel
theorem dL_told_18 : decode cL_told 18 = .ok (.aload_n 0, 1) := by decide +kernel
theorem dL_told_19 : decode cL_told 19 = .ok (.bipush 103, 2) := by decide +kernel
theorem dL_told_21 : decode cL_told 21 = .ok (.bipush 49, 2) := by decide +kernel
theorem dL_told_23 : decode cL_told 23 = .ok (.bipush 48, 2) := by decide +kernel
theorem dL_told_25 : decode cL_told 25 = .ok (.iload_n 1, 1) := by decide +kernel
theorem dL_told_26 : decode cL_told 26 = .ok (.bipush 10, 2) := by decide +kernel
theorem dL_told_28 : decode cL_told 28 = .ok (.irem, 1) := by decide +kernel
theorem dL_told_29 : decode cL_told 29 = .ok (.iadd, 1) := by decide +kernel
theorem dL_told_30 : decode cL_told 30 = .ok (.bipush 49, 2) := by decide +kernel
theorem dL_told_32 : decode cL_told 32 = .ok (.iload_n 1, 1) := by decide +kernel
theorem dL_told_33 : decode cL_told 33 = .ok (.iconst 4, 1) := by decide +kernel
theorem dL_told_34 : decode cL_told 34 = .ok (.irem, 1) := by decide +kernel
theorem dL_told_35 : decode cL_told 35 = .ok (.iadd, 1) := by decide +kernel
theorem dL_told_36 : decode cL_told 36 = .ok (.invokestatic 191, 3) := by decide +kernel
theorem dL_told_39 : decode cL_told 39 = .ok (.ifCond .eq 87, 3) := by decide +kernel
theorem dL_told_42 : decode cL_told 42 = .ok (.aload_n 0, 1) := by decide +kernel
theorem dL_told_43 : decode cL_told 43 = .ok (.bipush 48, 2) := by decide +kernel
theorem dL_told_45 : decode cL_told 45 = .ok (.bipush 48, 2) := by decide +kernel
theorem dL_told_47 : decode cL_told 47 = .ok (.bipush 48, 2) := by decide +kernel
theorem dL_told_49 : decode cL_told 49 = .ok (.bipush 103, 2) := by decide +kernel
theorem dL_told_51 : decode cL_told 51 = .ok (.invokestatic 191, 3) := by decide +kernel
theorem dL_told_54 : decode cL_told 54 = .ok (.ifCond .eq 72, 3) := by decide +kernel
theorem dL_told_57 : decode cL_told 57 = .ok (.aload_n 0, 1) := by decide +kernel
theorem dL_told_58 : decode cL_told 58 = .ok (.bipush 48, 2) := by decide +kernel
theorem dL_told_60 : decode cL_told 60 = .ok (.bipush 53, 2) := by decide +kernel
theorem dL_told_62 : decode cL_told 62 = .ok (.iload_n 1, 1) := by decide +kernel
theorem dL_told_63 : decode cL_told 63 = .ok (.iconst 5, 1) := by decide +kernel
theorem dL_told_64 : decode cL_told 64 = .ok (.irem, 1) := by decide +kernel
theorem dL_told_65 : decode cL_told 65 = .ok (.iadd, 1) := by decide +kernel
theorem dL_told_66 : decode cL_told 66 = .ok (.bipush 48, 2) := by decide +kernel
theorem dL_told_68 : decode cL_told 68 = .ok (.iload_n 1, 1) := by decide +kernel
theorem dL_told_69 : decode cL_told 69 = .ok (.iconst 3, 1) := by decide +kernel
theorem dL_told_70 : decode cL_told 70 = .ok (.idiv, 1) := by decide +kernel
theorem dL_told_71 : decode cL_told 71 = .ok (.bipush 6, 2) := by decide +kernel
theorem dL_told_73 : decode cL_told 73 = .ok (.irem, 1) := by decide +kernel
theorem dL_told_74 : decode cL_told 74 = .ok (.iadd, 1) := by decide +kernel
theorem dL_told_75 : decode cL_told 75 = .ok (.bipush 48, 2) := by decide +kernel
theorem dL_told_77 : decode cL_told 77 = .ok (.invokestatic 191, 3) := by decide +kernel
theorem dL_told_80 : decode cL_told 80 = .ok (.ifCond .eq 46, 3) := by decide +kernel
theorem dL_told_83 : decode cL_told 83 = .ok (.aload_n 0, 1) := by decide +kernel
theorem dL_told_84 : decode cL_told 84 = .ok (.bipush 48, 2) := by decide +kernel
theorem dL_told_86 : decode cL_told 86 = .ok (.bipush 48, 2) := by decide +kernel
theorem dL_told_88 : decode cL_told 88 = .ok (.iload_n 1, 1) := by decide +kernel
theorem dL_told_89 : decode cL_told 89 = .ok (.bipush 7, 2) := by decide +kernel
theorem dL_told_91 : decode cL_told 91 = .ok (.idiv, 1) := by decide +kernel
theorem dL_told_92 : decode cL_told 92 = .ok (.bipush 10, 2) := by decide +kernel
theorem dL_told_94 : decode cL_told 94 = .ok (.irem, 1) := by decide +kernel
theorem dL_told_95 : decode cL_told 95 = .ok (.iadd, 1) := by decide +kernel
theorem dL_told_96 : decode cL_told 96 = .ok (.bipush 115, 2) := by decide +kernel
theorem dL_told_98 : decode cL_told 98 = .ok (.bipush 49, 2) := by decide +kernel
theorem dL_told_100 : decode cL_told 100 = .ok (.invokestatic 191, 3) := by decide +kernel
theorem dL_told_103 : decode cL_told 103 = .ok (.ifCond .eq 23, 3) := by decide +kernel
theorem dL_told_106 : decode cL_told 106 = .ok (.aload_n 0, 1) := by decide +kernel
theorem dL_told_107 : decode cL_told 107 = .ok (.bipush 49, 2) := by decide +kernel
theorem dL_told_109 : decode cL_told 109 = .ok (.iload_n 1, 1) := by decide +kernel
theorem dL_told_110 : decode cL_told 110 = .ok (.bipush 9, 2) := by decide +kernel
theorem dL_told_112 : decode cL_told 112 = .ok (.irem, 1) := by decide +kernel
theorem dL_told_113 : decode cL_told 113 = .ok (.iadd, 1) := by decide +kernel
theorem dL_told_114 : decode cL_told 114 = .ok (.invokestatic 160, 3) := by decide +kernel
theorem dL_told_117 : decode cL_told 117 = .ok (.lconst 0, 1) := by decide +kernel
theorem dL_told_118 : decode cL_told 118 = .ok (.lcmp, 1) := by decide +kernel
theorem dL_told_119 : decode cL_told 119 = .ok (.ifCond .le 7, 3) := by decide +kernel
theorem dL_told_122 : decode cL_told 122 = .ok (.iconst 1, 1) := by decide +kernel
theorem dL_told_123 : decode cL_told 123 = .ok (.goto 4, 3) := by decide +kernel
theorem dL_told_126 : decode cL_told 126 = .ok (.iconst 0, 1) := by decide +kernel
theorem dL_told_127 : decode cL_told 127 = .ok (.istore_n 2, 1) := by decide +kernel
theorem dL_told_128 : decode cL_told 128 = .ok (.iconst 0, 1) := by decide +kernel
theorem dL_told_129 : decode cL_told 129 = .ok (.istore_n 3, 1) := by decide +kernel
theorem dL_told_130 : decode cL_told 130 = .ok (.iload_n 3, 1) := by decide +kernel
theorem dL_told_131 : decode cL_told 131 = .ok (.iconst 1, 1) := by decide +kernel
theorem dL_told_132 : decode cL_told 132 = .ok (.iload_n 1, 1) := by decide +kernel
theorem dL_told_133 : decode cL_told 133 = .ok (.iconst 5, 1) := by decide +kernel
theorem dL_told_134 : decode cL_told 134 = .ok (.irem, 1) := by decide +kernel
theorem dL_told_135 : decode cL_told 135 = .ok (.iadd, 1) := by decide +kernel
theorem dL_told_136 : decode cL_told 136 = .ok (.if_icmp .ge 168, 3) := by decide +kernel
theorem dL_told_139 : decode cL_told 139 = .ok (.iload_n 2, 1) := by decide +kernel
theorem dL_told_140 : decode cL_told 140 = .ok (.ifCond .eq 164, 3) := by decide +kernel
theorem dL_told_143 : decode cL_told 143 = .ok (.iload_n 1, 1) := by decide +kernel
theorem dL_told_144 : decode cL_told 144 = .ok (.iload_n 3, 1) := by decide +kernel
theorem dL_told_145 : decode cL_told 145 = .ok (.ishr, 1) := by decide +kernel
theorem dL_told_146 : decode cL_told 146 = .ok (.istore 4, 2) := by decide +kernel
theorem dL_told_148 : decode cL_told 148 = .ok (.aload_n 0, 1) := by decide +kernel
theorem dL_told_149 : decode cL_told 149 = .ok (.bipush 98, 2) := by decide +kernel
theorem dL_told_151 : decode cL_told 151 = .ok (.bipush 49, 2) := by decide +kernel
theorem dL_told_153 : decode cL_told 153 = .ok (.iload 4, 2) := by decide +kernel
theorem dL_told_155 : decode cL_told 155 = .ok (.bipush 9, 2) := by decide +kernel
theorem dL_told_157 : decode cL_told 157 = .ok (.irem, 1) := by decide +kernel
theorem dL_told_158 : decode cL_told 158 = .ok (.iadd, 1) := by decide +kernel
theorem dL_told_159 : decode cL_told 159 = .ok (.bipush 48, 2) := by decide +kernel
theorem dL_told_161 : decode cL_told 161 = .ok (.iload 4, 2) := by decide +kernel
theorem dL_told_163 : decode cL_told 163 = .ok (.iconst 3, 1) := by decide +kernel
theorem dL_told_164 : decode cL_told 164 = .ok (.idiv, 1) := by decide +kernel
theorem dL_told_165 : decode cL_told 165 = .ok (.iconst 4, 1) := by decide +kernel
theorem dL_told_166 : decode cL_told 166 = .ok (.irem, 1) := by decide +kernel
theorem dL_told_167 : decode cL_told 167 = .ok (.iadd, 1) := by decide +kernel
theorem dL_told_168 : decode cL_told 168 = .ok (.bipush 48, 2) := by decide +kernel
theorem dL_told_170 : decode cL_told 170 = .ok (.iload 4, 2) := by decide +kernel
theorem dL_told_172 : decode cL_told 172 = .ok (.iconst 5, 1) := by decide +kernel
theorem dL_told_173 : decode cL_told 173 = .ok (.idiv, 1) := by decide +kernel
theorem dL_told_174 : decode cL_told 174 = .ok (.iconst 4, 1) := by decide +kernel
theorem dL_told_175 : decode cL_told 175 = .ok (.irem, 1) := by decide +kernel
theorem dL_told_176 : decode cL_told 176 = .ok (.iadd, 1) := by decide +kernel
theorem dL_told_177 : decode cL_told 177 = .ok (.invokestatic 191, 3) := by decide +kernel
theorem dL_told_180 : decode cL_told 180 = .ok (.ifCond .eq 116, 3) := by decide +kernel
theorem dL_told_183 : decode cL_told 183 = .ok (.aload_n 0, 1) := by decide +kernel
theorem dL_told_184 : decode cL_told 184 = .ok (.bipush 108, 2) := by decide +kernel
theorem dL_told_186 : decode cL_told 186 = .ok (.bipush 48, 2) := by decide +kernel
theorem dL_told_188 : decode cL_told 188 = .ok (.iload_n 3, 1) := by decide +kernel
theorem dL_told_189 : decode cL_told 189 = .ok (.iadd, 1) := by decide +kernel
theorem dL_told_190 : decode cL_told 190 = .ok (.bipush 48, 2) := by decide +kernel
theorem dL_told_192 : decode cL_told 192 = .ok (.iload 4, 2) := by decide +kernel
theorem dL_told_194 : decode cL_told 194 = .ok (.iconst 2, 1) := by decide +kernel
theorem dL_told_195 : decode cL_told 195 = .ok (.irem, 1) := by decide +kernel
theorem dL_told_196 : decode cL_told 196 = .ok (.iadd, 1) := by decide +kernel
theorem dL_told_197 : decode cL_told 197 = .ok (.bipush 109, 2) := by decide +kernel
theorem dL_told_199 : decode cL_told 199 = .ok (.invokestatic 191, 3) := by decide +kernel
theorem dL_told_202 : decode cL_told 202 = .ok (.ifCond .eq 94, 3) := by decide +kernel
theorem dL_told_205 : decode cL_told 205 = .ok (.aload_n 0, 1) := by decide +kernel
theorem dL_told_206 : decode cL_told 206 = .ok (.bipush 48, 2) := by decide +kernel
theorem dL_told_208 : decode cL_told 208 = .ok (.bipush 49, 2) := by decide +kernel
theorem dL_told_210 : decode cL_told 210 = .ok (.iload 4, 2) := by decide +kernel
theorem dL_told_212 : decode cL_told 212 = .ok (.iconst 4, 1) := by decide +kernel
theorem dL_told_213 : decode cL_told 213 = .ok (.irem, 1) := by decide +kernel
theorem dL_told_214 : decode cL_told 214 = .ok (.iadd, 1) := by decide +kernel
theorem dL_told_215 : decode cL_told 215 = .ok (.bipush 104, 2) := by decide +kernel
theorem dL_told_217 : decode cL_told 217 = .ok (.bipush 48, 2) := by decide +kernel
theorem dL_told_219 : decode cL_told 219 = .ok (.iload 4, 2) := by decide +kernel
theorem dL_told_221 : decode cL_told 221 = .ok (.iconst 4, 1) := by decide +kernel
theorem dL_told_222 : decode cL_told 222 = .ok (.irem, 1) := by decide +kernel
theorem dL_told_223 : decode cL_told 223 = .ok (.iadd, 1) := by decide +kernel
theorem dL_told_224 : decode cL_told 224 = .ok (.invokestatic 191, 3) := by decide +kernel
theorem dL_told_227 : decode cL_told 227 = .ok (.ifCond .eq 69, 3) := by decide +kernel
theorem dL_told_230 : decode cL_told 230 = .ok (.aload_n 0, 1) := by decide +kernel
theorem dL_told_231 : decode cL_told 231 = .ok (.bipush 48, 2) := by decide +kernel
theorem dL_told_233 : decode cL_told 233 = .ok (.iload 4, 2) := by decide +kernel
theorem dL_told_235 : decode cL_told 235 = .ok (.iconst 4, 1) := by decide +kernel
theorem dL_told_236 : decode cL_told 236 = .ok (.idiv, 1) := by decide +kernel
theorem dL_told_237 : decode cL_told 237 = .ok (.iconst 2, 1) := by decide +kernel
theorem dL_told_238 : decode cL_told 238 = .ok (.irem, 1) := by decide +kernel
theorem dL_told_239 : decode cL_told 239 = .ok (.iadd, 1) := by decide +kernel
theorem dL_told_240 : decode cL_told 240 = .ok (.bipush 48, 2) := by decide +kernel
theorem dL_told_242 : decode cL_told 242 = .ok (.bipush 48, 2) := by decide +kernel
theorem dL_told_244 : decode cL_told 244 = .ok (.iload 4, 2) := by decide +kernel
theorem dL_told_246 : decode cL_told 246 = .ok (.iconst 5, 1) := by decide +kernel
theorem dL_told_247 : decode cL_told 247 = .ok (.irem, 1) := by decide +kernel
theorem dL_told_248 : decode cL_told 248 = .ok (.iadd, 1) := by decide +kernel
theorem dL_told_249 : decode cL_told 249 = .ok (.bipush 99, 2) := by decide +kernel
theorem dL_told_251 : decode cL_told 251 = .ok (.invokestatic 191, 3) := by decide +kernel
theorem dL_told_254 : decode cL_told 254 = .ok (.ifCond .eq 42, 3) := by decide +kernel
theorem dL_told_257 : decode cL_told 257 = .ok (.aload_n 0, 1) := by decide +kernel
theorem dL_told_258 : decode cL_told 258 = .ok (.bipush 48, 2) := by decide +kernel
theorem dL_told_260 : decode cL_told 260 = .ok (.iload 4, 2) := by decide +kernel
theorem dL_told_262 : decode cL_told 262 = .ok (.iconst 4, 1) := by decide +kernel
theorem dL_told_263 : decode cL_told 263 = .ok (.irem, 1) := by decide +kernel
theorem dL_told_264 : decode cL_told 264 = .ok (.iadd, 1) := by decide +kernel
theorem dL_told_265 : decode cL_told 265 = .ok (.invokestatic 160, 3) := by decide +kernel
theorem dL_told_268 : decode cL_told 268 = .ok (.lconst 0, 1) := by decide +kernel
theorem dL_told_269 : decode cL_told 269 = .ok (.lcmp, 1) := by decide +kernel
theorem dL_told_270 : decode cL_told 270 = .ok (.ifCond .le 26, 3) := by decide +kernel
theorem dL_told_273 : decode cL_told 273 = .ok (.aload_n 0, 1) := by decide +kernel
theorem dL_told_274 : decode cL_told 274 = .ok (.bipush 48, 2) := by decide +kernel
theorem dL_told_276 : decode cL_told 276 = .ok (.iload 4, 2) := by decide +kernel
theorem dL_told_278 : decode cL_told 278 = .ok (.bipush 9, 2) := by decide +kernel
theorem dL_told_280 : decode cL_told 280 = .ok (.idiv, 1) := by decide +kernel
theorem dL_told_281 : decode cL_told 281 = .ok (.iconst 5, 1) := by decide +kernel
theorem dL_told_282 : decode cL_told 282 = .ok (.irem, 1) := by decide +kernel
theorem dL_told_283 : decode cL_told 283 = .ok (.iadd, 1) := by decide +kernel
theorem dL_told_284 : decode cL_told 284 = .ok (.invokestatic 160, 3) := by decide +kernel
theorem dL_told_287 : decode cL_told 287 = .ok (.lconst 0, 1) := by decide +kernel
theorem dL_told_288 : decode cL_told 288 = .ok (.lcmp, 1) := by decide +kernel
theorem dL_told_289 : decode cL_told 289 = .ok (.ifCond .le 7, 3) := by decide +kernel
theorem dL_told_292 : decode cL_told 292 = .ok (.iconst 1, 1) := by decide +kernel
theorem dL_told_293 : decode cL_told 293 = .ok (.goto 4, 3) := by decide +kernel
theorem dL_told_296 : decode cL_told 296 = .ok (.iconst 0, 1) := by decide +kernel
theorem dL_told_297 : decode cL_told 297 = .ok (.istore_n 2, 1) := by decide +kernel
theorem dL_told_298 : decode cL_told 298 = .ok (.iinc 3 1, 3) := by decide +kernel
theorem dL_told_301 : decode cL_told 301 = .ok (.goto (-171), 3) := by decide +kernel
theorem dL_told_304 : decode cL_told 304 = .ok (.iload_n 2, 1) := by decide +kernel
theorem dL_told_305 : decode cL_told 305 = .ok (.ifCond .eq 15, 3) := by decide +kernel
theorem dL_told_308 : decode cL_told 308 = .ok (.aload_n 0, 1) := by decide +kernel
theorem dL_told_309 : decode cL_told 309 = .ok (.invokevirtual 178, 3) := by decide +kernel
theorem dL_told_312 : decode cL_told 312 = .ok (.iconst (-1), 1) := by decide +kernel
theorem dL_told_313 : decode cL_told 313 = .ok (.if_icmp .ne 7, 3) := by decide +kernel
theorem dL_told_316 : decode cL_told 316 = .ok (.iconst 1, 1) := by decide +kernel
theorem dL_told_317 : decode cL_told 317 = .ok (.goto 4, 3) := by decide +kernel
theorem dL_told_320 : decode cL_told 320 = .ok (.iconst 0, 1) := by decide +kernel
theorem dL_told_321 : decode cL_told 321 = .ok (.ireturn, 1) := by decide +kernel
theorem dL_act_0 : decode cL_act 0 = .ok (.iload_n 2, 1) := by decide +kernel
theorem dL_act_1 : decode cL_act 1 = .ok (.bipush 32, 2) := by decide +kernel
theorem dL_act_3 : decode cL_act 3 = .ok (.idiv, 1) := by decide +kernel
theorem dL_act_4 : decode cL_act 4 = .ok (.istore_n 3, 1) := by decide +kernel
theorem dL_act_5 : decode cL_act 5 = .ok (.iload_n 1, 1) := by decide +kernel
theorem dL_act_6 : decode cL_act 6 = .ok (.bipush 24, 2) := by decide +kernel
theorem dL_act_8 : decode cL_act 8 = .ok (.irem, 1) := by decide +kernel
theorem dL_act_9 : decode cL_act 9 = .ok (.tableswitch 224 0 18 #[91, 91, 119, 119, 119, 138, 138, 138, 138, 138, 138, 150, 150, 167, 167, 179, 191, 191, 196], 91) := by decide +kernel
theorem dL_act_100 : decode cL_act 100 = .ok (.aload_n 0, 1) := by decide +kernel
theorem dL_act_101 : decode cL_act 101 = .ok (.iconst 4, 1) := by decide +kernel
theorem dL_act_102 : decode cL_act 102 = .ok (.iload_n 2, 1) := by decide +kernel
theorem dL_act_103 : decode cL_act 103 = .ok (.bipush 12, 2) := by decide +kernel
theorem dL_act_105 : decode cL_act 105 = .ok (.irem, 1) := by decide +kernel
theorem dL_act_106 : decode cL_act 106 = .ok (.iadd, 1) := by decide +kernel
theorem dL_act_107 : decode cL_act 107 = .ok (.iload_n 3, 1) := by decide +kernel
theorem dL_act_108 : decode cL_act 108 = .ok (.bipush 6, 2) := by decide +kernel
theorem dL_act_110 : decode cL_act 110 = .ok (.irem, 1) := by decide +kernel
theorem dL_act_111 : decode cL_act 111 = .ok (.iload_n 3, 1) := by decide +kernel
theorem dL_act_112 : decode cL_act 112 = .ok (.bipush 8, 2) := by decide +kernel
theorem dL_act_114 : decode cL_act 114 = .ok (.idiv, 1) := by decide +kernel
theorem dL_act_115 : decode cL_act 115 = .ok (.iconst 4, 1) := by decide +kernel
theorem dL_act_116 : decode cL_act 116 = .ok (.irem, 1) := by decide +kernel
theorem dL_act_117 : decode cL_act 117 = .ok (.iload_n 3, 1) := by decide +kernel
theorem dL_act_118 : decode cL_act 118 = .ok (.bipush 32, 2) := by decide +kernel
theorem dL_act_120 : decode cL_act 120 = .ok (.idiv, 1) := by decide +kernel
theorem dL_act_121 : decode cL_act 121 = .ok (.bipush 9, 2) := by decide +kernel
theorem dL_act_123 : decode cL_act 123 = .ok (.irem, 1) := by decide +kernel
theorem dL_act_124 : decode cL_act 124 = .ok (.invokestatic 126, 3) := by decide +kernel
theorem dL_act_127 : decode cL_act 127 = .ok (.lreturn, 1) := by decide +kernel
theorem dL_act_128 : decode cL_act 128 = .ok (.aload_n 0, 1) := by decide +kernel
theorem dL_act_129 : decode cL_act 129 = .ok (.iconst 1, 1) := by decide +kernel
theorem dL_act_130 : decode cL_act 130 = .ok (.iload_n 2, 1) := by decide +kernel
theorem dL_act_131 : decode cL_act 131 = .ok (.bipush 9, 2) := by decide +kernel
theorem dL_act_133 : decode cL_act 133 = .ok (.irem, 1) := by decide +kernel
theorem dL_act_134 : decode cL_act 134 = .ok (.iadd, 1) := by decide +kernel
theorem dL_act_135 : decode cL_act 135 = .ok (.iload_n 3, 1) := by decide +kernel
theorem dL_act_136 : decode cL_act 136 = .ok (.iconst 4, 1) := by decide +kernel
theorem dL_act_137 : decode cL_act 137 = .ok (.irem, 1) := by decide +kernel
theorem dL_act_138 : decode cL_act 138 = .ok (.iload_n 3, 1) := by decide +kernel
theorem dL_act_139 : decode cL_act 139 = .ok (.iconst 4, 1) := by decide +kernel
theorem dL_act_140 : decode cL_act 140 = .ok (.idiv, 1) := by decide +kernel
theorem dL_act_141 : decode cL_act 141 = .ok (.iconst 4, 1) := by decide +kernel
theorem dL_act_142 : decode cL_act 142 = .ok (.irem, 1) := by decide +kernel
theorem dL_act_143 : decode cL_act 143 = .ok (.invokestatic 129, 3) := by decide +kernel
theorem dL_act_146 : decode cL_act 146 = .ok (.lreturn, 1) := by decide +kernel
theorem dL_act_147 : decode cL_act 147 = .ok (.aload_n 0, 1) := by decide +kernel
theorem dL_act_148 : decode cL_act 148 = .ok (.iload_n 2, 1) := by decide +kernel
theorem dL_act_149 : decode cL_act 149 = .ok (.bipush 7, 2) := by decide +kernel
theorem dL_act_151 : decode cL_act 151 = .ok (.irem, 1) := by decide +kernel
theorem dL_act_152 : decode cL_act 152 = .ok (.iload_n 3, 1) := by decide +kernel
theorem dL_act_153 : decode cL_act 153 = .ok (.iconst 3, 1) := by decide +kernel
theorem dL_act_154 : decode cL_act 154 = .ok (.irem, 1) := by decide +kernel
theorem dL_act_155 : decode cL_act 155 = .ok (.invokestatic 131, 3) := by decide +kernel
theorem dL_act_158 : decode cL_act 158 = .ok (.lreturn, 1) := by decide +kernel
theorem dL_act_159 : decode cL_act 159 = .ok (.aload_n 0, 1) := by decide +kernel
theorem dL_act_160 : decode cL_act 160 = .ok (.iload_n 2, 1) := by decide +kernel
theorem dL_act_161 : decode cL_act 161 = .ok (.iconst 4, 1) := by decide +kernel
theorem dL_act_162 : decode cL_act 162 = .ok (.irem, 1) := by decide +kernel
theorem dL_act_163 : decode cL_act 163 = .ok (.iload_n 3, 1) := by decide +kernel
theorem dL_act_164 : decode cL_act 164 = .ok (.iconst 3, 1) := by decide +kernel
theorem dL_act_165 : decode cL_act 165 = .ok (.irem, 1) := by decide +kernel
theorem dL_act_166 : decode cL_act 166 = .ok (.iload_n 3, 1) := by decide +kernel
theorem dL_act_167 : decode cL_act 167 = .ok (.iconst 4, 1) := by decide +kernel
theorem dL_act_168 : decode cL_act 168 = .ok (.idiv, 1) := by decide +kernel
theorem dL_act_169 : decode cL_act 169 = .ok (.bipush 8, 2) := by decide +kernel
theorem dL_act_171 : decode cL_act 171 = .ok (.irem, 1) := by decide +kernel
theorem dL_act_172 : decode cL_act 172 = .ok (.invokestatic 133, 3) := by decide +kernel
theorem dL_act_175 : decode cL_act 175 = .ok (.lreturn, 1) := by decide +kernel
theorem dL_act_176 : decode cL_act 176 = .ok (.aload_n 0, 1) := by decide +kernel
theorem dL_act_177 : decode cL_act 177 = .ok (.iload_n 2, 1) := by decide +kernel
theorem dL_act_178 : decode cL_act 178 = .ok (.iconst 4, 1) := by decide +kernel
theorem dL_act_179 : decode cL_act 179 = .ok (.irem, 1) := by decide +kernel
theorem dL_act_180 : decode cL_act 180 = .ok (.iload_n 3, 1) := by decide +kernel
theorem dL_act_181 : decode cL_act 181 = .ok (.bipush 7, 2) := by decide +kernel
theorem dL_act_183 : decode cL_act 183 = .ok (.irem, 1) := by decide +kernel
theorem dL_act_184 : decode cL_act 184 = .ok (.invokestatic 135, 3) := by decide +kernel
theorem dL_act_187 : decode cL_act 187 = .ok (.lreturn, 1) := by decide +kernel
theorem dL_act_188 : decode cL_act 188 = .ok (.aload_n 0, 1) := by decide +kernel
theorem dL_act_189 : decode cL_act 189 = .ok (.iload_n 2, 1) := by decide +kernel
theorem dL_act_190 : decode cL_act 190 = .ok (.iconst 3, 1) := by decide +kernel
theorem dL_act_191 : decode cL_act 191 = .ok (.irem, 1) := by decide +kernel
theorem dL_act_192 : decode cL_act 192 = .ok (.iload_n 3, 1) := by decide +kernel
theorem dL_act_193 : decode cL_act 193 = .ok (.bipush 6, 2) := by decide +kernel
theorem dL_act_195 : decode cL_act 195 = .ok (.irem, 1) := by decide +kernel
theorem dL_act_196 : decode cL_act 196 = .ok (.invokestatic 139, 3) := by decide +kernel
theorem dL_act_199 : decode cL_act 199 = .ok (.lreturn, 1) := by decide +kernel
theorem dL_act_200 : decode cL_act 200 = .ok (.aload_n 0, 1) := by decide +kernel
theorem dL_act_201 : decode cL_act 201 = .ok (.invokestatic 174, 3) := by decide +kernel
theorem dL_act_204 : decode cL_act 204 = .ok (.lreturn, 1) := by decide +kernel
theorem dL_act_205 : decode cL_act 205 = .ok (.iload_n 3, 1) := by decide +kernel
theorem dL_act_206 : decode cL_act 206 = .ok (.iconst 2, 1) := by decide +kernel
theorem dL_act_207 : decode cL_act 207 = .ok (.irem, 1) := by decide +kernel
theorem dL_act_208 : decode cL_act 208 = .ok (.ifCond .ne 15, 3) := by decide +kernel
theorem dL_act_211 : decode cL_act 211 = .ok (.aload_n 0, 1) := by decide +kernel
theorem dL_act_212 : decode cL_act 212 = .ok (.iload_n 3, 1) := by decide +kernel
theorem dL_act_213 : decode cL_act 213 = .ok (.iconst 2, 1) := by decide +kernel
theorem dL_act_214 : decode cL_act 214 = .ok (.idiv, 1) := by decide +kernel
theorem dL_act_215 : decode cL_act 215 = .ok (.iconst 1, 1) := by decide +kernel
theorem dL_act_216 : decode cL_act 216 = .ok (.iand, 1) := by decide +kernel
theorem dL_act_217 : decode cL_act 217 = .ok (.invokestatic 156, 3) := by decide +kernel
theorem dL_act_220 : decode cL_act 220 = .ok (.goto 12, 3) := by decide +kernel
theorem dL_act_223 : decode cL_act 223 = .ok (.aload_n 0, 1) := by decide +kernel
theorem dL_act_224 : decode cL_act 224 = .ok (.iload_n 3, 1) := by decide +kernel
theorem dL_act_225 : decode cL_act 225 = .ok (.iconst 2, 1) := by decide +kernel
theorem dL_act_226 : decode cL_act 226 = .ok (.idiv, 1) := by decide +kernel
theorem dL_act_227 : decode cL_act 227 = .ok (.iconst 1, 1) := by decide +kernel
theorem dL_act_228 : decode cL_act 228 = .ok (.iand, 1) := by decide +kernel
theorem dL_act_229 : decode cL_act 229 = .ok (.invokestatic 158, 3) := by decide +kernel
theorem dL_act_232 : decode cL_act 232 = .ok (.lreturn, 1) := by decide +kernel
theorem dL_act_233 : decode cL_act 233 = .ok (.aload_n 0, 1) := by decide +kernel
theorem dL_act_234 : decode cL_act 234 = .ok (.iconst 1, 1) := by decide +kernel
theorem dL_act_235 : decode cL_act 235 = .ok (.iload_n 2, 1) := by decide +kernel
theorem dL_act_236 : decode cL_act 236 = .ok (.iconst 4, 1) := by decide +kernel
theorem dL_act_237 : decode cL_act 237 = .ok (.irem, 1) := by decide +kernel
theorem dL_act_238 : decode cL_act 238 = .ok (.iadd, 1) := by decide +kernel
theorem dL_act_239 : decode cL_act 239 = .ok (.invokestatic 137, 3) := by decide +kernel
theorem dL_act_242 : decode cL_act 242 = .ok (.lreturn, 1) := by decide +kernel
theorem dL_law_0 : decode cL_law 0 = .ok (.new 10, 3) := by decide +kernel
theorem dL_law_3 : decode cL_law 3 = .ok (.dup, 1) := by decide +kernel
theorem dL_law_4 : decode cL_law 4 = .ok (.invokespecial 195, 3) := by decide +kernel
theorem dL_law_7 : decode cL_law 7 = .ok (.astore_n 1, 1) := by decide +kernel
theorem dL_law_8 : decode cL_law 8 = .ok (.new 10, 3) := by decide +kernel
theorem dL_law_11 : decode cL_law 11 = .ok (.dup, 1) := by decide +kernel
theorem dL_law_12 : decode cL_law 12 = .ok (.invokespecial 195, 3) := by decide +kernel
theorem dL_law_15 : decode cL_law 15 = .ok (.astore_n 2, 1) := by decide +kernel
theorem dL_law_16 : decode cL_law 16 = .ok (.aload_n 1, 1) := by decide +kernel
theorem dL_law_17 : decode cL_law 17 = .ok (.aload_n 2, 1) := by decide +kernel
theorem dL_law_18 : decode cL_law 18 = .ok (.aload_n 0, 1) := by decide +kernel
theorem dL_law_19 : decode cL_law 19 = .ok (.iconst 0, 1) := by decide +kernel
theorem dL_law_20 : decode cL_law 20 = .ok (.invokestatic 196, 3) := by decide +kernel
theorem dL_law_23 : decode cL_law 23 = .ok (.invokestatic 200, 3) := by decide +kernel
theorem dL_law_26 : decode cL_law 26 = .ok (.ifCond .eq 21, 3) := by decide +kernel
theorem dL_law_29 : decode cL_law 29 = .ok (.aload_n 1, 1) := by decide +kernel
theorem dL_law_30 : decode cL_law 30 = .ok (.invokestatic 204, 3) := by decide +kernel
theorem dL_law_33 : decode cL_law 33 = .ok (.ifCond .eq 14, 3) := by decide +kernel
theorem dL_law_36 : decode cL_law 36 = .ok (.aload_n 1, 1) := by decide +kernel
theorem dL_law_37 : decode cL_law 37 = .ok (.invokestatic 208, 3) := by decide +kernel
theorem dL_law_40 : decode cL_law 40 = .ok (.ifCond .eq 7, 3) := by decide +kernel
theorem dL_law_43 : decode cL_law 43 = .ok (.iconst 1, 1) := by decide +kernel
theorem dL_law_44 : decode cL_law 44 = .ok (.goto 4, 3) := by decide +kernel
theorem dL_law_47 : decode cL_law 47 = .ok (.iconst 0, 1) := by decide +kernel
theorem dL_law_48 : decode cL_law 48 = .ok (.istore_n 3, 1) := by decide +kernel
theorem dL_law_49 : decode cL_law 49 = .ok (.iconst 0, 1) := by decide +kernel
theorem dL_law_50 : decode cL_law 50 = .ok (.istore 4, 2) := by decide +kernel
theorem dL_law_52 : decode cL_law 52 = .ok (.iload 4, 2) := by decide +kernel
theorem dL_law_54 : decode cL_law 54 = .ok (.bipush 40, 2) := by decide +kernel
theorem dL_law_56 : decode cL_law 56 = .ok (.if_icmp .ge 215, 3) := by decide +kernel
theorem dL_law_59 : decode cL_law 59 = .ok (.iload_n 3, 1) := by decide +kernel
theorem dL_law_60 : decode cL_law 60 = .ok (.ifCond .eq 211, 3) := by decide +kernel
theorem dL_law_63 : decode cL_law 63 = .ok (.aload_n 0, 1) := by decide +kernel
theorem dL_law_64 : decode cL_law 64 = .ok (.iconst 2, 1) := by decide +kernel
theorem dL_law_65 : decode cL_law 65 = .ok (.iload 4, 2) := by decide +kernel
theorem dL_law_67 : decode cL_law 67 = .ok (.imul, 1) := by decide +kernel
theorem dL_law_68 : decode cL_law 68 = .ok (.invokestatic 196, 3) := by decide +kernel
theorem dL_law_71 : decode cL_law 71 = .ok (.istore 5, 2) := by decide +kernel
theorem dL_law_73 : decode cL_law 73 = .ok (.aload_n 0, 1) := by decide +kernel
theorem dL_law_74 : decode cL_law 74 = .ok (.iconst 2, 1) := by decide +kernel
theorem dL_law_75 : decode cL_law 75 = .ok (.iload 4, 2) := by decide +kernel
theorem dL_law_77 : decode cL_law 77 = .ok (.imul, 1) := by decide +kernel
theorem dL_law_78 : decode cL_law 78 = .ok (.iconst 1, 1) := by decide +kernel
theorem dL_law_79 : decode cL_law 79 = .ok (.iadd, 1) := by decide +kernel
theorem dL_law_80 : decode cL_law 80 = .ok (.invokestatic 196, 3) := by decide +kernel
theorem dL_law_83 : decode cL_law 83 = .ok (.istore 6, 2) := by decide +kernel
theorem dL_law_85 : decode cL_law 85 = .ok (.iload 4, 2) := by decide +kernel
theorem dL_law_87 : decode cL_law 87 = .ok (.ifCond .ne 42, 3) := by decide +kernel
theorem dL_law_90 : decode cL_law 90 = .ok (.aload_n 1, 1) := by decide +kernel
theorem dL_law_91 : decode cL_law 91 = .ok (.iload 5, 2) := by decide +kernel
theorem dL_law_93 : decode cL_law 93 = .ok (.invokestatic 211, 3) := by decide +kernel
theorem dL_law_96 : decode cL_law 96 = .ok (.ifCond .eq 28, 3) := by decide +kernel
theorem dL_law_99 : decode cL_law 99 = .ok (.aload_n 2, 1) := by decide +kernel
theorem dL_law_100 : decode cL_law 100 = .ok (.iload 5, 2) := by decide +kernel
theorem dL_law_102 : decode cL_law 102 = .ok (.invokestatic 211, 3) := by decide +kernel
theorem dL_law_105 : decode cL_law 105 = .ok (.ifCond .eq 19, 3) := by decide +kernel
theorem dL_law_108 : decode cL_law 108 = .ok (.aload_n 1, 1) := by decide +kernel
theorem dL_law_109 : decode cL_law 109 = .ok (.invokestatic 215, 3) := by decide +kernel
theorem dL_law_112 : decode cL_law 112 = .ok (.aload_n 2, 1) := by decide +kernel
theorem dL_law_113 : decode cL_law 113 = .ok (.invokestatic 215, 3) := by decide +kernel
theorem dL_law_116 : decode cL_law 116 = .ok (.lcmp, 1) := by decide +kernel
theorem dL_law_117 : decode cL_law 117 = .ok (.ifCond .ne 7, 3) := by decide +kernel
theorem dL_law_120 : decode cL_law 120 = .ok (.iconst 1, 1) := by decide +kernel
theorem dL_law_121 : decode cL_law 121 = .ok (.goto 4, 3) := by decide +kernel
theorem dL_law_124 : decode cL_law 124 = .ok (.iconst 0, 1) := by decide +kernel
theorem dL_law_125 : decode cL_law 125 = .ok (.istore_n 3, 1) := by decide +kernel
theorem dL_law_126 : decode cL_law 126 = .ok (.goto 139, 3) := by decide +kernel
theorem dL_law_129 : decode cL_law 129 = .ok (.aload_n 1, 1) := by decide +kernel
theorem dL_law_130 : decode cL_law 130 = .ok (.iload 5, 2) := by decide +kernel
theorem dL_law_132 : decode cL_law 132 = .ok (.iload 6, 2) := by decide +kernel
theorem dL_law_134 : decode cL_law 134 = .ok (.invokestatic 217, 3) := by decide +kernel
theorem dL_law_137 : decode cL_law 137 = .ok (.aload_n 2, 1) := by decide +kernel
theorem dL_law_138 : decode cL_law 138 = .ok (.iload 5, 2) := by decide +kernel
theorem dL_law_140 : decode cL_law 140 = .ok (.iload 6, 2) := by decide +kernel
theorem dL_law_142 : decode cL_law 142 = .ok (.invokestatic 217, 3) := by decide +kernel
theorem dL_law_145 : decode cL_law 145 = .ok (.lcmp, 1) := by decide +kernel
theorem dL_law_146 : decode cL_law 146 = .ok (.ifCond .ne 7, 3) := by decide +kernel
theorem dL_law_149 : decode cL_law 149 = .ok (.iconst 1, 1) := by decide +kernel
theorem dL_law_150 : decode cL_law 150 = .ok (.goto 4, 3) := by decide +kernel
theorem dL_law_153 : decode cL_law 153 = .ok (.iconst 0, 1) := by decide +kernel
theorem dL_law_154 : decode cL_law 154 = .ok (.istore_n 3, 1) := by decide +kernel
theorem dL_law_155 : decode cL_law 155 = .ok (.iload 4, 2) := by decide +kernel
theorem dL_law_157 : decode cL_law 157 = .ok (.bipush 8, 2) := by decide +kernel
theorem dL_law_159 : decode cL_law 159 = .ok (.irem, 1) := by decide +kernel
theorem dL_law_160 : decode cL_law 160 = .ok (.iconst 3, 1) := by decide +kernel
theorem dL_law_161 : decode cL_law 161 = .ok (.if_icmp .ne 27, 3) := by decide +kernel
theorem dL_law_164 : decode cL_law 164 = .ok (.iload_n 3, 1) := by decide +kernel
theorem dL_law_165 : decode cL_law 165 = .ok (.ifCond .eq 21, 3) := by decide +kernel
theorem dL_law_168 : decode cL_law 168 = .ok (.aload_n 2, 1) := by decide +kernel
theorem dL_law_169 : decode cL_law 169 = .ok (.invokestatic 204, 3) := by decide +kernel
theorem dL_law_172 : decode cL_law 172 = .ok (.ifCond .eq 14, 3) := by decide +kernel
theorem dL_law_175 : decode cL_law 175 = .ok (.aload_n 2, 1) := by decide +kernel
theorem dL_law_176 : decode cL_law 176 = .ok (.invokestatic 208, 3) := by decide +kernel
theorem dL_law_179 : decode cL_law 179 = .ok (.ifCond .eq 7, 3) := by decide +kernel
theorem dL_law_182 : decode cL_law 182 = .ok (.iconst 1, 1) := by decide +kernel
theorem dL_law_183 : decode cL_law 183 = .ok (.goto 4, 3) := by decide +kernel
theorem dL_law_186 : decode cL_law 186 = .ok (.iconst 0, 1) := by decide +kernel
theorem dL_law_187 : decode cL_law 187 = .ok (.istore_n 3, 1) := by decide +kernel
theorem dL_law_188 : decode cL_law 188 = .ok (.iload 4, 2) := by decide +kernel
theorem dL_law_190 : decode cL_law 190 = .ok (.bipush 13, 2) := by decide +kernel
theorem dL_law_192 : decode cL_law 192 = .ok (.irem, 1) := by decide +kernel
theorem dL_law_193 : decode cL_law 193 = .ok (.bipush 12, 2) := by decide +kernel
theorem dL_law_195 : decode cL_law 195 = .ok (.if_icmp .ne 42, 3) := by decide +kernel
theorem dL_law_198 : decode cL_law 198 = .ok (.iload_n 3, 1) := by decide +kernel
theorem dL_law_199 : decode cL_law 199 = .ok (.ifCond .eq 36, 3) := by decide +kernel
theorem dL_law_202 : decode cL_law 202 = .ok (.aload_n 2, 1) := by decide +kernel
theorem dL_law_203 : decode cL_law 203 = .ok (.iload 6, 2) := by decide +kernel
theorem dL_law_205 : decode cL_law 205 = .ok (.invokestatic 220, 3) := by decide +kernel
theorem dL_law_208 : decode cL_law 208 = .ok (.ifCond .eq 27, 3) := by decide +kernel
theorem dL_law_211 : decode cL_law 211 = .ok (.aload_n 1, 1) := by decide +kernel
theorem dL_law_212 : decode cL_law 212 = .ok (.iconst 1, 1) := by decide +kernel
theorem dL_law_213 : decode cL_law 213 = .ok (.invokestatic 156, 3) := by decide +kernel
theorem dL_law_216 : decode cL_law 216 = .ok (.lconst 0, 1) := by decide +kernel
theorem dL_law_217 : decode cL_law 217 = .ok (.lcmp, 1) := by decide +kernel
theorem dL_law_218 : decode cL_law 218 = .ok (.ifCond .lt 17, 3) := by decide +kernel
theorem dL_law_221 : decode cL_law 221 = .ok (.aload_n 1, 1) := by decide +kernel
theorem dL_law_222 : decode cL_law 222 = .ok (.iconst 1, 1) := by decide +kernel
theorem dL_law_223 : decode cL_law 223 = .ok (.invokestatic 158, 3) := by decide +kernel
theorem dL_law_226 : decode cL_law 226 = .ok (.lconst 0, 1) := by decide +kernel
theorem dL_law_227 : decode cL_law 227 = .ok (.lcmp, 1) := by decide +kernel
theorem dL_law_228 : decode cL_law 228 = .ok (.ifCond .lt 7, 3) := by decide +kernel
theorem dL_law_231 : decode cL_law 231 = .ok (.iconst 1, 1) := by decide +kernel
theorem dL_law_232 : decode cL_law 232 = .ok (.goto 4, 3) := by decide +kernel
theorem dL_law_235 : decode cL_law 235 = .ok (.iconst 0, 1) := by decide +kernel
theorem dL_law_236 : decode cL_law 236 = .ok (.istore_n 3, 1) := by decide +kernel
theorem dL_law_237 : decode cL_law 237 = .ok (.iload_n 3, 1) := by decide +kernel
theorem dL_law_238 : decode cL_law 238 = .ok (.ifCond .eq 25, 3) := by decide +kernel
theorem dL_law_241 : decode cL_law 241 = .ok (.iload 4, 2) := by decide +kernel
theorem dL_law_243 : decode cL_law 243 = .ok (.bipush 10, 2) := by decide +kernel
theorem dL_law_245 : decode cL_law 245 = .ok (.irem, 1) := by decide +kernel
theorem dL_law_246 : decode cL_law 246 = .ok (.ifCond .gt 13, 3) := by decide +kernel
theorem dL_law_249 : decode cL_law 249 = .ok (.aload_n 1, 1) := by decide +kernel
theorem dL_law_250 : decode cL_law 250 = .ok (.aload_n 2, 1) := by decide +kernel
theorem dL_law_251 : decode cL_law 251 = .ok (.iload 6, 2) := by decide +kernel
theorem dL_law_253 : decode cL_law 253 = .ok (.invokestatic 200, 3) := by decide +kernel
theorem dL_law_256 : decode cL_law 256 = .ok (.ifCond .eq 7, 3) := by decide +kernel
theorem dL_law_259 : decode cL_law 259 = .ok (.iconst 1, 1) := by decide +kernel
theorem dL_law_260 : decode cL_law 260 = .ok (.goto 4, 3) := by decide +kernel
theorem dL_law_263 : decode cL_law 263 = .ok (.iconst 0, 1) := by decide +kernel
theorem dL_law_264 : decode cL_law 264 = .ok (.istore_n 3, 1) := by decide +kernel
theorem dL_law_265 : decode cL_law 265 = .ok (.iinc 4 1, 3) := by decide +kernel
theorem dL_law_268 : decode cL_law 268 = .ok (.goto (-216), 3) := by decide +kernel
theorem dL_law_271 : decode cL_law 271 = .ok (.iload_n 3, 1) := by decide +kernel
theorem dL_law_272 : decode cL_law 272 = .ok (.ifCond .eq 18, 3) := by decide +kernel
theorem dL_law_275 : decode cL_law 275 = .ok (.aload_n 1, 1) := by decide +kernel
theorem dL_law_276 : decode cL_law 276 = .ok (.aload_n 2, 1) := by decide +kernel
theorem dL_law_277 : decode cL_law 277 = .ok (.sipush 10861, 3) := by decide +kernel
theorem dL_law_280 : decode cL_law 280 = .ok (.invokestatic 200, 3) := by decide +kernel
theorem dL_law_283 : decode cL_law 283 = .ok (.ifCond .eq 7, 3) := by decide +kernel
theorem dL_law_286 : decode cL_law 286 = .ok (.iconst 1, 1) := by decide +kernel
theorem dL_law_287 : decode cL_law 287 = .ok (.goto 4, 3) := by decide +kernel
theorem dL_law_290 : decode cL_law 290 = .ok (.iconst 0, 1) := by decide +kernel
theorem dL_law_291 : decode cL_law 291 = .ok (.ireturn, 1) := by decide +kernel

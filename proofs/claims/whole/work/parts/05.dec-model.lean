theorem dX6_init_0 : decode cX6_init 0 = .ok (.aload_n 0, 1) := by decide +kernel
theorem dX6_init_1 : decode cX6_init 1 = .ok (.invokespecial 1, 3) := by decide +kernel
theorem dX6_init_4 : decode cX6_init 4 = .ok (.aload_n 0, 1) := by decide +kernel
theorem dX6_init_5 : decode cX6_init 5 = .ok (.sipush 157, 3) := by decide +kernel
theorem dX6_init_8 : decode cX6_init 8 = .ok (.newarray .int, 2) := by decide +kernel
theorem dX6_init_10 : decode cX6_init 10 = .ok (.putfield 7, 3) := by decide +kernel
theorem dX6_init_13 : decode cX6_init 13 = .ok (.aload_n 0, 1) := by decide +kernel
theorem dX6_init_14 : decode cX6_init 14 = .ok (.sipush 157, 3) := by decide +kernel
theorem dX6_init_17 : decode cX6_init 17 = .ok (.newarray .int, 2) := by decide +kernel
theorem dX6_init_19 : decode cX6_init 19 = .ok (.putfield 13, 3) := by decide +kernel
theorem dX6_init_22 : decode cX6_init 22 = .ok (.aload_n 0, 1) := by decide +kernel
theorem dX6_init_23 : decode cX6_init 23 = .ok (.sipush 157, 3) := by decide +kernel
theorem dX6_init_26 : decode cX6_init 26 = .ok (.newarray .int, 2) := by decide +kernel
theorem dX6_init_28 : decode cX6_init 28 = .ok (.putfield 16, 3) := by decide +kernel
theorem dX6_init_31 : decode cX6_init 31 = .ok (.aload_n 0, 1) := by decide +kernel
theorem dX6_init_32 : decode cX6_init 32 = .ok (.sipush 2198, 3) := by decide +kernel
theorem dX6_init_35 : decode cX6_init 35 = .ok (.newarray .int, 2) := by decide +kernel
theorem dX6_init_37 : decode cX6_init 37 = .ok (.putfield 19, 3) := by decide +kernel
theorem dX6_init_40 : decode cX6_init 40 = .ok (.aload_n 0, 1) := by decide +kernel
theorem dX6_init_41 : decode cX6_init 41 = .ok (.sipush 314, 3) := by decide +kernel
theorem dX6_init_44 : decode cX6_init 44 = .ok (.newarray .int, 2) := by decide +kernel
theorem dX6_init_46 : decode cX6_init 46 = .ok (.putfield 22, 3) := by decide +kernel
theorem dX6_init_49 : decode cX6_init 49 = .ok (.aload_n 0, 1) := by decide +kernel
theorem dX6_init_50 : decode cX6_init 50 = .ok (.iconst 2, 1) := by decide +kernel
theorem dX6_init_51 : decode cX6_init 51 = .ok (.newarray .boolean, 2) := by decide +kernel
theorem dX6_init_53 : decode cX6_init 53 = .ok (.putfield 25, 3) := by decide +kernel
theorem dX6_init_56 : decode cX6_init 56 = .ok (.aload_n 0, 1) := by decide +kernel
theorem dX6_init_57 : decode cX6_init 57 = .ok (.bipush 120, 2) := by decide +kernel
theorem dX6_init_59 : decode cX6_init 59 = .ok (.newarray .int, 2) := by decide +kernel
theorem dX6_init_61 : decode cX6_init 61 = .ok (.putfield 29, 3) := by decide +kernel
theorem dX6_init_64 : decode cX6_init 64 = .ok (.aload_n 0, 1) := by decide +kernel
theorem dX6_init_65 : decode cX6_init 65 = .ok (.getfield 7, 3) := by decide +kernel
theorem dX6_init_68 : decode cX6_init 68 = .ok (.invokestatic 32, 3) := by decide +kernel
theorem dX6_init_71 : decode cX6_init 71 = .ok (.return_, 1) := by decide +kernel
theorem dX6_thrown_0 : decode cX6_thrown 0 = .ok (.aload_n 0, 1) := by decide +kernel
theorem dX6_thrown_1 : decode cX6_thrown 1 = .ok (.getfield 36, 3) := by decide +kernel
theorem dX6_thrown_4 : decode cX6_thrown 4 = .ok (.ireturn, 1) := by decide +kernel
theorem dX6_refused_0 : decode cX6_refused 0 = .ok (.aload_n 0, 1) := by decide +kernel
theorem dX6_refused_1 : decode cX6_refused 1 = .ok (.iload_n 1, 1) := by decide +kernel
theorem dX6_refused_2 : decode cX6_refused 2 = .ok (.putfield 36, 3) := by decide +kernel
theorem dX6_refused_5 : decode cX6_refused 5 = .ok (.iload_n 1, 1) := by decide +kernel
theorem dX6_refused_6 : decode cX6_refused 6 = .ok (.ifCond .eq 7, 3) := by decide +kernel
theorem dX6_refused_9 : decode cX6_refused 9 = .ok (.iconst 1, 1) := by decide +kernel
theorem dX6_refused_10 : decode cX6_refused 10 = .ok (.goto 4, 3) := by decide +kernel
theorem dX6_refused_13 : decode cX6_refused 13 = .ok (.iconst 0, 1) := by decide +kernel
theorem dX6_refused_14 : decode cX6_refused 14 = .ok (.ireturn, 1) := by decide +kernel
theorem dX6_in_0 : decode cX6_in 0 = .ok (.lload_n 0, 1) := by decide +kernel
theorem dX6_in_1 : decode cX6_in 1 = .ok (.lload_n 2, 1) := by decide +kernel
theorem dX6_in_2 : decode cX6_in 2 = .ok (.lcmp, 1) := by decide +kernel
theorem dX6_in_3 : decode cX6_in 3 = .ok (.ifCond .lt 14, 3) := by decide +kernel
theorem dX6_in_6 : decode cX6_in 6 = .ok (.lload_n 0, 1) := by decide +kernel
theorem dX6_in_7 : decode cX6_in 7 = .ok (.lload 4, 2) := by decide +kernel
theorem dX6_in_9 : decode cX6_in 9 = .ok (.lcmp, 1) := by decide +kernel
theorem dX6_in_10 : decode cX6_in 10 = .ok (.ifCond .gt 7, 3) := by decide +kernel
theorem dX6_in_13 : decode cX6_in 13 = .ok (.iconst 1, 1) := by decide +kernel
theorem dX6_in_14 : decode cX6_in 14 = .ok (.goto 4, 3) := by decide +kernel
theorem dX6_in_17 : decode cX6_in 17 = .ok (.iconst 0, 1) := by decide +kernel
theorem dX6_in_18 : decode cX6_in 18 = .ok (.ireturn, 1) := by decide +kernel
theorem dX6_tens_0 : decode cX6_tens 0 = .ok (.lconst 1, 1) := by decide +kernel
theorem dX6_tens_1 : decode cX6_tens 1 = .ok (.lstore_n 1, 1) := by decide +kernel
theorem dX6_tens_2 : decode cX6_tens 2 = .ok (.iconst 0, 1) := by decide +kernel
theorem dX6_tens_3 : decode cX6_tens 3 = .ok (.istore_n 3, 1) := by decide +kernel
theorem dX6_tens_4 : decode cX6_tens 4 = .ok (.iload_n 3, 1) := by decide +kernel
theorem dX6_tens_5 : decode cX6_tens 5 = .ok (.iload_n 0, 1) := by decide +kernel
theorem dX6_tens_6 : decode cX6_tens 6 = .ok (.if_icmp .ge 15, 3) := by decide +kernel
theorem dX6_tens_9 : decode cX6_tens 9 = .ok (.lload_n 1, 1) := by decide +kernel
theorem dX6_tens_10 : decode cX6_tens 10 = .ok (.ldc2_w 40, 3) := by decide +kernel
theorem dX6_tens_13 : decode cX6_tens 13 = .ok (.lmul, 1) := by decide +kernel
theorem dX6_tens_14 : decode cX6_tens 14 = .ok (.lstore_n 1, 1) := by decide +kernel
theorem dX6_tens_15 : decode cX6_tens 15 = .ok (.iinc 3 1, 3) := by decide +kernel
theorem dX6_tens_18 : decode cX6_tens 18 = .ok (.goto (-14), 3) := by decide +kernel
theorem dX6_tens_21 : decode cX6_tens 21 = .ok (.lload_n 1, 1) := by decide +kernel
theorem dX6_tens_22 : decode cX6_tens 22 = .ok (.lreturn, 1) := by decide +kernel
theorem dX6_abs_0 : decode cX6_abs 0 = .ok (.iload_n 0, 1) := by decide +kernel
theorem dX6_abs_1 : decode cX6_abs 1 = .ok (.ifCond .ge 8, 3) := by decide +kernel
theorem dX6_abs_4 : decode cX6_abs 4 = .ok (.iload_n 0, 1) := by decide +kernel
theorem dX6_abs_5 : decode cX6_abs 5 = .ok (.ineg, 1) := by decide +kernel
theorem dX6_abs_6 : decode cX6_abs 6 = .ok (.goto 4, 3) := by decide +kernel
theorem dX6_abs_9 : decode cX6_abs 9 = .ok (.iload_n 0, 1) := by decide +kernel
theorem dX6_abs_10 : decode cX6_abs 10 = .ok (.ireturn, 1) := by decide +kernel
theorem dX6_fresh_0 : decode cX6_fresh 0 = .ok (.iconst 0, 1) := by decide +kernel
theorem dX6_fresh_1 : decode cX6_fresh 1 = .ok (.istore_n 1, 1) := by decide +kernel
theorem dX6_fresh_2 : decode cX6_fresh 2 = .ok (.iload_n 1, 1) := by decide +kernel
theorem dX6_fresh_3 : decode cX6_fresh 3 = .ok (.sipush 157, 3) := by decide +kernel
theorem dX6_fresh_6 : decode cX6_fresh 6 = .ok (.if_icmp .ge 13, 3) := by decide +kernel
theorem dX6_fresh_9 : decode cX6_fresh 9 = .ok (.aload_n 0, 1) := by decide +kernel
theorem dX6_fresh_10 : decode cX6_fresh 10 = .ok (.iload_n 1, 1) := by decide +kernel
theorem dX6_fresh_11 : decode cX6_fresh 11 = .ok (.iconst 0, 1) := by decide +kernel
theorem dX6_fresh_12 : decode cX6_fresh 12 = .ok (.iastore, 1) := by decide +kernel
theorem dX6_fresh_13 : decode cX6_fresh 13 = .ok (.iinc 1 1, 3) := by decide +kernel
theorem dX6_fresh_16 : decode cX6_fresh 16 = .ok (.goto (-14), 3) := by decide +kernel
theorem dX6_fresh_19 : decode cX6_fresh 19 = .ok (.iconst 0, 1) := by decide +kernel
theorem dX6_fresh_20 : decode cX6_fresh 20 = .ok (.istore_n 1, 1) := by decide +kernel
theorem dX6_fresh_21 : decode cX6_fresh 21 = .ok (.iload_n 1, 1) := by decide +kernel
theorem dX6_fresh_22 : decode cX6_fresh 22 = .ok (.iconst 4, 1) := by decide +kernel
theorem dX6_fresh_23 : decode cX6_fresh 23 = .ok (.if_icmp .ge 33, 3) := by decide +kernel
theorem dX6_fresh_26 : decode cX6_fresh 26 = .ok (.aload_n 0, 1) := by decide +kernel
theorem dX6_fresh_27 : decode cX6_fresh 27 = .ok (.sipush 134, 3) := by decide +kernel
theorem dX6_fresh_30 : decode cX6_fresh 30 = .ok (.iconst 3, 1) := by decide +kernel
theorem dX6_fresh_31 : decode cX6_fresh 31 = .ok (.iload_n 1, 1) := by decide +kernel
theorem dX6_fresh_32 : decode cX6_fresh 32 = .ok (.imul, 1) := by decide +kernel
theorem dX6_fresh_33 : decode cX6_fresh 33 = .ok (.iadd, 1) := by decide +kernel
theorem dX6_fresh_34 : decode cX6_fresh 34 = .ok (.iconst 1, 1) := by decide +kernel
theorem dX6_fresh_35 : decode cX6_fresh 35 = .ok (.iadd, 1) := by decide +kernel
theorem dX6_fresh_36 : decode cX6_fresh 36 = .ok (.iconst (-1), 1) := by decide +kernel
theorem dX6_fresh_37 : decode cX6_fresh 37 = .ok (.iastore, 1) := by decide +kernel
theorem dX6_fresh_38 : decode cX6_fresh 38 = .ok (.aload_n 0, 1) := by decide +kernel
theorem dX6_fresh_39 : decode cX6_fresh 39 = .ok (.sipush 134, 3) := by decide +kernel
theorem dX6_fresh_42 : decode cX6_fresh 42 = .ok (.iconst 3, 1) := by decide +kernel
theorem dX6_fresh_43 : decode cX6_fresh 43 = .ok (.iload_n 1, 1) := by decide +kernel
theorem dX6_fresh_44 : decode cX6_fresh 44 = .ok (.imul, 1) := by decide +kernel
theorem dX6_fresh_45 : decode cX6_fresh 45 = .ok (.iadd, 1) := by decide +kernel
theorem dX6_fresh_46 : decode cX6_fresh 46 = .ok (.iconst 2, 1) := by decide +kernel
theorem dX6_fresh_47 : decode cX6_fresh 47 = .ok (.iadd, 1) := by decide +kernel
theorem dX6_fresh_48 : decode cX6_fresh 48 = .ok (.iconst (-1), 1) := by decide +kernel
theorem dX6_fresh_49 : decode cX6_fresh 49 = .ok (.iastore, 1) := by decide +kernel
theorem dX6_fresh_50 : decode cX6_fresh 50 = .ok (.iinc 1 1, 3) := by decide +kernel
theorem dX6_fresh_53 : decode cX6_fresh 53 = .ok (.goto (-32), 3) := by decide +kernel
theorem dX6_fresh_56 : decode cX6_fresh 56 = .ok (.aload_n 0, 1) := by decide +kernel
theorem dX6_fresh_57 : decode cX6_fresh 57 = .ok (.sipush 155, 3) := by decide +kernel
theorem dX6_fresh_60 : decode cX6_fresh 60 = .ok (.iconst 3, 1) := by decide +kernel
theorem dX6_fresh_61 : decode cX6_fresh 61 = .ok (.iastore, 1) := by decide +kernel
theorem dX6_fresh_62 : decode cX6_fresh 62 = .ok (.aload_n 0, 1) := by decide +kernel
theorem dX6_fresh_63 : decode cX6_fresh 63 = .ok (.sipush 156, 3) := by decide +kernel
theorem dX6_fresh_66 : decode cX6_fresh 66 = .ok (.iconst 2, 1) := by decide +kernel
theorem dX6_fresh_67 : decode cX6_fresh 67 = .ok (.iastore, 1) := by decide +kernel
theorem dX6_fresh_68 : decode cX6_fresh 68 = .ok (.return_, 1) := by decide +kernel
theorem dX6_copy_0 : decode cX6_copy 0 = .ok (.iconst 0, 1) := by decide +kernel
theorem dX6_copy_1 : decode cX6_copy 1 = .ok (.istore_n 2, 1) := by decide +kernel
theorem dX6_copy_2 : decode cX6_copy 2 = .ok (.iload_n 2, 1) := by decide +kernel
theorem dX6_copy_3 : decode cX6_copy 3 = .ok (.sipush 157, 3) := by decide +kernel
theorem dX6_copy_6 : decode cX6_copy 6 = .ok (.if_icmp .ge 15, 3) := by decide +kernel
theorem dX6_copy_9 : decode cX6_copy 9 = .ok (.aload_n 1, 1) := by decide +kernel
theorem dX6_copy_10 : decode cX6_copy 10 = .ok (.iload_n 2, 1) := by decide +kernel
theorem dX6_copy_11 : decode cX6_copy 11 = .ok (.aload_n 0, 1) := by decide +kernel
theorem dX6_copy_12 : decode cX6_copy 12 = .ok (.iload_n 2, 1) := by decide +kernel
theorem dX6_copy_13 : decode cX6_copy 13 = .ok (.iaload, 1) := by decide +kernel
theorem dX6_copy_14 : decode cX6_copy 14 = .ok (.iastore, 1) := by decide +kernel
theorem dX6_copy_15 : decode cX6_copy 15 = .ok (.iinc 2 1, 3) := by decide +kernel
theorem dX6_copy_18 : decode cX6_copy 18 = .ok (.goto (-16), 3) := by decide +kernel
theorem dX6_copy_21 : decode cX6_copy 21 = .ok (.return_, 1) := by decide +kernel
theorem dX6_isGutter_0 : decode cX6_isGutter 0 = .ok (.iload_n 1, 1) := by decide +kernel
theorem dX6_isGutter_1 : decode cX6_isGutter 1 = .ok (.i2l, 1) := by decide +kernel
theorem dX6_isGutter_2 : decode cX6_isGutter 2 = .ok (.lconst 0, 1) := by decide +kernel
theorem dX6_isGutter_3 : decode cX6_isGutter 3 = .ok (.aload_n 0, 1) := by decide +kernel
theorem dX6_isGutter_4 : decode cX6_isGutter 4 = .ok (.sipush 146, 3) := by decide +kernel
theorem dX6_isGutter_7 : decode cX6_isGutter 7 = .ok (.iaload, 1) := by decide +kernel
theorem dX6_isGutter_8 : decode cX6_isGutter 8 = .ok (.iconst 1, 1) := by decide +kernel
theorem dX6_isGutter_9 : decode cX6_isGutter 9 = .ok (.isub, 1) := by decide +kernel
theorem dX6_isGutter_10 : decode cX6_isGutter 10 = .ok (.i2l, 1) := by decide +kernel
theorem dX6_isGutter_11 : decode cX6_isGutter 11 = .ok (.invokestatic 42, 3) := by decide +kernel
theorem dX6_isGutter_14 : decode cX6_isGutter 14 = .ok (.ireturn, 1) := by decide +kernel
theorem dX6_isCell_0 : decode cX6_isCell 0 = .ok (.aload_n 0, 1) := by decide +kernel
theorem dX6_isCell_1 : decode cX6_isCell 1 = .ok (.iload_n 1, 1) := by decide +kernel
theorem dX6_isCell_2 : decode cX6_isCell 2 = .ok (.invokestatic 46, 3) := by decide +kernel
theorem dX6_isCell_5 : decode cX6_isCell 5 = .ok (.ifCond .eq 26, 3) := by decide +kernel
theorem dX6_isCell_8 : decode cX6_isCell 8 = .ok (.iload_n 2, 1) := by decide +kernel
theorem dX6_isCell_9 : decode cX6_isCell 9 = .ok (.i2l, 1) := by decide +kernel
theorem dX6_isCell_10 : decode cX6_isCell 10 = .ok (.lconst 0, 1) := by decide +kernel
theorem dX6_isCell_11 : decode cX6_isCell 11 = .ok (.aload_n 0, 1) := by decide +kernel
theorem dX6_isCell_12 : decode cX6_isCell 12 = .ok (.iconst 4, 1) := by decide +kernel
theorem dX6_isCell_13 : decode cX6_isCell 13 = .ok (.iload_n 1, 1) := by decide +kernel
theorem dX6_isCell_14 : decode cX6_isCell 14 = .ok (.imul, 1) := by decide +kernel
theorem dX6_isCell_15 : decode cX6_isCell 15 = .ok (.iconst 0, 1) := by decide +kernel
theorem dX6_isCell_16 : decode cX6_isCell 16 = .ok (.iadd, 1) := by decide +kernel
theorem dX6_isCell_17 : decode cX6_isCell 17 = .ok (.iaload, 1) := by decide +kernel
theorem dX6_isCell_18 : decode cX6_isCell 18 = .ok (.iconst 1, 1) := by decide +kernel
theorem dX6_isCell_19 : decode cX6_isCell 19 = .ok (.isub, 1) := by decide +kernel
theorem dX6_isCell_20 : decode cX6_isCell 20 = .ok (.i2l, 1) := by decide +kernel
theorem dX6_isCell_21 : decode cX6_isCell 21 = .ok (.invokestatic 42, 3) := by decide +kernel
theorem dX6_isCell_24 : decode cX6_isCell 24 = .ok (.ifCond .eq 7, 3) := by decide +kernel
theorem dX6_isCell_27 : decode cX6_isCell 27 = .ok (.iconst 1, 1) := by decide +kernel
theorem dX6_isCell_28 : decode cX6_isCell 28 = .ok (.goto 4, 3) := by decide +kernel
theorem dX6_isCell_31 : decode cX6_isCell 31 = .ok (.iconst 0, 1) := by decide +kernel
theorem dX6_isCell_32 : decode cX6_isCell 32 = .ok (.ireturn, 1) := by decide +kernel
theorem dX6_isBoat_0 : decode cX6_isBoat 0 = .ok (.iload_n 1, 1) := by decide +kernel
theorem dX6_isBoat_1 : decode cX6_isBoat 1 = .ok (.i2l, 1) := by decide +kernel
theorem dX6_isBoat_2 : decode cX6_isBoat 2 = .ok (.lconst 0, 1) := by decide +kernel
theorem dX6_isBoat_3 : decode cX6_isBoat 3 = .ok (.aload_n 0, 1) := by decide +kernel
theorem dX6_isBoat_4 : decode cX6_isBoat 4 = .ok (.sipush 147, 3) := by decide +kernel
theorem dX6_isBoat_7 : decode cX6_isBoat 7 = .ok (.iaload, 1) := by decide +kernel
theorem dX6_isBoat_8 : decode cX6_isBoat 8 = .ok (.iconst 1, 1) := by decide +kernel
theorem dX6_isBoat_9 : decode cX6_isBoat 9 = .ok (.isub, 1) := by decide +kernel
theorem dX6_isBoat_10 : decode cX6_isBoat 10 = .ok (.i2l, 1) := by decide +kernel
theorem dX6_isBoat_11 : decode cX6_isBoat 11 = .ok (.invokestatic 42, 3) := by decide +kernel
theorem dX6_isBoat_14 : decode cX6_isBoat 14 = .ok (.ireturn, 1) := by decide +kernel
theorem dX6_isOwner_0 : decode cX6_isOwner 0 = .ok (.iload_n 0, 1) := by decide +kernel
theorem dX6_isOwner_1 : decode cX6_isOwner 1 = .ok (.i2l, 1) := by decide +kernel
theorem dX6_isOwner_2 : decode cX6_isOwner 2 = .ok (.lconst 0, 1) := by decide +kernel
theorem dX6_isOwner_3 : decode cX6_isOwner 3 = .ok (.ldc2_w 50, 3) := by decide +kernel
theorem dX6_isOwner_6 : decode cX6_isOwner 6 = .ok (.invokestatic 42, 3) := by decide +kernel
theorem dX6_isOwner_9 : decode cX6_isOwner 9 = .ok (.ireturn, 1) := by decide +kernel
theorem dX6_isFlow_0 : decode cX6_isFlow 0 = .ok (.iload_n 0, 1) := by decide +kernel
theorem dX6_isFlow_1 : decode cX6_isFlow 1 = .ok (.i2l, 1) := by decide +kernel
theorem dX6_isFlow_2 : decode cX6_isFlow 2 = .ok (.ldc2_w 52, 3) := by decide +kernel
theorem dX6_isFlow_5 : decode cX6_isFlow 5 = .ok (.ldc2_w 54, 3) := by decide +kernel
theorem dX6_isFlow_8 : decode cX6_isFlow 8 = .ok (.invokestatic 42, 3) := by decide +kernel
theorem dX6_isFlow_11 : decode cX6_isFlow 11 = .ok (.ifCond .eq 19, 3) := by decide +kernel
theorem dX6_isFlow_14 : decode cX6_isFlow 14 = .ok (.iload_n 1, 1) := by decide +kernel
theorem dX6_isFlow_15 : decode cX6_isFlow 15 = .ok (.i2l, 1) := by decide +kernel
theorem dX6_isFlow_16 : decode cX6_isFlow 16 = .ok (.lconst 0, 1) := by decide +kernel
theorem dX6_isFlow_17 : decode cX6_isFlow 17 = .ok (.ldc2_w 56, 3) := by decide +kernel
theorem dX6_isFlow_20 : decode cX6_isFlow 20 = .ok (.invokestatic 42, 3) := by decide +kernel
theorem dX6_isFlow_23 : decode cX6_isFlow 23 = .ok (.ifCond .eq 7, 3) := by decide +kernel
theorem dX6_isFlow_26 : decode cX6_isFlow 26 = .ok (.iconst 1, 1) := by decide +kernel
theorem dX6_isFlow_27 : decode cX6_isFlow 27 = .ok (.goto 4, 3) := by decide +kernel
theorem dX6_isFlow_30 : decode cX6_isFlow 30 = .ok (.iconst 0, 1) := by decide +kernel
theorem dX6_isFlow_31 : decode cX6_isFlow 31 = .ok (.ireturn, 1) := by decide +kernel
theorem dX6_isFolded_0 : decode cX6_isFolded 0 = .ok (.iload_n 0, 1) := by decide +kernel
theorem dX6_isFolded_1 : decode cX6_isFolded 1 = .ok (.i2l, 1) := by decide +kernel
theorem dX6_isFolded_2 : decode cX6_isFolded 2 = .ok (.lconst 1, 1) := by decide +kernel
theorem dX6_isFolded_3 : decode cX6_isFolded 3 = .ok (.ldc2_w 58, 3) := by decide +kernel
theorem dX6_isFolded_6 : decode cX6_isFolded 6 = .ok (.invokestatic 42, 3) := by decide +kernel
theorem dX6_isFolded_9 : decode cX6_isFolded 9 = .ok (.ifCond .eq 19, 3) := by decide +kernel
theorem dX6_isFolded_12 : decode cX6_isFolded 12 = .ok (.iload_n 1, 1) := by decide +kernel
theorem dX6_isFolded_13 : decode cX6_isFolded 13 = .ok (.i2l, 1) := by decide +kernel
theorem dX6_isFolded_14 : decode cX6_isFolded 14 = .ok (.lconst 0, 1) := by decide +kernel
theorem dX6_isFolded_15 : decode cX6_isFolded 15 = .ok (.ldc2_w 50, 3) := by decide +kernel
theorem dX6_isFolded_18 : decode cX6_isFolded 18 = .ok (.invokestatic 42, 3) := by decide +kernel
theorem dX6_isFolded_21 : decode cX6_isFolded 21 = .ok (.ifCond .eq 7, 3) := by decide +kernel
theorem dX6_isFolded_24 : decode cX6_isFolded 24 = .ok (.iconst 1, 1) := by decide +kernel
theorem dX6_isFolded_25 : decode cX6_isFolded 25 = .ok (.goto 4, 3) := by decide +kernel
theorem dX6_isFolded_28 : decode cX6_isFolded 28 = .ok (.iconst 0, 1) := by decide +kernel
theorem dX6_isFolded_29 : decode cX6_isFolded 29 = .ok (.ireturn, 1) := by decide +kernel
theorem dX6_isSetting_0 : decode cX6_isSetting 0 = .ok (.iload_n 0, 1) := by decide +kernel
theorem dX6_isSetting_1 : decode cX6_isSetting 1 = .ok (.ifCond .ne 15, 3) := by decide +kernel
theorem dX6_isSetting_4 : decode cX6_isSetting 4 = .ok (.iload_n 1, 1) := by decide +kernel
theorem dX6_isSetting_5 : decode cX6_isSetting 5 = .ok (.i2l, 1) := by decide +kernel
theorem dX6_isSetting_6 : decode cX6_isSetting 6 = .ok (.lconst 0, 1) := by decide +kernel
theorem dX6_isSetting_7 : decode cX6_isSetting 7 = .ok (.ldc2_w 50, 3) := by decide +kernel
theorem dX6_isSetting_10 : decode cX6_isSetting 10 = .ok (.invokestatic 42, 3) := by decide +kernel
theorem dX6_isSetting_13 : decode cX6_isSetting 13 = .ok (.goto 42, 3) := by decide +kernel
theorem dX6_isSetting_16 : decode cX6_isSetting 16 = .ok (.iload_n 0, 1) := by decide +kernel
theorem dX6_isSetting_17 : decode cX6_isSetting 17 = .ok (.iconst 1, 1) := by decide +kernel
theorem dX6_isSetting_18 : decode cX6_isSetting 18 = .ok (.if_icmp .ne 15, 3) := by decide +kernel
theorem dX6_isSetting_21 : decode cX6_isSetting 21 = .ok (.iload_n 1, 1) := by decide +kernel
theorem dX6_isSetting_22 : decode cX6_isSetting 22 = .ok (.i2l, 1) := by decide +kernel
theorem dX6_isSetting_23 : decode cX6_isSetting 23 = .ok (.lconst 1, 1) := by decide +kernel
theorem dX6_isSetting_24 : decode cX6_isSetting 24 = .ok (.ldc2_w 58, 3) := by decide +kernel
theorem dX6_isSetting_27 : decode cX6_isSetting 27 = .ok (.invokestatic 42, 3) := by decide +kernel
theorem dX6_isSetting_30 : decode cX6_isSetting 30 = .ok (.goto 25, 3) := by decide +kernel
theorem dX6_isSetting_33 : decode cX6_isSetting 33 = .ok (.iload_n 0, 1) := by decide +kernel
theorem dX6_isSetting_34 : decode cX6_isSetting 34 = .ok (.iconst 2, 1) := by decide +kernel
theorem dX6_isSetting_35 : decode cX6_isSetting 35 = .ok (.if_icmp .ne 19, 3) := by decide +kernel
theorem dX6_isSetting_38 : decode cX6_isSetting 38 = .ok (.iload_n 1, 1) := by decide +kernel
theorem dX6_isSetting_39 : decode cX6_isSetting 39 = .ok (.i2l, 1) := by decide +kernel
theorem dX6_isSetting_40 : decode cX6_isSetting 40 = .ok (.lconst 0, 1) := by decide +kernel
theorem dX6_isSetting_41 : decode cX6_isSetting 41 = .ok (.ldc2_w 58, 3) := by decide +kernel
theorem dX6_isSetting_44 : decode cX6_isSetting 44 = .ok (.invokestatic 42, 3) := by decide +kernel
theorem dX6_isSetting_47 : decode cX6_isSetting 47 = .ok (.ifCond .eq 7, 3) := by decide +kernel
theorem dX6_isSetting_50 : decode cX6_isSetting 50 = .ok (.iconst 1, 1) := by decide +kernel
theorem dX6_isSetting_51 : decode cX6_isSetting 51 = .ok (.goto 4, 3) := by decide +kernel
theorem dX6_isSetting_54 : decode cX6_isSetting 54 = .ok (.iconst 0, 1) := by decide +kernel
theorem dX6_isSetting_55 : decode cX6_isSetting 55 = .ok (.ireturn, 1) := by decide +kernel
theorem dX6_spot_0 : decode cX6_spot 0 = .ok (.bipush 24, 2) := by decide +kernel
theorem dX6_spot_2 : decode cX6_spot 2 = .ok (.bipush 10, 2) := by decide +kernel
theorem dX6_spot_4 : decode cX6_spot 4 = .ok (.iload_n 0, 1) := by decide +kernel
theorem dX6_spot_5 : decode cX6_spot 5 = .ok (.imul, 1) := by decide +kernel
theorem dX6_spot_6 : decode cX6_spot 6 = .ok (.iadd, 1) := by decide +kernel
theorem dX6_spot_7 : decode cX6_spot 7 = .ok (.ireturn, 1) := by decide +kernel
theorem dX6_state_0 : decode cX6_state 0 = .ok (.aload_n 0, 1) := by decide +kernel
theorem dX6_state_1 : decode cX6_state 1 = .ok (.iload_n 1, 1) := by decide +kernel
theorem dX6_state_2 : decode cX6_state 2 = .ok (.invokestatic 60, 3) := by decide +kernel
theorem dX6_state_5 : decode cX6_state 5 = .ok (.iconst 3, 1) := by decide +kernel
theorem dX6_state_6 : decode cX6_state 6 = .ok (.iadd, 1) := by decide +kernel
theorem dX6_state_7 : decode cX6_state 7 = .ok (.iaload, 1) := by decide +kernel
theorem dX6_state_8 : decode cX6_state 8 = .ok (.ireturn, 1) := by decide +kernel
theorem dX6_inState_0 : decode cX6_inState 0 = .ok (.iconst 0, 1) := by decide +kernel
theorem dX6_inState_1 : decode cX6_inState 1 = .ok (.istore_n 2, 1) := by decide +kernel
theorem dX6_inState_2 : decode cX6_inState 2 = .ok (.iconst 0, 1) := by decide +kernel
theorem dX6_inState_3 : decode cX6_inState 3 = .ok (.istore_n 3, 1) := by decide +kernel
theorem dX6_inState_4 : decode cX6_inState 4 = .ok (.iload_n 3, 1) := by decide +kernel
theorem dX6_inState_5 : decode cX6_inState 5 = .ok (.aload_n 0, 1) := by decide +kernel
theorem dX6_inState_6 : decode cX6_inState 6 = .ok (.sipush 147, 3) := by decide +kernel
theorem dX6_inState_9 : decode cX6_inState 9 = .ok (.iaload, 1) := by decide +kernel
theorem dX6_inState_10 : decode cX6_inState 10 = .ok (.if_icmp .ge 26, 3) := by decide +kernel
theorem dX6_inState_13 : decode cX6_inState 13 = .ok (.iload_n 2, 1) := by decide +kernel
theorem dX6_inState_14 : decode cX6_inState 14 = .ok (.aload_n 0, 1) := by decide +kernel
theorem dX6_inState_15 : decode cX6_inState 15 = .ok (.iload_n 3, 1) := by decide +kernel
theorem dX6_inState_16 : decode cX6_inState 16 = .ok (.invokestatic 64, 3) := by decide +kernel
theorem dX6_inState_19 : decode cX6_inState 19 = .ok (.iload_n 1, 1) := by decide +kernel
theorem dX6_inState_20 : decode cX6_inState 20 = .ok (.if_icmp .ne 7, 3) := by decide +kernel
theorem dX6_inState_23 : decode cX6_inState 23 = .ok (.iconst 1, 1) := by decide +kernel
theorem dX6_inState_24 : decode cX6_inState 24 = .ok (.goto 4, 3) := by decide +kernel
theorem dX6_inState_27 : decode cX6_inState 27 = .ok (.iconst 0, 1) := by decide +kernel
theorem dX6_inState_28 : decode cX6_inState 28 = .ok (.iadd, 1) := by decide +kernel
theorem dX6_inState_29 : decode cX6_inState 29 = .ok (.istore_n 2, 1) := by decide +kernel
theorem dX6_inState_30 : decode cX6_inState 30 = .ok (.iinc 3 1, 3) := by decide +kernel
theorem dX6_inState_33 : decode cX6_inState 33 = .ok (.goto (-29), 3) := by decide +kernel
theorem dX6_inState_36 : decode cX6_inState 36 = .ok (.iload_n 2, 1) := by decide +kernel
theorem dX6_inState_37 : decode cX6_inState 37 = .ok (.ireturn, 1) := by decide +kernel
theorem dX6_toDrain_0 : decode cX6_toDrain 0 = .ok (.iconst 0, 1) := by decide +kernel
theorem dX6_toDrain_1 : decode cX6_toDrain 1 = .ok (.istore_n 3, 1) := by decide +kernel
theorem dX6_toDrain_2 : decode cX6_toDrain 2 = .ok (.iload_n 1, 1) := by decide +kernel
theorem dX6_toDrain_3 : decode cX6_toDrain 3 = .ok (.istore 4, 2) := by decide +kernel
theorem dX6_toDrain_5 : decode cX6_toDrain 5 = .ok (.iload_n 2, 1) := by decide +kernel
theorem dX6_toDrain_6 : decode cX6_toDrain 6 = .ok (.istore 5, 2) := by decide +kernel
theorem dX6_toDrain_8 : decode cX6_toDrain 8 = .ok (.iload 4, 2) := by decide +kernel
theorem dX6_toDrain_10 : decode cX6_toDrain 10 = .ok (.ifCond .le 40, 3) := by decide +kernel
theorem dX6_toDrain_13 : decode cX6_toDrain 13 = .ok (.iload_n 3, 1) := by decide +kernel
theorem dX6_toDrain_14 : decode cX6_toDrain 14 = .ok (.aload_n 0, 1) := by decide +kernel
theorem dX6_toDrain_15 : decode cX6_toDrain 15 = .ok (.iconst 4, 1) := by decide +kernel
theorem dX6_toDrain_16 : decode cX6_toDrain 16 = .ok (.iload 4, 2) := by decide +kernel
theorem dX6_toDrain_18 : decode cX6_toDrain 18 = .ok (.imul, 1) := by decide +kernel
theorem dX6_toDrain_19 : decode cX6_toDrain 19 = .ok (.iconst 0, 1) := by decide +kernel
theorem dX6_toDrain_20 : decode cX6_toDrain 20 = .ok (.iadd, 1) := by decide +kernel
theorem dX6_toDrain_21 : decode cX6_toDrain 21 = .ok (.iaload, 1) := by decide +kernel
theorem dX6_toDrain_22 : decode cX6_toDrain 22 = .ok (.iload 5, 2) := by decide +kernel
theorem dX6_toDrain_24 : decode cX6_toDrain 24 = .ok (.isub, 1) := by decide +kernel
theorem dX6_toDrain_25 : decode cX6_toDrain 25 = .ok (.iadd, 1) := by decide +kernel
theorem dX6_toDrain_26 : decode cX6_toDrain 26 = .ok (.istore_n 3, 1) := by decide +kernel
theorem dX6_toDrain_27 : decode cX6_toDrain 27 = .ok (.aload_n 0, 1) := by decide +kernel
theorem dX6_toDrain_28 : decode cX6_toDrain 28 = .ok (.iconst 4, 1) := by decide +kernel
theorem dX6_toDrain_29 : decode cX6_toDrain 29 = .ok (.iload 4, 2) := by decide +kernel
theorem dX6_toDrain_31 : decode cX6_toDrain 31 = .ok (.imul, 1) := by decide +kernel
theorem dX6_toDrain_32 : decode cX6_toDrain 32 = .ok (.iconst 3, 1) := by decide +kernel
theorem dX6_toDrain_33 : decode cX6_toDrain 33 = .ok (.iadd, 1) := by decide +kernel
theorem dX6_toDrain_34 : decode cX6_toDrain 34 = .ok (.iaload, 1) := by decide +kernel
theorem dX6_toDrain_35 : decode cX6_toDrain 35 = .ok (.istore 5, 2) := by decide +kernel
theorem dX6_toDrain_37 : decode cX6_toDrain 37 = .ok (.aload_n 0, 1) := by decide +kernel
theorem dX6_toDrain_38 : decode cX6_toDrain 38 = .ok (.iconst 4, 1) := by decide +kernel
theorem dX6_toDrain_39 : decode cX6_toDrain 39 = .ok (.iload 4, 2) := by decide +kernel
theorem dX6_toDrain_41 : decode cX6_toDrain 41 = .ok (.imul, 1) := by decide +kernel
theorem dX6_toDrain_42 : decode cX6_toDrain 42 = .ok (.iconst 2, 1) := by decide +kernel
theorem dX6_toDrain_43 : decode cX6_toDrain 43 = .ok (.iadd, 1) := by decide +kernel
theorem dX6_toDrain_44 : decode cX6_toDrain 44 = .ok (.iaload, 1) := by decide +kernel
theorem dX6_toDrain_45 : decode cX6_toDrain 45 = .ok (.istore 4, 2) := by decide +kernel
theorem dX6_toDrain_47 : decode cX6_toDrain 47 = .ok (.goto (-39), 3) := by decide +kernel
theorem dX6_toDrain_50 : decode cX6_toDrain 50 = .ok (.iload_n 3, 1) := by decide +kernel
theorem dX6_toDrain_51 : decode cX6_toDrain 51 = .ok (.aload_n 0, 1) := by decide +kernel
theorem dX6_toDrain_52 : decode cX6_toDrain 52 = .ok (.iconst 0, 1) := by decide +kernel
theorem dX6_toDrain_53 : decode cX6_toDrain 53 = .ok (.iaload, 1) := by decide +kernel
theorem dX6_toDrain_54 : decode cX6_toDrain 54 = .ok (.iadd, 1) := by decide +kernel
theorem dX6_toDrain_55 : decode cX6_toDrain 55 = .ok (.iload 5, 2) := by decide +kernel
theorem dX6_toDrain_57 : decode cX6_toDrain 57 = .ok (.isub, 1) := by decide +kernel
theorem dX6_toDrain_58 : decode cX6_toDrain 58 = .ok (.ireturn, 1) := by decide +kernel
theorem dX6_isWreck_0 : decode cX6_isWreck 0 = .ok (.iconst 0, 1) := by decide +kernel
theorem dX6_isWreck_1 : decode cX6_isWreck 1 = .ok (.istore_n 3, 1) := by decide +kernel
theorem dX6_isWreck_2 : decode cX6_isWreck 2 = .ok (.iconst 0, 1) := by decide +kernel
theorem dX6_isWreck_3 : decode cX6_isWreck 3 = .ok (.istore 4, 2) := by decide +kernel
theorem dX6_isWreck_5 : decode cX6_isWreck 5 = .ok (.iload 4, 2) := by decide +kernel
theorem dX6_isWreck_7 : decode cX6_isWreck 7 = .ok (.aload_n 0, 1) := by decide +kernel
theorem dX6_isWreck_8 : decode cX6_isWreck 8 = .ok (.sipush 147, 3) := by decide +kernel
theorem dX6_isWreck_11 : decode cX6_isWreck 11 = .ok (.iaload, 1) := by decide +kernel
theorem dX6_isWreck_12 : decode cX6_isWreck 12 = .ok (.if_icmp .ge 55, 3) := by decide +kernel
theorem dX6_isWreck_15 : decode cX6_isWreck 15 = .ok (.iload_n 3, 1) := by decide +kernel
theorem dX6_isWreck_16 : decode cX6_isWreck 16 = .ok (.ifCond .ne 39, 3) := by decide +kernel
theorem dX6_isWreck_19 : decode cX6_isWreck 19 = .ok (.aload_n 0, 1) := by decide +kernel
theorem dX6_isWreck_20 : decode cX6_isWreck 20 = .ok (.iload 4, 2) := by decide +kernel
theorem dX6_isWreck_22 : decode cX6_isWreck 22 = .ok (.invokestatic 64, 3) := by decide +kernel
theorem dX6_isWreck_25 : decode cX6_isWreck 25 = .ok (.iconst 3, 1) := by decide +kernel
theorem dX6_isWreck_26 : decode cX6_isWreck 26 = .ok (.if_icmp .ne 33, 3) := by decide +kernel
theorem dX6_isWreck_29 : decode cX6_isWreck 29 = .ok (.aload_n 0, 1) := by decide +kernel
theorem dX6_isWreck_30 : decode cX6_isWreck 30 = .ok (.iload 4, 2) := by decide +kernel
theorem dX6_isWreck_32 : decode cX6_isWreck 32 = .ok (.invokestatic 60, 3) := by decide +kernel
theorem dX6_isWreck_35 : decode cX6_isWreck 35 = .ok (.iconst 4, 1) := by decide +kernel
theorem dX6_isWreck_36 : decode cX6_isWreck 36 = .ok (.iadd, 1) := by decide +kernel
theorem dX6_isWreck_37 : decode cX6_isWreck 37 = .ok (.iaload, 1) := by decide +kernel
theorem dX6_isWreck_38 : decode cX6_isWreck 38 = .ok (.iload_n 1, 1) := by decide +kernel
theorem dX6_isWreck_39 : decode cX6_isWreck 39 = .ok (.if_icmp .ne 20, 3) := by decide +kernel
theorem dX6_isWreck_42 : decode cX6_isWreck 42 = .ok (.aload_n 0, 1) := by decide +kernel
theorem dX6_isWreck_43 : decode cX6_isWreck 43 = .ok (.iload 4, 2) := by decide +kernel
theorem dX6_isWreck_45 : decode cX6_isWreck 45 = .ok (.invokestatic 60, 3) := by decide +kernel
theorem dX6_isWreck_48 : decode cX6_isWreck 48 = .ok (.iconst 5, 1) := by decide +kernel
theorem dX6_isWreck_49 : decode cX6_isWreck 49 = .ok (.iadd, 1) := by decide +kernel
theorem dX6_isWreck_50 : decode cX6_isWreck 50 = .ok (.iaload, 1) := by decide +kernel
theorem dX6_isWreck_51 : decode cX6_isWreck 51 = .ok (.iload_n 2, 1) := by decide +kernel
theorem dX6_isWreck_52 : decode cX6_isWreck 52 = .ok (.if_icmp .ne 7, 3) := by decide +kernel
theorem dX6_isWreck_55 : decode cX6_isWreck 55 = .ok (.iconst 1, 1) := by decide +kernel
theorem dX6_isWreck_56 : decode cX6_isWreck 56 = .ok (.goto 4, 3) := by decide +kernel
theorem dX6_isWreck_59 : decode cX6_isWreck 59 = .ok (.iconst 0, 1) := by decide +kernel
theorem dX6_isWreck_60 : decode cX6_isWreck 60 = .ok (.istore_n 3, 1) := by decide +kernel
theorem dX6_isWreck_61 : decode cX6_isWreck 61 = .ok (.iinc 4 1, 3) := by decide +kernel
theorem dX6_isWreck_64 : decode cX6_isWreck 64 = .ok (.goto (-59), 3) := by decide +kernel
theorem dX6_isWreck_67 : decode cX6_isWreck 67 = .ok (.iload_n 3, 1) := by decide +kernel
theorem dX6_isWreck_68 : decode cX6_isWreck 68 = .ok (.ireturn, 1) := by decide +kernel
theorem dX6_moves_0 : decode cX6_moves 0 = .ok (.iload_n 1, 1) := by decide +kernel
theorem dX6_moves_1 : decode cX6_moves 1 = .ok (.invokestatic 60, 3) := by decide +kernel
theorem dX6_moves_4 : decode cX6_moves 4 = .ok (.istore_n 2, 1) := by decide +kernel
theorem dX6_moves_5 : decode cX6_moves 5 = .ok (.aload_n 0, 1) := by decide +kernel
theorem dX6_moves_6 : decode cX6_moves 6 = .ok (.iload_n 2, 1) := by decide +kernel
theorem dX6_moves_7 : decode cX6_moves 7 = .ok (.iconst 4, 1) := by decide +kernel
theorem dX6_moves_8 : decode cX6_moves 8 = .ok (.iadd, 1) := by decide +kernel
theorem dX6_moves_9 : decode cX6_moves 9 = .ok (.iaload, 1) := by decide +kernel
theorem dX6_moves_10 : decode cX6_moves 10 = .ok (.istore_n 3, 1) := by decide +kernel
theorem dX6_moves_11 : decode cX6_moves 11 = .ok (.aload_n 0, 1) := by decide +kernel
theorem dX6_moves_12 : decode cX6_moves 12 = .ok (.iload_n 2, 1) := by decide +kernel
theorem dX6_moves_13 : decode cX6_moves 13 = .ok (.iconst 5, 1) := by decide +kernel
theorem dX6_moves_14 : decode cX6_moves 14 = .ok (.iadd, 1) := by decide +kernel
theorem dX6_moves_15 : decode cX6_moves 15 = .ok (.iaload, 1) := by decide +kernel
theorem dX6_moves_16 : decode cX6_moves 16 = .ok (.iconst 1, 1) := by decide +kernel
theorem dX6_moves_17 : decode cX6_moves 17 = .ok (.iadd, 1) := by decide +kernel
theorem dX6_moves_18 : decode cX6_moves 18 = .ok (.istore 4, 2) := by decide +kernel
theorem dX6_moves_20 : decode cX6_moves 20 = .ok (.iload 4, 2) := by decide +kernel
theorem dX6_moves_22 : decode cX6_moves 22 = .ok (.aload_n 0, 1) := by decide +kernel
theorem dX6_moves_23 : decode cX6_moves 23 = .ok (.iconst 4, 1) := by decide +kernel
theorem dX6_moves_24 : decode cX6_moves 24 = .ok (.iload_n 3, 1) := by decide +kernel
theorem dX6_moves_25 : decode cX6_moves 25 = .ok (.imul, 1) := by decide +kernel
theorem dX6_moves_26 : decode cX6_moves 26 = .ok (.iconst 0, 1) := by decide +kernel
theorem dX6_moves_27 : decode cX6_moves 27 = .ok (.iadd, 1) := by decide +kernel
theorem dX6_moves_28 : decode cX6_moves 28 = .ok (.iaload, 1) := by decide +kernel
theorem dX6_moves_29 : decode cX6_moves 29 = .ok (.if_icmp .ne 62, 3) := by decide +kernel
theorem dX6_moves_32 : decode cX6_moves 32 = .ok (.iload_n 3, 1) := by decide +kernel
theorem dX6_moves_33 : decode cX6_moves 33 = .ok (.ifCond .ne 41, 3) := by decide +kernel
theorem dX6_moves_36 : decode cX6_moves 36 = .ok (.aload_n 0, 1) := by decide +kernel
theorem dX6_moves_37 : decode cX6_moves 37 = .ok (.sipush 153, 3) := by decide +kernel
theorem dX6_moves_40 : decode cX6_moves 40 = .ok (.dup2, 1) := by decide +kernel
theorem dX6_moves_41 : decode cX6_moves 41 = .ok (.iaload, 1) := by decide +kernel
theorem dX6_moves_42 : decode cX6_moves 42 = .ok (.iconst 1, 1) := by decide +kernel
theorem dX6_moves_43 : decode cX6_moves 43 = .ok (.iadd, 1) := by decide +kernel
theorem dX6_moves_44 : decode cX6_moves 44 = .ok (.iastore, 1) := by decide +kernel
theorem dX6_moves_45 : decode cX6_moves 45 = .ok (.aload_n 0, 1) := by decide +kernel
theorem dX6_moves_46 : decode cX6_moves 46 = .ok (.iload_n 2, 1) := by decide +kernel
theorem dX6_moves_47 : decode cX6_moves 47 = .ok (.iconst 3, 1) := by decide +kernel
theorem dX6_moves_48 : decode cX6_moves 48 = .ok (.iadd, 1) := by decide +kernel
theorem dX6_moves_49 : decode cX6_moves 49 = .ok (.iconst 2, 1) := by decide +kernel
theorem dX6_moves_50 : decode cX6_moves 50 = .ok (.iastore, 1) := by decide +kernel
theorem dX6_moves_51 : decode cX6_moves 51 = .ok (.aload_n 0, 1) := by decide +kernel
theorem dX6_moves_52 : decode cX6_moves 52 = .ok (.iload_n 2, 1) := by decide +kernel
theorem dX6_moves_53 : decode cX6_moves 53 = .ok (.bipush 7, 2) := by decide +kernel
theorem dX6_moves_55 : decode cX6_moves 55 = .ok (.iadd, 1) := by decide +kernel
theorem dX6_moves_56 : decode cX6_moves 56 = .ok (.aload_n 0, 1) := by decide +kernel
theorem dX6_moves_57 : decode cX6_moves 57 = .ok (.sipush 153, 3) := by decide +kernel
theorem dX6_moves_60 : decode cX6_moves 60 = .ok (.iaload, 1) := by decide +kernel
theorem dX6_moves_61 : decode cX6_moves 61 = .ok (.iastore, 1) := by decide +kernel
theorem dX6_moves_62 : decode cX6_moves 62 = .ok (.aload_n 0, 1) := by decide +kernel
theorem dX6_moves_63 : decode cX6_moves 63 = .ok (.iload_n 2, 1) := by decide +kernel
theorem dX6_moves_64 : decode cX6_moves 64 = .ok (.bipush 9, 2) := by decide +kernel
theorem dX6_moves_66 : decode cX6_moves 66 = .ok (.iadd, 1) := by decide +kernel
theorem dX6_moves_67 : decode cX6_moves 67 = .ok (.dup2, 1) := by decide +kernel
theorem dX6_moves_68 : decode cX6_moves 68 = .ok (.iaload, 1) := by decide +kernel
theorem dX6_moves_69 : decode cX6_moves 69 = .ok (.iconst 1, 1) := by decide +kernel
theorem dX6_moves_70 : decode cX6_moves 70 = .ok (.iadd, 1) := by decide +kernel
theorem dX6_moves_71 : decode cX6_moves 71 = .ok (.iastore, 1) := by decide +kernel
theorem dX6_moves_72 : decode cX6_moves 72 = .ok (.iconst 0, 1) := by decide +kernel
theorem dX6_moves_73 : decode cX6_moves 73 = .ok (.ireturn, 1) := by decide +kernel
theorem dX6_moves_74 : decode cX6_moves 74 = .ok (.aload_n 0, 1) := by decide +kernel
theorem dX6_moves_75 : decode cX6_moves 75 = .ok (.iconst 4, 1) := by decide +kernel
theorem dX6_moves_76 : decode cX6_moves 76 = .ok (.iload_n 3, 1) := by decide +kernel
theorem dX6_moves_77 : decode cX6_moves 77 = .ok (.imul, 1) := by decide +kernel
theorem dX6_moves_78 : decode cX6_moves 78 = .ok (.iconst 3, 1) := by decide +kernel
theorem dX6_moves_79 : decode cX6_moves 79 = .ok (.iadd, 1) := by decide +kernel
theorem dX6_moves_80 : decode cX6_moves 80 = .ok (.iaload, 1) := by decide +kernel
theorem dX6_moves_81 : decode cX6_moves 81 = .ok (.istore 4, 2) := by decide +kernel
theorem dX6_moves_83 : decode cX6_moves 83 = .ok (.aload_n 0, 1) := by decide +kernel
theorem dX6_moves_84 : decode cX6_moves 84 = .ok (.iconst 4, 1) := by decide +kernel
theorem dX6_moves_85 : decode cX6_moves 85 = .ok (.iload_n 3, 1) := by decide +kernel
theorem dX6_moves_86 : decode cX6_moves 86 = .ok (.imul, 1) := by decide +kernel
theorem dX6_moves_87 : decode cX6_moves 87 = .ok (.iconst 2, 1) := by decide +kernel
theorem dX6_moves_88 : decode cX6_moves 88 = .ok (.iadd, 1) := by decide +kernel
theorem dX6_moves_89 : decode cX6_moves 89 = .ok (.iaload, 1) := by decide +kernel
theorem dX6_moves_90 : decode cX6_moves 90 = .ok (.istore_n 3, 1) := by decide +kernel
theorem dX6_moves_91 : decode cX6_moves 91 = .ok (.aload_n 0, 1) := by decide +kernel
theorem dX6_moves_92 : decode cX6_moves 92 = .ok (.iload_n 3, 1) := by decide +kernel
theorem dX6_moves_93 : decode cX6_moves 93 = .ok (.iload 4, 2) := by decide +kernel
theorem dX6_moves_95 : decode cX6_moves 95 = .ok (.invokestatic 68, 3) := by decide +kernel
theorem dX6_moves_98 : decode cX6_moves 98 = .ok (.ifCond .eq 5, 3) := by decide +kernel
theorem dX6_moves_101 : decode cX6_moves 101 = .ok (.iconst 0, 1) := by decide +kernel
theorem dX6_moves_102 : decode cX6_moves 102 = .ok (.ireturn, 1) := by decide +kernel
theorem dX6_moves_103 : decode cX6_moves 103 = .ok (.aload_n 0, 1) := by decide +kernel
theorem dX6_moves_104 : decode cX6_moves 104 = .ok (.iload_n 2, 1) := by decide +kernel
theorem dX6_moves_105 : decode cX6_moves 105 = .ok (.iconst 4, 1) := by decide +kernel
theorem dX6_moves_106 : decode cX6_moves 106 = .ok (.iadd, 1) := by decide +kernel
theorem dX6_moves_107 : decode cX6_moves 107 = .ok (.iload_n 3, 1) := by decide +kernel
theorem dX6_moves_108 : decode cX6_moves 108 = .ok (.iastore, 1) := by decide +kernel
theorem dX6_moves_109 : decode cX6_moves 109 = .ok (.aload_n 0, 1) := by decide +kernel
theorem dX6_moves_110 : decode cX6_moves 110 = .ok (.iload_n 2, 1) := by decide +kernel
theorem dX6_moves_111 : decode cX6_moves 111 = .ok (.iconst 5, 1) := by decide +kernel
theorem dX6_moves_112 : decode cX6_moves 112 = .ok (.iadd, 1) := by decide +kernel
theorem dX6_moves_113 : decode cX6_moves 113 = .ok (.iload 4, 2) := by decide +kernel
theorem dX6_moves_115 : decode cX6_moves 115 = .ok (.iastore, 1) := by decide +kernel
theorem dX6_moves_116 : decode cX6_moves 116 = .ok (.aload_n 0, 1) := by decide +kernel
theorem dX6_moves_117 : decode cX6_moves 117 = .ok (.iload_n 2, 1) := by decide +kernel
theorem dX6_moves_118 : decode cX6_moves 118 = .ok (.bipush 9, 2) := by decide +kernel
theorem dX6_moves_120 : decode cX6_moves 120 = .ok (.iadd, 1) := by decide +kernel
theorem dX6_moves_121 : decode cX6_moves 121 = .ok (.dup2, 1) := by decide +kernel
theorem dX6_moves_122 : decode cX6_moves 122 = .ok (.iaload, 1) := by decide +kernel
theorem dX6_moves_123 : decode cX6_moves 123 = .ok (.iconst 1, 1) := by decide +kernel
theorem dX6_moves_124 : decode cX6_moves 124 = .ok (.iadd, 1) := by decide +kernel
theorem dX6_moves_125 : decode cX6_moves 125 = .ok (.iastore, 1) := by decide +kernel
theorem dX6_moves_126 : decode cX6_moves 126 = .ok (.iconst 1, 1) := by decide +kernel
theorem dX6_moves_127 : decode cX6_moves 127 = .ok (.ireturn, 1) := by decide +kernel
theorem dX6_bears_0 : decode cX6_bears 0 = .ok (.aload_n 0, 1) := by decide +kernel
theorem dX6_bears_1 : decode cX6_bears 1 = .ok (.iload_n 1, 1) := by decide +kernel
theorem dX6_bears_2 : decode cX6_bears 2 = .ok (.invokestatic 60, 3) := by decide +kernel
theorem dX6_bears_5 : decode cX6_bears 5 = .ok (.iconst 0, 1) := by decide +kernel
theorem dX6_bears_6 : decode cX6_bears 6 = .ok (.iadd, 1) := by decide +kernel
theorem dX6_bears_7 : decode cX6_bears 7 = .ok (.iaload, 1) := by decide +kernel
theorem dX6_bears_8 : decode cX6_bears 8 = .ok (.aload_n 0, 1) := by decide +kernel
theorem dX6_bears_9 : decode cX6_bears 9 = .ok (.sipush 155, 3) := by decide +kernel
theorem dX6_bears_12 : decode cX6_bears 12 = .ok (.iaload, 1) := by decide +kernel
theorem dX6_bears_13 : decode cX6_bears 13 = .ok (.imul, 1) := by decide +kernel
theorem dX6_bears_14 : decode cX6_bears 14 = .ok (.iconst 4, 1) := by decide +kernel
theorem dX6_bears_15 : decode cX6_bears 15 = .ok (.aload_n 0, 1) := by decide +kernel
theorem dX6_bears_16 : decode cX6_bears 16 = .ok (.iload_n 1, 1) := by decide +kernel
theorem dX6_bears_17 : decode cX6_bears 17 = .ok (.invokestatic 60, 3) := by decide +kernel
theorem dX6_bears_20 : decode cX6_bears 20 = .ok (.iconst 1, 1) := by decide +kernel
theorem dX6_bears_21 : decode cX6_bears 21 = .ok (.iadd, 1) := by decide +kernel
theorem dX6_bears_22 : decode cX6_bears 22 = .ok (.iaload, 1) := by decide +kernel
theorem dX6_bears_23 : decode cX6_bears 23 = .ok (.imul, 1) := by decide +kernel
theorem dX6_bears_24 : decode cX6_bears 24 = .ok (.iadd, 1) := by decide +kernel
theorem dX6_bears_25 : decode cX6_bears 25 = .ok (.ireturn, 1) := by decide +kernel
theorem dX6_drift_0 : decode cX6_drift 0 = .ok (.iload_n 1, 1) := by decide +kernel
theorem dX6_drift_1 : decode cX6_drift 1 = .ok (.invokestatic 60, 3) := by decide +kernel
theorem dX6_drift_4 : decode cX6_drift 4 = .ok (.istore_n 2, 1) := by decide +kernel
theorem dX6_drift_5 : decode cX6_drift 5 = .ok (.aload_n 0, 1) := by decide +kernel
theorem dX6_drift_6 : decode cX6_drift 6 = .ok (.iconst 4, 1) := by decide +kernel
theorem dX6_drift_7 : decode cX6_drift 7 = .ok (.aload_n 0, 1) := by decide +kernel
theorem dX6_drift_8 : decode cX6_drift 8 = .ok (.iload_n 2, 1) := by decide +kernel
theorem dX6_drift_9 : decode cX6_drift 9 = .ok (.iconst 4, 1) := by decide +kernel
theorem dX6_drift_10 : decode cX6_drift 10 = .ok (.iadd, 1) := by decide +kernel
theorem dX6_drift_11 : decode cX6_drift 11 = .ok (.iaload, 1) := by decide +kernel
theorem dX6_drift_12 : decode cX6_drift 12 = .ok (.imul, 1) := by decide +kernel
theorem dX6_drift_13 : decode cX6_drift 13 = .ok (.iconst 1, 1) := by decide +kernel
theorem dX6_drift_14 : decode cX6_drift 14 = .ok (.iadd, 1) := by decide +kernel
theorem dX6_drift_15 : decode cX6_drift 15 = .ok (.iaload, 1) := by decide +kernel
theorem dX6_drift_16 : decode cX6_drift 16 = .ok (.aload_n 0, 1) := by decide +kernel
theorem dX6_drift_17 : decode cX6_drift 17 = .ok (.sipush 154, 3) := by decide +kernel
theorem dX6_drift_20 : decode cX6_drift 20 = .ok (.iaload, 1) := by decide +kernel
theorem dX6_drift_21 : decode cX6_drift 21 = .ok (.iadd, 1) := by decide +kernel
theorem dX6_drift_22 : decode cX6_drift 22 = .ok (.aload_n 0, 1) := by decide +kernel
theorem dX6_drift_23 : decode cX6_drift 23 = .ok (.iload_n 2, 1) := by decide +kernel
theorem dX6_drift_24 : decode cX6_drift 24 = .ok (.iconst 0, 1) := by decide +kernel
theorem dX6_drift_25 : decode cX6_drift 25 = .ok (.iadd, 1) := by decide +kernel
theorem dX6_drift_26 : decode cX6_drift 26 = .ok (.iaload, 1) := by decide +kernel
theorem dX6_drift_27 : decode cX6_drift 27 = .ok (.iconst 4, 1) := by decide +kernel
theorem dX6_drift_28 : decode cX6_drift 28 = .ok (.idiv, 1) := by decide +kernel
theorem dX6_drift_29 : decode cX6_drift 29 = .ok (.isub, 1) := by decide +kernel
theorem dX6_drift_30 : decode cX6_drift 30 = .ok (.istore_n 3, 1) := by decide +kernel
theorem dX6_drift_31 : decode cX6_drift 31 = .ok (.iconst 1, 1) := by decide +kernel
theorem dX6_drift_32 : decode cX6_drift 32 = .ok (.istore 4, 2) := by decide +kernel
theorem dX6_drift_34 : decode cX6_drift 34 = .ok (.iconst 0, 1) := by decide +kernel
theorem dX6_drift_35 : decode cX6_drift 35 = .ok (.istore 5, 2) := by decide +kernel
theorem dX6_drift_37 : decode cX6_drift 37 = .ok (.iload 5, 2) := by decide +kernel
theorem dX6_drift_39 : decode cX6_drift 39 = .ok (.iload_n 3, 1) := by decide +kernel
theorem dX6_drift_40 : decode cX6_drift 40 = .ok (.if_icmp .ge 21, 3) := by decide +kernel
theorem dX6_drift_43 : decode cX6_drift 43 = .ok (.iload 4, 2) := by decide +kernel
theorem dX6_drift_45 : decode cX6_drift 45 = .ok (.ifCond .eq 16, 3) := by decide +kernel
theorem dX6_drift_48 : decode cX6_drift 48 = .ok (.aload_n 0, 1) := by decide +kernel
theorem dX6_drift_49 : decode cX6_drift 49 = .ok (.iload_n 1, 1) := by decide +kernel
theorem dX6_drift_50 : decode cX6_drift 50 = .ok (.invokestatic 72, 3) := by decide +kernel
theorem dX6_drift_53 : decode cX6_drift 53 = .ok (.istore 4, 2) := by decide +kernel
theorem dX6_drift_55 : decode cX6_drift 55 = .ok (.iinc 5 1, 3) := by decide +kernel
theorem dX6_drift_58 : decode cX6_drift 58 = .ok (.goto (-21), 3) := by decide +kernel
theorem dX6_drift_61 : decode cX6_drift 61 = .ok (.aload_n 0, 1) := by decide +kernel
theorem dX6_drift_62 : decode cX6_drift 62 = .ok (.iload_n 2, 1) := by decide +kernel
theorem dX6_drift_63 : decode cX6_drift 63 = .ok (.iconst 3, 1) := by decide +kernel
theorem dX6_drift_64 : decode cX6_drift 64 = .ok (.iadd, 1) := by decide +kernel
theorem dX6_drift_65 : decode cX6_drift 65 = .ok (.iaload, 1) := by decide +kernel
theorem dX6_drift_66 : decode cX6_drift 66 = .ok (.iconst 1, 1) := by decide +kernel
theorem dX6_drift_67 : decode cX6_drift 67 = .ok (.if_icmp .ne 43, 3) := by decide +kernel
theorem dX6_drift_70 : decode cX6_drift 70 = .ok (.aload_n 0, 1) := by decide +kernel
theorem dX6_drift_71 : decode cX6_drift 71 = .ok (.iload_n 2, 1) := by decide +kernel
theorem dX6_drift_72 : decode cX6_drift 72 = .ok (.bipush 6, 2) := by decide +kernel
theorem dX6_drift_74 : decode cX6_drift 74 = .ok (.iadd, 1) := by decide +kernel
theorem dX6_drift_75 : decode cX6_drift 75 = .ok (.dup2, 1) := by decide +kernel
theorem dX6_drift_76 : decode cX6_drift 76 = .ok (.iaload, 1) := by decide +kernel
theorem dX6_drift_77 : decode cX6_drift 77 = .ok (.iconst 1, 1) := by decide +kernel
theorem dX6_drift_78 : decode cX6_drift 78 = .ok (.aload_n 0, 1) := by decide +kernel
theorem dX6_drift_79 : decode cX6_drift 79 = .ok (.sipush 154, 3) := by decide +kernel
theorem dX6_drift_82 : decode cX6_drift 82 = .ok (.iaload, 1) := by decide +kernel
theorem dX6_drift_83 : decode cX6_drift 83 = .ok (.iadd, 1) := by decide +kernel
theorem dX6_drift_84 : decode cX6_drift 84 = .ok (.iadd, 1) := by decide +kernel
theorem dX6_drift_85 : decode cX6_drift 85 = .ok (.iastore, 1) := by decide +kernel
theorem dX6_drift_86 : decode cX6_drift 86 = .ok (.aload_n 0, 1) := by decide +kernel
theorem dX6_drift_87 : decode cX6_drift 87 = .ok (.iload_n 2, 1) := by decide +kernel
theorem dX6_drift_88 : decode cX6_drift 88 = .ok (.iconst 3, 1) := by decide +kernel
theorem dX6_drift_89 : decode cX6_drift 89 = .ok (.iadd, 1) := by decide +kernel
theorem dX6_drift_90 : decode cX6_drift 90 = .ok (.aload_n 0, 1) := by decide +kernel
theorem dX6_drift_91 : decode cX6_drift 91 = .ok (.iload_n 2, 1) := by decide +kernel
theorem dX6_drift_92 : decode cX6_drift 92 = .ok (.bipush 6, 2) := by decide +kernel
theorem dX6_drift_94 : decode cX6_drift 94 = .ok (.iadd, 1) := by decide +kernel
theorem dX6_drift_95 : decode cX6_drift 95 = .ok (.iaload, 1) := by decide +kernel
theorem dX6_drift_96 : decode cX6_drift 96 = .ok (.aload_n 0, 1) := by decide +kernel
theorem dX6_drift_97 : decode cX6_drift 97 = .ok (.iload_n 1, 1) := by decide +kernel
theorem dX6_drift_98 : decode cX6_drift 98 = .ok (.invokestatic 75, 3) := by decide +kernel
theorem dX6_drift_101 : decode cX6_drift 101 = .ok (.if_icmp .le 7, 3) := by decide +kernel
theorem dX6_drift_104 : decode cX6_drift 104 = .ok (.iconst 3, 1) := by decide +kernel
theorem dX6_drift_105 : decode cX6_drift 105 = .ok (.goto 4, 3) := by decide +kernel
theorem dX6_drift_108 : decode cX6_drift 108 = .ok (.iconst 1, 1) := by decide +kernel
theorem dX6_drift_109 : decode cX6_drift 109 = .ok (.iastore, 1) := by decide +kernel
theorem dX6_drift_110 : decode cX6_drift 110 = .ok (.return_, 1) := by decide +kernel
theorem dX6_endHeat_0 : decode cX6_endHeat 0 = .ok (.iconst (-1), 1) := by decide +kernel
theorem dX6_endHeat_1 : decode cX6_endHeat 1 = .ok (.istore_n 1, 1) := by decide +kernel
theorem dX6_endHeat_2 : decode cX6_endHeat 2 = .ok (.iconst 0, 1) := by decide +kernel
theorem dX6_endHeat_3 : decode cX6_endHeat 3 = .ok (.istore_n 2, 1) := by decide +kernel
theorem dX6_endHeat_4 : decode cX6_endHeat 4 = .ok (.iload_n 2, 1) := by decide +kernel
theorem dX6_endHeat_5 : decode cX6_endHeat 5 = .ok (.aload_n 0, 1) := by decide +kernel
theorem dX6_endHeat_6 : decode cX6_endHeat 6 = .ok (.sipush 147, 3) := by decide +kernel
theorem dX6_endHeat_9 : decode cX6_endHeat 9 = .ok (.iaload, 1) := by decide +kernel
theorem dX6_endHeat_10 : decode cX6_endHeat 10 = .ok (.if_icmp .ge 46, 3) := by decide +kernel
theorem dX6_endHeat_13 : decode cX6_endHeat 13 = .ok (.aload_n 0, 1) := by decide +kernel
theorem dX6_endHeat_14 : decode cX6_endHeat 14 = .ok (.iload_n 2, 1) := by decide +kernel
theorem dX6_endHeat_15 : decode cX6_endHeat 15 = .ok (.invokestatic 64, 3) := by decide +kernel
theorem dX6_endHeat_18 : decode cX6_endHeat 18 = .ok (.iconst 2, 1) := by decide +kernel
theorem dX6_endHeat_19 : decode cX6_endHeat 19 = .ok (.if_icmp .ne 31, 3) := by decide +kernel
theorem dX6_endHeat_22 : decode cX6_endHeat 22 = .ok (.aload_n 0, 1) := by decide +kernel
theorem dX6_endHeat_23 : decode cX6_endHeat 23 = .ok (.iload_n 2, 1) := by decide +kernel
theorem dX6_endHeat_24 : decode cX6_endHeat 24 = .ok (.invokestatic 60, 3) := by decide +kernel
theorem dX6_endHeat_27 : decode cX6_endHeat 27 = .ok (.bipush 7, 2) := by decide +kernel
theorem dX6_endHeat_29 : decode cX6_endHeat 29 = .ok (.iadd, 1) := by decide +kernel
theorem dX6_endHeat_30 : decode cX6_endHeat 30 = .ok (.iaload, 1) := by decide +kernel
theorem dX6_endHeat_31 : decode cX6_endHeat 31 = .ok (.iconst 1, 1) := by decide +kernel
theorem dX6_endHeat_32 : decode cX6_endHeat 32 = .ok (.if_icmp .ne 7, 3) := by decide +kernel
theorem dX6_endHeat_35 : decode cX6_endHeat 35 = .ok (.iload_n 2, 1) := by decide +kernel
theorem dX6_endHeat_36 : decode cX6_endHeat 36 = .ok (.goto 4, 3) := by decide +kernel
theorem dX6_endHeat_39 : decode cX6_endHeat 39 = .ok (.iload_n 1, 1) := by decide +kernel
theorem dX6_endHeat_40 : decode cX6_endHeat 40 = .ok (.istore_n 1, 1) := by decide +kernel
theorem dX6_endHeat_41 : decode cX6_endHeat 41 = .ok (.aload_n 0, 1) := by decide +kernel
theorem dX6_endHeat_42 : decode cX6_endHeat 42 = .ok (.iload_n 2, 1) := by decide +kernel
theorem dX6_endHeat_43 : decode cX6_endHeat 43 = .ok (.invokestatic 60, 3) := by decide +kernel
theorem dX6_endHeat_46 : decode cX6_endHeat 46 = .ok (.iconst 3, 1) := by decide +kernel
theorem dX6_endHeat_47 : decode cX6_endHeat 47 = .ok (.iadd, 1) := by decide +kernel
theorem dX6_endHeat_48 : decode cX6_endHeat 48 = .ok (.iconst 0, 1) := by decide +kernel
theorem dX6_endHeat_49 : decode cX6_endHeat 49 = .ok (.iastore, 1) := by decide +kernel
theorem dX6_endHeat_50 : decode cX6_endHeat 50 = .ok (.iinc 2 1, 3) := by decide +kernel
theorem dX6_endHeat_53 : decode cX6_endHeat 53 = .ok (.goto (-49), 3) := by decide +kernel
theorem dX6_endHeat_56 : decode cX6_endHeat 56 = .ok (.iload_n 1, 1) := by decide +kernel
theorem dX6_endHeat_57 : decode cX6_endHeat 57 = .ok (.iconst (-1), 1) := by decide +kernel
theorem dX6_endHeat_58 : decode cX6_endHeat 58 = .ok (.if_icmp .eq 45, 3) := by decide +kernel
theorem dX6_endHeat_61 : decode cX6_endHeat 61 = .ok (.aload_n 0, 1) := by decide +kernel
theorem dX6_endHeat_62 : decode cX6_endHeat 62 = .ok (.sipush 134, 3) := by decide +kernel
theorem dX6_endHeat_65 : decode cX6_endHeat 65 = .ok (.iconst 3, 1) := by decide +kernel
theorem dX6_endHeat_66 : decode cX6_endHeat 66 = .ok (.aload_n 0, 1) := by decide +kernel
theorem dX6_endHeat_67 : decode cX6_endHeat 67 = .ok (.iload_n 1, 1) := by decide +kernel
theorem dX6_endHeat_68 : decode cX6_endHeat 68 = .ok (.invokestatic 60, 3) := by decide +kernel
theorem dX6_endHeat_71 : decode cX6_endHeat 71 = .ok (.iconst 2, 1) := by decide +kernel
theorem dX6_endHeat_72 : decode cX6_endHeat 72 = .ok (.iadd, 1) := by decide +kernel
theorem dX6_endHeat_73 : decode cX6_endHeat 73 = .ok (.iaload, 1) := by decide +kernel
theorem dX6_endHeat_74 : decode cX6_endHeat 74 = .ok (.imul, 1) := by decide +kernel
theorem dX6_endHeat_75 : decode cX6_endHeat 75 = .ok (.iadd, 1) := by decide +kernel
theorem dX6_endHeat_76 : decode cX6_endHeat 76 = .ok (.dup2, 1) := by decide +kernel
theorem dX6_endHeat_77 : decode cX6_endHeat 77 = .ok (.iaload, 1) := by decide +kernel
theorem dX6_endHeat_78 : decode cX6_endHeat 78 = .ok (.iconst 3, 1) := by decide +kernel
theorem dX6_endHeat_79 : decode cX6_endHeat 79 = .ok (.iadd, 1) := by decide +kernel
theorem dX6_endHeat_80 : decode cX6_endHeat 80 = .ok (.iastore, 1) := by decide +kernel
theorem dX6_endHeat_81 : decode cX6_endHeat 81 = .ok (.aload_n 0, 1) := by decide +kernel
theorem dX6_endHeat_82 : decode cX6_endHeat 82 = .ok (.iload_n 1, 1) := by decide +kernel
theorem dX6_endHeat_83 : decode cX6_endHeat 83 = .ok (.invokestatic 60, 3) := by decide +kernel
theorem dX6_endHeat_86 : decode cX6_endHeat 86 = .ok (.bipush 8, 2) := by decide +kernel
theorem dX6_endHeat_88 : decode cX6_endHeat 88 = .ok (.iadd, 1) := by decide +kernel
theorem dX6_endHeat_89 : decode cX6_endHeat 89 = .ok (.dup2, 1) := by decide +kernel
theorem dX6_endHeat_90 : decode cX6_endHeat 90 = .ok (.iaload, 1) := by decide +kernel
theorem dX6_endHeat_91 : decode cX6_endHeat 91 = .ok (.iconst 1, 1) := by decide +kernel
theorem dX6_endHeat_92 : decode cX6_endHeat 92 = .ok (.iadd, 1) := by decide +kernel
theorem dX6_endHeat_93 : decode cX6_endHeat 93 = .ok (.iastore, 1) := by decide +kernel
theorem dX6_endHeat_94 : decode cX6_endHeat 94 = .ok (.aload_n 0, 1) := by decide +kernel
theorem dX6_endHeat_95 : decode cX6_endHeat 95 = .ok (.sipush 151, 3) := by decide +kernel
theorem dX6_endHeat_98 : decode cX6_endHeat 98 = .ok (.dup2, 1) := by decide +kernel
theorem dX6_endHeat_99 : decode cX6_endHeat 99 = .ok (.iaload, 1) := by decide +kernel
theorem dX6_endHeat_100 : decode cX6_endHeat 100 = .ok (.iconst 1, 1) := by decide +kernel
theorem dX6_endHeat_101 : decode cX6_endHeat 101 = .ok (.iadd, 1) := by decide +kernel
theorem dX6_endHeat_102 : decode cX6_endHeat 102 = .ok (.iastore, 1) := by decide +kernel
theorem dX6_endHeat_103 : decode cX6_endHeat 103 = .ok (.aload_n 0, 1) := by decide +kernel
theorem dX6_endHeat_104 : decode cX6_endHeat 104 = .ok (.sipush 150, 3) := by decide +kernel
theorem dX6_endHeat_107 : decode cX6_endHeat 107 = .ok (.iconst 0, 1) := by decide +kernel
theorem dX6_endHeat_108 : decode cX6_endHeat 108 = .ok (.iastore, 1) := by decide +kernel
theorem dX6_endHeat_109 : decode cX6_endHeat 109 = .ok (.aload_n 0, 1) := by decide +kernel
theorem dX6_endHeat_110 : decode cX6_endHeat 110 = .ok (.sipush 153, 3) := by decide +kernel
theorem dX6_endHeat_113 : decode cX6_endHeat 113 = .ok (.iconst 0, 1) := by decide +kernel
theorem dX6_endHeat_114 : decode cX6_endHeat 114 = .ok (.iastore, 1) := by decide +kernel
theorem dX6_endHeat_115 : decode cX6_endHeat 115 = .ok (.iload_n 1, 1) := by decide +kernel
theorem dX6_endHeat_116 : decode cX6_endHeat 116 = .ok (.ireturn, 1) := by decide +kernel
theorem dX6_goMinute_0 : decode cX6_goMinute 0 = .ok (.iconst 0, 1) := by decide +kernel
theorem dX6_goMinute_1 : decode cX6_goMinute 1 = .ok (.istore_n 1, 1) := by decide +kernel
theorem dX6_goMinute_2 : decode cX6_goMinute 2 = .ok (.aload_n 0, 1) := by decide +kernel
theorem dX6_goMinute_3 : decode cX6_goMinute 3 = .ok (.sipush 148, 3) := by decide +kernel
theorem dX6_goMinute_6 : decode cX6_goMinute 6 = .ok (.dup2, 1) := by decide +kernel
theorem dX6_goMinute_7 : decode cX6_goMinute 7 = .ok (.iaload, 1) := by decide +kernel
theorem dX6_goMinute_8 : decode cX6_goMinute 8 = .ok (.iconst 1, 1) := by decide +kernel
theorem dX6_goMinute_9 : decode cX6_goMinute 9 = .ok (.iadd, 1) := by decide +kernel
theorem dX6_goMinute_10 : decode cX6_goMinute 10 = .ok (.iastore, 1) := by decide +kernel
theorem dX6_goMinute_11 : decode cX6_goMinute 11 = .ok (.iconst 0, 1) := by decide +kernel
theorem dX6_goMinute_12 : decode cX6_goMinute 12 = .ok (.istore_n 2, 1) := by decide +kernel
theorem dX6_goMinute_13 : decode cX6_goMinute 13 = .ok (.iload_n 2, 1) := by decide +kernel
theorem dX6_goMinute_14 : decode cX6_goMinute 14 = .ok (.aload_n 0, 1) := by decide +kernel
theorem dX6_goMinute_15 : decode cX6_goMinute 15 = .ok (.sipush 147, 3) := by decide +kernel
theorem dX6_goMinute_18 : decode cX6_goMinute 18 = .ok (.iaload, 1) := by decide +kernel
theorem dX6_goMinute_19 : decode cX6_goMinute 19 = .ok (.if_icmp .ge 40, 3) := by decide +kernel
theorem dX6_goMinute_22 : decode cX6_goMinute 22 = .ok (.aload_n 0, 1) := by decide +kernel
theorem dX6_goMinute_23 : decode cX6_goMinute 23 = .ok (.iload_n 2, 1) := by decide +kernel
theorem dX6_goMinute_24 : decode cX6_goMinute 24 = .ok (.invokestatic 64, 3) := by decide +kernel
theorem dX6_goMinute_27 : decode cX6_goMinute 27 = .ok (.iconst 1, 1) := by decide +kernel
theorem dX6_goMinute_28 : decode cX6_goMinute 28 = .ok (.if_icmp .ne 25, 3) := by decide +kernel
theorem dX6_goMinute_31 : decode cX6_goMinute 31 = .ok (.aload_n 0, 1) := by decide +kernel
theorem dX6_goMinute_32 : decode cX6_goMinute 32 = .ok (.iload_n 2, 1) := by decide +kernel
theorem dX6_goMinute_33 : decode cX6_goMinute 33 = .ok (.invokestatic 78, 3) := by decide +kernel
theorem dX6_goMinute_36 : decode cX6_goMinute 36 = .ok (.iload_n 1, 1) := by decide +kernel
theorem dX6_goMinute_37 : decode cX6_goMinute 37 = .ok (.aload_n 0, 1) := by decide +kernel
theorem dX6_goMinute_38 : decode cX6_goMinute 38 = .ok (.iload_n 2, 1) := by decide +kernel
theorem dX6_goMinute_39 : decode cX6_goMinute 39 = .ok (.invokestatic 64, 3) := by decide +kernel
theorem dX6_goMinute_42 : decode cX6_goMinute 42 = .ok (.iconst 2, 1) := by decide +kernel
theorem dX6_goMinute_43 : decode cX6_goMinute 43 = .ok (.if_icmp .ne 7, 3) := by decide +kernel
theorem dX6_goMinute_46 : decode cX6_goMinute 46 = .ok (.iconst 1, 1) := by decide +kernel
theorem dX6_goMinute_47 : decode cX6_goMinute 47 = .ok (.goto 4, 3) := by decide +kernel
theorem dX6_goMinute_50 : decode cX6_goMinute 50 = .ok (.iconst 0, 1) := by decide +kernel
theorem dX6_goMinute_51 : decode cX6_goMinute 51 = .ok (.iadd, 1) := by decide +kernel
theorem dX6_goMinute_52 : decode cX6_goMinute 52 = .ok (.istore_n 1, 1) := by decide +kernel
theorem dX6_goMinute_53 : decode cX6_goMinute 53 = .ok (.iinc 2 1, 3) := by decide +kernel
theorem dX6_goMinute_56 : decode cX6_goMinute 56 = .ok (.goto (-43), 3) := by decide +kernel
theorem dX6_goMinute_59 : decode cX6_goMinute 59 = .ok (.aload_n 0, 1) := by decide +kernel
theorem dX6_goMinute_60 : decode cX6_goMinute 60 = .ok (.sipush 150, 3) := by decide +kernel
theorem dX6_goMinute_63 : decode cX6_goMinute 63 = .ok (.iaload, 1) := by decide +kernel
theorem dX6_goMinute_64 : decode cX6_goMinute 64 = .ok (.iconst 1, 1) := by decide +kernel
theorem dX6_goMinute_65 : decode cX6_goMinute 65 = .ok (.if_icmp .ne 16, 3) := by decide +kernel
theorem dX6_goMinute_68 : decode cX6_goMinute 68 = .ok (.aload_n 0, 1) := by decide +kernel
theorem dX6_goMinute_69 : decode cX6_goMinute 69 = .ok (.iconst 1, 1) := by decide +kernel
theorem dX6_goMinute_70 : decode cX6_goMinute 70 = .ok (.invokestatic 82, 3) := by decide +kernel
theorem dX6_goMinute_73 : decode cX6_goMinute 73 = .ok (.ifCond .ne 8, 3) := by decide +kernel
theorem dX6_goMinute_76 : decode cX6_goMinute 76 = .ok (.aload_n 0, 1) := by decide +kernel
theorem dX6_goMinute_77 : decode cX6_goMinute 77 = .ok (.invokestatic 85, 3) := by decide +kernel
theorem dX6_goMinute_80 : decode cX6_goMinute 80 = .ok (.istore_n 2, 1) := by decide +kernel
theorem dX6_goMinute_81 : decode cX6_goMinute 81 = .ok (.iload_n 1, 1) := by decide +kernel
theorem dX6_goMinute_82 : decode cX6_goMinute 82 = .ok (.ireturn, 1) := by decide +kernel
theorem dX6_goMinutes_0 : decode cX6_goMinutes 0 = .ok (.iconst 0, 1) := by decide +kernel
theorem dX6_goMinutes_1 : decode cX6_goMinutes 1 = .ok (.istore_n 2, 1) := by decide +kernel
theorem dX6_goMinutes_2 : decode cX6_goMinutes 2 = .ok (.iconst 0, 1) := by decide +kernel
theorem dX6_goMinutes_3 : decode cX6_goMinutes 3 = .ok (.istore_n 3, 1) := by decide +kernel
theorem dX6_goMinutes_4 : decode cX6_goMinutes 4 = .ok (.iload_n 3, 1) := by decide +kernel
theorem dX6_goMinutes_5 : decode cX6_goMinutes 5 = .ok (.iload_n 1, 1) := by decide +kernel
theorem dX6_goMinutes_6 : decode cX6_goMinutes 6 = .ok (.if_icmp .ge 16, 3) := by decide +kernel
theorem dX6_goMinutes_9 : decode cX6_goMinutes 9 = .ok (.iload_n 2, 1) := by decide +kernel
theorem dX6_goMinutes_10 : decode cX6_goMinutes 10 = .ok (.aload_n 0, 1) := by decide +kernel
theorem dX6_goMinutes_11 : decode cX6_goMinutes 11 = .ok (.invokestatic 89, 3) := by decide +kernel
theorem dX6_goMinutes_14 : decode cX6_goMinutes 14 = .ok (.iadd, 1) := by decide +kernel
theorem dX6_goMinutes_15 : decode cX6_goMinutes 15 = .ok (.istore_n 2, 1) := by decide +kernel
theorem dX6_goMinutes_16 : decode cX6_goMinutes 16 = .ok (.iinc 3 1, 3) := by decide +kernel
theorem dX6_goMinutes_19 : decode cX6_goMinutes 19 = .ok (.goto (-15), 3) := by decide +kernel
theorem dX6_goMinutes_22 : decode cX6_goMinutes 22 = .ok (.iload_n 2, 1) := by decide +kernel
theorem dX6_goMinutes_23 : decode cX6_goMinutes 23 = .ok (.ireturn, 1) := by decide +kernel
theorem dX6_far_0 : decode cX6_far 0 = .ok (.aload_n 0, 1) := by decide +kernel
theorem dX6_far_1 : decode cX6_far 1 = .ok (.sipush 134, 3) := by decide +kernel
theorem dX6_far_4 : decode cX6_far 4 = .ok (.iconst 3, 1) := by decide +kernel
theorem dX6_far_5 : decode cX6_far 5 = .ok (.iload_n 1, 1) := by decide +kernel
theorem dX6_far_6 : decode cX6_far 6 = .ok (.imul, 1) := by decide +kernel
theorem dX6_far_7 : decode cX6_far 7 = .ok (.iadd, 1) := by decide +kernel
theorem dX6_far_8 : decode cX6_far 8 = .ok (.iconst 2, 1) := by decide +kernel
theorem dX6_far_9 : decode cX6_far 9 = .ok (.iadd, 1) := by decide +kernel
theorem dX6_far_10 : decode cX6_far 10 = .ok (.iaload, 1) := by decide +kernel
theorem dX6_far_11 : decode cX6_far 11 = .ok (.aload_n 0, 1) := by decide +kernel
theorem dX6_far_12 : decode cX6_far 12 = .ok (.iload_n 2, 1) := by decide +kernel
theorem dX6_far_13 : decode cX6_far 13 = .ok (.invokestatic 60, 3) := by decide +kernel
theorem dX6_far_16 : decode cX6_far 16 = .ok (.iconst 5, 1) := by decide +kernel
theorem dX6_far_17 : decode cX6_far 17 = .ok (.iadd, 1) := by decide +kernel
theorem dX6_far_18 : decode cX6_far 18 = .ok (.iaload, 1) := by decide +kernel
theorem dX6_far_19 : decode cX6_far 19 = .ok (.isub, 1) := by decide +kernel
theorem dX6_far_20 : decode cX6_far 20 = .ok (.invokestatic 92, 3) := by decide +kernel
theorem dX6_far_23 : decode cX6_far 23 = .ok (.ireturn, 1) := by decide +kernel
theorem dX6_isHooked_0 : decode cX6_isHooked 0 = .ok (.aload_n 0, 1) := by decide +kernel
theorem dX6_isHooked_1 : decode cX6_isHooked 1 = .ok (.sipush 134, 3) := by decide +kernel
theorem dX6_isHooked_4 : decode cX6_isHooked 4 = .ok (.iconst 3, 1) := by decide +kernel
theorem dX6_isHooked_5 : decode cX6_isHooked 5 = .ok (.iload_n 1, 1) := by decide +kernel
theorem dX6_isHooked_6 : decode cX6_isHooked 6 = .ok (.imul, 1) := by decide +kernel
theorem dX6_isHooked_7 : decode cX6_isHooked 7 = .ok (.iadd, 1) := by decide +kernel
theorem dX6_isHooked_8 : decode cX6_isHooked 8 = .ok (.iconst 1, 1) := by decide +kernel
theorem dX6_isHooked_9 : decode cX6_isHooked 9 = .ok (.iadd, 1) := by decide +kernel
theorem dX6_isHooked_10 : decode cX6_isHooked 10 = .ok (.iaload, 1) := by decide +kernel
theorem dX6_isHooked_11 : decode cX6_isHooked 11 = .ok (.aload_n 0, 1) := by decide +kernel
theorem dX6_isHooked_12 : decode cX6_isHooked 12 = .ok (.iload_n 2, 1) := by decide +kernel
theorem dX6_isHooked_13 : decode cX6_isHooked 13 = .ok (.invokestatic 60, 3) := by decide +kernel
theorem dX6_isHooked_16 : decode cX6_isHooked 16 = .ok (.iconst 4, 1) := by decide +kernel
theorem dX6_isHooked_17 : decode cX6_isHooked 17 = .ok (.iadd, 1) := by decide +kernel
theorem dX6_isHooked_18 : decode cX6_isHooked 18 = .ok (.iaload, 1) := by decide +kernel
theorem dX6_isHooked_19 : decode cX6_isHooked 19 = .ok (.if_icmp .ne 7, 3) := by decide +kernel
theorem dX6_isHooked_22 : decode cX6_isHooked 22 = .ok (.iconst 1, 1) := by decide +kernel
theorem dX6_isHooked_23 : decode cX6_isHooked 23 = .ok (.goto 4, 3) := by decide +kernel
theorem dX6_isHooked_26 : decode cX6_isHooked 26 = .ok (.iconst 0, 1) := by decide +kernel
theorem dX6_isHooked_27 : decode cX6_isHooked 27 = .ok (.ireturn, 1) := by decide +kernel
theorem dX6_whyNot_0 : decode cX6_whyNot 0 = .ok (.aload_n 0, 1) := by decide +kernel
theorem dX6_whyNot_1 : decode cX6_whyNot 1 = .ok (.iload_n 2, 1) := by decide +kernel
theorem dX6_whyNot_2 : decode cX6_whyNot 2 = .ok (.invokestatic 64, 3) := by decide +kernel
theorem dX6_whyNot_5 : decode cX6_whyNot 5 = .ok (.iconst 3, 1) := by decide +kernel
theorem dX6_whyNot_6 : decode cX6_whyNot 6 = .ok (.if_icmp .eq 5, 3) := by decide +kernel
theorem dX6_whyNot_9 : decode cX6_whyNot 9 = .ok (.iconst 1, 1) := by decide +kernel
theorem dX6_whyNot_10 : decode cX6_whyNot 10 = .ok (.ireturn, 1) := by decide +kernel
theorem dX6_whyNot_11 : decode cX6_whyNot 11 = .ok (.aload_n 0, 1) := by decide +kernel
theorem dX6_whyNot_12 : decode cX6_whyNot 12 = .ok (.iload_n 1, 1) := by decide +kernel
theorem dX6_whyNot_13 : decode cX6_whyNot 13 = .ok (.iload_n 2, 1) := by decide +kernel
theorem dX6_whyNot_14 : decode cX6_whyNot 14 = .ok (.invokestatic 95, 3) := by decide +kernel
theorem dX6_whyNot_17 : decode cX6_whyNot 17 = .ok (.ifCond .eq 17, 3) := by decide +kernel
theorem dX6_whyNot_20 : decode cX6_whyNot 20 = .ok (.aload_n 0, 1) := by decide +kernel
theorem dX6_whyNot_21 : decode cX6_whyNot 21 = .ok (.iload_n 1, 1) := by decide +kernel
theorem dX6_whyNot_22 : decode cX6_whyNot 22 = .ok (.iload_n 2, 1) := by decide +kernel
theorem dX6_whyNot_23 : decode cX6_whyNot 23 = .ok (.invokestatic 98, 3) := by decide +kernel
theorem dX6_whyNot_26 : decode cX6_whyNot 26 = .ok (.aload_n 0, 1) := by decide +kernel
theorem dX6_whyNot_27 : decode cX6_whyNot 27 = .ok (.sipush 156, 3) := by decide +kernel
theorem dX6_whyNot_30 : decode cX6_whyNot 30 = .ok (.iaload, 1) := by decide +kernel
theorem dX6_whyNot_31 : decode cX6_whyNot 31 = .ok (.if_icmp .le 5, 3) := by decide +kernel
theorem dX6_whyNot_34 : decode cX6_whyNot 34 = .ok (.iconst 2, 1) := by decide +kernel
theorem dX6_whyNot_35 : decode cX6_whyNot 35 = .ok (.ireturn, 1) := by decide +kernel
theorem dX6_whyNot_36 : decode cX6_whyNot 36 = .ok (.iconst 0, 1) := by decide +kernel
theorem dX6_whyNot_37 : decode cX6_whyNot 37 = .ok (.istore_n 3, 1) := by decide +kernel
theorem dX6_whyNot_38 : decode cX6_whyNot 38 = .ok (.iconst 0, 1) := by decide +kernel
theorem dX6_whyNot_39 : decode cX6_whyNot 39 = .ok (.istore 4, 2) := by decide +kernel
theorem dX6_whyNot_41 : decode cX6_whyNot 41 = .ok (.iload 4, 2) := by decide +kernel
theorem dX6_whyNot_43 : decode cX6_whyNot 43 = .ok (.iconst 4, 1) := by decide +kernel
theorem dX6_whyNot_44 : decode cX6_whyNot 44 = .ok (.if_icmp .ge 51, 3) := by decide +kernel
theorem dX6_whyNot_47 : decode cX6_whyNot 47 = .ok (.iload_n 3, 1) := by decide +kernel
theorem dX6_whyNot_48 : decode cX6_whyNot 48 = .ok (.ifCond .ne 35, 3) := by decide +kernel
theorem dX6_whyNot_51 : decode cX6_whyNot 51 = .ok (.iload 4, 2) := by decide +kernel
theorem dX6_whyNot_53 : decode cX6_whyNot 53 = .ok (.iload_n 1, 1) := by decide +kernel
theorem dX6_whyNot_54 : decode cX6_whyNot 54 = .ok (.if_icmp .eq 33, 3) := by decide +kernel
theorem dX6_whyNot_57 : decode cX6_whyNot 57 = .ok (.aload_n 0, 1) := by decide +kernel
theorem dX6_whyNot_58 : decode cX6_whyNot 58 = .ok (.iload 4, 2) := by decide +kernel
theorem dX6_whyNot_60 : decode cX6_whyNot 60 = .ok (.iload_n 2, 1) := by decide +kernel
theorem dX6_whyNot_61 : decode cX6_whyNot 61 = .ok (.invokestatic 95, 3) := by decide +kernel
theorem dX6_whyNot_64 : decode cX6_whyNot 64 = .ok (.ifCond .eq 23, 3) := by decide +kernel
theorem dX6_whyNot_67 : decode cX6_whyNot 67 = .ok (.aload_n 0, 1) := by decide +kernel
theorem dX6_whyNot_68 : decode cX6_whyNot 68 = .ok (.iload 4, 2) := by decide +kernel
theorem dX6_whyNot_70 : decode cX6_whyNot 70 = .ok (.iload_n 2, 1) := by decide +kernel
theorem dX6_whyNot_71 : decode cX6_whyNot 71 = .ok (.invokestatic 98, 3) := by decide +kernel
theorem dX6_whyNot_74 : decode cX6_whyNot 74 = .ok (.aload_n 0, 1) := by decide +kernel
theorem dX6_whyNot_75 : decode cX6_whyNot 75 = .ok (.iload_n 1, 1) := by decide +kernel
theorem dX6_whyNot_76 : decode cX6_whyNot 76 = .ok (.iload_n 2, 1) := by decide +kernel
theorem dX6_whyNot_77 : decode cX6_whyNot 77 = .ok (.invokestatic 98, 3) := by decide +kernel
theorem dX6_whyNot_80 : decode cX6_whyNot 80 = .ok (.if_icmp .ge 7, 3) := by decide +kernel
theorem dX6_whyNot_83 : decode cX6_whyNot 83 = .ok (.iconst 1, 1) := by decide +kernel
theorem dX6_whyNot_84 : decode cX6_whyNot 84 = .ok (.goto 4, 3) := by decide +kernel
theorem dX6_whyNot_87 : decode cX6_whyNot 87 = .ok (.iconst 0, 1) := by decide +kernel
theorem dX6_whyNot_88 : decode cX6_whyNot 88 = .ok (.istore_n 3, 1) := by decide +kernel
theorem dX6_whyNot_89 : decode cX6_whyNot 89 = .ok (.iinc 4 1, 3) := by decide +kernel
theorem dX6_whyNot_92 : decode cX6_whyNot 92 = .ok (.goto (-51), 3) := by decide +kernel
theorem dX6_whyNot_95 : decode cX6_whyNot 95 = .ok (.iload_n 3, 1) := by decide +kernel
theorem dX6_whyNot_96 : decode cX6_whyNot 96 = .ok (.ifCond .eq 7, 3) := by decide +kernel
theorem dX6_whyNot_99 : decode cX6_whyNot 99 = .ok (.iconst 3, 1) := by decide +kernel
theorem dX6_whyNot_100 : decode cX6_whyNot 100 = .ok (.goto 4, 3) := by decide +kernel
theorem dX6_whyNot_103 : decode cX6_whyNot 103 = .ok (.iconst 0, 1) := by decide +kernel
theorem dX6_whyNot_104 : decode cX6_whyNot 104 = .ok (.ireturn, 1) := by decide +kernel
theorem dX6_goClaim_0 : decode cX6_goClaim 0 = .ok (.aload_n 0, 1) := by decide +kernel
theorem dX6_goClaim_1 : decode cX6_goClaim 1 = .ok (.iload_n 1, 1) := by decide +kernel
theorem dX6_goClaim_2 : decode cX6_goClaim 2 = .ok (.iload_n 2, 1) := by decide +kernel
theorem dX6_goClaim_3 : decode cX6_goClaim 3 = .ok (.invokestatic 102, 3) := by decide +kernel
theorem dX6_goClaim_6 : decode cX6_goClaim 6 = .ok (.istore_n 3, 1) := by decide +kernel
theorem dX6_goClaim_7 : decode cX6_goClaim 7 = .ok (.iload_n 3, 1) := by decide +kernel
theorem dX6_goClaim_8 : decode cX6_goClaim 8 = .ok (.ifCond .ne 35, 3) := by decide +kernel
theorem dX6_goClaim_11 : decode cX6_goClaim 11 = .ok (.aload_n 0, 1) := by decide +kernel
theorem dX6_goClaim_12 : decode cX6_goClaim 12 = .ok (.iload_n 2, 1) := by decide +kernel
theorem dX6_goClaim_13 : decode cX6_goClaim 13 = .ok (.invokestatic 60, 3) := by decide +kernel
theorem dX6_goClaim_16 : decode cX6_goClaim 16 = .ok (.iconst 3, 1) := by decide +kernel
theorem dX6_goClaim_17 : decode cX6_goClaim 17 = .ok (.iadd, 1) := by decide +kernel
theorem dX6_goClaim_18 : decode cX6_goClaim 18 = .ok (.iconst 4, 1) := by decide +kernel
theorem dX6_goClaim_19 : decode cX6_goClaim 19 = .ok (.iastore, 1) := by decide +kernel
theorem dX6_goClaim_20 : decode cX6_goClaim 20 = .ok (.aload_n 0, 1) := by decide +kernel
theorem dX6_goClaim_21 : decode cX6_goClaim 21 = .ok (.sipush 134, 3) := by decide +kernel
theorem dX6_goClaim_24 : decode cX6_goClaim 24 = .ok (.iconst 3, 1) := by decide +kernel
theorem dX6_goClaim_25 : decode cX6_goClaim 25 = .ok (.iload_n 1, 1) := by decide +kernel
theorem dX6_goClaim_26 : decode cX6_goClaim 26 = .ok (.imul, 1) := by decide +kernel
theorem dX6_goClaim_27 : decode cX6_goClaim 27 = .ok (.iadd, 1) := by decide +kernel
theorem dX6_goClaim_28 : decode cX6_goClaim 28 = .ok (.dup2, 1) := by decide +kernel
theorem dX6_goClaim_29 : decode cX6_goClaim 29 = .ok (.iaload, 1) := by decide +kernel
theorem dX6_goClaim_30 : decode cX6_goClaim 30 = .ok (.aload_n 0, 1) := by decide +kernel
theorem dX6_goClaim_31 : decode cX6_goClaim 31 = .ok (.iload_n 2, 1) := by decide +kernel
theorem dX6_goClaim_32 : decode cX6_goClaim 32 = .ok (.invokestatic 60, 3) := by decide +kernel
theorem dX6_goClaim_35 : decode cX6_goClaim 35 = .ok (.iconst 0, 1) := by decide +kernel
theorem dX6_goClaim_36 : decode cX6_goClaim 36 = .ok (.iadd, 1) := by decide +kernel
theorem dX6_goClaim_37 : decode cX6_goClaim 37 = .ok (.iaload, 1) := by decide +kernel
theorem dX6_goClaim_38 : decode cX6_goClaim 38 = .ok (.iadd, 1) := by decide +kernel
theorem dX6_goClaim_39 : decode cX6_goClaim 39 = .ok (.iastore, 1) := by decide +kernel
theorem dX6_goClaim_40 : decode cX6_goClaim 40 = .ok (.goto 12, 3) := by decide +kernel
theorem dX6_goClaim_43 : decode cX6_goClaim 43 = .ok (.aload_n 0, 1) := by decide +kernel
theorem dX6_goClaim_44 : decode cX6_goClaim 44 = .ok (.sipush 152, 3) := by decide +kernel
theorem dX6_goClaim_47 : decode cX6_goClaim 47 = .ok (.dup2, 1) := by decide +kernel
theorem dX6_goClaim_48 : decode cX6_goClaim 48 = .ok (.iaload, 1) := by decide +kernel
theorem dX6_goClaim_49 : decode cX6_goClaim 49 = .ok (.iconst 1, 1) := by decide +kernel
theorem dX6_goClaim_50 : decode cX6_goClaim 50 = .ok (.iadd, 1) := by decide +kernel
theorem dX6_goClaim_51 : decode cX6_goClaim 51 = .ok (.iastore, 1) := by decide +kernel
theorem dX6_goClaim_52 : decode cX6_goClaim 52 = .ok (.iload_n 3, 1) := by decide +kernel
theorem dX6_goClaim_53 : decode cX6_goClaim 53 = .ok (.ireturn, 1) := by decide +kernel
theorem dX6_claimable_0 : decode cX6_claimable 0 = .ok (.iconst 0, 1) := by decide +kernel
theorem dX6_claimable_1 : decode cX6_claimable 1 = .ok (.istore_n 2, 1) := by decide +kernel
theorem dX6_claimable_2 : decode cX6_claimable 2 = .ok (.iconst 0, 1) := by decide +kernel
theorem dX6_claimable_3 : decode cX6_claimable 3 = .ok (.istore_n 3, 1) := by decide +kernel
theorem dX6_claimable_4 : decode cX6_claimable 4 = .ok (.iload_n 3, 1) := by decide +kernel
theorem dX6_claimable_5 : decode cX6_claimable 5 = .ok (.aload_n 0, 1) := by decide +kernel
theorem dX6_claimable_6 : decode cX6_claimable 6 = .ok (.sipush 147, 3) := by decide +kernel
theorem dX6_claimable_9 : decode cX6_claimable 9 = .ok (.iaload, 1) := by decide +kernel
theorem dX6_claimable_10 : decode cX6_claimable 10 = .ok (.if_icmp .ge 26, 3) := by decide +kernel
theorem dX6_claimable_13 : decode cX6_claimable 13 = .ok (.iload_n 2, 1) := by decide +kernel
theorem dX6_claimable_14 : decode cX6_claimable 14 = .ok (.aload_n 0, 1) := by decide +kernel
theorem dX6_claimable_15 : decode cX6_claimable 15 = .ok (.iload_n 1, 1) := by decide +kernel
theorem dX6_claimable_16 : decode cX6_claimable 16 = .ok (.iload_n 3, 1) := by decide +kernel
theorem dX6_claimable_17 : decode cX6_claimable 17 = .ok (.invokestatic 102, 3) := by decide +kernel
theorem dX6_claimable_20 : decode cX6_claimable 20 = .ok (.ifCond .ne 7, 3) := by decide +kernel
theorem dX6_claimable_23 : decode cX6_claimable 23 = .ok (.iconst 1, 1) := by decide +kernel
theorem dX6_claimable_24 : decode cX6_claimable 24 = .ok (.goto 4, 3) := by decide +kernel
theorem dX6_claimable_27 : decode cX6_claimable 27 = .ok (.iconst 0, 1) := by decide +kernel
theorem dX6_claimable_28 : decode cX6_claimable 28 = .ok (.iadd, 1) := by decide +kernel
theorem dX6_claimable_29 : decode cX6_claimable 29 = .ok (.istore_n 2, 1) := by decide +kernel
theorem dX6_claimable_30 : decode cX6_claimable 30 = .ok (.iinc 3 1, 3) := by decide +kernel
theorem dX6_claimable_33 : decode cX6_claimable 33 = .ok (.goto (-29), 3) := by decide +kernel
theorem dX6_claimable_36 : decode cX6_claimable 36 = .ok (.iload_n 2, 1) := by decide +kernel
theorem dX6_claimable_37 : decode cX6_claimable 37 = .ok (.ireturn, 1) := by decide +kernel
theorem dX6_goHook_0 : decode cX6_goHook 0 = .ok (.aload_n 0, 1) := by decide +kernel
theorem dX6_goHook_1 : decode cX6_goHook 1 = .ok (.sipush 134, 3) := by decide +kernel
theorem dX6_goHook_4 : decode cX6_goHook 4 = .ok (.iconst 3, 1) := by decide +kernel
theorem dX6_goHook_5 : decode cX6_goHook 5 = .ok (.iload_n 1, 1) := by decide +kernel
theorem dX6_goHook_6 : decode cX6_goHook 6 = .ok (.imul, 1) := by decide +kernel
theorem dX6_goHook_7 : decode cX6_goHook 7 = .ok (.iadd, 1) := by decide +kernel
theorem dX6_goHook_8 : decode cX6_goHook 8 = .ok (.iconst 1, 1) := by decide +kernel
theorem dX6_goHook_9 : decode cX6_goHook 9 = .ok (.iadd, 1) := by decide +kernel
theorem dX6_goHook_10 : decode cX6_goHook 10 = .ok (.iload_n 2, 1) := by decide +kernel
theorem dX6_goHook_11 : decode cX6_goHook 11 = .ok (.iastore, 1) := by decide +kernel
theorem dX6_goHook_12 : decode cX6_goHook 12 = .ok (.aload_n 0, 1) := by decide +kernel
theorem dX6_goHook_13 : decode cX6_goHook 13 = .ok (.sipush 134, 3) := by decide +kernel
theorem dX6_goHook_16 : decode cX6_goHook 16 = .ok (.iconst 3, 1) := by decide +kernel
theorem dX6_goHook_17 : decode cX6_goHook 17 = .ok (.iload_n 1, 1) := by decide +kernel
theorem dX6_goHook_18 : decode cX6_goHook 18 = .ok (.imul, 1) := by decide +kernel
theorem dX6_goHook_19 : decode cX6_goHook 19 = .ok (.iadd, 1) := by decide +kernel
theorem dX6_goHook_20 : decode cX6_goHook 20 = .ok (.iconst 2, 1) := by decide +kernel
theorem dX6_goHook_21 : decode cX6_goHook 21 = .ok (.iadd, 1) := by decide +kernel
theorem dX6_goHook_22 : decode cX6_goHook 22 = .ok (.iload_n 3, 1) := by decide +kernel
theorem dX6_goHook_23 : decode cX6_goHook 23 = .ok (.iastore, 1) := by decide +kernel
theorem dX6_goHook_24 : decode cX6_goHook 24 = .ok (.aload_n 0, 1) := by decide +kernel
theorem dX6_goHook_25 : decode cX6_goHook 25 = .ok (.iload_n 1, 1) := by decide +kernel
theorem dX6_goHook_26 : decode cX6_goHook 26 = .ok (.invokestatic 105, 3) := by decide +kernel
theorem dX6_goHook_29 : decode cX6_goHook 29 = .ok (.ireturn, 1) := by decide +kernel
theorem dX6_addGutter_0 : decode cX6_addGutter 0 = .ok (.iconst 4, 1) := by decide +kernel
theorem dX6_addGutter_1 : decode cX6_addGutter 1 = .ok (.aload_n 0, 1) := by decide +kernel
theorem dX6_addGutter_2 : decode cX6_addGutter 2 = .ok (.sipush 146, 3) := by decide +kernel
theorem dX6_addGutter_5 : decode cX6_addGutter 5 = .ok (.iaload, 1) := by decide +kernel
theorem dX6_addGutter_6 : decode cX6_addGutter 6 = .ok (.imul, 1) := by decide +kernel
theorem dX6_addGutter_7 : decode cX6_addGutter 7 = .ok (.istore 5, 2) := by decide +kernel
theorem dX6_addGutter_9 : decode cX6_addGutter 9 = .ok (.aload_n 0, 1) := by decide +kernel
theorem dX6_addGutter_10 : decode cX6_addGutter 10 = .ok (.sipush 146, 3) := by decide +kernel
theorem dX6_addGutter_13 : decode cX6_addGutter 13 = .ok (.iaload, 1) := by decide +kernel
theorem dX6_addGutter_14 : decode cX6_addGutter 14 = .ok (.ifCond .ne 7, 3) := by decide +kernel
theorem dX6_addGutter_17 : decode cX6_addGutter 17 = .ok (.iconst 1, 1) := by decide +kernel
theorem dX6_addGutter_18 : decode cX6_addGutter 18 = .ok (.goto 4, 3) := by decide +kernel
theorem dX6_addGutter_21 : decode cX6_addGutter 21 = .ok (.iconst 0, 1) := by decide +kernel
theorem dX6_addGutter_22 : decode cX6_addGutter 22 = .ok (.istore 6, 2) := by decide +kernel
theorem dX6_addGutter_24 : decode cX6_addGutter 24 = .ok (.aload_n 0, 1) := by decide +kernel
theorem dX6_addGutter_25 : decode cX6_addGutter 25 = .ok (.iload 5, 2) := by decide +kernel
theorem dX6_addGutter_27 : decode cX6_addGutter 27 = .ok (.iconst 0, 1) := by decide +kernel
theorem dX6_addGutter_28 : decode cX6_addGutter 28 = .ok (.iadd, 1) := by decide +kernel
theorem dX6_addGutter_29 : decode cX6_addGutter 29 = .ok (.iload_n 1, 1) := by decide +kernel
theorem dX6_addGutter_30 : decode cX6_addGutter 30 = .ok (.iastore, 1) := by decide +kernel
theorem dX6_addGutter_31 : decode cX6_addGutter 31 = .ok (.aload_n 0, 1) := by decide +kernel
theorem dX6_addGutter_32 : decode cX6_addGutter 32 = .ok (.iload 5, 2) := by decide +kernel
theorem dX6_addGutter_34 : decode cX6_addGutter 34 = .ok (.iconst 1, 1) := by decide +kernel
theorem dX6_addGutter_35 : decode cX6_addGutter 35 = .ok (.iadd, 1) := by decide +kernel
theorem dX6_addGutter_36 : decode cX6_addGutter 36 = .ok (.iload_n 2, 1) := by decide +kernel
theorem dX6_addGutter_37 : decode cX6_addGutter 37 = .ok (.iastore, 1) := by decide +kernel
theorem dX6_addGutter_38 : decode cX6_addGutter 38 = .ok (.aload_n 0, 1) := by decide +kernel
theorem dX6_addGutter_39 : decode cX6_addGutter 39 = .ok (.iload 5, 2) := by decide +kernel
theorem dX6_addGutter_41 : decode cX6_addGutter 41 = .ok (.iconst 2, 1) := by decide +kernel
theorem dX6_addGutter_42 : decode cX6_addGutter 42 = .ok (.iadd, 1) := by decide +kernel
theorem dX6_addGutter_43 : decode cX6_addGutter 43 = .ok (.iload 6, 2) := by decide +kernel
theorem dX6_addGutter_45 : decode cX6_addGutter 45 = .ok (.ifCond .eq 7, 3) := by decide +kernel
theorem dX6_addGutter_48 : decode cX6_addGutter 48 = .ok (.iconst (-1), 1) := by decide +kernel
theorem dX6_addGutter_49 : decode cX6_addGutter 49 = .ok (.goto 4, 3) := by decide +kernel
theorem dX6_addGutter_52 : decode cX6_addGutter 52 = .ok (.iload_n 3, 1) := by decide +kernel
theorem dX6_addGutter_53 : decode cX6_addGutter 53 = .ok (.iastore, 1) := by decide +kernel
theorem dX6_addGutter_54 : decode cX6_addGutter 54 = .ok (.aload_n 0, 1) := by decide +kernel
theorem dX6_addGutter_55 : decode cX6_addGutter 55 = .ok (.iload 5, 2) := by decide +kernel
theorem dX6_addGutter_57 : decode cX6_addGutter 57 = .ok (.iconst 3, 1) := by decide +kernel
theorem dX6_addGutter_58 : decode cX6_addGutter 58 = .ok (.iadd, 1) := by decide +kernel
theorem dX6_addGutter_59 : decode cX6_addGutter 59 = .ok (.iload 6, 2) := by decide +kernel
theorem dX6_addGutter_61 : decode cX6_addGutter 61 = .ok (.ifCond .eq 7, 3) := by decide +kernel
theorem dX6_addGutter_64 : decode cX6_addGutter 64 = .ok (.iconst (-1), 1) := by decide +kernel
theorem dX6_addGutter_65 : decode cX6_addGutter 65 = .ok (.goto 5, 3) := by decide +kernel
theorem dX6_addGutter_68 : decode cX6_addGutter 68 = .ok (.iload 4, 2) := by decide +kernel
theorem dX6_addGutter_70 : decode cX6_addGutter 70 = .ok (.iastore, 1) := by decide +kernel
theorem dX6_addGutter_71 : decode cX6_addGutter 71 = .ok (.aload_n 0, 1) := by decide +kernel
theorem dX6_addGutter_72 : decode cX6_addGutter 72 = .ok (.sipush 146, 3) := by decide +kernel
theorem dX6_addGutter_75 : decode cX6_addGutter 75 = .ok (.dup2, 1) := by decide +kernel
theorem dX6_addGutter_76 : decode cX6_addGutter 76 = .ok (.iaload, 1) := by decide +kernel
theorem dX6_addGutter_77 : decode cX6_addGutter 77 = .ok (.iconst 1, 1) := by decide +kernel
theorem dX6_addGutter_78 : decode cX6_addGutter 78 = .ok (.iadd, 1) := by decide +kernel
theorem dX6_addGutter_79 : decode cX6_addGutter 79 = .ok (.iastore, 1) := by decide +kernel
theorem dX6_addGutter_80 : decode cX6_addGutter 80 = .ok (.aload_n 0, 1) := by decide +kernel
theorem dX6_addGutter_81 : decode cX6_addGutter 81 = .ok (.sipush 146, 3) := by decide +kernel
theorem dX6_addGutter_84 : decode cX6_addGutter 84 = .ok (.iaload, 1) := by decide +kernel
theorem dX6_addGutter_85 : decode cX6_addGutter 85 = .ok (.iconst 1, 1) := by decide +kernel
theorem dX6_addGutter_86 : decode cX6_addGutter 86 = .ok (.isub, 1) := by decide +kernel
theorem dX6_addGutter_87 : decode cX6_addGutter 87 = .ok (.ireturn, 1) := by decide +kernel
theorem dX6_addBoat_0 : decode cX6_addBoat 0 = .ok (.aload_n 0, 1) := by decide +kernel
theorem dX6_addBoat_1 : decode cX6_addBoat 1 = .ok (.sipush 147, 3) := by decide +kernel
theorem dX6_addBoat_4 : decode cX6_addBoat 4 = .ok (.iaload, 1) := by decide +kernel
theorem dX6_addBoat_5 : decode cX6_addBoat 5 = .ok (.invokestatic 60, 3) := by decide +kernel
theorem dX6_addBoat_8 : decode cX6_addBoat 8 = .ok (.istore 4, 2) := by decide +kernel
theorem dX6_addBoat_10 : decode cX6_addBoat 10 = .ok (.iconst 0, 1) := by decide +kernel
theorem dX6_addBoat_11 : decode cX6_addBoat 11 = .ok (.istore 5, 2) := by decide +kernel
theorem dX6_addBoat_13 : decode cX6_addBoat 13 = .ok (.iload 5, 2) := by decide +kernel
theorem dX6_addBoat_15 : decode cX6_addBoat 15 = .ok (.bipush 10, 2) := by decide +kernel
theorem dX6_addBoat_17 : decode cX6_addBoat 17 = .ok (.if_icmp .ge 17, 3) := by decide +kernel
theorem dX6_addBoat_20 : decode cX6_addBoat 20 = .ok (.aload_n 0, 1) := by decide +kernel
theorem dX6_addBoat_21 : decode cX6_addBoat 21 = .ok (.iload 4, 2) := by decide +kernel
theorem dX6_addBoat_23 : decode cX6_addBoat 23 = .ok (.iload 5, 2) := by decide +kernel
theorem dX6_addBoat_25 : decode cX6_addBoat 25 = .ok (.iadd, 1) := by decide +kernel
theorem dX6_addBoat_26 : decode cX6_addBoat 26 = .ok (.iconst 0, 1) := by decide +kernel
theorem dX6_addBoat_27 : decode cX6_addBoat 27 = .ok (.iastore, 1) := by decide +kernel
theorem dX6_addBoat_28 : decode cX6_addBoat 28 = .ok (.iinc 5 1, 3) := by decide +kernel
theorem dX6_addBoat_31 : decode cX6_addBoat 31 = .ok (.goto (-18), 3) := by decide +kernel
theorem dX6_addBoat_34 : decode cX6_addBoat 34 = .ok (.aload_n 0, 1) := by decide +kernel
theorem dX6_addBoat_35 : decode cX6_addBoat 35 = .ok (.iload 4, 2) := by decide +kernel
theorem dX6_addBoat_37 : decode cX6_addBoat 37 = .ok (.iconst 0, 1) := by decide +kernel
theorem dX6_addBoat_38 : decode cX6_addBoat 38 = .ok (.iadd, 1) := by decide +kernel
theorem dX6_addBoat_39 : decode cX6_addBoat 39 = .ok (.iload_n 1, 1) := by decide +kernel
theorem dX6_addBoat_40 : decode cX6_addBoat 40 = .ok (.iastore, 1) := by decide +kernel
theorem dX6_addBoat_41 : decode cX6_addBoat 41 = .ok (.aload_n 0, 1) := by decide +kernel
theorem dX6_addBoat_42 : decode cX6_addBoat 42 = .ok (.iload 4, 2) := by decide +kernel
theorem dX6_addBoat_44 : decode cX6_addBoat 44 = .ok (.iconst 1, 1) := by decide +kernel
theorem dX6_addBoat_45 : decode cX6_addBoat 45 = .ok (.iadd, 1) := by decide +kernel
theorem dX6_addBoat_46 : decode cX6_addBoat 46 = .ok (.iload_n 2, 1) := by decide +kernel
theorem dX6_addBoat_47 : decode cX6_addBoat 47 = .ok (.iastore, 1) := by decide +kernel
theorem dX6_addBoat_48 : decode cX6_addBoat 48 = .ok (.aload_n 0, 1) := by decide +kernel
theorem dX6_addBoat_49 : decode cX6_addBoat 49 = .ok (.iload 4, 2) := by decide +kernel
theorem dX6_addBoat_51 : decode cX6_addBoat 51 = .ok (.iconst 2, 1) := by decide +kernel
theorem dX6_addBoat_52 : decode cX6_addBoat 52 = .ok (.iadd, 1) := by decide +kernel
theorem dX6_addBoat_53 : decode cX6_addBoat 53 = .ok (.iload_n 3, 1) := by decide +kernel
theorem dX6_addBoat_54 : decode cX6_addBoat 54 = .ok (.iastore, 1) := by decide +kernel
theorem dX6_addBoat_55 : decode cX6_addBoat 55 = .ok (.aload_n 0, 1) := by decide +kernel
theorem dX6_addBoat_56 : decode cX6_addBoat 56 = .ok (.sipush 147, 3) := by decide +kernel
theorem dX6_addBoat_59 : decode cX6_addBoat 59 = .ok (.dup2, 1) := by decide +kernel
theorem dX6_addBoat_60 : decode cX6_addBoat 60 = .ok (.iaload, 1) := by decide +kernel
theorem dX6_addBoat_61 : decode cX6_addBoat 61 = .ok (.iconst 1, 1) := by decide +kernel
theorem dX6_addBoat_62 : decode cX6_addBoat 62 = .ok (.iadd, 1) := by decide +kernel
theorem dX6_addBoat_63 : decode cX6_addBoat 63 = .ok (.iastore, 1) := by decide +kernel
theorem dX6_addBoat_64 : decode cX6_addBoat 64 = .ok (.aload_n 0, 1) := by decide +kernel
theorem dX6_addBoat_65 : decode cX6_addBoat 65 = .ok (.sipush 147, 3) := by decide +kernel
theorem dX6_addBoat_68 : decode cX6_addBoat 68 = .ok (.iaload, 1) := by decide +kernel
theorem dX6_addBoat_69 : decode cX6_addBoat 69 = .ok (.iconst 1, 1) := by decide +kernel
theorem dX6_addBoat_70 : decode cX6_addBoat 70 = .ok (.isub, 1) := by decide +kernel
theorem dX6_addBoat_71 : decode cX6_addBoat 71 = .ok (.ireturn, 1) := by decide +kernel
theorem dX6_goLaunch_0 : decode cX6_goLaunch 0 = .ok (.aload_n 0, 1) := by decide +kernel
theorem dX6_goLaunch_1 : decode cX6_goLaunch 1 = .ok (.iconst 1, 1) := by decide +kernel
theorem dX6_goLaunch_2 : decode cX6_goLaunch 2 = .ok (.invokestatic 82, 3) := by decide +kernel
theorem dX6_goLaunch_5 : decode cX6_goLaunch 5 = .ok (.aload_n 0, 1) := by decide +kernel
theorem dX6_goLaunch_6 : decode cX6_goLaunch 6 = .ok (.iconst 2, 1) := by decide +kernel
theorem dX6_goLaunch_7 : decode cX6_goLaunch 7 = .ok (.invokestatic 82, 3) := by decide +kernel
theorem dX6_goLaunch_10 : decode cX6_goLaunch 10 = .ok (.iadd, 1) := by decide +kernel
theorem dX6_goLaunch_11 : decode cX6_goLaunch 11 = .ok (.ifCond .ne 24, 3) := by decide +kernel
theorem dX6_goLaunch_14 : decode cX6_goLaunch 14 = .ok (.aload_n 0, 1) := by decide +kernel
theorem dX6_goLaunch_15 : decode cX6_goLaunch 15 = .ok (.sipush 149, 3) := by decide +kernel
theorem dX6_goLaunch_18 : decode cX6_goLaunch 18 = .ok (.dup2, 1) := by decide +kernel
theorem dX6_goLaunch_19 : decode cX6_goLaunch 19 = .ok (.iaload, 1) := by decide +kernel
theorem dX6_goLaunch_20 : decode cX6_goLaunch 20 = .ok (.iconst 1, 1) := by decide +kernel
theorem dX6_goLaunch_21 : decode cX6_goLaunch 21 = .ok (.iadd, 1) := by decide +kernel
theorem dX6_goLaunch_22 : decode cX6_goLaunch 22 = .ok (.iastore, 1) := by decide +kernel
theorem dX6_goLaunch_23 : decode cX6_goLaunch 23 = .ok (.aload_n 0, 1) := by decide +kernel
theorem dX6_goLaunch_24 : decode cX6_goLaunch 24 = .ok (.sipush 150, 3) := by decide +kernel
theorem dX6_goLaunch_27 : decode cX6_goLaunch 27 = .ok (.iconst 1, 1) := by decide +kernel
theorem dX6_goLaunch_28 : decode cX6_goLaunch 28 = .ok (.iastore, 1) := by decide +kernel
theorem dX6_goLaunch_29 : decode cX6_goLaunch 29 = .ok (.aload_n 0, 1) := by decide +kernel
theorem dX6_goLaunch_30 : decode cX6_goLaunch 30 = .ok (.sipush 153, 3) := by decide +kernel
theorem dX6_goLaunch_33 : decode cX6_goLaunch 33 = .ok (.iconst 0, 1) := by decide +kernel
theorem dX6_goLaunch_34 : decode cX6_goLaunch 34 = .ok (.iastore, 1) := by decide +kernel
theorem dX6_goLaunch_35 : decode cX6_goLaunch 35 = .ok (.aload_n 0, 1) := by decide +kernel
theorem dX6_goLaunch_36 : decode cX6_goLaunch 36 = .ok (.iload_n 1, 1) := by decide +kernel
theorem dX6_goLaunch_37 : decode cX6_goLaunch 37 = .ok (.invokestatic 60, 3) := by decide +kernel
theorem dX6_goLaunch_40 : decode cX6_goLaunch 40 = .ok (.iconst 3, 1) := by decide +kernel
theorem dX6_goLaunch_41 : decode cX6_goLaunch 41 = .ok (.iadd, 1) := by decide +kernel
theorem dX6_goLaunch_42 : decode cX6_goLaunch 42 = .ok (.iconst 1, 1) := by decide +kernel
theorem dX6_goLaunch_43 : decode cX6_goLaunch 43 = .ok (.iastore, 1) := by decide +kernel
theorem dX6_goLaunch_44 : decode cX6_goLaunch 44 = .ok (.aload_n 0, 1) := by decide +kernel
theorem dX6_goLaunch_45 : decode cX6_goLaunch 45 = .ok (.iload_n 1, 1) := by decide +kernel
theorem dX6_goLaunch_46 : decode cX6_goLaunch 46 = .ok (.invokestatic 60, 3) := by decide +kernel
theorem dX6_goLaunch_49 : decode cX6_goLaunch 49 = .ok (.iconst 4, 1) := by decide +kernel
theorem dX6_goLaunch_50 : decode cX6_goLaunch 50 = .ok (.iadd, 1) := by decide +kernel
theorem dX6_goLaunch_51 : decode cX6_goLaunch 51 = .ok (.iload_n 2, 1) := by decide +kernel
theorem dX6_goLaunch_52 : decode cX6_goLaunch 52 = .ok (.iastore, 1) := by decide +kernel
theorem dX6_goLaunch_53 : decode cX6_goLaunch 53 = .ok (.aload_n 0, 1) := by decide +kernel
theorem dX6_goLaunch_54 : decode cX6_goLaunch 54 = .ok (.iload_n 1, 1) := by decide +kernel
theorem dX6_goLaunch_55 : decode cX6_goLaunch 55 = .ok (.invokestatic 60, 3) := by decide +kernel
theorem dX6_goLaunch_58 : decode cX6_goLaunch 58 = .ok (.iconst 5, 1) := by decide +kernel
theorem dX6_goLaunch_59 : decode cX6_goLaunch 59 = .ok (.iadd, 1) := by decide +kernel
theorem dX6_goLaunch_60 : decode cX6_goLaunch 60 = .ok (.iconst 0, 1) := by decide +kernel
theorem dX6_goLaunch_61 : decode cX6_goLaunch 61 = .ok (.iastore, 1) := by decide +kernel
theorem dX6_goLaunch_62 : decode cX6_goLaunch 62 = .ok (.aload_n 0, 1) := by decide +kernel
theorem dX6_goLaunch_63 : decode cX6_goLaunch 63 = .ok (.iload_n 1, 1) := by decide +kernel
theorem dX6_goLaunch_64 : decode cX6_goLaunch 64 = .ok (.invokestatic 60, 3) := by decide +kernel
theorem dX6_goLaunch_67 : decode cX6_goLaunch 67 = .ok (.bipush 6, 2) := by decide +kernel
theorem dX6_goLaunch_69 : decode cX6_goLaunch 69 = .ok (.iadd, 1) := by decide +kernel
theorem dX6_goLaunch_70 : decode cX6_goLaunch 70 = .ok (.iconst 0, 1) := by decide +kernel
theorem dX6_goLaunch_71 : decode cX6_goLaunch 71 = .ok (.iastore, 1) := by decide +kernel
theorem dX6_goLaunch_72 : decode cX6_goLaunch 72 = .ok (.aload_n 0, 1) := by decide +kernel
theorem dX6_goLaunch_73 : decode cX6_goLaunch 73 = .ok (.iload_n 2, 1) := by decide +kernel
theorem dX6_goLaunch_74 : decode cX6_goLaunch 74 = .ok (.iconst 0, 1) := by decide +kernel
theorem dX6_goLaunch_75 : decode cX6_goLaunch 75 = .ok (.invokestatic 108, 3) := by decide +kernel
theorem dX6_goLaunch_78 : decode cX6_goLaunch 78 = .ok (.ireturn, 1) := by decide +kernel
theorem dX6_put_0 : decode cX6_put 0 = .ok (.aload_n 0, 1) := by decide +kernel
theorem dX6_put_1 : decode cX6_put 1 = .ok (.iload_n 1, 1) := by decide +kernel
theorem dX6_put_2 : decode cX6_put 2 = .ok (.iaload, 1) := by decide +kernel
theorem dX6_put_3 : decode cX6_put 3 = .ok (.istore_n 3, 1) := by decide +kernel
theorem dX6_put_4 : decode cX6_put 4 = .ok (.aload_n 0, 1) := by decide +kernel
theorem dX6_put_5 : decode cX6_put 5 = .ok (.iload_n 1, 1) := by decide +kernel
theorem dX6_put_6 : decode cX6_put 6 = .ok (.iload_n 2, 1) := by decide +kernel
theorem dX6_put_7 : decode cX6_put 7 = .ok (.iastore, 1) := by decide +kernel
theorem dX6_put_8 : decode cX6_put 8 = .ok (.iload_n 3, 1) := by decide +kernel
theorem dX6_put_9 : decode cX6_put 9 = .ok (.ireturn, 1) := by decide +kernel
theorem dX6_flowsInto_0 : decode cX6_flowsInto 0 = .ok (.aload_n 0, 1) := by decide +kernel
theorem dX6_flowsInto_1 : decode cX6_flowsInto 1 = .ok (.sipush 146, 3) := by decide +kernel
theorem dX6_flowsInto_4 : decode cX6_flowsInto 4 = .ok (.iaload, 1) := by decide +kernel
theorem dX6_flowsInto_5 : decode cX6_flowsInto 5 = .ok (.ifCond .eq 12, 3) := by decide +kernel
theorem dX6_flowsInto_8 : decode cX6_flowsInto 8 = .ok (.aload_n 0, 1) := by decide +kernel
theorem dX6_flowsInto_9 : decode cX6_flowsInto 9 = .ok (.iload_n 1, 1) := by decide +kernel
theorem dX6_flowsInto_10 : decode cX6_flowsInto 10 = .ok (.iload_n 2, 1) := by decide +kernel
theorem dX6_flowsInto_11 : decode cX6_flowsInto 11 = .ok (.invokestatic 111, 3) := by decide +kernel
theorem dX6_flowsInto_14 : decode cX6_flowsInto 14 = .ok (.ifCond .eq 7, 3) := by decide +kernel
theorem dX6_flowsInto_17 : decode cX6_flowsInto 17 = .ok (.iconst 1, 1) := by decide +kernel
theorem dX6_flowsInto_18 : decode cX6_flowsInto 18 = .ok (.goto 4, 3) := by decide +kernel
theorem dX6_flowsInto_21 : decode cX6_flowsInto 21 = .ok (.iconst 0, 1) := by decide +kernel
theorem dX6_flowsInto_22 : decode cX6_flowsInto 22 = .ok (.ireturn, 1) := by decide +kernel
theorem dX6_remember_0 : decode cX6_remember 0 = .ok (.aload_n 0, 1) := by decide +kernel
theorem dX6_remember_1 : decode cX6_remember 1 = .ok (.getfield 114, 3) := by decide +kernel
theorem dX6_remember_4 : decode cX6_remember 4 = .ok (.bipush 14, 2) := by decide +kernel
theorem dX6_remember_6 : decode cX6_remember 6 = .ok (.if_icmp .ne 44, 3) := by decide +kernel
theorem dX6_remember_9 : decode cX6_remember 9 = .ok (.iconst 0, 1) := by decide +kernel
theorem dX6_remember_10 : decode cX6_remember 10 = .ok (.istore_n 1, 1) := by decide +kernel
theorem dX6_remember_11 : decode cX6_remember 11 = .ok (.iload_n 1, 1) := by decide +kernel
theorem dX6_remember_12 : decode cX6_remember 12 = .ok (.sipush 2041, 3) := by decide +kernel
theorem dX6_remember_15 : decode cX6_remember 15 = .ok (.if_icmp .ge 25, 3) := by decide +kernel
theorem dX6_remember_18 : decode cX6_remember 18 = .ok (.aload_n 0, 1) := by decide +kernel
theorem dX6_remember_19 : decode cX6_remember 19 = .ok (.getfield 19, 3) := by decide +kernel
theorem dX6_remember_22 : decode cX6_remember 22 = .ok (.iload_n 1, 1) := by decide +kernel
theorem dX6_remember_23 : decode cX6_remember 23 = .ok (.aload_n 0, 1) := by decide +kernel
theorem dX6_remember_24 : decode cX6_remember 24 = .ok (.getfield 19, 3) := by decide +kernel
theorem dX6_remember_27 : decode cX6_remember 27 = .ok (.sipush 157, 3) := by decide +kernel
theorem dX6_remember_30 : decode cX6_remember 30 = .ok (.iload_n 1, 1) := by decide +kernel
theorem dX6_remember_31 : decode cX6_remember 31 = .ok (.iadd, 1) := by decide +kernel
theorem dX6_remember_32 : decode cX6_remember 32 = .ok (.iaload, 1) := by decide +kernel
theorem dX6_remember_33 : decode cX6_remember 33 = .ok (.iastore, 1) := by decide +kernel
theorem dX6_remember_34 : decode cX6_remember 34 = .ok (.iinc 1 1, 3) := by decide +kernel
theorem dX6_remember_37 : decode cX6_remember 37 = .ok (.goto (-26), 3) := by decide +kernel
theorem dX6_remember_40 : decode cX6_remember 40 = .ok (.aload_n 0, 1) := by decide +kernel
theorem dX6_remember_41 : decode cX6_remember 41 = .ok (.dup, 1) := by decide +kernel
theorem dX6_remember_42 : decode cX6_remember 42 = .ok (.getfield 114, 3) := by decide +kernel
theorem dX6_remember_45 : decode cX6_remember 45 = .ok (.iconst 1, 1) := by decide +kernel
theorem dX6_remember_46 : decode cX6_remember 46 = .ok (.isub, 1) := by decide +kernel
theorem dX6_remember_47 : decode cX6_remember 47 = .ok (.putfield 114, 3) := by decide +kernel
theorem dX6_remember_50 : decode cX6_remember 50 = .ok (.iconst 0, 1) := by decide +kernel
theorem dX6_remember_51 : decode cX6_remember 51 = .ok (.istore_n 1, 1) := by decide +kernel
theorem dX6_remember_52 : decode cX6_remember 52 = .ok (.iload_n 1, 1) := by decide +kernel
theorem dX6_remember_53 : decode cX6_remember 53 = .ok (.sipush 157, 3) := by decide +kernel
theorem dX6_remember_56 : decode cX6_remember 56 = .ok (.if_icmp .ge 30, 3) := by decide +kernel
theorem dX6_remember_59 : decode cX6_remember 59 = .ok (.aload_n 0, 1) := by decide +kernel
theorem dX6_remember_60 : decode cX6_remember 60 = .ok (.getfield 19, 3) := by decide +kernel
theorem dX6_remember_63 : decode cX6_remember 63 = .ok (.sipush 157, 3) := by decide +kernel
theorem dX6_remember_66 : decode cX6_remember 66 = .ok (.aload_n 0, 1) := by decide +kernel
theorem dX6_remember_67 : decode cX6_remember 67 = .ok (.getfield 114, 3) := by decide +kernel
theorem dX6_remember_70 : decode cX6_remember 70 = .ok (.imul, 1) := by decide +kernel
theorem dX6_remember_71 : decode cX6_remember 71 = .ok (.iload_n 1, 1) := by decide +kernel
theorem dX6_remember_72 : decode cX6_remember 72 = .ok (.iadd, 1) := by decide +kernel
theorem dX6_remember_73 : decode cX6_remember 73 = .ok (.aload_n 0, 1) := by decide +kernel
theorem dX6_remember_74 : decode cX6_remember 74 = .ok (.getfield 7, 3) := by decide +kernel
theorem dX6_remember_77 : decode cX6_remember 77 = .ok (.iload_n 1, 1) := by decide +kernel
theorem dX6_remember_78 : decode cX6_remember 78 = .ok (.iaload, 1) := by decide +kernel
theorem dX6_remember_79 : decode cX6_remember 79 = .ok (.iastore, 1) := by decide +kernel
theorem dX6_remember_80 : decode cX6_remember 80 = .ok (.iinc 1 1, 3) := by decide +kernel
theorem dX6_remember_83 : decode cX6_remember 83 = .ok (.goto (-31), 3) := by decide +kernel
theorem dX6_remember_86 : decode cX6_remember 86 = .ok (.aload_n 0, 1) := by decide +kernel
theorem dX6_remember_87 : decode cX6_remember 87 = .ok (.dup, 1) := by decide +kernel
theorem dX6_remember_88 : decode cX6_remember 88 = .ok (.getfield 114, 3) := by decide +kernel
theorem dX6_remember_91 : decode cX6_remember 91 = .ok (.iconst 1, 1) := by decide +kernel
theorem dX6_remember_92 : decode cX6_remember 92 = .ok (.iadd, 1) := by decide +kernel
theorem dX6_remember_93 : decode cX6_remember 93 = .ok (.putfield 114, 3) := by decide +kernel
theorem dX6_remember_96 : decode cX6_remember 96 = .ok (.return_, 1) := by decide +kernel
theorem dX6_append_0 : decode cX6_append 0 = .ok (.aload_n 0, 1) := by decide +kernel
theorem dX6_append_1 : decode cX6_append 1 = .ok (.iload_n 1, 1) := by decide +kernel
theorem dX6_append_2 : decode cX6_append 2 = .ok (.i2l, 1) := by decide +kernel
theorem dX6_append_3 : decode cX6_append 3 = .ok (.lconst 0, 1) := by decide +kernel
theorem dX6_append_4 : decode cX6_append 4 = .ok (.ldc2_w 117, 3) := by decide +kernel
theorem dX6_append_7 : decode cX6_append 7 = .ok (.invokestatic 42, 3) := by decide +kernel
theorem dX6_append_10 : decode cX6_append 10 = .ok (.ifCond .ne 7, 3) := by decide +kernel
theorem dX6_append_13 : decode cX6_append 13 = .ok (.iconst 1, 1) := by decide +kernel
theorem dX6_append_14 : decode cX6_append 14 = .ok (.goto 17, 3) := by decide +kernel
theorem dX6_append_17 : decode cX6_append 17 = .ok (.aload_n 0, 1) := by decide +kernel
theorem dX6_append_18 : decode cX6_append 18 = .ok (.getfield 119, 3) := by decide +kernel
theorem dX6_append_21 : decode cX6_append 21 = .ok (.bipush 120, 2) := by decide +kernel
theorem dX6_append_23 : decode cX6_append 23 = .ok (.if_icmp .ne 7, 3) := by decide +kernel
theorem dX6_append_26 : decode cX6_append 26 = .ok (.iconst 2, 1) := by decide +kernel
theorem dX6_append_27 : decode cX6_append 27 = .ok (.goto 4, 3) := by decide +kernel
theorem dX6_append_30 : decode cX6_append 30 = .ok (.iconst 0, 1) := by decide +kernel
theorem dX6_append_31 : decode cX6_append 31 = .ok (.invokevirtual 122, 3) := by decide +kernel
theorem dX6_append_34 : decode cX6_append 34 = .ok (.ifCond .eq 5, 3) := by decide +kernel
theorem dX6_append_37 : decode cX6_append 37 = .ok (.iconst 0, 1) := by decide +kernel
theorem dX6_append_38 : decode cX6_append 38 = .ok (.ireturn, 1) := by decide +kernel
theorem dX6_append_39 : decode cX6_append 39 = .ok (.aload_n 0, 1) := by decide +kernel
theorem dX6_append_40 : decode cX6_append 40 = .ok (.getfield 29, 3) := by decide +kernel
theorem dX6_append_43 : decode cX6_append 43 = .ok (.aload_n 0, 1) := by decide +kernel
theorem dX6_append_44 : decode cX6_append 44 = .ok (.getfield 119, 3) := by decide +kernel
theorem dX6_append_47 : decode cX6_append 47 = .ok (.iload_n 1, 1) := by decide +kernel
theorem dX6_append_48 : decode cX6_append 48 = .ok (.iastore, 1) := by decide +kernel
theorem dX6_append_49 : decode cX6_append 49 = .ok (.aload_n 0, 1) := by decide +kernel
theorem dX6_append_50 : decode cX6_append 50 = .ok (.dup, 1) := by decide +kernel
theorem dX6_append_51 : decode cX6_append 51 = .ok (.getfield 119, 3) := by decide +kernel
theorem dX6_append_54 : decode cX6_append 54 = .ok (.iconst 1, 1) := by decide +kernel
theorem dX6_append_55 : decode cX6_append 55 = .ok (.iadd, 1) := by decide +kernel
theorem dX6_append_56 : decode cX6_append 56 = .ok (.putfield 119, 3) := by decide +kernel
theorem dX6_append_59 : decode cX6_append 59 = .ok (.aload_n 0, 1) := by decide +kernel
theorem dX6_append_60 : decode cX6_append 60 = .ok (.getfield 119, 3) := by decide +kernel
theorem dX6_append_63 : decode cX6_append 63 = .ok (.ireturn, 1) := by decide +kernel
theorem dX6_clearText_0 : decode cX6_clearText 0 = .ok (.aload_n 0, 1) := by decide +kernel
theorem dX6_clearText_1 : decode cX6_clearText 1 = .ok (.iconst 0, 1) := by decide +kernel
theorem dX6_clearText_2 : decode cX6_clearText 2 = .ok (.putfield 36, 3) := by decide +kernel
theorem dX6_clearText_5 : decode cX6_clearText 5 = .ok (.aload_n 0, 1) := by decide +kernel
theorem dX6_clearText_6 : decode cX6_clearText 6 = .ok (.getfield 119, 3) := by decide +kernel
theorem dX6_clearText_9 : decode cX6_clearText 9 = .ok (.istore_n 1, 1) := by decide +kernel
theorem dX6_clearText_10 : decode cX6_clearText 10 = .ok (.aload_n 0, 1) := by decide +kernel
theorem dX6_clearText_11 : decode cX6_clearText 11 = .ok (.iconst 0, 1) := by decide +kernel
theorem dX6_clearText_12 : decode cX6_clearText 12 = .ok (.putfield 119, 3) := by decide +kernel
theorem dX6_clearText_15 : decode cX6_clearText 15 = .ok (.iload_n 1, 1) := by decide +kernel
theorem dX6_clearText_16 : decode cX6_clearText 16 = .ok (.ireturn, 1) := by decide +kernel
theorem dX6_here_0 : decode cX6_here 0 = .ok (.aload_n 0, 1) := by decide +kernel
theorem dX6_here_1 : decode cX6_here 1 = .ok (.getfield 126, 3) := by decide +kernel
theorem dX6_here_4 : decode cX6_here 4 = .ok (.aload_n 0, 1) := by decide +kernel
theorem dX6_here_5 : decode cX6_here 5 = .ok (.getfield 119, 3) := by decide +kernel
theorem dX6_here_8 : decode cX6_here 8 = .ok (.if_icmp .ge 15, 3) := by decide +kernel
theorem dX6_here_11 : decode cX6_here 11 = .ok (.aload_n 0, 1) := by decide +kernel
theorem dX6_here_12 : decode cX6_here 12 = .ok (.getfield 29, 3) := by decide +kernel
theorem dX6_here_15 : decode cX6_here 15 = .ok (.aload_n 0, 1) := by decide +kernel
theorem dX6_here_16 : decode cX6_here 16 = .ok (.getfield 126, 3) := by decide +kernel
theorem dX6_here_19 : decode cX6_here 19 = .ok (.iaload, 1) := by decide +kernel
theorem dX6_here_20 : decode cX6_here 20 = .ok (.goto 4, 3) := by decide +kernel
theorem dX6_here_23 : decode cX6_here 23 = .ok (.iconst (-1), 1) := by decide +kernel
theorem dX6_here_24 : decode cX6_here 24 = .ok (.ireturn, 1) := by decide +kernel
theorem dX6_take_0 : decode cX6_take 0 = .ok (.aload_n 0, 1) := by decide +kernel
theorem dX6_take_1 : decode cX6_take 1 = .ok (.aload_n 0, 1) := by decide +kernel
theorem dX6_take_2 : decode cX6_take 2 = .ok (.getfield 129, 3) := by decide +kernel
theorem dX6_take_5 : decode cX6_take 5 = .ok (.ifCond .eq 11, 3) := by decide +kernel
theorem dX6_take_8 : decode cX6_take 8 = .ok (.iload_n 1, 1) := by decide +kernel
theorem dX6_take_9 : decode cX6_take 9 = .ok (.ifCond .eq 7, 3) := by decide +kernel
theorem dX6_take_12 : decode cX6_take 12 = .ok (.iconst 1, 1) := by decide +kernel
theorem dX6_take_13 : decode cX6_take 13 = .ok (.goto 4, 3) := by decide +kernel
theorem dX6_take_16 : decode cX6_take 16 = .ok (.iconst 0, 1) := by decide +kernel
theorem dX6_take_17 : decode cX6_take 17 = .ok (.putfield 129, 3) := by decide +kernel
theorem dX6_take_20 : decode cX6_take 20 = .ok (.aload_n 0, 1) := by decide +kernel
theorem dX6_take_21 : decode cX6_take 21 = .ok (.dup, 1) := by decide +kernel
theorem dX6_take_22 : decode cX6_take 22 = .ok (.getfield 126, 3) := by decide +kernel
theorem dX6_take_25 : decode cX6_take 25 = .ok (.aload_n 0, 1) := by decide +kernel
theorem dX6_take_26 : decode cX6_take 26 = .ok (.getfield 129, 3) := by decide +kernel
theorem dX6_take_29 : decode cX6_take 29 = .ok (.ifCond .eq 7, 3) := by decide +kernel
theorem dX6_take_32 : decode cX6_take 32 = .ok (.iconst 1, 1) := by decide +kernel
theorem dX6_take_33 : decode cX6_take 33 = .ok (.goto 4, 3) := by decide +kernel
theorem dX6_take_36 : decode cX6_take 36 = .ok (.iconst 0, 1) := by decide +kernel
theorem dX6_take_37 : decode cX6_take 37 = .ok (.iadd, 1) := by decide +kernel
theorem dX6_take_38 : decode cX6_take 38 = .ok (.putfield 126, 3) := by decide +kernel
theorem dX6_take_41 : decode cX6_take 41 = .ok (.return_, 1) := by decide +kernel
theorem dX6_digit_0 : decode cX6_digit 0 = .ok (.aload_n 0, 1) := by decide +kernel
theorem dX6_digit_1 : decode cX6_digit 1 = .ok (.invokevirtual 133, 3) := by decide +kernel
theorem dX6_digit_4 : decode cX6_digit 4 = .ok (.bipush 48, 2) := by decide +kernel
theorem dX6_digit_6 : decode cX6_digit 6 = .ok (.isub, 1) := by decide +kernel
theorem dX6_digit_7 : decode cX6_digit 7 = .ok (.istore_n 3, 1) := by decide +kernel
theorem dX6_digit_8 : decode cX6_digit 8 = .ok (.aload_n 0, 1) := by decide +kernel
theorem dX6_digit_9 : decode cX6_digit 9 = .ok (.iload_n 3, 1) := by decide +kernel
theorem dX6_digit_10 : decode cX6_digit 10 = .ok (.i2l, 1) := by decide +kernel
theorem dX6_digit_11 : decode cX6_digit 11 = .ok (.iload_n 1, 1) := by decide +kernel
theorem dX6_digit_12 : decode cX6_digit 12 = .ok (.i2l, 1) := by decide +kernel
theorem dX6_digit_13 : decode cX6_digit 13 = .ok (.iload_n 2, 1) := by decide +kernel
theorem dX6_digit_14 : decode cX6_digit 14 = .ok (.i2l, 1) := by decide +kernel
theorem dX6_digit_15 : decode cX6_digit 15 = .ok (.invokestatic 42, 3) := by decide +kernel
theorem dX6_digit_18 : decode cX6_digit 18 = .ok (.invokevirtual 137, 3) := by decide +kernel
theorem dX6_digit_21 : decode cX6_digit 21 = .ok (.aload_n 0, 1) := by decide +kernel
theorem dX6_digit_22 : decode cX6_digit 22 = .ok (.getfield 129, 3) := by decide +kernel
theorem dX6_digit_25 : decode cX6_digit 25 = .ok (.ifCond .eq 7, 3) := by decide +kernel
theorem dX6_digit_28 : decode cX6_digit 28 = .ok (.iload_n 3, 1) := by decide +kernel
theorem dX6_digit_29 : decode cX6_digit 29 = .ok (.goto 4, 3) := by decide +kernel
theorem dX6_digit_32 : decode cX6_digit 32 = .ok (.iload_n 1, 1) := by decide +kernel
theorem dX6_digit_33 : decode cX6_digit 33 = .ok (.ireturn, 1) := by decide +kernel
theorem dX6_two_0 : decode cX6_two 0 = .ok (.aload_n 0, 1) := by decide +kernel
theorem dX6_two_1 : decode cX6_two 1 = .ok (.iload_n 1, 1) := by decide +kernel
theorem dX6_two_2 : decode cX6_two 2 = .ok (.bipush 10, 2) := by decide +kernel
theorem dX6_two_4 : decode cX6_two 4 = .ok (.idiv, 1) := by decide +kernel
theorem dX6_two_5 : decode cX6_two 5 = .ok (.iload_n 2, 1) := by decide +kernel
theorem dX6_two_6 : decode cX6_two 6 = .ok (.bipush 10, 2) := by decide +kernel
theorem dX6_two_8 : decode cX6_two 8 = .ok (.idiv, 1) := by decide +kernel
theorem dX6_two_9 : decode cX6_two 9 = .ok (.invokevirtual 141, 3) := by decide +kernel
theorem dX6_two_12 : decode cX6_two 12 = .ok (.istore_n 3, 1) := by decide +kernel
theorem dX6_two_13 : decode cX6_two 13 = .ok (.bipush 10, 2) := by decide +kernel
theorem dX6_two_15 : decode cX6_two 15 = .ok (.iload_n 3, 1) := by decide +kernel
theorem dX6_two_16 : decode cX6_two 16 = .ok (.imul, 1) := by decide +kernel
theorem dX6_two_17 : decode cX6_two 17 = .ok (.aload_n 0, 1) := by decide +kernel
theorem dX6_two_18 : decode cX6_two 18 = .ok (.iload_n 3, 1) := by decide +kernel
theorem dX6_two_19 : decode cX6_two 19 = .ok (.iload_n 1, 1) := by decide +kernel
theorem dX6_two_20 : decode cX6_two 20 = .ok (.bipush 10, 2) := by decide +kernel
theorem dX6_two_22 : decode cX6_two 22 = .ok (.idiv, 1) := by decide +kernel
theorem dX6_two_23 : decode cX6_two 23 = .ok (.if_icmp .ne 10, 3) := by decide +kernel
theorem dX6_two_26 : decode cX6_two 26 = .ok (.iload_n 1, 1) := by decide +kernel
theorem dX6_two_27 : decode cX6_two 27 = .ok (.bipush 10, 2) := by decide +kernel
theorem dX6_two_29 : decode cX6_two 29 = .ok (.irem, 1) := by decide +kernel
theorem dX6_two_30 : decode cX6_two 30 = .ok (.goto 4, 3) := by decide +kernel
theorem dX6_two_33 : decode cX6_two 33 = .ok (.iconst 0, 1) := by decide +kernel
theorem dX6_two_34 : decode cX6_two 34 = .ok (.iload_n 3, 1) := by decide +kernel
theorem dX6_two_35 : decode cX6_two 35 = .ok (.iload_n 2, 1) := by decide +kernel
theorem dX6_two_36 : decode cX6_two 36 = .ok (.bipush 10, 2) := by decide +kernel
theorem dX6_two_38 : decode cX6_two 38 = .ok (.idiv, 1) := by decide +kernel
theorem dX6_two_39 : decode cX6_two 39 = .ok (.if_icmp .ne 10, 3) := by decide +kernel
theorem dX6_two_42 : decode cX6_two 42 = .ok (.iload_n 2, 1) := by decide +kernel
theorem dX6_two_43 : decode cX6_two 43 = .ok (.bipush 10, 2) := by decide +kernel
theorem dX6_two_45 : decode cX6_two 45 = .ok (.irem, 1) := by decide +kernel
theorem dX6_two_46 : decode cX6_two 46 = .ok (.goto 5, 3) := by decide +kernel
theorem dX6_two_49 : decode cX6_two 49 = .ok (.bipush 9, 2) := by decide +kernel
theorem dX6_two_51 : decode cX6_two 51 = .ok (.invokevirtual 141, 3) := by decide +kernel
theorem dX6_two_54 : decode cX6_two 54 = .ok (.iadd, 1) := by decide +kernel
theorem dX6_two_55 : decode cX6_two 55 = .ok (.ireturn, 1) := by decide +kernel
theorem dX6_goes_0 : decode cX6_goes 0 = .ok (.aload_n 0, 1) := by decide +kernel
theorem dX6_goes_1 : decode cX6_goes 1 = .ok (.dup, 1) := by decide +kernel
theorem dX6_goes_2 : decode cX6_goes 2 = .ok (.getfield 145, 3) := by decide +kernel
theorem dX6_goes_5 : decode cX6_goes 5 = .ok (.aload_n 0, 1) := by decide +kernel
theorem dX6_goes_6 : decode cX6_goes 6 = .ok (.getfield 129, 3) := by decide +kernel
theorem dX6_goes_9 : decode cX6_goes 9 = .ok (.ifCond .eq 11, 3) := by decide +kernel
theorem dX6_goes_12 : decode cX6_goes 12 = .ok (.iload_n 1, 1) := by decide +kernel
theorem dX6_goes_13 : decode cX6_goes 13 = .ok (.ifCond .ne 7, 3) := by decide +kernel
theorem dX6_goes_16 : decode cX6_goes 16 = .ok (.iconst 1, 1) := by decide +kernel
theorem dX6_goes_17 : decode cX6_goes 17 = .ok (.goto 4, 3) := by decide +kernel
theorem dX6_goes_20 : decode cX6_goes 20 = .ok (.iconst 0, 1) := by decide +kernel
theorem dX6_goes_21 : decode cX6_goes 21 = .ok (.iadd, 1) := by decide +kernel
theorem dX6_goes_22 : decode cX6_goes 22 = .ok (.putfield 145, 3) := by decide +kernel
theorem dX6_goes_25 : decode cX6_goes 25 = .ok (.aload_n 0, 1) := by decide +kernel
theorem dX6_goes_26 : decode cX6_goes 26 = .ok (.getfield 129, 3) := by decide +kernel
theorem dX6_goes_29 : decode cX6_goes 29 = .ok (.ifCond .eq 11, 3) := by decide +kernel
theorem dX6_goes_32 : decode cX6_goes 32 = .ok (.iload_n 1, 1) := by decide +kernel
theorem dX6_goes_33 : decode cX6_goes 33 = .ok (.ifCond .eq 7, 3) := by decide +kernel
theorem dX6_goes_36 : decode cX6_goes 36 = .ok (.iconst 1, 1) := by decide +kernel
theorem dX6_goes_37 : decode cX6_goes 37 = .ok (.goto 4, 3) := by decide +kernel
theorem dX6_goes_40 : decode cX6_goes 40 = .ok (.iconst 0, 1) := by decide +kernel
theorem dX6_goes_41 : decode cX6_goes 41 = .ok (.ireturn, 1) := by decide +kernel
theorem dX6_readGutter_0 : decode cX6_readGutter 0 = .ok (.aload_n 0, 1) := by decide +kernel
theorem dX6_readGutter_1 : decode cX6_readGutter 1 = .ok (.iconst 4, 1) := by decide +kernel
theorem dX6_readGutter_2 : decode cX6_readGutter 2 = .ok (.bipush 40, 2) := by decide +kernel
theorem dX6_readGutter_4 : decode cX6_readGutter 4 = .ok (.invokevirtual 148, 3) := by decide +kernel
theorem dX6_readGutter_7 : decode cX6_readGutter 7 = .ok (.istore_n 1, 1) := by decide +kernel
theorem dX6_readGutter_8 : decode cX6_readGutter 8 = .ok (.aload_n 0, 1) := by decide +kernel
theorem dX6_readGutter_9 : decode cX6_readGutter 9 = .ok (.iconst 0, 1) := by decide +kernel
theorem dX6_readGutter_10 : decode cX6_readGutter 10 = .ok (.iconst 5, 1) := by decide +kernel
theorem dX6_readGutter_11 : decode cX6_readGutter 11 = .ok (.invokevirtual 141, 3) := by decide +kernel
theorem dX6_readGutter_14 : decode cX6_readGutter 14 = .ok (.istore_n 2, 1) := by decide +kernel
theorem dX6_readGutter_15 : decode cX6_readGutter 15 = .ok (.aload_n 0, 1) := by decide +kernel
theorem dX6_readGutter_16 : decode cX6_readGutter 16 = .ok (.iconst 0, 1) := by decide +kernel
theorem dX6_readGutter_17 : decode cX6_readGutter 17 = .ok (.iconst 5, 1) := by decide +kernel
theorem dX6_readGutter_18 : decode cX6_readGutter 18 = .ok (.invokevirtual 141, 3) := by decide +kernel
theorem dX6_readGutter_21 : decode cX6_readGutter 21 = .ok (.istore_n 3, 1) := by decide +kernel
theorem dX6_readGutter_22 : decode cX6_readGutter 22 = .ok (.aload_n 0, 1) := by decide +kernel
theorem dX6_readGutter_23 : decode cX6_readGutter 23 = .ok (.iconst 0, 1) := by decide +kernel
theorem dX6_readGutter_24 : decode cX6_readGutter 24 = .ok (.bipush 39, 2) := by decide +kernel
theorem dX6_readGutter_26 : decode cX6_readGutter 26 = .ok (.invokevirtual 148, 3) := by decide +kernel
theorem dX6_readGutter_29 : decode cX6_readGutter 29 = .ok (.istore 4, 2) := by decide +kernel
theorem dX6_readGutter_31 : decode cX6_readGutter 31 = .ok (.aload_n 0, 1) := by decide +kernel
theorem dX6_readGutter_32 : decode cX6_readGutter 32 = .ok (.aload_n 0, 1) := by decide +kernel
theorem dX6_readGutter_33 : decode cX6_readGutter 33 = .ok (.getfield 16, 3) := by decide +kernel
theorem dX6_readGutter_36 : decode cX6_readGutter 36 = .ok (.sipush 146, 3) := by decide +kernel
theorem dX6_readGutter_39 : decode cX6_readGutter 39 = .ok (.iaload, 1) := by decide +kernel
theorem dX6_readGutter_40 : decode cX6_readGutter 40 = .ok (.bipush 6, 2) := by decide +kernel
theorem dX6_readGutter_42 : decode cX6_readGutter 42 = .ok (.if_icmp .ge 20, 3) := by decide +kernel
theorem dX6_readGutter_45 : decode cX6_readGutter 45 = .ok (.aload_n 0, 1) := by decide +kernel
theorem dX6_readGutter_46 : decode cX6_readGutter 46 = .ok (.getfield 16, 3) := by decide +kernel
theorem dX6_readGutter_49 : decode cX6_readGutter 49 = .ok (.iload_n 3, 1) := by decide +kernel
theorem dX6_readGutter_50 : decode cX6_readGutter 50 = .ok (.iload 4, 2) := by decide +kernel
theorem dX6_readGutter_52 : decode cX6_readGutter 52 = .ok (.invokestatic 151, 3) := by decide +kernel
theorem dX6_readGutter_55 : decode cX6_readGutter 55 = .ok (.ifCond .eq 7, 3) := by decide +kernel
theorem dX6_readGutter_58 : decode cX6_readGutter 58 = .ok (.iconst 1, 1) := by decide +kernel
theorem dX6_readGutter_59 : decode cX6_readGutter 59 = .ok (.goto 4, 3) := by decide +kernel
theorem dX6_readGutter_62 : decode cX6_readGutter 62 = .ok (.iconst 0, 1) := by decide +kernel
theorem dX6_readGutter_63 : decode cX6_readGutter 63 = .ok (.invokevirtual 154, 3) := by decide +kernel
theorem dX6_readGutter_66 : decode cX6_readGutter 66 = .ok (.ifCond .eq 18, 3) := by decide +kernel
theorem dX6_readGutter_69 : decode cX6_readGutter 69 = .ok (.aload_n 0, 1) := by decide +kernel
theorem dX6_readGutter_70 : decode cX6_readGutter 70 = .ok (.getfield 16, 3) := by decide +kernel
theorem dX6_readGutter_73 : decode cX6_readGutter 73 = .ok (.iload_n 1, 1) := by decide +kernel
theorem dX6_readGutter_74 : decode cX6_readGutter 74 = .ok (.iload_n 2, 1) := by decide +kernel
theorem dX6_readGutter_75 : decode cX6_readGutter 75 = .ok (.iload_n 3, 1) := by decide +kernel
theorem dX6_readGutter_76 : decode cX6_readGutter 76 = .ok (.iload 4, 2) := by decide +kernel
theorem dX6_readGutter_78 : decode cX6_readGutter 78 = .ok (.invokestatic 158, 3) := by decide +kernel
theorem dX6_readGutter_81 : decode cX6_readGutter 81 = .ok (.goto 4, 3) := by decide +kernel
theorem dX6_readGutter_84 : decode cX6_readGutter 84 = .ok (.iconst 0, 1) := by decide +kernel
theorem dX6_readGutter_85 : decode cX6_readGutter 85 = .ok (.ireturn, 1) := by decide +kernel
theorem dX6_readBoat_0 : decode cX6_readBoat 0 = .ok (.aload_n 0, 1) := by decide +kernel
theorem dX6_readBoat_1 : decode cX6_readBoat 1 = .ok (.iconst 1, 1) := by decide +kernel
theorem dX6_readBoat_2 : decode cX6_readBoat 2 = .ok (.bipush 9, 2) := by decide +kernel
theorem dX6_readBoat_4 : decode cX6_readBoat 4 = .ok (.invokevirtual 141, 3) := by decide +kernel
theorem dX6_readBoat_7 : decode cX6_readBoat 7 = .ok (.istore_n 1, 1) := by decide +kernel
theorem dX6_readBoat_8 : decode cX6_readBoat 8 = .ok (.aload_n 0, 1) := by decide +kernel
theorem dX6_readBoat_9 : decode cX6_readBoat 9 = .ok (.iconst 0, 1) := by decide +kernel
theorem dX6_readBoat_10 : decode cX6_readBoat 10 = .ok (.iconst 3, 1) := by decide +kernel
theorem dX6_readBoat_11 : decode cX6_readBoat 11 = .ok (.invokevirtual 141, 3) := by decide +kernel
theorem dX6_readBoat_14 : decode cX6_readBoat 14 = .ok (.istore_n 2, 1) := by decide +kernel
theorem dX6_readBoat_15 : decode cX6_readBoat 15 = .ok (.aload_n 0, 1) := by decide +kernel
theorem dX6_readBoat_16 : decode cX6_readBoat 16 = .ok (.iconst 0, 1) := by decide +kernel
theorem dX6_readBoat_17 : decode cX6_readBoat 17 = .ok (.iconst 3, 1) := by decide +kernel
theorem dX6_readBoat_18 : decode cX6_readBoat 18 = .ok (.invokevirtual 141, 3) := by decide +kernel
theorem dX6_readBoat_21 : decode cX6_readBoat 21 = .ok (.istore_n 3, 1) := by decide +kernel
theorem dX6_readBoat_22 : decode cX6_readBoat 22 = .ok (.aload_n 0, 1) := by decide +kernel
theorem dX6_readBoat_23 : decode cX6_readBoat 23 = .ok (.aload_n 0, 1) := by decide +kernel
theorem dX6_readBoat_24 : decode cX6_readBoat 24 = .ok (.getfield 16, 3) := by decide +kernel
theorem dX6_readBoat_27 : decode cX6_readBoat 27 = .ok (.sipush 147, 3) := by decide +kernel
theorem dX6_readBoat_30 : decode cX6_readBoat 30 = .ok (.iaload, 1) := by decide +kernel
theorem dX6_readBoat_31 : decode cX6_readBoat 31 = .ok (.bipush 10, 2) := by decide +kernel
theorem dX6_readBoat_33 : decode cX6_readBoat 33 = .ok (.if_icmp .ge 7, 3) := by decide +kernel
theorem dX6_readBoat_36 : decode cX6_readBoat 36 = .ok (.iconst 1, 1) := by decide +kernel
theorem dX6_readBoat_37 : decode cX6_readBoat 37 = .ok (.goto 4, 3) := by decide +kernel
theorem dX6_readBoat_40 : decode cX6_readBoat 40 = .ok (.iconst 0, 1) := by decide +kernel
theorem dX6_readBoat_41 : decode cX6_readBoat 41 = .ok (.invokevirtual 154, 3) := by decide +kernel
theorem dX6_readBoat_44 : decode cX6_readBoat 44 = .ok (.ifCond .eq 16, 3) := by decide +kernel
theorem dX6_readBoat_47 : decode cX6_readBoat 47 = .ok (.aload_n 0, 1) := by decide +kernel
theorem dX6_readBoat_48 : decode cX6_readBoat 48 = .ok (.getfield 16, 3) := by decide +kernel
theorem dX6_readBoat_51 : decode cX6_readBoat 51 = .ok (.iload_n 1, 1) := by decide +kernel
theorem dX6_readBoat_52 : decode cX6_readBoat 52 = .ok (.iload_n 2, 1) := by decide +kernel
theorem dX6_readBoat_53 : decode cX6_readBoat 53 = .ok (.iload_n 3, 1) := by decide +kernel
theorem dX6_readBoat_54 : decode cX6_readBoat 54 = .ok (.invokestatic 162, 3) := by decide +kernel
theorem dX6_readBoat_57 : decode cX6_readBoat 57 = .ok (.goto 4, 3) := by decide +kernel
theorem dX6_readBoat_60 : decode cX6_readBoat 60 = .ok (.iconst 0, 1) := by decide +kernel
theorem dX6_readBoat_61 : decode cX6_readBoat 61 = .ok (.ireturn, 1) := by decide +kernel
theorem dX6_readLaunch_0 : decode cX6_readLaunch 0 = .ok (.aload_n 0, 1) := by decide +kernel
theorem dX6_readLaunch_1 : decode cX6_readLaunch 1 = .ok (.iconst 0, 1) := by decide +kernel
theorem dX6_readLaunch_2 : decode cX6_readLaunch 2 = .ok (.bipush 9, 2) := by decide +kernel
theorem dX6_readLaunch_4 : decode cX6_readLaunch 4 = .ok (.invokevirtual 141, 3) := by decide +kernel
theorem dX6_readLaunch_7 : decode cX6_readLaunch 7 = .ok (.istore_n 1, 1) := by decide +kernel
theorem dX6_readLaunch_8 : decode cX6_readLaunch 8 = .ok (.aload_n 0, 1) := by decide +kernel
theorem dX6_readLaunch_9 : decode cX6_readLaunch 9 = .ok (.iconst 0, 1) := by decide +kernel
theorem dX6_readLaunch_10 : decode cX6_readLaunch 10 = .ok (.iconst 5, 1) := by decide +kernel
theorem dX6_readLaunch_11 : decode cX6_readLaunch 11 = .ok (.invokevirtual 141, 3) := by decide +kernel
theorem dX6_readLaunch_14 : decode cX6_readLaunch 14 = .ok (.istore_n 2, 1) := by decide +kernel
theorem dX6_readLaunch_15 : decode cX6_readLaunch 15 = .ok (.aload_n 0, 1) := by decide +kernel
theorem dX6_readLaunch_16 : decode cX6_readLaunch 16 = .ok (.aload_n 0, 1) := by decide +kernel
theorem dX6_readLaunch_17 : decode cX6_readLaunch 17 = .ok (.getfield 16, 3) := by decide +kernel
theorem dX6_readLaunch_20 : decode cX6_readLaunch 20 = .ok (.iload_n 1, 1) := by decide +kernel
theorem dX6_readLaunch_21 : decode cX6_readLaunch 21 = .ok (.invokestatic 166, 3) := by decide +kernel
theorem dX6_readLaunch_24 : decode cX6_readLaunch 24 = .ok (.ifCond .eq 29, 3) := by decide +kernel
theorem dX6_readLaunch_27 : decode cX6_readLaunch 27 = .ok (.aload_n 0, 1) := by decide +kernel
theorem dX6_readLaunch_28 : decode cX6_readLaunch 28 = .ok (.getfield 16, 3) := by decide +kernel
theorem dX6_readLaunch_31 : decode cX6_readLaunch 31 = .ok (.iload_n 2, 1) := by decide +kernel
theorem dX6_readLaunch_32 : decode cX6_readLaunch 32 = .ok (.invokestatic 46, 3) := by decide +kernel
theorem dX6_readLaunch_35 : decode cX6_readLaunch 35 = .ok (.ifCond .eq 18, 3) := by decide +kernel
theorem dX6_readLaunch_38 : decode cX6_readLaunch 38 = .ok (.aload_n 0, 1) := by decide +kernel
theorem dX6_readLaunch_39 : decode cX6_readLaunch 39 = .ok (.getfield 16, 3) := by decide +kernel
theorem dX6_readLaunch_42 : decode cX6_readLaunch 42 = .ok (.iload_n 1, 1) := by decide +kernel
theorem dX6_readLaunch_43 : decode cX6_readLaunch 43 = .ok (.invokestatic 64, 3) := by decide +kernel
theorem dX6_readLaunch_46 : decode cX6_readLaunch 46 = .ok (.ifCond .ne 7, 3) := by decide +kernel
theorem dX6_readLaunch_49 : decode cX6_readLaunch 49 = .ok (.iconst 1, 1) := by decide +kernel
theorem dX6_readLaunch_50 : decode cX6_readLaunch 50 = .ok (.goto 4, 3) := by decide +kernel
theorem dX6_readLaunch_53 : decode cX6_readLaunch 53 = .ok (.iconst 0, 1) := by decide +kernel
theorem dX6_readLaunch_54 : decode cX6_readLaunch 54 = .ok (.invokevirtual 154, 3) := by decide +kernel
theorem dX6_readLaunch_57 : decode cX6_readLaunch 57 = .ok (.ifCond .eq 15, 3) := by decide +kernel
theorem dX6_readLaunch_60 : decode cX6_readLaunch 60 = .ok (.aload_n 0, 1) := by decide +kernel
theorem dX6_readLaunch_61 : decode cX6_readLaunch 61 = .ok (.getfield 16, 3) := by decide +kernel
theorem dX6_readLaunch_64 : decode cX6_readLaunch 64 = .ok (.iload_n 1, 1) := by decide +kernel
theorem dX6_readLaunch_65 : decode cX6_readLaunch 65 = .ok (.iload_n 2, 1) := by decide +kernel
theorem dX6_readLaunch_66 : decode cX6_readLaunch 66 = .ok (.invokestatic 169, 3) := by decide +kernel
theorem dX6_readLaunch_69 : decode cX6_readLaunch 69 = .ok (.goto 4, 3) := by decide +kernel
theorem dX6_readLaunch_72 : decode cX6_readLaunch 72 = .ok (.iconst 0, 1) := by decide +kernel
theorem dX6_readLaunch_73 : decode cX6_readLaunch 73 = .ok (.ireturn, 1) := by decide +kernel
theorem dX6_readHook_0 : decode cX6_readHook 0 = .ok (.aload_n 0, 1) := by decide +kernel
theorem dX6_readHook_1 : decode cX6_readHook 1 = .ok (.iconst 0, 1) := by decide +kernel
theorem dX6_readHook_2 : decode cX6_readHook 2 = .ok (.iconst 3, 1) := by decide +kernel
theorem dX6_readHook_3 : decode cX6_readHook 3 = .ok (.invokevirtual 141, 3) := by decide +kernel
theorem dX6_readHook_6 : decode cX6_readHook 6 = .ok (.istore_n 1, 1) := by decide +kernel
theorem dX6_readHook_7 : decode cX6_readHook 7 = .ok (.aload_n 0, 1) := by decide +kernel
theorem dX6_readHook_8 : decode cX6_readHook 8 = .ok (.iconst 0, 1) := by decide +kernel
theorem dX6_readHook_9 : decode cX6_readHook 9 = .ok (.iconst 5, 1) := by decide +kernel
theorem dX6_readHook_10 : decode cX6_readHook 10 = .ok (.invokevirtual 141, 3) := by decide +kernel
theorem dX6_readHook_13 : decode cX6_readHook 13 = .ok (.istore_n 2, 1) := by decide +kernel
theorem dX6_readHook_14 : decode cX6_readHook 14 = .ok (.aload_n 0, 1) := by decide +kernel
theorem dX6_readHook_15 : decode cX6_readHook 15 = .ok (.iconst 0, 1) := by decide +kernel
theorem dX6_readHook_16 : decode cX6_readHook 16 = .ok (.bipush 39, 2) := by decide +kernel
theorem dX6_readHook_18 : decode cX6_readHook 18 = .ok (.invokevirtual 148, 3) := by decide +kernel
theorem dX6_readHook_21 : decode cX6_readHook 21 = .ok (.istore_n 3, 1) := by decide +kernel
theorem dX6_readHook_22 : decode cX6_readHook 22 = .ok (.aload_n 0, 1) := by decide +kernel
theorem dX6_readHook_23 : decode cX6_readHook 23 = .ok (.aload_n 0, 1) := by decide +kernel
theorem dX6_readHook_24 : decode cX6_readHook 24 = .ok (.getfield 16, 3) := by decide +kernel
theorem dX6_readHook_27 : decode cX6_readHook 27 = .ok (.iload_n 2, 1) := by decide +kernel
theorem dX6_readHook_28 : decode cX6_readHook 28 = .ok (.iload_n 3, 1) := by decide +kernel
theorem dX6_readHook_29 : decode cX6_readHook 29 = .ok (.invokestatic 111, 3) := by decide +kernel
theorem dX6_readHook_32 : decode cX6_readHook 32 = .ok (.invokevirtual 154, 3) := by decide +kernel
theorem dX6_readHook_35 : decode cX6_readHook 35 = .ok (.ifCond .eq 16, 3) := by decide +kernel
theorem dX6_readHook_38 : decode cX6_readHook 38 = .ok (.aload_n 0, 1) := by decide +kernel
theorem dX6_readHook_39 : decode cX6_readHook 39 = .ok (.getfield 16, 3) := by decide +kernel
theorem dX6_readHook_42 : decode cX6_readHook 42 = .ok (.iload_n 1, 1) := by decide +kernel
theorem dX6_readHook_43 : decode cX6_readHook 43 = .ok (.iload_n 2, 1) := by decide +kernel
theorem dX6_readHook_44 : decode cX6_readHook 44 = .ok (.iload_n 3, 1) := by decide +kernel
theorem dX6_readHook_45 : decode cX6_readHook 45 = .ok (.invokestatic 172, 3) := by decide +kernel
theorem dX6_readHook_48 : decode cX6_readHook 48 = .ok (.goto 4, 3) := by decide +kernel
theorem dX6_readHook_51 : decode cX6_readHook 51 = .ok (.iconst 0, 1) := by decide +kernel
theorem dX6_readHook_52 : decode cX6_readHook 52 = .ok (.ireturn, 1) := by decide +kernel
theorem dX6_readClaim_0 : decode cX6_readClaim 0 = .ok (.aload_n 0, 1) := by decide +kernel
theorem dX6_readClaim_1 : decode cX6_readClaim 1 = .ok (.iconst 0, 1) := by decide +kernel
theorem dX6_readClaim_2 : decode cX6_readClaim 2 = .ok (.iconst 3, 1) := by decide +kernel
theorem dX6_readClaim_3 : decode cX6_readClaim 3 = .ok (.invokevirtual 141, 3) := by decide +kernel
theorem dX6_readClaim_6 : decode cX6_readClaim 6 = .ok (.istore_n 1, 1) := by decide +kernel
theorem dX6_readClaim_7 : decode cX6_readClaim 7 = .ok (.aload_n 0, 1) := by decide +kernel
theorem dX6_readClaim_8 : decode cX6_readClaim 8 = .ok (.iconst 0, 1) := by decide +kernel
theorem dX6_readClaim_9 : decode cX6_readClaim 9 = .ok (.bipush 9, 2) := by decide +kernel
theorem dX6_readClaim_11 : decode cX6_readClaim 11 = .ok (.invokevirtual 141, 3) := by decide +kernel
theorem dX6_readClaim_14 : decode cX6_readClaim 14 = .ok (.istore_n 2, 1) := by decide +kernel
theorem dX6_readClaim_15 : decode cX6_readClaim 15 = .ok (.aload_n 0, 1) := by decide +kernel
theorem dX6_readClaim_16 : decode cX6_readClaim 16 = .ok (.aload_n 0, 1) := by decide +kernel
theorem dX6_readClaim_17 : decode cX6_readClaim 17 = .ok (.getfield 16, 3) := by decide +kernel
theorem dX6_readClaim_20 : decode cX6_readClaim 20 = .ok (.iload_n 2, 1) := by decide +kernel
theorem dX6_readClaim_21 : decode cX6_readClaim 21 = .ok (.invokestatic 166, 3) := by decide +kernel
theorem dX6_readClaim_24 : decode cX6_readClaim 24 = .ok (.ifCond .eq 19, 3) := by decide +kernel
theorem dX6_readClaim_27 : decode cX6_readClaim 27 = .ok (.aload_n 0, 1) := by decide +kernel
theorem dX6_readClaim_28 : decode cX6_readClaim 28 = .ok (.getfield 16, 3) := by decide +kernel
theorem dX6_readClaim_31 : decode cX6_readClaim 31 = .ok (.iload_n 1, 1) := by decide +kernel
theorem dX6_readClaim_32 : decode cX6_readClaim 32 = .ok (.iload_n 2, 1) := by decide +kernel
theorem dX6_readClaim_33 : decode cX6_readClaim 33 = .ok (.invokestatic 102, 3) := by decide +kernel
theorem dX6_readClaim_36 : decode cX6_readClaim 36 = .ok (.ifCond .ne 7, 3) := by decide +kernel
theorem dX6_readClaim_39 : decode cX6_readClaim 39 = .ok (.iconst 1, 1) := by decide +kernel
theorem dX6_readClaim_40 : decode cX6_readClaim 40 = .ok (.goto 4, 3) := by decide +kernel
theorem dX6_readClaim_43 : decode cX6_readClaim 43 = .ok (.iconst 0, 1) := by decide +kernel
theorem dX6_readClaim_44 : decode cX6_readClaim 44 = .ok (.invokevirtual 154, 3) := by decide +kernel
theorem dX6_readClaim_47 : decode cX6_readClaim 47 = .ok (.ifCond .eq 15, 3) := by decide +kernel
theorem dX6_readClaim_50 : decode cX6_readClaim 50 = .ok (.aload_n 0, 1) := by decide +kernel
theorem dX6_readClaim_51 : decode cX6_readClaim 51 = .ok (.getfield 16, 3) := by decide +kernel
theorem dX6_readClaim_54 : decode cX6_readClaim 54 = .ok (.iload_n 1, 1) := by decide +kernel
theorem dX6_readClaim_55 : decode cX6_readClaim 55 = .ok (.iload_n 2, 1) := by decide +kernel
theorem dX6_readClaim_56 : decode cX6_readClaim 56 = .ok (.invokestatic 175, 3) := by decide +kernel
theorem dX6_readClaim_59 : decode cX6_readClaim 59 = .ok (.goto 4, 3) := by decide +kernel
theorem dX6_readClaim_62 : decode cX6_readClaim 62 = .ok (.iconst 0, 1) := by decide +kernel
theorem dX6_readClaim_63 : decode cX6_readClaim 63 = .ok (.ireturn, 1) := by decide +kernel
theorem dX6_readRest_0 : decode cX6_readRest 0 = .ok (.iload_n 1, 1) := by decide +kernel
theorem dX6_readRest_1 : decode cX6_readRest 1 = .ok (.bipush 109, 2) := by decide +kernel
theorem dX6_readRest_3 : decode cX6_readRest 3 = .ok (.if_icmp .ne 31, 3) := by decide +kernel
theorem dX6_readRest_6 : decode cX6_readRest 6 = .ok (.aload_n 0, 1) := by decide +kernel
theorem dX6_readRest_7 : decode cX6_readRest 7 = .ok (.iconst 1, 1) := by decide +kernel
theorem dX6_readRest_8 : decode cX6_readRest 8 = .ok (.bipush 60, 2) := by decide +kernel
theorem dX6_readRest_10 : decode cX6_readRest 10 = .ok (.invokevirtual 148, 3) := by decide +kernel
theorem dX6_readRest_13 : decode cX6_readRest 13 = .ok (.istore_n 3, 1) := by decide +kernel
theorem dX6_readRest_14 : decode cX6_readRest 14 = .ok (.aload_n 0, 1) := by decide +kernel
theorem dX6_readRest_15 : decode cX6_readRest 15 = .ok (.getfield 129, 3) := by decide +kernel
theorem dX6_readRest_18 : decode cX6_readRest 18 = .ok (.ifCond .eq 14, 3) := by decide +kernel
theorem dX6_readRest_21 : decode cX6_readRest 21 = .ok (.aload_n 0, 1) := by decide +kernel
theorem dX6_readRest_22 : decode cX6_readRest 22 = .ok (.getfield 16, 3) := by decide +kernel
theorem dX6_readRest_25 : decode cX6_readRest 25 = .ok (.iload_n 3, 1) := by decide +kernel
theorem dX6_readRest_26 : decode cX6_readRest 26 = .ok (.invokestatic 178, 3) := by decide +kernel
theorem dX6_readRest_29 : decode cX6_readRest 29 = .ok (.goto 4, 3) := by decide +kernel
theorem dX6_readRest_32 : decode cX6_readRest 32 = .ok (.iconst 0, 1) := by decide +kernel
theorem dX6_readRest_33 : decode cX6_readRest 33 = .ok (.ireturn, 1) := by decide +kernel
theorem dX6_readRest_34 : decode cX6_readRest 34 = .ok (.aload_n 0, 1) := by decide +kernel
theorem dX6_readRest_35 : decode cX6_readRest 35 = .ok (.iconst 0, 1) := by decide +kernel
theorem dX6_readRest_36 : decode cX6_readRest 36 = .ok (.iconst 2, 1) := by decide +kernel
theorem dX6_readRest_37 : decode cX6_readRest 37 = .ok (.invokevirtual 141, 3) := by decide +kernel
theorem dX6_readRest_40 : decode cX6_readRest 40 = .ok (.istore_n 2, 1) := by decide +kernel
theorem dX6_readRest_41 : decode cX6_readRest 41 = .ok (.aload_n 0, 1) := by decide +kernel
theorem dX6_readRest_42 : decode cX6_readRest 42 = .ok (.iconst 0, 1) := by decide +kernel
theorem dX6_readRest_43 : decode cX6_readRest 43 = .ok (.bipush 9, 2) := by decide +kernel
theorem dX6_readRest_45 : decode cX6_readRest 45 = .ok (.invokevirtual 141, 3) := by decide +kernel
theorem dX6_readRest_48 : decode cX6_readRest 48 = .ok (.istore_n 3, 1) := by decide +kernel
theorem dX6_readRest_49 : decode cX6_readRest 49 = .ok (.aload_n 0, 1) := by decide +kernel
theorem dX6_readRest_50 : decode cX6_readRest 50 = .ok (.iload_n 2, 1) := by decide +kernel
theorem dX6_readRest_51 : decode cX6_readRest 51 = .ok (.iload_n 3, 1) := by decide +kernel
theorem dX6_readRest_52 : decode cX6_readRest 52 = .ok (.invokestatic 181, 3) := by decide +kernel
theorem dX6_readRest_55 : decode cX6_readRest 55 = .ok (.invokevirtual 154, 3) := by decide +kernel
theorem dX6_readRest_58 : decode cX6_readRest 58 = .ok (.ifCond .eq 19, 3) := by decide +kernel
theorem dX6_readRest_61 : decode cX6_readRest 61 = .ok (.aload_n 0, 1) := by decide +kernel
theorem dX6_readRest_62 : decode cX6_readRest 62 = .ok (.getfield 16, 3) := by decide +kernel
theorem dX6_readRest_65 : decode cX6_readRest 65 = .ok (.sipush 154, 3) := by decide +kernel
theorem dX6_readRest_68 : decode cX6_readRest 68 = .ok (.iload_n 2, 1) := by decide +kernel
theorem dX6_readRest_69 : decode cX6_readRest 69 = .ok (.iadd, 1) := by decide +kernel
theorem dX6_readRest_70 : decode cX6_readRest 70 = .ok (.iload_n 3, 1) := by decide +kernel
theorem dX6_readRest_71 : decode cX6_readRest 71 = .ok (.invokestatic 185, 3) := by decide +kernel
theorem dX6_readRest_74 : decode cX6_readRest 74 = .ok (.goto 4, 3) := by decide +kernel
theorem dX6_readRest_77 : decode cX6_readRest 77 = .ok (.iconst 0, 1) := by decide +kernel
theorem dX6_readRest_78 : decode cX6_readRest 78 = .ok (.ireturn, 1) := by decide +kernel
theorem dX6_readCommand_0 : decode cX6_readCommand 0 = .ok (.aload_n 0, 1) := by decide +kernel
theorem dX6_readCommand_1 : decode cX6_readCommand 1 = .ok (.invokevirtual 133, 3) := by decide +kernel
theorem dX6_readCommand_4 : decode cX6_readCommand 4 = .ok (.istore_n 1, 1) := by decide +kernel
theorem dX6_readCommand_5 : decode cX6_readCommand 5 = .ok (.aload_n 0, 1) := by decide +kernel
theorem dX6_readCommand_6 : decode cX6_readCommand 6 = .ok (.iload_n 1, 1) := by decide +kernel
theorem dX6_readCommand_7 : decode cX6_readCommand 7 = .ok (.bipush 103, 2) := by decide +kernel
theorem dX6_readCommand_9 : decode cX6_readCommand 9 = .ok (.if_icmp .eq 39, 3) := by decide +kernel
theorem dX6_readCommand_12 : decode cX6_readCommand 12 = .ok (.iload_n 1, 1) := by decide +kernel
theorem dX6_readCommand_13 : decode cX6_readCommand 13 = .ok (.bipush 98, 2) := by decide +kernel
theorem dX6_readCommand_15 : decode cX6_readCommand 15 = .ok (.if_icmp .eq 33, 3) := by decide +kernel
theorem dX6_readCommand_18 : decode cX6_readCommand 18 = .ok (.iload_n 1, 1) := by decide +kernel
theorem dX6_readCommand_19 : decode cX6_readCommand 19 = .ok (.bipush 108, 2) := by decide +kernel
theorem dX6_readCommand_21 : decode cX6_readCommand 21 = .ok (.if_icmp .eq 27, 3) := by decide +kernel
theorem dX6_readCommand_24 : decode cX6_readCommand 24 = .ok (.iload_n 1, 1) := by decide +kernel
theorem dX6_readCommand_25 : decode cX6_readCommand 25 = .ok (.bipush 109, 2) := by decide +kernel
theorem dX6_readCommand_27 : decode cX6_readCommand 27 = .ok (.if_icmp .eq 21, 3) := by decide +kernel
theorem dX6_readCommand_30 : decode cX6_readCommand 30 = .ok (.iload_n 1, 1) := by decide +kernel
theorem dX6_readCommand_31 : decode cX6_readCommand 31 = .ok (.bipush 104, 2) := by decide +kernel
theorem dX6_readCommand_33 : decode cX6_readCommand 33 = .ok (.if_icmp .eq 15, 3) := by decide +kernel
theorem dX6_readCommand_36 : decode cX6_readCommand 36 = .ok (.iload_n 1, 1) := by decide +kernel
theorem dX6_readCommand_37 : decode cX6_readCommand 37 = .ok (.bipush 99, 2) := by decide +kernel
theorem dX6_readCommand_39 : decode cX6_readCommand 39 = .ok (.if_icmp .eq 9, 3) := by decide +kernel
theorem dX6_readCommand_42 : decode cX6_readCommand 42 = .ok (.iload_n 1, 1) := by decide +kernel
theorem dX6_readCommand_43 : decode cX6_readCommand 43 = .ok (.bipush 115, 2) := by decide +kernel
theorem dX6_readCommand_45 : decode cX6_readCommand 45 = .ok (.if_icmp .ne 7, 3) := by decide +kernel
theorem dX6_readCommand_48 : decode cX6_readCommand 48 = .ok (.iconst 1, 1) := by decide +kernel
theorem dX6_readCommand_49 : decode cX6_readCommand 49 = .ok (.goto 4, 3) := by decide +kernel
theorem dX6_readCommand_52 : decode cX6_readCommand 52 = .ok (.iconst 0, 1) := by decide +kernel
theorem dX6_readCommand_53 : decode cX6_readCommand 53 = .ok (.invokevirtual 137, 3) := by decide +kernel
theorem dX6_readCommand_56 : decode cX6_readCommand 56 = .ok (.aload_n 0, 1) := by decide +kernel
theorem dX6_readCommand_57 : decode cX6_readCommand 57 = .ok (.getfield 129, 3) := by decide +kernel
theorem dX6_readCommand_60 : decode cX6_readCommand 60 = .ok (.ifCond .ne 5, 3) := by decide +kernel
theorem dX6_readCommand_63 : decode cX6_readCommand 63 = .ok (.iconst 0, 1) := by decide +kernel
theorem dX6_readCommand_64 : decode cX6_readCommand 64 = .ok (.ireturn, 1) := by decide +kernel
theorem dX6_readCommand_65 : decode cX6_readCommand 65 = .ok (.iload_n 1, 1) := by decide +kernel
theorem dX6_readCommand_66 : decode cX6_readCommand 66 = .ok (.tableswitch 83 98 108 #[63, 78, 83, 83, 83, 58, 73, 83, 83, 83, 68], 58) := by decide +kernel
theorem dX6_readCommand_124 : decode cX6_readCommand 124 = .ok (.aload_n 0, 1) := by decide +kernel
theorem dX6_readCommand_125 : decode cX6_readCommand 125 = .ok (.invokevirtual 188, 3) := by decide +kernel
theorem dX6_readCommand_128 : decode cX6_readCommand 128 = .ok (.ireturn, 1) := by decide +kernel
theorem dX6_readCommand_129 : decode cX6_readCommand 129 = .ok (.aload_n 0, 1) := by decide +kernel
theorem dX6_readCommand_130 : decode cX6_readCommand 130 = .ok (.invokevirtual 191, 3) := by decide +kernel
theorem dX6_readCommand_133 : decode cX6_readCommand 133 = .ok (.ireturn, 1) := by decide +kernel
theorem dX6_readCommand_134 : decode cX6_readCommand 134 = .ok (.aload_n 0, 1) := by decide +kernel
theorem dX6_readCommand_135 : decode cX6_readCommand 135 = .ok (.invokevirtual 194, 3) := by decide +kernel
theorem dX6_readCommand_138 : decode cX6_readCommand 138 = .ok (.ireturn, 1) := by decide +kernel
theorem dX6_readCommand_139 : decode cX6_readCommand 139 = .ok (.aload_n 0, 1) := by decide +kernel
theorem dX6_readCommand_140 : decode cX6_readCommand 140 = .ok (.invokevirtual 197, 3) := by decide +kernel
theorem dX6_readCommand_143 : decode cX6_readCommand 143 = .ok (.ireturn, 1) := by decide +kernel
theorem dX6_readCommand_144 : decode cX6_readCommand 144 = .ok (.aload_n 0, 1) := by decide +kernel
theorem dX6_readCommand_145 : decode cX6_readCommand 145 = .ok (.invokevirtual 200, 3) := by decide +kernel
theorem dX6_readCommand_148 : decode cX6_readCommand 148 = .ok (.ireturn, 1) := by decide +kernel
theorem dX6_readCommand_149 : decode cX6_readCommand 149 = .ok (.aload_n 0, 1) := by decide +kernel
theorem dX6_readCommand_150 : decode cX6_readCommand 150 = .ok (.iload_n 1, 1) := by decide +kernel
theorem dX6_readCommand_151 : decode cX6_readCommand 151 = .ok (.invokevirtual 203, 3) := by decide +kernel
theorem dX6_readCommand_154 : decode cX6_readCommand 154 = .ok (.ireturn, 1) := by decide +kernel
theorem dX6_readAll_0 : decode cX6_readAll 0 = .ok (.aload_n 0, 1) := by decide +kernel
theorem dX6_readAll_1 : decode cX6_readAll 1 = .ok (.iconst 0, 1) := by decide +kernel
theorem dX6_readAll_2 : decode cX6_readAll 2 = .ok (.putfield 126, 3) := by decide +kernel
theorem dX6_readAll_5 : decode cX6_readAll 5 = .ok (.aload_n 0, 1) := by decide +kernel
theorem dX6_readAll_6 : decode cX6_readAll 6 = .ok (.iconst 1, 1) := by decide +kernel
theorem dX6_readAll_7 : decode cX6_readAll 7 = .ok (.putfield 129, 3) := by decide +kernel
theorem dX6_readAll_10 : decode cX6_readAll 10 = .ok (.aload_n 0, 1) := by decide +kernel
theorem dX6_readAll_11 : decode cX6_readAll 11 = .ok (.iconst 0, 1) := by decide +kernel
theorem dX6_readAll_12 : decode cX6_readAll 12 = .ok (.putfield 145, 3) := by decide +kernel
theorem dX6_readAll_15 : decode cX6_readAll 15 = .ok (.aload_n 0, 1) := by decide +kernel
theorem dX6_readAll_16 : decode cX6_readAll 16 = .ok (.getfield 16, 3) := by decide +kernel
theorem dX6_readAll_19 : decode cX6_readAll 19 = .ok (.invokestatic 32, 3) := by decide +kernel
theorem dX6_readAll_22 : decode cX6_readAll 22 = .ok (.aload_n 0, 1) := by decide +kernel
theorem dX6_readAll_23 : decode cX6_readAll 23 = .ok (.aload_n 0, 1) := by decide +kernel
theorem dX6_readAll_24 : decode cX6_readAll 24 = .ok (.invokevirtual 133, 3) := by decide +kernel
theorem dX6_readAll_27 : decode cX6_readAll 27 = .ok (.bipush 84, 2) := by decide +kernel
theorem dX6_readAll_29 : decode cX6_readAll 29 = .ok (.if_icmp .ne 7, 3) := by decide +kernel
theorem dX6_readAll_32 : decode cX6_readAll 32 = .ok (.iconst 1, 1) := by decide +kernel
theorem dX6_readAll_33 : decode cX6_readAll 33 = .ok (.goto 4, 3) := by decide +kernel
theorem dX6_readAll_36 : decode cX6_readAll 36 = .ok (.iconst 0, 1) := by decide +kernel
theorem dX6_readAll_37 : decode cX6_readAll 37 = .ok (.invokevirtual 137, 3) := by decide +kernel
theorem dX6_readAll_40 : decode cX6_readAll 40 = .ok (.aload_n 0, 1) := by decide +kernel
theorem dX6_readAll_41 : decode cX6_readAll 41 = .ok (.getfield 129, 3) := by decide +kernel
theorem dX6_readAll_44 : decode cX6_readAll 44 = .ok (.ifCond .eq 22, 3) := by decide +kernel
theorem dX6_readAll_47 : decode cX6_readAll 47 = .ok (.aload_n 0, 1) := by decide +kernel
theorem dX6_readAll_48 : decode cX6_readAll 48 = .ok (.getfield 126, 3) := by decide +kernel
theorem dX6_readAll_51 : decode cX6_readAll 51 = .ok (.aload_n 0, 1) := by decide +kernel
theorem dX6_readAll_52 : decode cX6_readAll 52 = .ok (.getfield 119, 3) := by decide +kernel
theorem dX6_readAll_55 : decode cX6_readAll 55 = .ok (.if_icmp .ge 11, 3) := by decide +kernel
theorem dX6_readAll_58 : decode cX6_readAll 58 = .ok (.aload_n 0, 1) := by decide +kernel
theorem dX6_readAll_59 : decode cX6_readAll 59 = .ok (.invokevirtual 206, 3) := by decide +kernel
theorem dX6_readAll_62 : decode cX6_readAll 62 = .ok (.istore_n 1, 1) := by decide +kernel
theorem dX6_readAll_63 : decode cX6_readAll 63 = .ok (.goto (-23), 3) := by decide +kernel
theorem dX6_readAll_66 : decode cX6_readAll 66 = .ok (.aload_n 0, 1) := by decide +kernel
theorem dX6_readAll_67 : decode cX6_readAll 67 = .ok (.getfield 129, 3) := by decide +kernel
theorem dX6_readAll_70 : decode cX6_readAll 70 = .ok (.ifCond .eq 7, 3) := by decide +kernel
theorem dX6_readAll_73 : decode cX6_readAll 73 = .ok (.iconst (-1), 1) := by decide +kernel
theorem dX6_readAll_74 : decode cX6_readAll 74 = .ok (.goto 7, 3) := by decide +kernel
theorem dX6_readAll_77 : decode cX6_readAll 77 = .ok (.aload_n 0, 1) := by decide +kernel
theorem dX6_readAll_78 : decode cX6_readAll 78 = .ok (.getfield 126, 3) := by decide +kernel
theorem dX6_readAll_81 : decode cX6_readAll 81 = .ok (.ireturn, 1) := by decide +kernel
theorem dX6_errorPosition_0 : decode cX6_errorPosition 0 = .ok (.aload_n 0, 1) := by decide +kernel
theorem dX6_errorPosition_1 : decode cX6_errorPosition 1 = .ok (.iconst 0, 1) := by decide +kernel
theorem dX6_errorPosition_2 : decode cX6_errorPosition 2 = .ok (.putfield 36, 3) := by decide +kernel
theorem dX6_errorPosition_5 : decode cX6_errorPosition 5 = .ok (.aload_n 0, 1) := by decide +kernel
theorem dX6_errorPosition_6 : decode cX6_errorPosition 6 = .ok (.invokevirtual 209, 3) := by decide +kernel
theorem dX6_errorPosition_9 : decode cX6_errorPosition 9 = .ok (.ireturn, 1) := by decide +kernel
theorem dX6_load_0 : decode cX6_load 0 = .ok (.aload_n 0, 1) := by decide +kernel
theorem dX6_load_1 : decode cX6_load 1 = .ok (.aload_n 0, 1) := by decide +kernel
theorem dX6_load_2 : decode cX6_load 2 = .ok (.invokevirtual 209, 3) := by decide +kernel
theorem dX6_load_5 : decode cX6_load 5 = .ok (.iconst (-1), 1) := by decide +kernel
theorem dX6_load_6 : decode cX6_load 6 = .ok (.if_icmp .ne 7, 3) := by decide +kernel
theorem dX6_load_9 : decode cX6_load 9 = .ok (.iconst 0, 1) := by decide +kernel
theorem dX6_load_10 : decode cX6_load 10 = .ok (.goto 4, 3) := by decide +kernel
theorem dX6_load_13 : decode cX6_load 13 = .ok (.iconst 1, 1) := by decide +kernel
theorem dX6_load_14 : decode cX6_load 14 = .ok (.invokevirtual 122, 3) := by decide +kernel
theorem dX6_load_17 : decode cX6_load 17 = .ok (.ifCond .eq 5, 3) := by decide +kernel
theorem dX6_load_20 : decode cX6_load 20 = .ok (.iconst 0, 1) := by decide +kernel
theorem dX6_load_21 : decode cX6_load 21 = .ok (.ireturn, 1) := by decide +kernel
theorem dX6_load_22 : decode cX6_load 22 = .ok (.aload_n 0, 1) := by decide +kernel
theorem dX6_load_23 : decode cX6_load 23 = .ok (.getfield 16, 3) := by decide +kernel
theorem dX6_load_26 : decode cX6_load 26 = .ok (.aload_n 0, 1) := by decide +kernel
theorem dX6_load_27 : decode cX6_load 27 = .ok (.getfield 7, 3) := by decide +kernel
theorem dX6_load_30 : decode cX6_load 30 = .ok (.invokestatic 212, 3) := by decide +kernel
theorem dX6_load_33 : decode cX6_load 33 = .ok (.aload_n 0, 1) := by decide +kernel
theorem dX6_load_34 : decode cX6_load 34 = .ok (.iconst 0, 1) := by decide +kernel
theorem dX6_load_35 : decode cX6_load 35 = .ok (.putfield 114, 3) := by decide +kernel
theorem dX6_load_38 : decode cX6_load 38 = .ok (.aload_n 0, 1) := by decide +kernel
theorem dX6_load_39 : decode cX6_load 39 = .ok (.getfield 25, 3) := by decide +kernel
theorem dX6_load_42 : decode cX6_load 42 = .ok (.iconst 0, 1) := by decide +kernel
theorem dX6_load_43 : decode cX6_load 43 = .ok (.iconst 0, 1) := by decide +kernel
theorem dX6_load_44 : decode cX6_load 44 = .ok (.bastore, 1) := by decide +kernel
theorem dX6_load_45 : decode cX6_load 45 = .ok (.aload_n 0, 1) := by decide +kernel
theorem dX6_load_46 : decode cX6_load 46 = .ok (.getfield 25, 3) := by decide +kernel
theorem dX6_load_49 : decode cX6_load 49 = .ok (.iconst 1, 1) := by decide +kernel
theorem dX6_load_50 : decode cX6_load 50 = .ok (.iconst 0, 1) := by decide +kernel
theorem dX6_load_51 : decode cX6_load 51 = .ok (.bastore, 1) := by decide +kernel
theorem dX6_load_52 : decode cX6_load 52 = .ok (.aload_n 0, 1) := by decide +kernel
theorem dX6_load_53 : decode cX6_load 53 = .ok (.getfield 145, 3) := by decide +kernel
theorem dX6_load_56 : decode cX6_load 56 = .ok (.ireturn, 1) := by decide +kernel
theorem dX6_points_0 : decode cX6_points 0 = .ok (.iconst 0, 1) := by decide +kernel
theorem dX6_points_1 : decode cX6_points 1 = .ok (.istore_n 1, 1) := by decide +kernel
theorem dX6_points_2 : decode cX6_points 2 = .ok (.iconst 0, 1) := by decide +kernel
theorem dX6_points_3 : decode cX6_points 3 = .ok (.istore_n 2, 1) := by decide +kernel
theorem dX6_points_4 : decode cX6_points 4 = .ok (.iload_n 2, 1) := by decide +kernel
theorem dX6_points_5 : decode cX6_points 5 = .ok (.iconst 4, 1) := by decide +kernel
theorem dX6_points_6 : decode cX6_points 6 = .ok (.if_icmp .ge 24, 3) := by decide +kernel
theorem dX6_points_9 : decode cX6_points 9 = .ok (.iload_n 1, 1) := by decide +kernel
theorem dX6_points_10 : decode cX6_points 10 = .ok (.aload_n 0, 1) := by decide +kernel
theorem dX6_points_11 : decode cX6_points 11 = .ok (.getfield 7, 3) := by decide +kernel
theorem dX6_points_14 : decode cX6_points 14 = .ok (.sipush 134, 3) := by decide +kernel
theorem dX6_points_17 : decode cX6_points 17 = .ok (.iconst 3, 1) := by decide +kernel
theorem dX6_points_18 : decode cX6_points 18 = .ok (.iload_n 2, 1) := by decide +kernel
theorem dX6_points_19 : decode cX6_points 19 = .ok (.imul, 1) := by decide +kernel
theorem dX6_points_20 : decode cX6_points 20 = .ok (.iadd, 1) := by decide +kernel
theorem dX6_points_21 : decode cX6_points 21 = .ok (.iaload, 1) := by decide +kernel
theorem dX6_points_22 : decode cX6_points 22 = .ok (.iadd, 1) := by decide +kernel
theorem dX6_points_23 : decode cX6_points 23 = .ok (.istore_n 1, 1) := by decide +kernel
theorem dX6_points_24 : decode cX6_points 24 = .ok (.iinc 2 1, 3) := by decide +kernel
theorem dX6_points_27 : decode cX6_points 27 = .ok (.goto (-23), 3) := by decide +kernel
theorem dX6_points_30 : decode cX6_points 30 = .ok (.iload_n 1, 1) := by decide +kernel
theorem dX6_points_31 : decode cX6_points 31 = .ok (.ireturn, 1) := by decide +kernel
theorem dX6_drifted_0 : decode cX6_drifted 0 = .ok (.iconst 0, 1) := by decide +kernel
theorem dX6_drifted_1 : decode cX6_drifted 1 = .ok (.istore_n 1, 1) := by decide +kernel
theorem dX6_drifted_2 : decode cX6_drifted 2 = .ok (.iconst 0, 1) := by decide +kernel
theorem dX6_drifted_3 : decode cX6_drifted 3 = .ok (.istore_n 2, 1) := by decide +kernel
theorem dX6_drifted_4 : decode cX6_drifted 4 = .ok (.iload_n 2, 1) := by decide +kernel
theorem dX6_drifted_5 : decode cX6_drifted 5 = .ok (.aload_n 0, 1) := by decide +kernel
theorem dX6_drifted_6 : decode cX6_drifted 6 = .ok (.getfield 7, 3) := by decide +kernel
theorem dX6_drifted_9 : decode cX6_drifted 9 = .ok (.sipush 147, 3) := by decide +kernel
theorem dX6_drifted_12 : decode cX6_drifted 12 = .ok (.iaload, 1) := by decide +kernel
theorem dX6_drifted_13 : decode cX6_drifted 13 = .ok (.if_icmp .ge 24, 3) := by decide +kernel
theorem dX6_drifted_16 : decode cX6_drifted 16 = .ok (.iload_n 1, 1) := by decide +kernel
theorem dX6_drifted_17 : decode cX6_drifted 17 = .ok (.aload_n 0, 1) := by decide +kernel
theorem dX6_drifted_18 : decode cX6_drifted 18 = .ok (.getfield 7, 3) := by decide +kernel
theorem dX6_drifted_21 : decode cX6_drifted 21 = .ok (.iload_n 2, 1) := by decide +kernel
theorem dX6_drifted_22 : decode cX6_drifted 22 = .ok (.invokestatic 60, 3) := by decide +kernel
theorem dX6_drifted_25 : decode cX6_drifted 25 = .ok (.bipush 9, 2) := by decide +kernel
theorem dX6_drifted_27 : decode cX6_drifted 27 = .ok (.iadd, 1) := by decide +kernel
theorem dX6_drifted_28 : decode cX6_drifted 28 = .ok (.iaload, 1) := by decide +kernel
theorem dX6_drifted_29 : decode cX6_drifted 29 = .ok (.iadd, 1) := by decide +kernel
theorem dX6_drifted_30 : decode cX6_drifted 30 = .ok (.istore_n 1, 1) := by decide +kernel
theorem dX6_drifted_31 : decode cX6_drifted 31 = .ok (.iinc 2 1, 3) := by decide +kernel
theorem dX6_drifted_34 : decode cX6_drifted 34 = .ok (.goto (-30), 3) := by decide +kernel
theorem dX6_drifted_37 : decode cX6_drifted 37 = .ok (.iload_n 1, 1) := by decide +kernel
theorem dX6_drifted_38 : decode cX6_drifted 38 = .ok (.ireturn, 1) := by decide +kernel
theorem dX6_about_0 : decode cX6_about 0 = .ok (.aload_n 0, 1) := by decide +kernel
theorem dX6_about_1 : decode cX6_about 1 = .ok (.iload_n 1, 1) := by decide +kernel
theorem dX6_about_2 : decode cX6_about 2 = .ok (.i2l, 1) := by decide +kernel
theorem dX6_about_3 : decode cX6_about 3 = .ok (.lconst 0, 1) := by decide +kernel
theorem dX6_about_4 : decode cX6_about 4 = .ok (.ldc2_w 216, 3) := by decide +kernel
theorem dX6_about_7 : decode cX6_about 7 = .ok (.invokestatic 42, 3) := by decide +kernel
theorem dX6_about_10 : decode cX6_about 10 = .ok (.ifCond .eq 7, 3) := by decide +kernel
theorem dX6_about_13 : decode cX6_about 13 = .ok (.iconst 0, 1) := by decide +kernel
theorem dX6_about_14 : decode cX6_about 14 = .ok (.goto 4, 3) := by decide +kernel
theorem dX6_about_17 : decode cX6_about 17 = .ok (.iconst 1, 1) := by decide +kernel
theorem dX6_about_18 : decode cX6_about 18 = .ok (.invokevirtual 122, 3) := by decide +kernel
theorem dX6_about_21 : decode cX6_about 21 = .ok (.ifCond .eq 5, 3) := by decide +kernel
theorem dX6_about_24 : decode cX6_about 24 = .ok (.iconst 0, 1) := by decide +kernel
theorem dX6_about_25 : decode cX6_about 25 = .ok (.ireturn, 1) := by decide +kernel
theorem dX6_about_26 : decode cX6_about 26 = .ok (.iload_n 1, 1) := by decide +kernel
theorem dX6_about_27 : decode cX6_about 27 = .ok (.tableswitch 142 0 13 #[69, 78, 142, 142, 142, 142, 142, 87, 96, 105, 114, 123, 132, 137], 69) := by decide +kernel
theorem dX6_about_96 : decode cX6_about 96 = .ok (.aload_n 0, 1) := by decide +kernel
theorem dX6_about_97 : decode cX6_about 97 = .ok (.getfield 7, 3) := by decide +kernel
theorem dX6_about_100 : decode cX6_about 100 = .ok (.sipush 146, 3) := by decide +kernel
theorem dX6_about_103 : decode cX6_about 103 = .ok (.iaload, 1) := by decide +kernel
theorem dX6_about_104 : decode cX6_about 104 = .ok (.ireturn, 1) := by decide +kernel
theorem dX6_about_105 : decode cX6_about 105 = .ok (.aload_n 0, 1) := by decide +kernel
theorem dX6_about_106 : decode cX6_about 106 = .ok (.getfield 7, 3) := by decide +kernel
theorem dX6_about_109 : decode cX6_about 109 = .ok (.sipush 147, 3) := by decide +kernel
theorem dX6_about_112 : decode cX6_about 112 = .ok (.iaload, 1) := by decide +kernel
theorem dX6_about_113 : decode cX6_about 113 = .ok (.ireturn, 1) := by decide +kernel
theorem dX6_about_114 : decode cX6_about 114 = .ok (.aload_n 0, 1) := by decide +kernel
theorem dX6_about_115 : decode cX6_about 115 = .ok (.getfield 7, 3) := by decide +kernel
theorem dX6_about_118 : decode cX6_about 118 = .ok (.sipush 148, 3) := by decide +kernel
theorem dX6_about_121 : decode cX6_about 121 = .ok (.iaload, 1) := by decide +kernel
theorem dX6_about_122 : decode cX6_about 122 = .ok (.ireturn, 1) := by decide +kernel
theorem dX6_about_123 : decode cX6_about 123 = .ok (.aload_n 0, 1) := by decide +kernel
theorem dX6_about_124 : decode cX6_about 124 = .ok (.getfield 7, 3) := by decide +kernel
theorem dX6_about_127 : decode cX6_about 127 = .ok (.sipush 149, 3) := by decide +kernel
theorem dX6_about_130 : decode cX6_about 130 = .ok (.iaload, 1) := by decide +kernel
theorem dX6_about_131 : decode cX6_about 131 = .ok (.ireturn, 1) := by decide +kernel
theorem dX6_about_132 : decode cX6_about 132 = .ok (.aload_n 0, 1) := by decide +kernel
theorem dX6_about_133 : decode cX6_about 133 = .ok (.getfield 7, 3) := by decide +kernel
theorem dX6_about_136 : decode cX6_about 136 = .ok (.sipush 150, 3) := by decide +kernel
theorem dX6_about_139 : decode cX6_about 139 = .ok (.iaload, 1) := by decide +kernel
theorem dX6_about_140 : decode cX6_about 140 = .ok (.ireturn, 1) := by decide +kernel
theorem dX6_about_141 : decode cX6_about 141 = .ok (.aload_n 0, 1) := by decide +kernel
theorem dX6_about_142 : decode cX6_about 142 = .ok (.getfield 7, 3) := by decide +kernel
theorem dX6_about_145 : decode cX6_about 145 = .ok (.sipush 151, 3) := by decide +kernel
theorem dX6_about_148 : decode cX6_about 148 = .ok (.iaload, 1) := by decide +kernel
theorem dX6_about_149 : decode cX6_about 149 = .ok (.ireturn, 1) := by decide +kernel
theorem dX6_about_150 : decode cX6_about 150 = .ok (.aload_n 0, 1) := by decide +kernel
theorem dX6_about_151 : decode cX6_about 151 = .ok (.getfield 7, 3) := by decide +kernel
theorem dX6_about_154 : decode cX6_about 154 = .ok (.sipush 152, 3) := by decide +kernel
theorem dX6_about_157 : decode cX6_about 157 = .ok (.iaload, 1) := by decide +kernel
theorem dX6_about_158 : decode cX6_about 158 = .ok (.ireturn, 1) := by decide +kernel
theorem dX6_about_159 : decode cX6_about 159 = .ok (.aload_n 0, 1) := by decide +kernel
theorem dX6_about_160 : decode cX6_about 160 = .ok (.invokevirtual 218, 3) := by decide +kernel
theorem dX6_about_163 : decode cX6_about 163 = .ok (.ireturn, 1) := by decide +kernel
theorem dX6_about_164 : decode cX6_about 164 = .ok (.aload_n 0, 1) := by decide +kernel
theorem dX6_about_165 : decode cX6_about 165 = .ok (.invokevirtual 221, 3) := by decide +kernel
theorem dX6_about_168 : decode cX6_about 168 = .ok (.ireturn, 1) := by decide +kernel
theorem dX6_about_169 : decode cX6_about 169 = .ok (.aload_n 0, 1) := by decide +kernel
theorem dX6_about_170 : decode cX6_about 170 = .ok (.getfield 7, 3) := by decide +kernel
theorem dX6_about_173 : decode cX6_about 173 = .ok (.iload_n 1, 1) := by decide +kernel
theorem dX6_about_174 : decode cX6_about 174 = .ok (.iconst 2, 1) := by decide +kernel
theorem dX6_about_175 : decode cX6_about 175 = .ok (.isub, 1) := by decide +kernel
theorem dX6_about_176 : decode cX6_about 176 = .ok (.invokestatic 82, 3) := by decide +kernel
theorem dX6_about_179 : decode cX6_about 179 = .ok (.ireturn, 1) := by decide +kernel
theorem dX6_inGutter_0 : decode cX6_inGutter 0 = .ok (.iconst 0, 1) := by decide +kernel
theorem dX6_inGutter_1 : decode cX6_inGutter 1 = .ok (.istore_n 3, 1) := by decide +kernel
theorem dX6_inGutter_2 : decode cX6_inGutter 2 = .ok (.iconst 0, 1) := by decide +kernel
theorem dX6_inGutter_3 : decode cX6_inGutter 3 = .ok (.istore 4, 2) := by decide +kernel
theorem dX6_inGutter_5 : decode cX6_inGutter 5 = .ok (.iload 4, 2) := by decide +kernel
theorem dX6_inGutter_7 : decode cX6_inGutter 7 = .ok (.aload_n 0, 1) := by decide +kernel
theorem dX6_inGutter_8 : decode cX6_inGutter 8 = .ok (.getfield 7, 3) := by decide +kernel
theorem dX6_inGutter_11 : decode cX6_inGutter 11 = .ok (.sipush 147, 3) := by decide +kernel
theorem dX6_inGutter_14 : decode cX6_inGutter 14 = .ok (.iaload, 1) := by decide +kernel
theorem dX6_inGutter_15 : decode cX6_inGutter 15 = .ok (.if_icmp .ge 46, 3) := by decide +kernel
theorem dX6_inGutter_18 : decode cX6_inGutter 18 = .ok (.iload_n 3, 1) := by decide +kernel
theorem dX6_inGutter_19 : decode cX6_inGutter 19 = .ok (.aload_n 0, 1) := by decide +kernel
theorem dX6_inGutter_20 : decode cX6_inGutter 20 = .ok (.getfield 7, 3) := by decide +kernel
theorem dX6_inGutter_23 : decode cX6_inGutter 23 = .ok (.iload 4, 2) := by decide +kernel
theorem dX6_inGutter_25 : decode cX6_inGutter 25 = .ok (.invokestatic 64, 3) := by decide +kernel
theorem dX6_inGutter_28 : decode cX6_inGutter 28 = .ok (.iload_n 2, 1) := by decide +kernel
theorem dX6_inGutter_29 : decode cX6_inGutter 29 = .ok (.if_icmp .ne 23, 3) := by decide +kernel
theorem dX6_inGutter_32 : decode cX6_inGutter 32 = .ok (.aload_n 0, 1) := by decide +kernel
theorem dX6_inGutter_33 : decode cX6_inGutter 33 = .ok (.getfield 7, 3) := by decide +kernel
theorem dX6_inGutter_36 : decode cX6_inGutter 36 = .ok (.iload 4, 2) := by decide +kernel
theorem dX6_inGutter_38 : decode cX6_inGutter 38 = .ok (.invokestatic 60, 3) := by decide +kernel
theorem dX6_inGutter_41 : decode cX6_inGutter 41 = .ok (.iconst 4, 1) := by decide +kernel
theorem dX6_inGutter_42 : decode cX6_inGutter 42 = .ok (.iadd, 1) := by decide +kernel
theorem dX6_inGutter_43 : decode cX6_inGutter 43 = .ok (.iaload, 1) := by decide +kernel
theorem dX6_inGutter_44 : decode cX6_inGutter 44 = .ok (.iload_n 1, 1) := by decide +kernel
theorem dX6_inGutter_45 : decode cX6_inGutter 45 = .ok (.if_icmp .ne 7, 3) := by decide +kernel
theorem dX6_inGutter_48 : decode cX6_inGutter 48 = .ok (.iconst 1, 1) := by decide +kernel
theorem dX6_inGutter_49 : decode cX6_inGutter 49 = .ok (.goto 4, 3) := by decide +kernel
theorem dX6_inGutter_52 : decode cX6_inGutter 52 = .ok (.iconst 0, 1) := by decide +kernel
theorem dX6_inGutter_53 : decode cX6_inGutter 53 = .ok (.iadd, 1) := by decide +kernel
theorem dX6_inGutter_54 : decode cX6_inGutter 54 = .ok (.istore_n 3, 1) := by decide +kernel
theorem dX6_inGutter_55 : decode cX6_inGutter 55 = .ok (.iinc 4 1, 3) := by decide +kernel
theorem dX6_inGutter_58 : decode cX6_inGutter 58 = .ok (.goto (-53), 3) := by decide +kernel
theorem dX6_inGutter_61 : decode cX6_inGutter 61 = .ok (.iload_n 3, 1) := by decide +kernel
theorem dX6_inGutter_62 : decode cX6_inGutter 62 = .ok (.ireturn, 1) := by decide +kernel
theorem dX6_lowestWreck_0 : decode cX6_lowestWreck 0 = .ok (.iconst 0, 1) := by decide +kernel
theorem dX6_lowestWreck_1 : decode cX6_lowestWreck 1 = .ok (.istore_n 2, 1) := by decide +kernel
theorem dX6_lowestWreck_2 : decode cX6_lowestWreck 2 = .ok (.iload_n 2, 1) := by decide +kernel
theorem dX6_lowestWreck_3 : decode cX6_lowestWreck 3 = .ok (.aload_n 0, 1) := by decide +kernel
theorem dX6_lowestWreck_4 : decode cX6_lowestWreck 4 = .ok (.getfield 7, 3) := by decide +kernel
theorem dX6_lowestWreck_7 : decode cX6_lowestWreck 7 = .ok (.iconst 4, 1) := by decide +kernel
theorem dX6_lowestWreck_8 : decode cX6_lowestWreck 8 = .ok (.iload_n 1, 1) := by decide +kernel
theorem dX6_lowestWreck_9 : decode cX6_lowestWreck 9 = .ok (.imul, 1) := by decide +kernel
theorem dX6_lowestWreck_10 : decode cX6_lowestWreck 10 = .ok (.iconst 0, 1) := by decide +kernel
theorem dX6_lowestWreck_11 : decode cX6_lowestWreck 11 = .ok (.iadd, 1) := by decide +kernel
theorem dX6_lowestWreck_12 : decode cX6_lowestWreck 12 = .ok (.iaload, 1) := by decide +kernel
theorem dX6_lowestWreck_13 : decode cX6_lowestWreck 13 = .ok (.if_icmp .ge 23, 3) := by decide +kernel
theorem dX6_lowestWreck_16 : decode cX6_lowestWreck 16 = .ok (.aload_n 0, 1) := by decide +kernel
theorem dX6_lowestWreck_17 : decode cX6_lowestWreck 17 = .ok (.getfield 7, 3) := by decide +kernel
theorem dX6_lowestWreck_20 : decode cX6_lowestWreck 20 = .ok (.iload_n 1, 1) := by decide +kernel
theorem dX6_lowestWreck_21 : decode cX6_lowestWreck 21 = .ok (.iload_n 2, 1) := by decide +kernel
theorem dX6_lowestWreck_22 : decode cX6_lowestWreck 22 = .ok (.invokestatic 68, 3) := by decide +kernel
theorem dX6_lowestWreck_25 : decode cX6_lowestWreck 25 = .ok (.ifCond .eq 5, 3) := by decide +kernel
theorem dX6_lowestWreck_28 : decode cX6_lowestWreck 28 = .ok (.iload_n 2, 1) := by decide +kernel
theorem dX6_lowestWreck_29 : decode cX6_lowestWreck 29 = .ok (.ireturn, 1) := by decide +kernel
theorem dX6_lowestWreck_30 : decode cX6_lowestWreck 30 = .ok (.iinc 2 1, 3) := by decide +kernel
theorem dX6_lowestWreck_33 : decode cX6_lowestWreck 33 = .ok (.goto (-31), 3) := by decide +kernel
theorem dX6_lowestWreck_36 : decode cX6_lowestWreck 36 = .ok (.iconst (-1), 1) := by decide +kernel
theorem dX6_lowestWreck_37 : decode cX6_lowestWreck 37 = .ok (.ireturn, 1) := by decide +kernel
theorem dX6_gutterOf_0 : decode cX6_gutterOf 0 = .ok (.aload_n 0, 1) := by decide +kernel
theorem dX6_gutterOf_1 : decode cX6_gutterOf 1 = .ok (.aload_n 0, 1) := by decide +kernel
theorem dX6_gutterOf_2 : decode cX6_gutterOf 2 = .ok (.getfield 7, 3) := by decide +kernel
theorem dX6_gutterOf_5 : decode cX6_gutterOf 5 = .ok (.iload_n 1, 1) := by decide +kernel
theorem dX6_gutterOf_6 : decode cX6_gutterOf 6 = .ok (.invokestatic 46, 3) := by decide +kernel
theorem dX6_gutterOf_9 : decode cX6_gutterOf 9 = .ok (.ifCond .ne 7, 3) := by decide +kernel
theorem dX6_gutterOf_12 : decode cX6_gutterOf 12 = .ok (.iconst 1, 1) := by decide +kernel
theorem dX6_gutterOf_13 : decode cX6_gutterOf 13 = .ok (.goto 20, 3) := by decide +kernel
theorem dX6_gutterOf_16 : decode cX6_gutterOf 16 = .ok (.iload_n 2, 1) := by decide +kernel
theorem dX6_gutterOf_17 : decode cX6_gutterOf 17 = .ok (.i2l, 1) := by decide +kernel
theorem dX6_gutterOf_18 : decode cX6_gutterOf 18 = .ok (.lconst 0, 1) := by decide +kernel
theorem dX6_gutterOf_19 : decode cX6_gutterOf 19 = .ok (.ldc2_w 224, 3) := by decide +kernel
theorem dX6_gutterOf_22 : decode cX6_gutterOf 22 = .ok (.invokestatic 42, 3) := by decide +kernel
theorem dX6_gutterOf_25 : decode cX6_gutterOf 25 = .ok (.ifCond .ne 7, 3) := by decide +kernel
theorem dX6_gutterOf_28 : decode cX6_gutterOf 28 = .ok (.iconst 2, 1) := by decide +kernel
theorem dX6_gutterOf_29 : decode cX6_gutterOf 29 = .ok (.goto 4, 3) := by decide +kernel
theorem dX6_gutterOf_32 : decode cX6_gutterOf 32 = .ok (.iconst 0, 1) := by decide +kernel
theorem dX6_gutterOf_33 : decode cX6_gutterOf 33 = .ok (.invokevirtual 122, 3) := by decide +kernel
theorem dX6_gutterOf_36 : decode cX6_gutterOf 36 = .ok (.ifCond .eq 5, 3) := by decide +kernel
theorem dX6_gutterOf_39 : decode cX6_gutterOf 39 = .ok (.iconst 0, 1) := by decide +kernel
theorem dX6_gutterOf_40 : decode cX6_gutterOf 40 = .ok (.ireturn, 1) := by decide +kernel
theorem dX6_gutterOf_41 : decode cX6_gutterOf 41 = .ok (.iload_n 2, 1) := by decide +kernel
theorem dX6_gutterOf_42 : decode cX6_gutterOf 42 = .ok (.tableswitch 46 4 6 #[26, 33, 40], 26) := by decide +kernel
theorem dX6_gutterOf_68 : decode cX6_gutterOf 68 = .ok (.aload_n 0, 1) := by decide +kernel
theorem dX6_gutterOf_69 : decode cX6_gutterOf 69 = .ok (.iload_n 1, 1) := by decide +kernel
theorem dX6_gutterOf_70 : decode cX6_gutterOf 70 = .ok (.iconst 1, 1) := by decide +kernel
theorem dX6_gutterOf_71 : decode cX6_gutterOf 71 = .ok (.invokevirtual 226, 3) := by decide +kernel
theorem dX6_gutterOf_74 : decode cX6_gutterOf 74 = .ok (.ireturn, 1) := by decide +kernel
theorem dX6_gutterOf_75 : decode cX6_gutterOf 75 = .ok (.aload_n 0, 1) := by decide +kernel
theorem dX6_gutterOf_76 : decode cX6_gutterOf 76 = .ok (.iload_n 1, 1) := by decide +kernel
theorem dX6_gutterOf_77 : decode cX6_gutterOf 77 = .ok (.iconst 3, 1) := by decide +kernel
theorem dX6_gutterOf_78 : decode cX6_gutterOf 78 = .ok (.invokevirtual 226, 3) := by decide +kernel
theorem dX6_gutterOf_81 : decode cX6_gutterOf 81 = .ok (.ireturn, 1) := by decide +kernel
theorem dX6_gutterOf_82 : decode cX6_gutterOf 82 = .ok (.aload_n 0, 1) := by decide +kernel
theorem dX6_gutterOf_83 : decode cX6_gutterOf 83 = .ok (.iload_n 1, 1) := by decide +kernel
theorem dX6_gutterOf_84 : decode cX6_gutterOf 84 = .ok (.invokevirtual 229, 3) := by decide +kernel
theorem dX6_gutterOf_87 : decode cX6_gutterOf 87 = .ok (.ireturn, 1) := by decide +kernel
theorem dX6_gutterOf_88 : decode cX6_gutterOf 88 = .ok (.aload_n 0, 1) := by decide +kernel
theorem dX6_gutterOf_89 : decode cX6_gutterOf 89 = .ok (.getfield 7, 3) := by decide +kernel
theorem dX6_gutterOf_92 : decode cX6_gutterOf 92 = .ok (.iconst 4, 1) := by decide +kernel
theorem dX6_gutterOf_93 : decode cX6_gutterOf 93 = .ok (.iload_n 1, 1) := by decide +kernel
theorem dX6_gutterOf_94 : decode cX6_gutterOf 94 = .ok (.imul, 1) := by decide +kernel
theorem dX6_gutterOf_95 : decode cX6_gutterOf 95 = .ok (.iload_n 2, 1) := by decide +kernel
theorem dX6_gutterOf_96 : decode cX6_gutterOf 96 = .ok (.iadd, 1) := by decide +kernel
theorem dX6_gutterOf_97 : decode cX6_gutterOf 97 = .ok (.iaload, 1) := by decide +kernel
theorem dX6_gutterOf_98 : decode cX6_gutterOf 98 = .ok (.ireturn, 1) := by decide +kernel
theorem dX6_boatOf_0 : decode cX6_boatOf 0 = .ok (.aload_n 0, 1) := by decide +kernel
theorem dX6_boatOf_1 : decode cX6_boatOf 1 = .ok (.aload_n 0, 1) := by decide +kernel
theorem dX6_boatOf_2 : decode cX6_boatOf 2 = .ok (.getfield 7, 3) := by decide +kernel
theorem dX6_boatOf_5 : decode cX6_boatOf 5 = .ok (.iload_n 1, 1) := by decide +kernel
theorem dX6_boatOf_6 : decode cX6_boatOf 6 = .ok (.invokestatic 166, 3) := by decide +kernel
theorem dX6_boatOf_9 : decode cX6_boatOf 9 = .ok (.ifCond .ne 7, 3) := by decide +kernel
theorem dX6_boatOf_12 : decode cX6_boatOf 12 = .ok (.iconst 1, 1) := by decide +kernel
theorem dX6_boatOf_13 : decode cX6_boatOf 13 = .ok (.goto 20, 3) := by decide +kernel
theorem dX6_boatOf_16 : decode cX6_boatOf 16 = .ok (.iload_n 2, 1) := by decide +kernel
theorem dX6_boatOf_17 : decode cX6_boatOf 17 = .ok (.i2l, 1) := by decide +kernel
theorem dX6_boatOf_18 : decode cX6_boatOf 18 = .ok (.lconst 0, 1) := by decide +kernel
theorem dX6_boatOf_19 : decode cX6_boatOf 19 = .ok (.ldc2_w 40, 3) := by decide +kernel
theorem dX6_boatOf_22 : decode cX6_boatOf 22 = .ok (.invokestatic 42, 3) := by decide +kernel
theorem dX6_boatOf_25 : decode cX6_boatOf 25 = .ok (.ifCond .ne 7, 3) := by decide +kernel
theorem dX6_boatOf_28 : decode cX6_boatOf 28 = .ok (.iconst 2, 1) := by decide +kernel
theorem dX6_boatOf_29 : decode cX6_boatOf 29 = .ok (.goto 4, 3) := by decide +kernel
theorem dX6_boatOf_32 : decode cX6_boatOf 32 = .ok (.iconst 0, 1) := by decide +kernel
theorem dX6_boatOf_33 : decode cX6_boatOf 33 = .ok (.invokevirtual 122, 3) := by decide +kernel
theorem dX6_boatOf_36 : decode cX6_boatOf 36 = .ok (.ifCond .eq 5, 3) := by decide +kernel
theorem dX6_boatOf_39 : decode cX6_boatOf 39 = .ok (.iconst 0, 1) := by decide +kernel
theorem dX6_boatOf_40 : decode cX6_boatOf 40 = .ok (.ireturn, 1) := by decide +kernel
theorem dX6_boatOf_41 : decode cX6_boatOf 41 = .ok (.aload_n 0, 1) := by decide +kernel
theorem dX6_boatOf_42 : decode cX6_boatOf 42 = .ok (.getfield 7, 3) := by decide +kernel
theorem dX6_boatOf_45 : decode cX6_boatOf 45 = .ok (.iload_n 1, 1) := by decide +kernel
theorem dX6_boatOf_46 : decode cX6_boatOf 46 = .ok (.invokestatic 64, 3) := by decide +kernel
theorem dX6_boatOf_49 : decode cX6_boatOf 49 = .ok (.istore_n 3, 1) := by decide +kernel
theorem dX6_boatOf_50 : decode cX6_boatOf 50 = .ok (.iload_n 2, 1) := by decide +kernel
theorem dX6_boatOf_51 : decode cX6_boatOf 51 = .ok (.tableswitch 98 4 10 #[41, 41, 98, 67, 98, 98, 89], 41) := by decide +kernel
theorem dX6_boatOf_92 : decode cX6_boatOf 92 = .ok (.iload_n 3, 1) := by decide +kernel
theorem dX6_boatOf_93 : decode cX6_boatOf 93 = .ok (.iconst 1, 1) := by decide +kernel
theorem dX6_boatOf_94 : decode cX6_boatOf 94 = .ok (.if_icmp .eq 8, 3) := by decide +kernel
theorem dX6_boatOf_97 : decode cX6_boatOf 97 = .ok (.iload_n 3, 1) := by decide +kernel
theorem dX6_boatOf_98 : decode cX6_boatOf 98 = .ok (.iconst 3, 1) := by decide +kernel
theorem dX6_boatOf_99 : decode cX6_boatOf 99 = .ok (.if_icmp .ne 17, 3) := by decide +kernel
theorem dX6_boatOf_102 : decode cX6_boatOf 102 = .ok (.aload_n 0, 1) := by decide +kernel
theorem dX6_boatOf_103 : decode cX6_boatOf 103 = .ok (.getfield 7, 3) := by decide +kernel
theorem dX6_boatOf_106 : decode cX6_boatOf 106 = .ok (.iload_n 1, 1) := by decide +kernel
theorem dX6_boatOf_107 : decode cX6_boatOf 107 = .ok (.invokestatic 60, 3) := by decide +kernel
theorem dX6_boatOf_110 : decode cX6_boatOf 110 = .ok (.iload_n 2, 1) := by decide +kernel
theorem dX6_boatOf_111 : decode cX6_boatOf 111 = .ok (.iadd, 1) := by decide +kernel
theorem dX6_boatOf_112 : decode cX6_boatOf 112 = .ok (.iaload, 1) := by decide +kernel
theorem dX6_boatOf_113 : decode cX6_boatOf 113 = .ok (.goto 4, 3) := by decide +kernel
theorem dX6_boatOf_116 : decode cX6_boatOf 116 = .ok (.iconst (-1), 1) := by decide +kernel
theorem dX6_boatOf_117 : decode cX6_boatOf 117 = .ok (.ireturn, 1) := by decide +kernel
theorem dX6_boatOf_118 : decode cX6_boatOf 118 = .ok (.iload_n 3, 1) := by decide +kernel
theorem dX6_boatOf_119 : decode cX6_boatOf 119 = .ok (.iconst 2, 1) := by decide +kernel
theorem dX6_boatOf_120 : decode cX6_boatOf 120 = .ok (.if_icmp .ne 18, 3) := by decide +kernel
theorem dX6_boatOf_123 : decode cX6_boatOf 123 = .ok (.aload_n 0, 1) := by decide +kernel
theorem dX6_boatOf_124 : decode cX6_boatOf 124 = .ok (.getfield 7, 3) := by decide +kernel
theorem dX6_boatOf_127 : decode cX6_boatOf 127 = .ok (.iload_n 1, 1) := by decide +kernel
theorem dX6_boatOf_128 : decode cX6_boatOf 128 = .ok (.invokestatic 60, 3) := by decide +kernel
theorem dX6_boatOf_131 : decode cX6_boatOf 131 = .ok (.bipush 7, 2) := by decide +kernel
theorem dX6_boatOf_133 : decode cX6_boatOf 133 = .ok (.iadd, 1) := by decide +kernel
theorem dX6_boatOf_134 : decode cX6_boatOf 134 = .ok (.iaload, 1) := by decide +kernel
theorem dX6_boatOf_135 : decode cX6_boatOf 135 = .ok (.goto 4, 3) := by decide +kernel
theorem dX6_boatOf_138 : decode cX6_boatOf 138 = .ok (.iconst (-1), 1) := by decide +kernel
theorem dX6_boatOf_139 : decode cX6_boatOf 139 = .ok (.ireturn, 1) := by decide +kernel
theorem dX6_boatOf_140 : decode cX6_boatOf 140 = .ok (.aload_n 0, 1) := by decide +kernel
theorem dX6_boatOf_141 : decode cX6_boatOf 141 = .ok (.getfield 7, 3) := by decide +kernel
theorem dX6_boatOf_144 : decode cX6_boatOf 144 = .ok (.iload_n 1, 1) := by decide +kernel
theorem dX6_boatOf_145 : decode cX6_boatOf 145 = .ok (.invokestatic 75, 3) := by decide +kernel
theorem dX6_boatOf_148 : decode cX6_boatOf 148 = .ok (.ireturn, 1) := by decide +kernel
theorem dX6_boatOf_149 : decode cX6_boatOf 149 = .ok (.aload_n 0, 1) := by decide +kernel
theorem dX6_boatOf_150 : decode cX6_boatOf 150 = .ok (.getfield 7, 3) := by decide +kernel
theorem dX6_boatOf_153 : decode cX6_boatOf 153 = .ok (.iload_n 1, 1) := by decide +kernel
theorem dX6_boatOf_154 : decode cX6_boatOf 154 = .ok (.invokestatic 60, 3) := by decide +kernel
theorem dX6_boatOf_157 : decode cX6_boatOf 157 = .ok (.iload_n 2, 1) := by decide +kernel
theorem dX6_boatOf_158 : decode cX6_boatOf 158 = .ok (.iadd, 1) := by decide +kernel
theorem dX6_boatOf_159 : decode cX6_boatOf 159 = .ok (.iaload, 1) := by decide +kernel
theorem dX6_boatOf_160 : decode cX6_boatOf 160 = .ok (.ireturn, 1) := by decide +kernel
theorem dX6_boatsOf_0 : decode cX6_boatsOf 0 = .ok (.iconst 0, 1) := by decide +kernel
theorem dX6_boatsOf_1 : decode cX6_boatsOf 1 = .ok (.istore_n 2, 1) := by decide +kernel
theorem dX6_boatsOf_2 : decode cX6_boatsOf 2 = .ok (.iconst 0, 1) := by decide +kernel
theorem dX6_boatsOf_3 : decode cX6_boatsOf 3 = .ok (.istore_n 3, 1) := by decide +kernel
theorem dX6_boatsOf_4 : decode cX6_boatsOf 4 = .ok (.iload_n 3, 1) := by decide +kernel
theorem dX6_boatsOf_5 : decode cX6_boatsOf 5 = .ok (.aload_n 0, 1) := by decide +kernel
theorem dX6_boatsOf_6 : decode cX6_boatsOf 6 = .ok (.getfield 7, 3) := by decide +kernel
theorem dX6_boatsOf_9 : decode cX6_boatsOf 9 = .ok (.sipush 147, 3) := by decide +kernel
theorem dX6_boatsOf_12 : decode cX6_boatsOf 12 = .ok (.iaload, 1) := by decide +kernel
theorem dX6_boatsOf_13 : decode cX6_boatsOf 13 = .ok (.if_icmp .ge 32, 3) := by decide +kernel
theorem dX6_boatsOf_16 : decode cX6_boatsOf 16 = .ok (.iload_n 2, 1) := by decide +kernel
theorem dX6_boatsOf_17 : decode cX6_boatsOf 17 = .ok (.aload_n 0, 1) := by decide +kernel
theorem dX6_boatsOf_18 : decode cX6_boatsOf 18 = .ok (.getfield 7, 3) := by decide +kernel
theorem dX6_boatsOf_21 : decode cX6_boatsOf 21 = .ok (.iload_n 3, 1) := by decide +kernel
theorem dX6_boatsOf_22 : decode cX6_boatsOf 22 = .ok (.invokestatic 60, 3) := by decide +kernel
theorem dX6_boatsOf_25 : decode cX6_boatsOf 25 = .ok (.iconst 2, 1) := by decide +kernel
theorem dX6_boatsOf_26 : decode cX6_boatsOf 26 = .ok (.iadd, 1) := by decide +kernel
theorem dX6_boatsOf_27 : decode cX6_boatsOf 27 = .ok (.iaload, 1) := by decide +kernel
theorem dX6_boatsOf_28 : decode cX6_boatsOf 28 = .ok (.iload_n 1, 1) := by decide +kernel
theorem dX6_boatsOf_29 : decode cX6_boatsOf 29 = .ok (.if_icmp .ne 7, 3) := by decide +kernel
theorem dX6_boatsOf_32 : decode cX6_boatsOf 32 = .ok (.iconst 1, 1) := by decide +kernel
theorem dX6_boatsOf_33 : decode cX6_boatsOf 33 = .ok (.goto 4, 3) := by decide +kernel
theorem dX6_boatsOf_36 : decode cX6_boatsOf 36 = .ok (.iconst 0, 1) := by decide +kernel
theorem dX6_boatsOf_37 : decode cX6_boatsOf 37 = .ok (.iadd, 1) := by decide +kernel
theorem dX6_boatsOf_38 : decode cX6_boatsOf 38 = .ok (.istore_n 2, 1) := by decide +kernel
theorem dX6_boatsOf_39 : decode cX6_boatsOf 39 = .ok (.iinc 3 1, 3) := by decide +kernel
theorem dX6_boatsOf_42 : decode cX6_boatsOf 42 = .ok (.goto (-38), 3) := by decide +kernel
theorem dX6_boatsOf_45 : decode cX6_boatsOf 45 = .ok (.iload_n 2, 1) := by decide +kernel
theorem dX6_boatsOf_46 : decode cX6_boatsOf 46 = .ok (.ireturn, 1) := by decide +kernel
theorem dX6_ownerOf_0 : decode cX6_ownerOf 0 = .ok (.aload_n 0, 1) := by decide +kernel
theorem dX6_ownerOf_1 : decode cX6_ownerOf 1 = .ok (.iload_n 1, 1) := by decide +kernel
theorem dX6_ownerOf_2 : decode cX6_ownerOf 2 = .ok (.invokestatic 232, 3) := by decide +kernel
theorem dX6_ownerOf_5 : decode cX6_ownerOf 5 = .ok (.ifCond .ne 7, 3) := by decide +kernel
theorem dX6_ownerOf_8 : decode cX6_ownerOf 8 = .ok (.iconst 1, 1) := by decide +kernel
theorem dX6_ownerOf_9 : decode cX6_ownerOf 9 = .ok (.goto 20, 3) := by decide +kernel
theorem dX6_ownerOf_12 : decode cX6_ownerOf 12 = .ok (.iload_n 2, 1) := by decide +kernel
theorem dX6_ownerOf_13 : decode cX6_ownerOf 13 = .ok (.i2l, 1) := by decide +kernel
theorem dX6_ownerOf_14 : decode cX6_ownerOf 14 = .ok (.lconst 0, 1) := by decide +kernel
theorem dX6_ownerOf_15 : decode cX6_ownerOf 15 = .ok (.ldc2_w 52, 3) := by decide +kernel
theorem dX6_ownerOf_18 : decode cX6_ownerOf 18 = .ok (.invokestatic 42, 3) := by decide +kernel
theorem dX6_ownerOf_21 : decode cX6_ownerOf 21 = .ok (.ifCond .ne 7, 3) := by decide +kernel
theorem dX6_ownerOf_24 : decode cX6_ownerOf 24 = .ok (.iconst 2, 1) := by decide +kernel
theorem dX6_ownerOf_25 : decode cX6_ownerOf 25 = .ok (.goto 4, 3) := by decide +kernel
theorem dX6_ownerOf_28 : decode cX6_ownerOf 28 = .ok (.iconst 0, 1) := by decide +kernel
theorem dX6_ownerOf_29 : decode cX6_ownerOf 29 = .ok (.invokevirtual 122, 3) := by decide +kernel
theorem dX6_ownerOf_32 : decode cX6_ownerOf 32 = .ok (.ifCond .eq 5, 3) := by decide +kernel
theorem dX6_ownerOf_35 : decode cX6_ownerOf 35 = .ok (.iconst 0, 1) := by decide +kernel
theorem dX6_ownerOf_36 : decode cX6_ownerOf 36 = .ok (.ireturn, 1) := by decide +kernel
theorem dX6_ownerOf_37 : decode cX6_ownerOf 37 = .ok (.iload_n 2, 1) := by decide +kernel
theorem dX6_ownerOf_38 : decode cX6_ownerOf 38 = .ok (.tableswitch 62 0 4 #[34, 47, 62, 62, 53], 34) := by decide +kernel
theorem dX6_ownerOf_72 : decode cX6_ownerOf 72 = .ok (.aload_n 0, 1) := by decide +kernel
theorem dX6_ownerOf_73 : decode cX6_ownerOf 73 = .ok (.getfield 7, 3) := by decide +kernel
theorem dX6_ownerOf_76 : decode cX6_ownerOf 76 = .ok (.sipush 134, 3) := by decide +kernel
theorem dX6_ownerOf_79 : decode cX6_ownerOf 79 = .ok (.iconst 3, 1) := by decide +kernel
theorem dX6_ownerOf_80 : decode cX6_ownerOf 80 = .ok (.iload_n 1, 1) := by decide +kernel
theorem dX6_ownerOf_81 : decode cX6_ownerOf 81 = .ok (.imul, 1) := by decide +kernel
theorem dX6_ownerOf_82 : decode cX6_ownerOf 82 = .ok (.iadd, 1) := by decide +kernel
theorem dX6_ownerOf_83 : decode cX6_ownerOf 83 = .ok (.iaload, 1) := by decide +kernel
theorem dX6_ownerOf_84 : decode cX6_ownerOf 84 = .ok (.ireturn, 1) := by decide +kernel
theorem dX6_ownerOf_85 : decode cX6_ownerOf 85 = .ok (.aload_n 0, 1) := by decide +kernel
theorem dX6_ownerOf_86 : decode cX6_ownerOf 86 = .ok (.iload_n 1, 1) := by decide +kernel
theorem dX6_ownerOf_87 : decode cX6_ownerOf 87 = .ok (.invokevirtual 235, 3) := by decide +kernel
theorem dX6_ownerOf_90 : decode cX6_ownerOf 90 = .ok (.ireturn, 1) := by decide +kernel
theorem dX6_ownerOf_91 : decode cX6_ownerOf 91 = .ok (.aload_n 0, 1) := by decide +kernel
theorem dX6_ownerOf_92 : decode cX6_ownerOf 92 = .ok (.getfield 7, 3) := by decide +kernel
theorem dX6_ownerOf_95 : decode cX6_ownerOf 95 = .ok (.iload_n 1, 1) := by decide +kernel
theorem dX6_ownerOf_96 : decode cX6_ownerOf 96 = .ok (.invokestatic 105, 3) := by decide +kernel
theorem dX6_ownerOf_99 : decode cX6_ownerOf 99 = .ok (.ireturn, 1) := by decide +kernel
theorem dX6_ownerOf_100 : decode cX6_ownerOf 100 = .ok (.aload_n 0, 1) := by decide +kernel
theorem dX6_ownerOf_101 : decode cX6_ownerOf 101 = .ok (.getfield 7, 3) := by decide +kernel
theorem dX6_ownerOf_104 : decode cX6_ownerOf 104 = .ok (.sipush 134, 3) := by decide +kernel
theorem dX6_ownerOf_107 : decode cX6_ownerOf 107 = .ok (.iconst 3, 1) := by decide +kernel
theorem dX6_ownerOf_108 : decode cX6_ownerOf 108 = .ok (.iload_n 1, 1) := by decide +kernel
theorem dX6_ownerOf_109 : decode cX6_ownerOf 109 = .ok (.imul, 1) := by decide +kernel
theorem dX6_ownerOf_110 : decode cX6_ownerOf 110 = .ok (.iadd, 1) := by decide +kernel
theorem dX6_ownerOf_111 : decode cX6_ownerOf 111 = .ok (.iload_n 2, 1) := by decide +kernel
theorem dX6_ownerOf_112 : decode cX6_ownerOf 112 = .ok (.iadd, 1) := by decide +kernel
theorem dX6_ownerOf_113 : decode cX6_ownerOf 113 = .ok (.iconst 1, 1) := by decide +kernel
theorem dX6_ownerOf_114 : decode cX6_ownerOf 114 = .ok (.isub, 1) := by decide +kernel
theorem dX6_ownerOf_115 : decode cX6_ownerOf 115 = .ok (.iaload, 1) := by decide +kernel
theorem dX6_ownerOf_116 : decode cX6_ownerOf 116 = .ok (.ireturn, 1) := by decide +kernel
theorem dX6_way_0 : decode cX6_way 0 = .ok (.aload_n 0, 1) := by decide +kernel
theorem dX6_way_1 : decode cX6_way 1 = .ok (.aload_n 0, 1) := by decide +kernel
theorem dX6_way_2 : decode cX6_way 2 = .ok (.getfield 7, 3) := by decide +kernel
theorem dX6_way_5 : decode cX6_way 5 = .ok (.iload_n 1, 1) := by decide +kernel
theorem dX6_way_6 : decode cX6_way 6 = .ok (.iload_n 2, 1) := by decide +kernel
theorem dX6_way_7 : decode cX6_way 7 = .ok (.invokestatic 111, 3) := by decide +kernel
theorem dX6_way_10 : decode cX6_way 10 = .ok (.ifCond .ne 7, 3) := by decide +kernel
theorem dX6_way_13 : decode cX6_way 13 = .ok (.iconst 1, 1) := by decide +kernel
theorem dX6_way_14 : decode cX6_way 14 = .ok (.goto 18, 3) := by decide +kernel
theorem dX6_way_17 : decode cX6_way 17 = .ok (.iload_n 3, 1) := by decide +kernel
theorem dX6_way_18 : decode cX6_way 18 = .ok (.i2l, 1) := by decide +kernel
theorem dX6_way_19 : decode cX6_way 19 = .ok (.lconst 0, 1) := by decide +kernel
theorem dX6_way_20 : decode cX6_way 20 = .ok (.lconst 1, 1) := by decide +kernel
theorem dX6_way_21 : decode cX6_way 21 = .ok (.invokestatic 42, 3) := by decide +kernel
theorem dX6_way_24 : decode cX6_way 24 = .ok (.ifCond .ne 7, 3) := by decide +kernel
theorem dX6_way_27 : decode cX6_way 27 = .ok (.iconst 2, 1) := by decide +kernel
theorem dX6_way_28 : decode cX6_way 28 = .ok (.goto 4, 3) := by decide +kernel
theorem dX6_way_31 : decode cX6_way 31 = .ok (.iconst 0, 1) := by decide +kernel
theorem dX6_way_32 : decode cX6_way 32 = .ok (.invokevirtual 122, 3) := by decide +kernel
theorem dX6_way_35 : decode cX6_way 35 = .ok (.ifCond .eq 5, 3) := by decide +kernel
theorem dX6_way_38 : decode cX6_way 38 = .ok (.iconst 0, 1) := by decide +kernel
theorem dX6_way_39 : decode cX6_way 39 = .ok (.ireturn, 1) := by decide +kernel
theorem dX6_way_40 : decode cX6_way 40 = .ok (.aload_n 0, 1) := by decide +kernel
theorem dX6_way_41 : decode cX6_way 41 = .ok (.getfield 7, 3) := by decide +kernel
theorem dX6_way_44 : decode cX6_way 44 = .ok (.iload_n 1, 1) := by decide +kernel
theorem dX6_way_45 : decode cX6_way 45 = .ok (.iload_n 2, 1) := by decide +kernel
theorem dX6_way_46 : decode cX6_way 46 = .ok (.invokestatic 108, 3) := by decide +kernel
theorem dX6_way_49 : decode cX6_way 49 = .ok (.ireturn, 1) := by decide +kernel
theorem dX6_setting_0 : decode cX6_setting 0 = .ok (.aload_n 0, 1) := by decide +kernel
theorem dX6_setting_1 : decode cX6_setting 1 = .ok (.iload_n 1, 1) := by decide +kernel
theorem dX6_setting_2 : decode cX6_setting 2 = .ok (.i2l, 1) := by decide +kernel
theorem dX6_setting_3 : decode cX6_setting 3 = .ok (.lconst 0, 1) := by decide +kernel
theorem dX6_setting_4 : decode cX6_setting 4 = .ok (.ldc2_w 238, 3) := by decide +kernel
theorem dX6_setting_7 : decode cX6_setting 7 = .ok (.invokestatic 42, 3) := by decide +kernel
theorem dX6_setting_10 : decode cX6_setting 10 = .ok (.ifCond .eq 7, 3) := by decide +kernel
theorem dX6_setting_13 : decode cX6_setting 13 = .ok (.iconst 0, 1) := by decide +kernel
theorem dX6_setting_14 : decode cX6_setting 14 = .ok (.goto 4, 3) := by decide +kernel
theorem dX6_setting_17 : decode cX6_setting 17 = .ok (.iconst 1, 1) := by decide +kernel
theorem dX6_setting_18 : decode cX6_setting 18 = .ok (.invokevirtual 122, 3) := by decide +kernel
theorem dX6_setting_21 : decode cX6_setting 21 = .ok (.ifCond .eq 5, 3) := by decide +kernel
theorem dX6_setting_24 : decode cX6_setting 24 = .ok (.iconst 0, 1) := by decide +kernel
theorem dX6_setting_25 : decode cX6_setting 25 = .ok (.ireturn, 1) := by decide +kernel
theorem dX6_setting_26 : decode cX6_setting 26 = .ok (.aload_n 0, 1) := by decide +kernel
theorem dX6_setting_27 : decode cX6_setting 27 = .ok (.getfield 7, 3) := by decide +kernel
theorem dX6_setting_30 : decode cX6_setting 30 = .ok (.sipush 154, 3) := by decide +kernel
theorem dX6_setting_33 : decode cX6_setting 33 = .ok (.iload_n 1, 1) := by decide +kernel
theorem dX6_setting_34 : decode cX6_setting 34 = .ok (.iadd, 1) := by decide +kernel
theorem dX6_setting_35 : decode cX6_setting 35 = .ok (.iaload, 1) := by decide +kernel
theorem dX6_setting_36 : decode cX6_setting 36 = .ok (.ireturn, 1) := by decide +kernel
theorem dX6_gutter_0 : decode cX6_gutter 0 = .ok (.aload_n 0, 1) := by decide +kernel
theorem dX6_gutter_1 : decode cX6_gutter 1 = .ok (.aload_n 0, 1) := by decide +kernel
theorem dX6_gutter_2 : decode cX6_gutter 2 = .ok (.getfield 7, 3) := by decide +kernel
theorem dX6_gutter_5 : decode cX6_gutter 5 = .ok (.iload_n 3, 1) := by decide +kernel
theorem dX6_gutter_6 : decode cX6_gutter 6 = .ok (.iload 4, 2) := by decide +kernel
theorem dX6_gutter_8 : decode cX6_gutter 8 = .ok (.invokestatic 151, 3) := by decide +kernel
theorem dX6_gutter_11 : decode cX6_gutter 11 = .ok (.ifCond .ne 7, 3) := by decide +kernel
theorem dX6_gutter_14 : decode cX6_gutter 14 = .ok (.iconst 1, 1) := by decide +kernel
theorem dX6_gutter_15 : decode cX6_gutter 15 = .ok (.goto 33, 3) := by decide +kernel
theorem dX6_gutter_18 : decode cX6_gutter 18 = .ok (.iload_n 1, 1) := by decide +kernel
theorem dX6_gutter_19 : decode cX6_gutter 19 = .ok (.iload_n 2, 1) := by decide +kernel
theorem dX6_gutter_20 : decode cX6_gutter 20 = .ok (.invokestatic 240, 3) := by decide +kernel
theorem dX6_gutter_23 : decode cX6_gutter 23 = .ok (.ifCond .ne 7, 3) := by decide +kernel
theorem dX6_gutter_26 : decode cX6_gutter 26 = .ok (.iconst 2, 1) := by decide +kernel
theorem dX6_gutter_27 : decode cX6_gutter 27 = .ok (.goto 21, 3) := by decide +kernel
theorem dX6_gutter_30 : decode cX6_gutter 30 = .ok (.aload_n 0, 1) := by decide +kernel
theorem dX6_gutter_31 : decode cX6_gutter 31 = .ok (.getfield 7, 3) := by decide +kernel
theorem dX6_gutter_34 : decode cX6_gutter 34 = .ok (.sipush 146, 3) := by decide +kernel
theorem dX6_gutter_37 : decode cX6_gutter 37 = .ok (.iaload, 1) := by decide +kernel
theorem dX6_gutter_38 : decode cX6_gutter 38 = .ok (.bipush 6, 2) := by decide +kernel
theorem dX6_gutter_40 : decode cX6_gutter 40 = .ok (.if_icmp .ne 7, 3) := by decide +kernel
theorem dX6_gutter_43 : decode cX6_gutter 43 = .ok (.iconst 3, 1) := by decide +kernel
theorem dX6_gutter_44 : decode cX6_gutter 44 = .ok (.goto 4, 3) := by decide +kernel
theorem dX6_gutter_47 : decode cX6_gutter 47 = .ok (.iconst 0, 1) := by decide +kernel
theorem dX6_gutter_48 : decode cX6_gutter 48 = .ok (.invokevirtual 122, 3) := by decide +kernel
theorem dX6_gutter_51 : decode cX6_gutter 51 = .ok (.ifCond .eq 5, 3) := by decide +kernel
theorem dX6_gutter_54 : decode cX6_gutter 54 = .ok (.iconst 0, 1) := by decide +kernel
theorem dX6_gutter_55 : decode cX6_gutter 55 = .ok (.ireturn, 1) := by decide +kernel
theorem dX6_gutter_56 : decode cX6_gutter 56 = .ok (.aload_n 0, 1) := by decide +kernel
theorem dX6_gutter_57 : decode cX6_gutter 57 = .ok (.invokevirtual 243, 3) := by decide +kernel
theorem dX6_gutter_60 : decode cX6_gutter 60 = .ok (.aload_n 0, 1) := by decide +kernel
theorem dX6_gutter_61 : decode cX6_gutter 61 = .ok (.getfield 7, 3) := by decide +kernel
theorem dX6_gutter_64 : decode cX6_gutter 64 = .ok (.iload_n 1, 1) := by decide +kernel
theorem dX6_gutter_65 : decode cX6_gutter 65 = .ok (.iload_n 2, 1) := by decide +kernel
theorem dX6_gutter_66 : decode cX6_gutter 66 = .ok (.iload_n 3, 1) := by decide +kernel
theorem dX6_gutter_67 : decode cX6_gutter 67 = .ok (.iload 4, 2) := by decide +kernel
theorem dX6_gutter_69 : decode cX6_gutter 69 = .ok (.invokestatic 158, 3) := by decide +kernel
theorem dX6_gutter_72 : decode cX6_gutter 72 = .ok (.ireturn, 1) := by decide +kernel
theorem dX6_boat_0 : decode cX6_boat 0 = .ok (.aload_n 0, 1) := by decide +kernel
theorem dX6_boat_1 : decode cX6_boat 1 = .ok (.iload_n 3, 1) := by decide +kernel
theorem dX6_boat_2 : decode cX6_boat 2 = .ok (.invokestatic 232, 3) := by decide +kernel
theorem dX6_boat_5 : decode cX6_boat 5 = .ok (.ifCond .ne 7, 3) := by decide +kernel
theorem dX6_boat_8 : decode cX6_boat 8 = .ok (.iconst 1, 1) := by decide +kernel
theorem dX6_boat_9 : decode cX6_boat 9 = .ok (.goto 33, 3) := by decide +kernel
theorem dX6_boat_12 : decode cX6_boat 12 = .ok (.iload_n 1, 1) := by decide +kernel
theorem dX6_boat_13 : decode cX6_boat 13 = .ok (.iload_n 2, 1) := by decide +kernel
theorem dX6_boat_14 : decode cX6_boat 14 = .ok (.invokestatic 246, 3) := by decide +kernel
theorem dX6_boat_17 : decode cX6_boat 17 = .ok (.ifCond .ne 7, 3) := by decide +kernel
theorem dX6_boat_20 : decode cX6_boat 20 = .ok (.iconst 2, 1) := by decide +kernel
theorem dX6_boat_21 : decode cX6_boat 21 = .ok (.goto 21, 3) := by decide +kernel
theorem dX6_boat_24 : decode cX6_boat 24 = .ok (.aload_n 0, 1) := by decide +kernel
theorem dX6_boat_25 : decode cX6_boat 25 = .ok (.getfield 7, 3) := by decide +kernel
theorem dX6_boat_28 : decode cX6_boat 28 = .ok (.sipush 147, 3) := by decide +kernel
theorem dX6_boat_31 : decode cX6_boat 31 = .ok (.iaload, 1) := by decide +kernel
theorem dX6_boat_32 : decode cX6_boat 32 = .ok (.bipush 10, 2) := by decide +kernel
theorem dX6_boat_34 : decode cX6_boat 34 = .ok (.if_icmp .ne 7, 3) := by decide +kernel
theorem dX6_boat_37 : decode cX6_boat 37 = .ok (.iconst 3, 1) := by decide +kernel
theorem dX6_boat_38 : decode cX6_boat 38 = .ok (.goto 4, 3) := by decide +kernel
theorem dX6_boat_41 : decode cX6_boat 41 = .ok (.iconst 0, 1) := by decide +kernel
theorem dX6_boat_42 : decode cX6_boat 42 = .ok (.invokevirtual 122, 3) := by decide +kernel
theorem dX6_boat_45 : decode cX6_boat 45 = .ok (.ifCond .eq 5, 3) := by decide +kernel
theorem dX6_boat_48 : decode cX6_boat 48 = .ok (.iconst 0, 1) := by decide +kernel
theorem dX6_boat_49 : decode cX6_boat 49 = .ok (.ireturn, 1) := by decide +kernel
theorem dX6_boat_50 : decode cX6_boat 50 = .ok (.aload_n 0, 1) := by decide +kernel
theorem dX6_boat_51 : decode cX6_boat 51 = .ok (.invokevirtual 243, 3) := by decide +kernel
theorem dX6_boat_54 : decode cX6_boat 54 = .ok (.aload_n 0, 1) := by decide +kernel
theorem dX6_boat_55 : decode cX6_boat 55 = .ok (.getfield 7, 3) := by decide +kernel
theorem dX6_boat_58 : decode cX6_boat 58 = .ok (.iload_n 1, 1) := by decide +kernel
theorem dX6_boat_59 : decode cX6_boat 59 = .ok (.iload_n 2, 1) := by decide +kernel
theorem dX6_boat_60 : decode cX6_boat 60 = .ok (.iload_n 3, 1) := by decide +kernel
theorem dX6_boat_61 : decode cX6_boat 61 = .ok (.invokestatic 162, 3) := by decide +kernel
theorem dX6_boat_64 : decode cX6_boat 64 = .ok (.ireturn, 1) := by decide +kernel
theorem dX6_launch_0 : decode cX6_launch 0 = .ok (.aload_n 0, 1) := by decide +kernel
theorem dX6_launch_1 : decode cX6_launch 1 = .ok (.getfield 7, 3) := by decide +kernel
theorem dX6_launch_4 : decode cX6_launch 4 = .ok (.iload_n 1, 1) := by decide +kernel
theorem dX6_launch_5 : decode cX6_launch 5 = .ok (.invokestatic 166, 3) := by decide +kernel
theorem dX6_launch_8 : decode cX6_launch 8 = .ok (.ifCond .eq 18, 3) := by decide +kernel
theorem dX6_launch_11 : decode cX6_launch 11 = .ok (.aload_n 0, 1) := by decide +kernel
theorem dX6_launch_12 : decode cX6_launch 12 = .ok (.getfield 7, 3) := by decide +kernel
theorem dX6_launch_15 : decode cX6_launch 15 = .ok (.iload_n 2, 1) := by decide +kernel
theorem dX6_launch_16 : decode cX6_launch 16 = .ok (.invokestatic 46, 3) := by decide +kernel
theorem dX6_launch_19 : decode cX6_launch 19 = .ok (.ifCond .eq 7, 3) := by decide +kernel
theorem dX6_launch_22 : decode cX6_launch 22 = .ok (.iconst 1, 1) := by decide +kernel
theorem dX6_launch_23 : decode cX6_launch 23 = .ok (.goto 4, 3) := by decide +kernel
theorem dX6_launch_26 : decode cX6_launch 26 = .ok (.iconst 0, 1) := by decide +kernel
theorem dX6_launch_27 : decode cX6_launch 27 = .ok (.istore_n 3, 1) := by decide +kernel
theorem dX6_launch_28 : decode cX6_launch 28 = .ok (.aload_n 0, 1) := by decide +kernel
theorem dX6_launch_29 : decode cX6_launch 29 = .ok (.iload_n 3, 1) := by decide +kernel
theorem dX6_launch_30 : decode cX6_launch 30 = .ok (.ifCond .ne 7, 3) := by decide +kernel
theorem dX6_launch_33 : decode cX6_launch 33 = .ok (.iconst 1, 1) := by decide +kernel
theorem dX6_launch_34 : decode cX6_launch 34 = .ok (.goto 19, 3) := by decide +kernel
theorem dX6_launch_37 : decode cX6_launch 37 = .ok (.aload_n 0, 1) := by decide +kernel
theorem dX6_launch_38 : decode cX6_launch 38 = .ok (.getfield 7, 3) := by decide +kernel
theorem dX6_launch_41 : decode cX6_launch 41 = .ok (.iload_n 1, 1) := by decide +kernel
theorem dX6_launch_42 : decode cX6_launch 42 = .ok (.invokestatic 64, 3) := by decide +kernel
theorem dX6_launch_45 : decode cX6_launch 45 = .ok (.ifCond .eq 7, 3) := by decide +kernel
theorem dX6_launch_48 : decode cX6_launch 48 = .ok (.iconst 2, 1) := by decide +kernel
theorem dX6_launch_49 : decode cX6_launch 49 = .ok (.goto 4, 3) := by decide +kernel
theorem dX6_launch_52 : decode cX6_launch 52 = .ok (.iconst 0, 1) := by decide +kernel
theorem dX6_launch_53 : decode cX6_launch 53 = .ok (.invokevirtual 122, 3) := by decide +kernel
theorem dX6_launch_56 : decode cX6_launch 56 = .ok (.ifCond .eq 5, 3) := by decide +kernel
theorem dX6_launch_59 : decode cX6_launch 59 = .ok (.iconst 0, 1) := by decide +kernel
theorem dX6_launch_60 : decode cX6_launch 60 = .ok (.ireturn, 1) := by decide +kernel
theorem dX6_launch_61 : decode cX6_launch 61 = .ok (.aload_n 0, 1) := by decide +kernel
theorem dX6_launch_62 : decode cX6_launch 62 = .ok (.invokevirtual 243, 3) := by decide +kernel
theorem dX6_launch_65 : decode cX6_launch 65 = .ok (.aload_n 0, 1) := by decide +kernel
theorem dX6_launch_66 : decode cX6_launch 66 = .ok (.getfield 7, 3) := by decide +kernel
theorem dX6_launch_69 : decode cX6_launch 69 = .ok (.iload_n 1, 1) := by decide +kernel
theorem dX6_launch_70 : decode cX6_launch 70 = .ok (.iload_n 2, 1) := by decide +kernel
theorem dX6_launch_71 : decode cX6_launch 71 = .ok (.invokestatic 169, 3) := by decide +kernel
theorem dX6_launch_74 : decode cX6_launch 74 = .ok (.ireturn, 1) := by decide +kernel
theorem dX6_hook_0 : decode cX6_hook 0 = .ok (.aload_n 0, 1) := by decide +kernel
theorem dX6_hook_1 : decode cX6_hook 1 = .ok (.iload_n 1, 1) := by decide +kernel
theorem dX6_hook_2 : decode cX6_hook 2 = .ok (.invokestatic 232, 3) := by decide +kernel
theorem dX6_hook_5 : decode cX6_hook 5 = .ok (.ifCond .eq 19, 3) := by decide +kernel
theorem dX6_hook_8 : decode cX6_hook 8 = .ok (.aload_n 0, 1) := by decide +kernel
theorem dX6_hook_9 : decode cX6_hook 9 = .ok (.getfield 7, 3) := by decide +kernel
theorem dX6_hook_12 : decode cX6_hook 12 = .ok (.iload_n 2, 1) := by decide +kernel
theorem dX6_hook_13 : decode cX6_hook 13 = .ok (.iload_n 3, 1) := by decide +kernel
theorem dX6_hook_14 : decode cX6_hook 14 = .ok (.invokestatic 111, 3) := by decide +kernel
theorem dX6_hook_17 : decode cX6_hook 17 = .ok (.ifCond .eq 7, 3) := by decide +kernel
theorem dX6_hook_20 : decode cX6_hook 20 = .ok (.iconst 0, 1) := by decide +kernel
theorem dX6_hook_21 : decode cX6_hook 21 = .ok (.goto 4, 3) := by decide +kernel
theorem dX6_hook_24 : decode cX6_hook 24 = .ok (.iconst 1, 1) := by decide +kernel
theorem dX6_hook_25 : decode cX6_hook 25 = .ok (.invokevirtual 122, 3) := by decide +kernel
theorem dX6_hook_28 : decode cX6_hook 28 = .ok (.ifCond .eq 5, 3) := by decide +kernel
theorem dX6_hook_31 : decode cX6_hook 31 = .ok (.iconst 0, 1) := by decide +kernel
theorem dX6_hook_32 : decode cX6_hook 32 = .ok (.ireturn, 1) := by decide +kernel
theorem dX6_hook_33 : decode cX6_hook 33 = .ok (.aload_n 0, 1) := by decide +kernel
theorem dX6_hook_34 : decode cX6_hook 34 = .ok (.invokevirtual 243, 3) := by decide +kernel
theorem dX6_hook_37 : decode cX6_hook 37 = .ok (.aload_n 0, 1) := by decide +kernel
theorem dX6_hook_38 : decode cX6_hook 38 = .ok (.getfield 7, 3) := by decide +kernel
theorem dX6_hook_41 : decode cX6_hook 41 = .ok (.iload_n 1, 1) := by decide +kernel
theorem dX6_hook_42 : decode cX6_hook 42 = .ok (.iload_n 2, 1) := by decide +kernel
theorem dX6_hook_43 : decode cX6_hook 43 = .ok (.iload_n 3, 1) := by decide +kernel
theorem dX6_hook_44 : decode cX6_hook 44 = .ok (.invokestatic 172, 3) := by decide +kernel
theorem dX6_hook_47 : decode cX6_hook 47 = .ok (.ireturn, 1) := by decide +kernel
theorem dX6_claim_0 : decode cX6_claim 0 = .ok (.aload_n 0, 1) := by decide +kernel
theorem dX6_claim_1 : decode cX6_claim 1 = .ok (.iload_n 1, 1) := by decide +kernel
theorem dX6_claim_2 : decode cX6_claim 2 = .ok (.invokestatic 232, 3) := by decide +kernel
theorem dX6_claim_5 : decode cX6_claim 5 = .ok (.ifCond .eq 18, 3) := by decide +kernel
theorem dX6_claim_8 : decode cX6_claim 8 = .ok (.aload_n 0, 1) := by decide +kernel
theorem dX6_claim_9 : decode cX6_claim 9 = .ok (.getfield 7, 3) := by decide +kernel
theorem dX6_claim_12 : decode cX6_claim 12 = .ok (.iload_n 2, 1) := by decide +kernel
theorem dX6_claim_13 : decode cX6_claim 13 = .ok (.invokestatic 166, 3) := by decide +kernel
theorem dX6_claim_16 : decode cX6_claim 16 = .ok (.ifCond .eq 7, 3) := by decide +kernel
theorem dX6_claim_19 : decode cX6_claim 19 = .ok (.iconst 0, 1) := by decide +kernel
theorem dX6_claim_20 : decode cX6_claim 20 = .ok (.goto 4, 3) := by decide +kernel
theorem dX6_claim_23 : decode cX6_claim 23 = .ok (.iconst 1, 1) := by decide +kernel
theorem dX6_claim_24 : decode cX6_claim 24 = .ok (.invokevirtual 122, 3) := by decide +kernel
theorem dX6_claim_27 : decode cX6_claim 27 = .ok (.ifCond .eq 5, 3) := by decide +kernel
theorem dX6_claim_30 : decode cX6_claim 30 = .ok (.iconst 0, 1) := by decide +kernel
theorem dX6_claim_31 : decode cX6_claim 31 = .ok (.ireturn, 1) := by decide +kernel
theorem dX6_claim_32 : decode cX6_claim 32 = .ok (.aload_n 0, 1) := by decide +kernel
theorem dX6_claim_33 : decode cX6_claim 33 = .ok (.invokevirtual 243, 3) := by decide +kernel
theorem dX6_claim_36 : decode cX6_claim 36 = .ok (.aload_n 0, 1) := by decide +kernel
theorem dX6_claim_37 : decode cX6_claim 37 = .ok (.getfield 7, 3) := by decide +kernel
theorem dX6_claim_40 : decode cX6_claim 40 = .ok (.iload_n 1, 1) := by decide +kernel
theorem dX6_claim_41 : decode cX6_claim 41 = .ok (.iload_n 2, 1) := by decide +kernel
theorem dX6_claim_42 : decode cX6_claim 42 = .ok (.invokestatic 175, 3) := by decide +kernel
theorem dX6_claim_45 : decode cX6_claim 45 = .ok (.ireturn, 1) := by decide +kernel
theorem dX6_minutes_0 : decode cX6_minutes 0 = .ok (.aload_n 0, 1) := by decide +kernel
theorem dX6_minutes_1 : decode cX6_minutes 1 = .ok (.iload_n 1, 1) := by decide +kernel
theorem dX6_minutes_2 : decode cX6_minutes 2 = .ok (.i2l, 1) := by decide +kernel
theorem dX6_minutes_3 : decode cX6_minutes 3 = .ok (.lconst 1, 1) := by decide +kernel
theorem dX6_minutes_4 : decode cX6_minutes 4 = .ok (.ldc2_w 249, 3) := by decide +kernel
theorem dX6_minutes_7 : decode cX6_minutes 7 = .ok (.invokestatic 42, 3) := by decide +kernel
theorem dX6_minutes_10 : decode cX6_minutes 10 = .ok (.ifCond .eq 7, 3) := by decide +kernel
theorem dX6_minutes_13 : decode cX6_minutes 13 = .ok (.iconst 0, 1) := by decide +kernel
theorem dX6_minutes_14 : decode cX6_minutes 14 = .ok (.goto 4, 3) := by decide +kernel
theorem dX6_minutes_17 : decode cX6_minutes 17 = .ok (.iconst 1, 1) := by decide +kernel
theorem dX6_minutes_18 : decode cX6_minutes 18 = .ok (.invokevirtual 122, 3) := by decide +kernel
theorem dX6_minutes_21 : decode cX6_minutes 21 = .ok (.ifCond .eq 5, 3) := by decide +kernel
theorem dX6_minutes_24 : decode cX6_minutes 24 = .ok (.iconst 0, 1) := by decide +kernel
theorem dX6_minutes_25 : decode cX6_minutes 25 = .ok (.ireturn, 1) := by decide +kernel
theorem dX6_minutes_26 : decode cX6_minutes 26 = .ok (.aload_n 0, 1) := by decide +kernel
theorem dX6_minutes_27 : decode cX6_minutes 27 = .ok (.invokevirtual 243, 3) := by decide +kernel
theorem dX6_minutes_30 : decode cX6_minutes 30 = .ok (.aload_n 0, 1) := by decide +kernel
theorem dX6_minutes_31 : decode cX6_minutes 31 = .ok (.getfield 7, 3) := by decide +kernel
theorem dX6_minutes_34 : decode cX6_minutes 34 = .ok (.iload_n 1, 1) := by decide +kernel
theorem dX6_minutes_35 : decode cX6_minutes 35 = .ok (.invokestatic 178, 3) := by decide +kernel
theorem dX6_minutes_38 : decode cX6_minutes 38 = .ok (.ireturn, 1) := by decide +kernel
theorem dX6_set_0 : decode cX6_set 0 = .ok (.aload_n 0, 1) := by decide +kernel
theorem dX6_set_1 : decode cX6_set 1 = .ok (.iload_n 1, 1) := by decide +kernel
theorem dX6_set_2 : decode cX6_set 2 = .ok (.iload_n 2, 1) := by decide +kernel
theorem dX6_set_3 : decode cX6_set 3 = .ok (.invokestatic 181, 3) := by decide +kernel
theorem dX6_set_6 : decode cX6_set 6 = .ok (.ifCond .eq 7, 3) := by decide +kernel
theorem dX6_set_9 : decode cX6_set 9 = .ok (.iconst 0, 1) := by decide +kernel
theorem dX6_set_10 : decode cX6_set 10 = .ok (.goto 4, 3) := by decide +kernel
theorem dX6_set_13 : decode cX6_set 13 = .ok (.iconst 1, 1) := by decide +kernel
theorem dX6_set_14 : decode cX6_set 14 = .ok (.invokevirtual 122, 3) := by decide +kernel
theorem dX6_set_17 : decode cX6_set 17 = .ok (.ifCond .eq 5, 3) := by decide +kernel
theorem dX6_set_20 : decode cX6_set 20 = .ok (.iconst 0, 1) := by decide +kernel
theorem dX6_set_21 : decode cX6_set 21 = .ok (.ireturn, 1) := by decide +kernel
theorem dX6_set_22 : decode cX6_set 22 = .ok (.aload_n 0, 1) := by decide +kernel
theorem dX6_set_23 : decode cX6_set 23 = .ok (.invokevirtual 243, 3) := by decide +kernel
theorem dX6_set_26 : decode cX6_set 26 = .ok (.aload_n 0, 1) := by decide +kernel
theorem dX6_set_27 : decode cX6_set 27 = .ok (.getfield 7, 3) := by decide +kernel
theorem dX6_set_30 : decode cX6_set 30 = .ok (.sipush 154, 3) := by decide +kernel
theorem dX6_set_33 : decode cX6_set 33 = .ok (.iload_n 1, 1) := by decide +kernel
theorem dX6_set_34 : decode cX6_set 34 = .ok (.iadd, 1) := by decide +kernel
theorem dX6_set_35 : decode cX6_set 35 = .ok (.iload_n 2, 1) := by decide +kernel
theorem dX6_set_36 : decode cX6_set 36 = .ok (.invokestatic 185, 3) := by decide +kernel
theorem dX6_set_39 : decode cX6_set 39 = .ok (.ireturn, 1) := by decide +kernel
theorem dX6_undo_0 : decode cX6_undo 0 = .ok (.aload_n 0, 1) := by decide +kernel
theorem dX6_undo_1 : decode cX6_undo 1 = .ok (.aload_n 0, 1) := by decide +kernel
theorem dX6_undo_2 : decode cX6_undo 2 = .ok (.getfield 114, 3) := by decide +kernel
theorem dX6_undo_5 : decode cX6_undo 5 = .ok (.ifCond .ne 7, 3) := by decide +kernel
theorem dX6_undo_8 : decode cX6_undo 8 = .ok (.iconst 1, 1) := by decide +kernel
theorem dX6_undo_9 : decode cX6_undo 9 = .ok (.goto 4, 3) := by decide +kernel
theorem dX6_undo_12 : decode cX6_undo 12 = .ok (.iconst 0, 1) := by decide +kernel
theorem dX6_undo_13 : decode cX6_undo 13 = .ok (.invokevirtual 122, 3) := by decide +kernel
theorem dX6_undo_16 : decode cX6_undo 16 = .ok (.ifCond .eq 5, 3) := by decide +kernel
theorem dX6_undo_19 : decode cX6_undo 19 = .ok (.iconst 0, 1) := by decide +kernel
theorem dX6_undo_20 : decode cX6_undo 20 = .ok (.ireturn, 1) := by decide +kernel
theorem dX6_undo_21 : decode cX6_undo 21 = .ok (.aload_n 0, 1) := by decide +kernel
theorem dX6_undo_22 : decode cX6_undo 22 = .ok (.dup, 1) := by decide +kernel
theorem dX6_undo_23 : decode cX6_undo 23 = .ok (.getfield 114, 3) := by decide +kernel
theorem dX6_undo_26 : decode cX6_undo 26 = .ok (.iconst 1, 1) := by decide +kernel
theorem dX6_undo_27 : decode cX6_undo 27 = .ok (.isub, 1) := by decide +kernel
theorem dX6_undo_28 : decode cX6_undo 28 = .ok (.putfield 114, 3) := by decide +kernel
theorem dX6_undo_31 : decode cX6_undo 31 = .ok (.iconst 0, 1) := by decide +kernel
theorem dX6_undo_32 : decode cX6_undo 32 = .ok (.istore_n 1, 1) := by decide +kernel
theorem dX6_undo_33 : decode cX6_undo 33 = .ok (.iload_n 1, 1) := by decide +kernel
theorem dX6_undo_34 : decode cX6_undo 34 = .ok (.sipush 157, 3) := by decide +kernel
theorem dX6_undo_37 : decode cX6_undo 37 = .ok (.if_icmp .ge 30, 3) := by decide +kernel
theorem dX6_undo_40 : decode cX6_undo 40 = .ok (.aload_n 0, 1) := by decide +kernel
theorem dX6_undo_41 : decode cX6_undo 41 = .ok (.getfield 7, 3) := by decide +kernel
theorem dX6_undo_44 : decode cX6_undo 44 = .ok (.iload_n 1, 1) := by decide +kernel
theorem dX6_undo_45 : decode cX6_undo 45 = .ok (.aload_n 0, 1) := by decide +kernel
theorem dX6_undo_46 : decode cX6_undo 46 = .ok (.getfield 19, 3) := by decide +kernel
theorem dX6_undo_49 : decode cX6_undo 49 = .ok (.sipush 157, 3) := by decide +kernel
theorem dX6_undo_52 : decode cX6_undo 52 = .ok (.aload_n 0, 1) := by decide +kernel
theorem dX6_undo_53 : decode cX6_undo 53 = .ok (.getfield 114, 3) := by decide +kernel
theorem dX6_undo_56 : decode cX6_undo 56 = .ok (.imul, 1) := by decide +kernel
theorem dX6_undo_57 : decode cX6_undo 57 = .ok (.iload_n 1, 1) := by decide +kernel
theorem dX6_undo_58 : decode cX6_undo 58 = .ok (.iadd, 1) := by decide +kernel
theorem dX6_undo_59 : decode cX6_undo 59 = .ok (.iaload, 1) := by decide +kernel
theorem dX6_undo_60 : decode cX6_undo 60 = .ok (.iastore, 1) := by decide +kernel
theorem dX6_undo_61 : decode cX6_undo 61 = .ok (.iinc 1 1, 3) := by decide +kernel
theorem dX6_undo_64 : decode cX6_undo 64 = .ok (.goto (-31), 3) := by decide +kernel
theorem dX6_undo_67 : decode cX6_undo 67 = .ok (.aload_n 0, 1) := by decide +kernel
theorem dX6_undo_68 : decode cX6_undo 68 = .ok (.getfield 114, 3) := by decide +kernel
theorem dX6_undo_71 : decode cX6_undo 71 = .ok (.ireturn, 1) := by decide +kernel
theorem dX6_why_0 : decode cX6_why 0 = .ok (.aload_n 0, 1) := by decide +kernel
theorem dX6_why_1 : decode cX6_why 1 = .ok (.iload_n 1, 1) := by decide +kernel
theorem dX6_why_2 : decode cX6_why 2 = .ok (.invokestatic 232, 3) := by decide +kernel
theorem dX6_why_5 : decode cX6_why 5 = .ok (.ifCond .eq 18, 3) := by decide +kernel
theorem dX6_why_8 : decode cX6_why 8 = .ok (.aload_n 0, 1) := by decide +kernel
theorem dX6_why_9 : decode cX6_why 9 = .ok (.getfield 7, 3) := by decide +kernel
theorem dX6_why_12 : decode cX6_why 12 = .ok (.iload_n 2, 1) := by decide +kernel
theorem dX6_why_13 : decode cX6_why 13 = .ok (.invokestatic 166, 3) := by decide +kernel
theorem dX6_why_16 : decode cX6_why 16 = .ok (.ifCond .eq 7, 3) := by decide +kernel
theorem dX6_why_19 : decode cX6_why 19 = .ok (.iconst 0, 1) := by decide +kernel
theorem dX6_why_20 : decode cX6_why 20 = .ok (.goto 4, 3) := by decide +kernel
theorem dX6_why_23 : decode cX6_why 23 = .ok (.iconst 1, 1) := by decide +kernel
theorem dX6_why_24 : decode cX6_why 24 = .ok (.invokevirtual 122, 3) := by decide +kernel
theorem dX6_why_27 : decode cX6_why 27 = .ok (.ifCond .eq 5, 3) := by decide +kernel
theorem dX6_why_30 : decode cX6_why 30 = .ok (.iconst 0, 1) := by decide +kernel
theorem dX6_why_31 : decode cX6_why 31 = .ok (.ireturn, 1) := by decide +kernel
theorem dX6_why_32 : decode cX6_why 32 = .ok (.aload_n 0, 1) := by decide +kernel
theorem dX6_why_33 : decode cX6_why 33 = .ok (.getfield 7, 3) := by decide +kernel
theorem dX6_why_36 : decode cX6_why 36 = .ok (.iload_n 1, 1) := by decide +kernel
theorem dX6_why_37 : decode cX6_why 37 = .ok (.iload_n 2, 1) := by decide +kernel
theorem dX6_why_38 : decode cX6_why 38 = .ok (.invokestatic 102, 3) := by decide +kernel
theorem dX6_why_41 : decode cX6_why 41 = .ok (.ireturn, 1) := by decide +kernel
theorem dX6_goesTill_0 : decode cX6_goesTill 0 = .ok (.iconst 0, 1) := by decide +kernel
theorem dX6_goesTill_1 : decode cX6_goesTill 1 = .ok (.istore_n 2, 1) := by decide +kernel
theorem dX6_goesTill_2 : decode cX6_goesTill 2 = .ok (.aload_n 0, 1) := by decide +kernel
theorem dX6_goesTill_3 : decode cX6_goesTill 3 = .ok (.getfield 13, 3) := by decide +kernel
theorem dX6_goesTill_6 : decode cX6_goesTill 6 = .ok (.iload_n 1, 1) := by decide +kernel
theorem dX6_goesTill_7 : decode cX6_goesTill 7 = .ok (.invokestatic 64, 3) := by decide +kernel
theorem dX6_goesTill_10 : decode cX6_goesTill 10 = .ok (.iconst 1, 1) := by decide +kernel
theorem dX6_goesTill_11 : decode cX6_goesTill 11 = .ok (.if_icmp .ne 17, 3) := by decide +kernel
theorem dX6_goesTill_14 : decode cX6_goesTill 14 = .ok (.aload_n 0, 1) := by decide +kernel
theorem dX6_goesTill_15 : decode cX6_goesTill 15 = .ok (.getfield 13, 3) := by decide +kernel
theorem dX6_goesTill_18 : decode cX6_goesTill 18 = .ok (.invokestatic 89, 3) := by decide +kernel
theorem dX6_goesTill_21 : decode cX6_goesTill 21 = .ok (.istore_n 3, 1) := by decide +kernel
theorem dX6_goesTill_22 : decode cX6_goesTill 22 = .ok (.iinc 2 1, 3) := by decide +kernel
theorem dX6_goesTill_25 : decode cX6_goesTill 25 = .ok (.goto (-23), 3) := by decide +kernel
theorem dX6_goesTill_28 : decode cX6_goesTill 28 = .ok (.iload_n 2, 1) := by decide +kernel
theorem dX6_goesTill_29 : decode cX6_goesTill 29 = .ok (.ireturn, 1) := by decide +kernel
theorem dX6_endsIn_0 : decode cX6_endsIn 0 = .ok (.aload_n 0, 1) := by decide +kernel
theorem dX6_endsIn_1 : decode cX6_endsIn 1 = .ok (.aload_n 0, 1) := by decide +kernel
theorem dX6_endsIn_2 : decode cX6_endsIn 2 = .ok (.getfield 7, 3) := by decide +kernel
theorem dX6_endsIn_5 : decode cX6_endsIn 5 = .ok (.iload_n 1, 1) := by decide +kernel
theorem dX6_endsIn_6 : decode cX6_endsIn 6 = .ok (.invokestatic 166, 3) := by decide +kernel
theorem dX6_endsIn_9 : decode cX6_endsIn 9 = .ok (.ifCond .ne 7, 3) := by decide +kernel
theorem dX6_endsIn_12 : decode cX6_endsIn 12 = .ok (.iconst 1, 1) := by decide +kernel
theorem dX6_endsIn_13 : decode cX6_endsIn 13 = .ok (.goto 34, 3) := by decide +kernel
theorem dX6_endsIn_16 : decode cX6_endsIn 16 = .ok (.iload_n 2, 1) := by decide +kernel
theorem dX6_endsIn_17 : decode cX6_endsIn 17 = .ok (.i2l, 1) := by decide +kernel
theorem dX6_endsIn_18 : decode cX6_endsIn 18 = .ok (.lconst 0, 1) := by decide +kernel
theorem dX6_endsIn_19 : decode cX6_endsIn 19 = .ok (.lconst 1, 1) := by decide +kernel
theorem dX6_endsIn_20 : decode cX6_endsIn 20 = .ok (.invokestatic 42, 3) := by decide +kernel
theorem dX6_endsIn_23 : decode cX6_endsIn 23 = .ok (.ifCond .ne 7, 3) := by decide +kernel
theorem dX6_endsIn_26 : decode cX6_endsIn 26 = .ok (.iconst 2, 1) := by decide +kernel
theorem dX6_endsIn_27 : decode cX6_endsIn 27 = .ok (.goto 20, 3) := by decide +kernel
theorem dX6_endsIn_30 : decode cX6_endsIn 30 = .ok (.aload_n 0, 1) := by decide +kernel
theorem dX6_endsIn_31 : decode cX6_endsIn 31 = .ok (.getfield 7, 3) := by decide +kernel
theorem dX6_endsIn_34 : decode cX6_endsIn 34 = .ok (.iload_n 1, 1) := by decide +kernel
theorem dX6_endsIn_35 : decode cX6_endsIn 35 = .ok (.invokestatic 64, 3) := by decide +kernel
theorem dX6_endsIn_38 : decode cX6_endsIn 38 = .ok (.iconst 1, 1) := by decide +kernel
theorem dX6_endsIn_39 : decode cX6_endsIn 39 = .ok (.if_icmp .eq 7, 3) := by decide +kernel
theorem dX6_endsIn_42 : decode cX6_endsIn 42 = .ok (.iconst 3, 1) := by decide +kernel
theorem dX6_endsIn_43 : decode cX6_endsIn 43 = .ok (.goto 4, 3) := by decide +kernel
theorem dX6_endsIn_46 : decode cX6_endsIn 46 = .ok (.iconst 0, 1) := by decide +kernel
theorem dX6_endsIn_47 : decode cX6_endsIn 47 = .ok (.invokevirtual 122, 3) := by decide +kernel
theorem dX6_endsIn_50 : decode cX6_endsIn 50 = .ok (.ifCond .eq 5, 3) := by decide +kernel
theorem dX6_endsIn_53 : decode cX6_endsIn 53 = .ok (.iconst 0, 1) := by decide +kernel
theorem dX6_endsIn_54 : decode cX6_endsIn 54 = .ok (.ireturn, 1) := by decide +kernel
theorem dX6_endsIn_55 : decode cX6_endsIn 55 = .ok (.aload_n 0, 1) := by decide +kernel
theorem dX6_endsIn_56 : decode cX6_endsIn 56 = .ok (.getfield 7, 3) := by decide +kernel
theorem dX6_endsIn_59 : decode cX6_endsIn 59 = .ok (.aload_n 0, 1) := by decide +kernel
theorem dX6_endsIn_60 : decode cX6_endsIn 60 = .ok (.getfield 13, 3) := by decide +kernel
theorem dX6_endsIn_63 : decode cX6_endsIn 63 = .ok (.invokestatic 212, 3) := by decide +kernel
theorem dX6_endsIn_66 : decode cX6_endsIn 66 = .ok (.aload_n 0, 1) := by decide +kernel
theorem dX6_endsIn_67 : decode cX6_endsIn 67 = .ok (.iload_n 1, 1) := by decide +kernel
theorem dX6_endsIn_68 : decode cX6_endsIn 68 = .ok (.invokevirtual 251, 3) := by decide +kernel
theorem dX6_endsIn_71 : decode cX6_endsIn 71 = .ok (.istore_n 3, 1) := by decide +kernel
theorem dX6_endsIn_72 : decode cX6_endsIn 72 = .ok (.aload_n 0, 1) := by decide +kernel
theorem dX6_endsIn_73 : decode cX6_endsIn 73 = .ok (.getfield 13, 3) := by decide +kernel
theorem dX6_endsIn_76 : decode cX6_endsIn 76 = .ok (.iload_n 1, 1) := by decide +kernel
theorem dX6_endsIn_77 : decode cX6_endsIn 77 = .ok (.invokestatic 64, 3) := by decide +kernel
theorem dX6_endsIn_80 : decode cX6_endsIn 80 = .ok (.iconst 3, 1) := by decide +kernel
theorem dX6_endsIn_81 : decode cX6_endsIn 81 = .ok (.if_icmp .ne 7, 3) := by decide +kernel
theorem dX6_endsIn_84 : decode cX6_endsIn 84 = .ok (.iconst 1, 1) := by decide +kernel
theorem dX6_endsIn_85 : decode cX6_endsIn 85 = .ok (.goto 4, 3) := by decide +kernel
theorem dX6_endsIn_88 : decode cX6_endsIn 88 = .ok (.iconst 0, 1) := by decide +kernel
theorem dX6_endsIn_89 : decode cX6_endsIn 89 = .ok (.iload_n 2, 1) := by decide +kernel
theorem dX6_endsIn_90 : decode cX6_endsIn 90 = .ok (.iconst 1, 1) := by decide +kernel
theorem dX6_endsIn_91 : decode cX6_endsIn 91 = .ok (.if_icmp .ne 7, 3) := by decide +kernel
theorem dX6_endsIn_94 : decode cX6_endsIn 94 = .ok (.iconst 1, 1) := by decide +kernel
theorem dX6_endsIn_95 : decode cX6_endsIn 95 = .ok (.goto 4, 3) := by decide +kernel
theorem dX6_endsIn_98 : decode cX6_endsIn 98 = .ok (.iconst 0, 1) := by decide +kernel
theorem dX6_endsIn_99 : decode cX6_endsIn 99 = .ok (.if_icmp .ne 7, 3) := by decide +kernel
theorem dX6_endsIn_102 : decode cX6_endsIn 102 = .ok (.iload_n 3, 1) := by decide +kernel
theorem dX6_endsIn_103 : decode cX6_endsIn 103 = .ok (.goto 4, 3) := by decide +kernel
theorem dX6_endsIn_106 : decode cX6_endsIn 106 = .ok (.iconst (-1), 1) := by decide +kernel
theorem dX6_endsIn_107 : decode cX6_endsIn 107 = .ok (.ireturn, 1) := by decide +kernel
theorem dX6_winner_0 : decode cX6_winner 0 = .ok (.aload_n 0, 1) := by decide +kernel
theorem dX6_winner_1 : decode cX6_winner 1 = .ok (.iconst 0, 1) := by decide +kernel
theorem dX6_winner_2 : decode cX6_winner 2 = .ok (.putfield 36, 3) := by decide +kernel
theorem dX6_winner_5 : decode cX6_winner 5 = .ok (.aload_n 0, 1) := by decide +kernel
theorem dX6_winner_6 : decode cX6_winner 6 = .ok (.getfield 7, 3) := by decide +kernel
theorem dX6_winner_9 : decode cX6_winner 9 = .ok (.aload_n 0, 1) := by decide +kernel
theorem dX6_winner_10 : decode cX6_winner 10 = .ok (.getfield 13, 3) := by decide +kernel
theorem dX6_winner_13 : decode cX6_winner 13 = .ok (.invokestatic 212, 3) := by decide +kernel
theorem dX6_winner_16 : decode cX6_winner 16 = .ok (.aload_n 0, 1) := by decide +kernel
theorem dX6_winner_17 : decode cX6_winner 17 = .ok (.getfield 13, 3) := by decide +kernel
theorem dX6_winner_20 : decode cX6_winner 20 = .ok (.sipush 150, 3) := by decide +kernel
theorem dX6_winner_23 : decode cX6_winner 23 = .ok (.iaload, 1) := by decide +kernel
theorem dX6_winner_24 : decode cX6_winner 24 = .ok (.iconst 1, 1) := by decide +kernel
theorem dX6_winner_25 : decode cX6_winner 25 = .ok (.if_icmp .ne 14, 3) := by decide +kernel
theorem dX6_winner_28 : decode cX6_winner 28 = .ok (.aload_n 0, 1) := by decide +kernel
theorem dX6_winner_29 : decode cX6_winner 29 = .ok (.getfield 13, 3) := by decide +kernel
theorem dX6_winner_32 : decode cX6_winner 32 = .ok (.invokestatic 89, 3) := by decide +kernel
theorem dX6_winner_35 : decode cX6_winner 35 = .ok (.istore_n 1, 1) := by decide +kernel
theorem dX6_winner_36 : decode cX6_winner 36 = .ok (.goto (-20), 3) := by decide +kernel
theorem dX6_winner_39 : decode cX6_winner 39 = .ok (.iconst 0, 1) := by decide +kernel
theorem dX6_winner_40 : decode cX6_winner 40 = .ok (.istore_n 1, 1) := by decide +kernel
theorem dX6_winner_41 : decode cX6_winner 41 = .ok (.iload_n 1, 1) := by decide +kernel
theorem dX6_winner_42 : decode cX6_winner 42 = .ok (.aload_n 0, 1) := by decide +kernel
theorem dX6_winner_43 : decode cX6_winner 43 = .ok (.getfield 7, 3) := by decide +kernel
theorem dX6_winner_46 : decode cX6_winner 46 = .ok (.sipush 147, 3) := by decide +kernel
theorem dX6_winner_49 : decode cX6_winner 49 = .ok (.iaload, 1) := by decide +kernel
theorem dX6_winner_50 : decode cX6_winner 50 = .ok (.if_icmp .ge 38, 3) := by decide +kernel
theorem dX6_winner_53 : decode cX6_winner 53 = .ok (.aload_n 0, 1) := by decide +kernel
theorem dX6_winner_54 : decode cX6_winner 54 = .ok (.getfield 13, 3) := by decide +kernel
theorem dX6_winner_57 : decode cX6_winner 57 = .ok (.iload_n 1, 1) := by decide +kernel
theorem dX6_winner_58 : decode cX6_winner 58 = .ok (.invokestatic 60, 3) := by decide +kernel
theorem dX6_winner_61 : decode cX6_winner 61 = .ok (.bipush 8, 2) := by decide +kernel
theorem dX6_winner_63 : decode cX6_winner 63 = .ok (.iadd, 1) := by decide +kernel
theorem dX6_winner_64 : decode cX6_winner 64 = .ok (.iaload, 1) := by decide +kernel
theorem dX6_winner_65 : decode cX6_winner 65 = .ok (.aload_n 0, 1) := by decide +kernel
theorem dX6_winner_66 : decode cX6_winner 66 = .ok (.getfield 7, 3) := by decide +kernel
theorem dX6_winner_69 : decode cX6_winner 69 = .ok (.iload_n 1, 1) := by decide +kernel
theorem dX6_winner_70 : decode cX6_winner 70 = .ok (.invokestatic 60, 3) := by decide +kernel
theorem dX6_winner_73 : decode cX6_winner 73 = .ok (.bipush 8, 2) := by decide +kernel
theorem dX6_winner_75 : decode cX6_winner 75 = .ok (.iadd, 1) := by decide +kernel
theorem dX6_winner_76 : decode cX6_winner 76 = .ok (.iaload, 1) := by decide +kernel
theorem dX6_winner_77 : decode cX6_winner 77 = .ok (.if_icmp .le 5, 3) := by decide +kernel
theorem dX6_winner_80 : decode cX6_winner 80 = .ok (.iload_n 1, 1) := by decide +kernel
theorem dX6_winner_81 : decode cX6_winner 81 = .ok (.ireturn, 1) := by decide +kernel
theorem dX6_winner_82 : decode cX6_winner 82 = .ok (.iinc 1 1, 3) := by decide +kernel
theorem dX6_winner_85 : decode cX6_winner 85 = .ok (.goto (-44), 3) := by decide +kernel
theorem dX6_winner_88 : decode cX6_winner 88 = .ok (.iconst (-1), 1) := by decide +kernel
theorem dX6_winner_89 : decode cX6_winner 89 = .ok (.ireturn, 1) := by decide +kernel
theorem dX6_leastFolds_0 : decode cX6_leastFolds 0 = .ok (.aload_n 0, 1) := by decide +kernel
theorem dX6_leastFolds_1 : decode cX6_leastFolds 1 = .ok (.aload_n 0, 1) := by decide +kernel
theorem dX6_leastFolds_2 : decode cX6_leastFolds 2 = .ok (.getfield 7, 3) := by decide +kernel
theorem dX6_leastFolds_5 : decode cX6_leastFolds 5 = .ok (.iload_n 1, 1) := by decide +kernel
theorem dX6_leastFolds_6 : decode cX6_leastFolds 6 = .ok (.invokestatic 46, 3) := by decide +kernel
theorem dX6_leastFolds_9 : decode cX6_leastFolds 9 = .ok (.ifCond .ne 7, 3) := by decide +kernel
theorem dX6_leastFolds_12 : decode cX6_leastFolds 12 = .ok (.iconst 1, 1) := by decide +kernel
theorem dX6_leastFolds_13 : decode cX6_leastFolds 13 = .ok (.goto 20, 3) := by decide +kernel
theorem dX6_leastFolds_16 : decode cX6_leastFolds 16 = .ok (.iload_n 2, 1) := by decide +kernel
theorem dX6_leastFolds_17 : decode cX6_leastFolds 17 = .ok (.i2l, 1) := by decide +kernel
theorem dX6_leastFolds_18 : decode cX6_leastFolds 18 = .ok (.lconst 0, 1) := by decide +kernel
theorem dX6_leastFolds_19 : decode cX6_leastFolds 19 = .ok (.ldc2_w 50, 3) := by decide +kernel
theorem dX6_leastFolds_22 : decode cX6_leastFolds 22 = .ok (.invokestatic 42, 3) := by decide +kernel
theorem dX6_leastFolds_25 : decode cX6_leastFolds 25 = .ok (.ifCond .ne 7, 3) := by decide +kernel
theorem dX6_leastFolds_28 : decode cX6_leastFolds 28 = .ok (.iconst 2, 1) := by decide +kernel
theorem dX6_leastFolds_29 : decode cX6_leastFolds 29 = .ok (.goto 4, 3) := by decide +kernel
theorem dX6_leastFolds_32 : decode cX6_leastFolds 32 = .ok (.iconst 0, 1) := by decide +kernel
theorem dX6_leastFolds_33 : decode cX6_leastFolds 33 = .ok (.invokevirtual 122, 3) := by decide +kernel
theorem dX6_leastFolds_36 : decode cX6_leastFolds 36 = .ok (.ifCond .eq 5, 3) := by decide +kernel
theorem dX6_leastFolds_39 : decode cX6_leastFolds 39 = .ok (.iconst 0, 1) := by decide +kernel
theorem dX6_leastFolds_40 : decode cX6_leastFolds 40 = .ok (.ireturn, 1) := by decide +kernel
theorem dX6_leastFolds_41 : decode cX6_leastFolds 41 = .ok (.iconst 1, 1) := by decide +kernel
theorem dX6_leastFolds_42 : decode cX6_leastFolds 42 = .ok (.istore_n 3, 1) := by decide +kernel
theorem dX6_leastFolds_43 : decode cX6_leastFolds 43 = .ok (.iload_n 3, 1) := by decide +kernel
theorem dX6_leastFolds_44 : decode cX6_leastFolds 44 = .ok (.bipush 9, 2) := by decide +kernel
theorem dX6_leastFolds_46 : decode cX6_leastFolds 46 = .ok (.if_icmp .gt 67, 3) := by decide +kernel
theorem dX6_leastFolds_49 : decode cX6_leastFolds 49 = .ok (.aload_n 0, 1) := by decide +kernel
theorem dX6_leastFolds_50 : decode cX6_leastFolds 50 = .ok (.getfield 7, 3) := by decide +kernel
theorem dX6_leastFolds_53 : decode cX6_leastFolds 53 = .ok (.aload_n 0, 1) := by decide +kernel
theorem dX6_leastFolds_54 : decode cX6_leastFolds 54 = .ok (.getfield 13, 3) := by decide +kernel
theorem dX6_leastFolds_57 : decode cX6_leastFolds 57 = .ok (.invokestatic 212, 3) := by decide +kernel
theorem dX6_leastFolds_60 : decode cX6_leastFolds 60 = .ok (.aload_n 0, 1) := by decide +kernel
theorem dX6_leastFolds_61 : decode cX6_leastFolds 61 = .ok (.getfield 13, 3) := by decide +kernel
theorem dX6_leastFolds_64 : decode cX6_leastFolds 64 = .ok (.iload_n 3, 1) := by decide +kernel
theorem dX6_leastFolds_65 : decode cX6_leastFolds 65 = .ok (.iload_n 2, 1) := by decide +kernel
theorem dX6_leastFolds_66 : decode cX6_leastFolds 66 = .ok (.iconst 0, 1) := by decide +kernel
theorem dX6_leastFolds_67 : decode cX6_leastFolds 67 = .ok (.invokestatic 162, 3) := by decide +kernel
theorem dX6_leastFolds_70 : decode cX6_leastFolds 70 = .ok (.istore 4, 2) := by decide +kernel
theorem dX6_leastFolds_72 : decode cX6_leastFolds 72 = .ok (.aload_n 0, 1) := by decide +kernel
theorem dX6_leastFolds_73 : decode cX6_leastFolds 73 = .ok (.getfield 13, 3) := by decide +kernel
theorem dX6_leastFolds_76 : decode cX6_leastFolds 76 = .ok (.iload 4, 2) := by decide +kernel
theorem dX6_leastFolds_78 : decode cX6_leastFolds 78 = .ok (.iload_n 1, 1) := by decide +kernel
theorem dX6_leastFolds_79 : decode cX6_leastFolds 79 = .ok (.invokestatic 169, 3) := by decide +kernel
theorem dX6_leastFolds_82 : decode cX6_leastFolds 82 = .ok (.istore 5, 2) := by decide +kernel
theorem dX6_leastFolds_84 : decode cX6_leastFolds 84 = .ok (.aload_n 0, 1) := by decide +kernel
theorem dX6_leastFolds_85 : decode cX6_leastFolds 85 = .ok (.iload 4, 2) := by decide +kernel
theorem dX6_leastFolds_87 : decode cX6_leastFolds 87 = .ok (.invokevirtual 251, 3) := by decide +kernel
theorem dX6_leastFolds_90 : decode cX6_leastFolds 90 = .ok (.istore 6, 2) := by decide +kernel
theorem dX6_leastFolds_92 : decode cX6_leastFolds 92 = .ok (.aload_n 0, 1) := by decide +kernel
theorem dX6_leastFolds_93 : decode cX6_leastFolds 93 = .ok (.getfield 13, 3) := by decide +kernel
theorem dX6_leastFolds_96 : decode cX6_leastFolds 96 = .ok (.iload 4, 2) := by decide +kernel
theorem dX6_leastFolds_98 : decode cX6_leastFolds 98 = .ok (.invokestatic 64, 3) := by decide +kernel
theorem dX6_leastFolds_101 : decode cX6_leastFolds 101 = .ok (.iconst 3, 1) := by decide +kernel
theorem dX6_leastFolds_102 : decode cX6_leastFolds 102 = .ok (.if_icmp .eq 5, 3) := by decide +kernel
theorem dX6_leastFolds_105 : decode cX6_leastFolds 105 = .ok (.iload_n 3, 1) := by decide +kernel
theorem dX6_leastFolds_106 : decode cX6_leastFolds 106 = .ok (.ireturn, 1) := by decide +kernel
theorem dX6_leastFolds_107 : decode cX6_leastFolds 107 = .ok (.iinc 3 1, 3) := by decide +kernel
theorem dX6_leastFolds_110 : decode cX6_leastFolds 110 = .ok (.goto (-67), 3) := by decide +kernel
theorem dX6_leastFolds_113 : decode cX6_leastFolds 113 = .ok (.iconst (-1), 1) := by decide +kernel
theorem dX6_leastFolds_114 : decode cX6_leastFolds 114 = .ok (.ireturn, 1) := by decide +kernel
theorem dX6_runLaunch_0 : decode cX6_runLaunch 0 = .ok (.aload_n 0, 1) := by decide +kernel
theorem dX6_runLaunch_1 : decode cX6_runLaunch 1 = .ok (.getfield 13, 3) := by decide +kernel
theorem dX6_runLaunch_4 : decode cX6_runLaunch 4 = .ok (.iload_n 1, 1) := by decide +kernel
theorem dX6_runLaunch_5 : decode cX6_runLaunch 5 = .ok (.invokestatic 166, 3) := by decide +kernel
theorem dX6_runLaunch_8 : decode cX6_runLaunch 8 = .ok (.ifCond .eq 41, 3) := by decide +kernel
theorem dX6_runLaunch_11 : decode cX6_runLaunch 11 = .ok (.aload_n 0, 1) := by decide +kernel
theorem dX6_runLaunch_12 : decode cX6_runLaunch 12 = .ok (.getfield 13, 3) := by decide +kernel
theorem dX6_runLaunch_15 : decode cX6_runLaunch 15 = .ok (.iload_n 2, 1) := by decide +kernel
theorem dX6_runLaunch_16 : decode cX6_runLaunch 16 = .ok (.invokestatic 46, 3) := by decide +kernel
theorem dX6_runLaunch_19 : decode cX6_runLaunch 19 = .ok (.ifCond .eq 30, 3) := by decide +kernel
theorem dX6_runLaunch_22 : decode cX6_runLaunch 22 = .ok (.aload_n 0, 1) := by decide +kernel
theorem dX6_runLaunch_23 : decode cX6_runLaunch 23 = .ok (.getfield 13, 3) := by decide +kernel
theorem dX6_runLaunch_26 : decode cX6_runLaunch 26 = .ok (.iload_n 1, 1) := by decide +kernel
theorem dX6_runLaunch_27 : decode cX6_runLaunch 27 = .ok (.invokestatic 64, 3) := by decide +kernel
theorem dX6_runLaunch_30 : decode cX6_runLaunch 30 = .ok (.ifCond .ne 19, 3) := by decide +kernel
theorem dX6_runLaunch_33 : decode cX6_runLaunch 33 = .ok (.aload_n 0, 1) := by decide +kernel
theorem dX6_runLaunch_34 : decode cX6_runLaunch 34 = .ok (.getfield 13, 3) := by decide +kernel
theorem dX6_runLaunch_37 : decode cX6_runLaunch 37 = .ok (.iload_n 1, 1) := by decide +kernel
theorem dX6_runLaunch_38 : decode cX6_runLaunch 38 = .ok (.iload_n 2, 1) := by decide +kernel
theorem dX6_runLaunch_39 : decode cX6_runLaunch 39 = .ok (.invokestatic 169, 3) := by decide +kernel
theorem dX6_runLaunch_42 : decode cX6_runLaunch 42 = .ok (.ifCond .lt 7, 3) := by decide +kernel
theorem dX6_runLaunch_45 : decode cX6_runLaunch 45 = .ok (.iconst 1, 1) := by decide +kernel
theorem dX6_runLaunch_46 : decode cX6_runLaunch 46 = .ok (.goto 4, 3) := by decide +kernel
theorem dX6_runLaunch_49 : decode cX6_runLaunch 49 = .ok (.iconst 0, 1) := by decide +kernel
theorem dX6_runLaunch_50 : decode cX6_runLaunch 50 = .ok (.ireturn, 1) := by decide +kernel
theorem dX6_runMinutes_0 : decode cX6_runMinutes 0 = .ok (.iload_n 1, 1) := by decide +kernel
theorem dX6_runMinutes_1 : decode cX6_runMinutes 1 = .ok (.i2l, 1) := by decide +kernel
theorem dX6_runMinutes_2 : decode cX6_runMinutes 2 = .ok (.lconst 1, 1) := by decide +kernel
theorem dX6_runMinutes_3 : decode cX6_runMinutes 3 = .ok (.ldc2_w 249, 3) := by decide +kernel
theorem dX6_runMinutes_6 : decode cX6_runMinutes 6 = .ok (.invokestatic 42, 3) := by decide +kernel
theorem dX6_runMinutes_9 : decode cX6_runMinutes 9 = .ok (.ifCond .eq 18, 3) := by decide +kernel
theorem dX6_runMinutes_12 : decode cX6_runMinutes 12 = .ok (.aload_n 0, 1) := by decide +kernel
theorem dX6_runMinutes_13 : decode cX6_runMinutes 13 = .ok (.getfield 13, 3) := by decide +kernel
theorem dX6_runMinutes_16 : decode cX6_runMinutes 16 = .ok (.iload_n 1, 1) := by decide +kernel
theorem dX6_runMinutes_17 : decode cX6_runMinutes 17 = .ok (.invokestatic 178, 3) := by decide +kernel
theorem dX6_runMinutes_20 : decode cX6_runMinutes 20 = .ok (.ifCond .lt 7, 3) := by decide +kernel
theorem dX6_runMinutes_23 : decode cX6_runMinutes 23 = .ok (.iconst 1, 1) := by decide +kernel
theorem dX6_runMinutes_24 : decode cX6_runMinutes 24 = .ok (.goto 4, 3) := by decide +kernel
theorem dX6_runMinutes_27 : decode cX6_runMinutes 27 = .ok (.iconst 0, 1) := by decide +kernel
theorem dX6_runMinutes_28 : decode cX6_runMinutes 28 = .ok (.ireturn, 1) := by decide +kernel
theorem dX6_runHook_0 : decode cX6_runHook 0 = .ok (.iload_n 1, 1) := by decide +kernel
theorem dX6_runHook_1 : decode cX6_runHook 1 = .ok (.invokestatic 232, 3) := by decide +kernel
theorem dX6_runHook_4 : decode cX6_runHook 4 = .ok (.ifCond .eq 32, 3) := by decide +kernel
theorem dX6_runHook_7 : decode cX6_runHook 7 = .ok (.aload_n 0, 1) := by decide +kernel
theorem dX6_runHook_8 : decode cX6_runHook 8 = .ok (.getfield 13, 3) := by decide +kernel
theorem dX6_runHook_11 : decode cX6_runHook 11 = .ok (.iload_n 2, 1) := by decide +kernel
theorem dX6_runHook_12 : decode cX6_runHook 12 = .ok (.iload_n 3, 1) := by decide +kernel
theorem dX6_runHook_13 : decode cX6_runHook 13 = .ok (.invokestatic 111, 3) := by decide +kernel
theorem dX6_runHook_16 : decode cX6_runHook 16 = .ok (.ifCond .eq 20, 3) := by decide +kernel
theorem dX6_runHook_19 : decode cX6_runHook 19 = .ok (.aload_n 0, 1) := by decide +kernel
theorem dX6_runHook_20 : decode cX6_runHook 20 = .ok (.getfield 13, 3) := by decide +kernel
theorem dX6_runHook_23 : decode cX6_runHook 23 = .ok (.iload_n 1, 1) := by decide +kernel
theorem dX6_runHook_24 : decode cX6_runHook 24 = .ok (.iload_n 2, 1) := by decide +kernel
theorem dX6_runHook_25 : decode cX6_runHook 25 = .ok (.iload_n 3, 1) := by decide +kernel
theorem dX6_runHook_26 : decode cX6_runHook 26 = .ok (.invokestatic 172, 3) := by decide +kernel
theorem dX6_runHook_29 : decode cX6_runHook 29 = .ok (.ifCond .lt 7, 3) := by decide +kernel
theorem dX6_runHook_32 : decode cX6_runHook 32 = .ok (.iconst 1, 1) := by decide +kernel
theorem dX6_runHook_33 : decode cX6_runHook 33 = .ok (.goto 4, 3) := by decide +kernel
theorem dX6_runHook_36 : decode cX6_runHook 36 = .ok (.iconst 0, 1) := by decide +kernel
theorem dX6_runHook_37 : decode cX6_runHook 37 = .ok (.ireturn, 1) := by decide +kernel
theorem dX6_runClaim_0 : decode cX6_runClaim 0 = .ok (.iload_n 1, 1) := by decide +kernel
theorem dX6_runClaim_1 : decode cX6_runClaim 1 = .ok (.invokestatic 232, 3) := by decide +kernel
theorem dX6_runClaim_4 : decode cX6_runClaim 4 = .ok (.ifCond .eq 30, 3) := by decide +kernel
theorem dX6_runClaim_7 : decode cX6_runClaim 7 = .ok (.aload_n 0, 1) := by decide +kernel
theorem dX6_runClaim_8 : decode cX6_runClaim 8 = .ok (.getfield 13, 3) := by decide +kernel
theorem dX6_runClaim_11 : decode cX6_runClaim 11 = .ok (.iload_n 2, 1) := by decide +kernel
theorem dX6_runClaim_12 : decode cX6_runClaim 12 = .ok (.invokestatic 166, 3) := by decide +kernel
theorem dX6_runClaim_15 : decode cX6_runClaim 15 = .ok (.ifCond .eq 19, 3) := by decide +kernel
theorem dX6_runClaim_18 : decode cX6_runClaim 18 = .ok (.aload_n 0, 1) := by decide +kernel
theorem dX6_runClaim_19 : decode cX6_runClaim 19 = .ok (.getfield 13, 3) := by decide +kernel
theorem dX6_runClaim_22 : decode cX6_runClaim 22 = .ok (.iload_n 1, 1) := by decide +kernel
theorem dX6_runClaim_23 : decode cX6_runClaim 23 = .ok (.iload_n 2, 1) := by decide +kernel
theorem dX6_runClaim_24 : decode cX6_runClaim 24 = .ok (.invokestatic 175, 3) := by decide +kernel
theorem dX6_runClaim_27 : decode cX6_runClaim 27 = .ok (.ifCond .ne 7, 3) := by decide +kernel
theorem dX6_runClaim_30 : decode cX6_runClaim 30 = .ok (.iconst 1, 1) := by decide +kernel
theorem dX6_runClaim_31 : decode cX6_runClaim 31 = .ok (.goto 4, 3) := by decide +kernel
theorem dX6_runClaim_34 : decode cX6_runClaim 34 = .ok (.iconst 0, 1) := by decide +kernel
theorem dX6_runClaim_35 : decode cX6_runClaim 35 = .ok (.ireturn, 1) := by decide +kernel
theorem dX6_runSet_0 : decode cX6_runSet 0 = .ok (.iload_n 1, 1) := by decide +kernel
theorem dX6_runSet_1 : decode cX6_runSet 1 = .ok (.iload_n 2, 1) := by decide +kernel
theorem dX6_runSet_2 : decode cX6_runSet 2 = .ok (.invokestatic 181, 3) := by decide +kernel
theorem dX6_runSet_5 : decode cX6_runSet 5 = .ok (.ifCond .eq 23, 3) := by decide +kernel
theorem dX6_runSet_8 : decode cX6_runSet 8 = .ok (.aload_n 0, 1) := by decide +kernel
theorem dX6_runSet_9 : decode cX6_runSet 9 = .ok (.getfield 13, 3) := by decide +kernel
theorem dX6_runSet_12 : decode cX6_runSet 12 = .ok (.sipush 154, 3) := by decide +kernel
theorem dX6_runSet_15 : decode cX6_runSet 15 = .ok (.iload_n 1, 1) := by decide +kernel
theorem dX6_runSet_16 : decode cX6_runSet 16 = .ok (.iadd, 1) := by decide +kernel
theorem dX6_runSet_17 : decode cX6_runSet 17 = .ok (.iload_n 2, 1) := by decide +kernel
theorem dX6_runSet_18 : decode cX6_runSet 18 = .ok (.invokestatic 185, 3) := by decide +kernel
theorem dX6_runSet_21 : decode cX6_runSet 21 = .ok (.ifCond .lt 7, 3) := by decide +kernel
theorem dX6_runSet_24 : decode cX6_runSet 24 = .ok (.iconst 1, 1) := by decide +kernel
theorem dX6_runSet_25 : decode cX6_runSet 25 = .ok (.goto 4, 3) := by decide +kernel
theorem dX6_runSet_28 : decode cX6_runSet 28 = .ok (.iconst 0, 1) := by decide +kernel
theorem dX6_runSet_29 : decode cX6_runSet 29 = .ok (.ireturn, 1) := by decide +kernel
theorem dX6_runBoat_0 : decode cX6_runBoat 0 = .ok (.iload_n 3, 1) := by decide +kernel
theorem dX6_runBoat_1 : decode cX6_runBoat 1 = .ok (.invokestatic 232, 3) := by decide +kernel
theorem dX6_runBoat_4 : decode cX6_runBoat 4 = .ok (.ifCond .eq 28, 3) := by decide +kernel
theorem dX6_runBoat_7 : decode cX6_runBoat 7 = .ok (.iload_n 1, 1) := by decide +kernel
theorem dX6_runBoat_8 : decode cX6_runBoat 8 = .ok (.iload_n 2, 1) := by decide +kernel
theorem dX6_runBoat_9 : decode cX6_runBoat 9 = .ok (.invokestatic 246, 3) := by decide +kernel
theorem dX6_runBoat_12 : decode cX6_runBoat 12 = .ok (.ifCond .eq 20, 3) := by decide +kernel
theorem dX6_runBoat_15 : decode cX6_runBoat 15 = .ok (.aload_n 0, 1) := by decide +kernel
theorem dX6_runBoat_16 : decode cX6_runBoat 16 = .ok (.getfield 13, 3) := by decide +kernel
theorem dX6_runBoat_19 : decode cX6_runBoat 19 = .ok (.sipush 147, 3) := by decide +kernel
theorem dX6_runBoat_22 : decode cX6_runBoat 22 = .ok (.iaload, 1) := by decide +kernel
theorem dX6_runBoat_23 : decode cX6_runBoat 23 = .ok (.bipush 10, 2) := by decide +kernel
theorem dX6_runBoat_25 : decode cX6_runBoat 25 = .ok (.if_icmp .ge 7, 3) := by decide +kernel
theorem dX6_runBoat_28 : decode cX6_runBoat 28 = .ok (.iconst 1, 1) := by decide +kernel
theorem dX6_runBoat_29 : decode cX6_runBoat 29 = .ok (.goto 4, 3) := by decide +kernel
theorem dX6_runBoat_32 : decode cX6_runBoat 32 = .ok (.iconst 0, 1) := by decide +kernel
theorem dX6_runBoat_33 : decode cX6_runBoat 33 = .ok (.istore 4, 2) := by decide +kernel
theorem dX6_runBoat_35 : decode cX6_runBoat 35 = .ok (.iload 4, 2) := by decide +kernel
theorem dX6_runBoat_37 : decode cX6_runBoat 37 = .ok (.ifCond .eq 20, 3) := by decide +kernel
theorem dX6_runBoat_40 : decode cX6_runBoat 40 = .ok (.aload_n 0, 1) := by decide +kernel
theorem dX6_runBoat_41 : decode cX6_runBoat 41 = .ok (.getfield 13, 3) := by decide +kernel
theorem dX6_runBoat_44 : decode cX6_runBoat 44 = .ok (.iload_n 1, 1) := by decide +kernel
theorem dX6_runBoat_45 : decode cX6_runBoat 45 = .ok (.iload_n 2, 1) := by decide +kernel
theorem dX6_runBoat_46 : decode cX6_runBoat 46 = .ok (.iload_n 3, 1) := by decide +kernel
theorem dX6_runBoat_47 : decode cX6_runBoat 47 = .ok (.invokestatic 162, 3) := by decide +kernel
theorem dX6_runBoat_50 : decode cX6_runBoat 50 = .ok (.ifCond .lt 7, 3) := by decide +kernel
theorem dX6_runBoat_53 : decode cX6_runBoat 53 = .ok (.iconst 1, 1) := by decide +kernel
theorem dX6_runBoat_54 : decode cX6_runBoat 54 = .ok (.goto 4, 3) := by decide +kernel
theorem dX6_runBoat_57 : decode cX6_runBoat 57 = .ok (.iconst 0, 1) := by decide +kernel
theorem dX6_runBoat_58 : decode cX6_runBoat 58 = .ok (.ireturn, 1) := by decide +kernel
theorem dX6_command_0 : decode cX6_command 0 = .ok (.iload_n 1, 1) := by decide +kernel
theorem dX6_command_1 : decode cX6_command 1 = .ok (.sipush 1000, 3) := by decide +kernel
theorem dX6_command_4 : decode cX6_command 4 = .ok (.idiv, 1) := by decide +kernel
theorem dX6_command_5 : decode cX6_command 5 = .ok (.bipush 10, 2) := by decide +kernel
theorem dX6_command_7 : decode cX6_command 7 = .ok (.irem, 1) := by decide +kernel
theorem dX6_command_8 : decode cX6_command 8 = .ok (.istore_n 2, 1) := by decide +kernel
theorem dX6_command_9 : decode cX6_command 9 = .ok (.iload_n 1, 1) := by decide +kernel
theorem dX6_command_10 : decode cX6_command 10 = .ok (.bipush 100, 2) := by decide +kernel
theorem dX6_command_12 : decode cX6_command 12 = .ok (.idiv, 1) := by decide +kernel
theorem dX6_command_13 : decode cX6_command 13 = .ok (.bipush 10, 2) := by decide +kernel
theorem dX6_command_15 : decode cX6_command 15 = .ok (.irem, 1) := by decide +kernel
theorem dX6_command_16 : decode cX6_command 16 = .ok (.istore_n 3, 1) := by decide +kernel
theorem dX6_command_17 : decode cX6_command 17 = .ok (.iload_n 1, 1) := by decide +kernel
theorem dX6_command_18 : decode cX6_command 18 = .ok (.bipush 10, 2) := by decide +kernel
theorem dX6_command_20 : decode cX6_command 20 = .ok (.idiv, 1) := by decide +kernel
theorem dX6_command_21 : decode cX6_command 21 = .ok (.bipush 10, 2) := by decide +kernel
theorem dX6_command_23 : decode cX6_command 23 = .ok (.irem, 1) := by decide +kernel
theorem dX6_command_24 : decode cX6_command 24 = .ok (.istore 4, 2) := by decide +kernel
theorem dX6_command_26 : decode cX6_command 26 = .ok (.iload_n 1, 1) := by decide +kernel
theorem dX6_command_27 : decode cX6_command 27 = .ok (.bipush 100, 2) := by decide +kernel
theorem dX6_command_29 : decode cX6_command 29 = .ok (.irem, 1) := by decide +kernel
theorem dX6_command_30 : decode cX6_command 30 = .ok (.istore 5, 2) := by decide +kernel
theorem dX6_command_32 : decode cX6_command 32 = .ok (.iload_n 1, 1) := by decide +kernel
theorem dX6_command_33 : decode cX6_command 33 = .ok (.bipush 10, 2) := by decide +kernel
theorem dX6_command_35 : decode cX6_command 35 = .ok (.irem, 1) := by decide +kernel
theorem dX6_command_36 : decode cX6_command 36 = .ok (.istore 6, 2) := by decide +kernel
theorem dX6_command_38 : decode cX6_command 38 = .ok (.iload_n 1, 1) := by decide +kernel
theorem dX6_command_39 : decode cX6_command 39 = .ok (.sipush 1000, 3) := by decide +kernel
theorem dX6_command_42 : decode cX6_command 42 = .ok (.irem, 1) := by decide +kernel
theorem dX6_command_43 : decode cX6_command 43 = .ok (.istore 7, 2) := by decide +kernel
theorem dX6_command_45 : decode cX6_command 45 = .ok (.iload_n 1, 1) := by decide +kernel
theorem dX6_command_46 : decode cX6_command 46 = .ok (.sipush 10000, 3) := by decide +kernel
theorem dX6_command_49 : decode cX6_command 49 = .ok (.idiv, 1) := by decide +kernel
theorem dX6_command_50 : decode cX6_command 50 = .ok (.tableswitch 278 1 9 #[50, 70, 95, 104, 124, 147, 169, 206, 240], 50) := by decide +kernel
theorem dX6_command_100 : decode cX6_command 100 = .ok (.iload 5, 2) := by decide +kernel
theorem dX6_command_102 : decode cX6_command 102 = .ok (.ifCond .ne 16, 3) := by decide +kernel
theorem dX6_command_105 : decode cX6_command 105 = .ok (.aload_n 0, 1) := by decide +kernel
theorem dX6_command_106 : decode cX6_command 106 = .ok (.iload_n 2, 1) := by decide +kernel
theorem dX6_command_107 : decode cX6_command 107 = .ok (.iload_n 3, 1) := by decide +kernel
theorem dX6_command_108 : decode cX6_command 108 = .ok (.invokevirtual 254, 3) := by decide +kernel
theorem dX6_command_111 : decode cX6_command 111 = .ok (.ifCond .eq 7, 3) := by decide +kernel
theorem dX6_command_114 : decode cX6_command 114 = .ok (.iconst 1, 1) := by decide +kernel
theorem dX6_command_115 : decode cX6_command 115 = .ok (.goto 4, 3) := by decide +kernel
theorem dX6_command_118 : decode cX6_command 118 = .ok (.iconst 0, 1) := by decide +kernel
theorem dX6_command_119 : decode cX6_command 119 = .ok (.ireturn, 1) := by decide +kernel
theorem dX6_command_120 : decode cX6_command 120 = .ok (.iload_n 1, 1) := by decide +kernel
theorem dX6_command_121 : decode cX6_command 121 = .ok (.sipush 10000, 3) := by decide +kernel
theorem dX6_command_124 : decode cX6_command 124 = .ok (.irem, 1) := by decide +kernel
theorem dX6_command_125 : decode cX6_command 125 = .ok (.bipush 100, 2) := by decide +kernel
theorem dX6_command_127 : decode cX6_command 127 = .ok (.if_icmp .ge 16, 3) := by decide +kernel
theorem dX6_command_130 : decode cX6_command 130 = .ok (.aload_n 0, 1) := by decide +kernel
theorem dX6_command_131 : decode cX6_command 131 = .ok (.iload 5, 2) := by decide +kernel
theorem dX6_command_133 : decode cX6_command 133 = .ok (.invokevirtual 257, 3) := by decide +kernel
theorem dX6_command_136 : decode cX6_command 136 = .ok (.ifCond .eq 7, 3) := by decide +kernel
theorem dX6_command_139 : decode cX6_command 139 = .ok (.iconst 1, 1) := by decide +kernel
theorem dX6_command_140 : decode cX6_command 140 = .ok (.goto 4, 3) := by decide +kernel
theorem dX6_command_143 : decode cX6_command 143 = .ok (.iconst 0, 1) := by decide +kernel
theorem dX6_command_144 : decode cX6_command 144 = .ok (.ireturn, 1) := by decide +kernel
theorem dX6_command_145 : decode cX6_command 145 = .ok (.aload_n 0, 1) := by decide +kernel
theorem dX6_command_146 : decode cX6_command 146 = .ok (.iload_n 2, 1) := by decide +kernel
theorem dX6_command_147 : decode cX6_command 147 = .ok (.iload_n 3, 1) := by decide +kernel
theorem dX6_command_148 : decode cX6_command 148 = .ok (.iload 5, 2) := by decide +kernel
theorem dX6_command_150 : decode cX6_command 150 = .ok (.invokevirtual 260, 3) := by decide +kernel
theorem dX6_command_153 : decode cX6_command 153 = .ok (.ireturn, 1) := by decide +kernel
theorem dX6_command_154 : decode cX6_command 154 = .ok (.iload 5, 2) := by decide +kernel
theorem dX6_command_156 : decode cX6_command 156 = .ok (.ifCond .ne 16, 3) := by decide +kernel
theorem dX6_command_159 : decode cX6_command 159 = .ok (.aload_n 0, 1) := by decide +kernel
theorem dX6_command_160 : decode cX6_command 160 = .ok (.iload_n 2, 1) := by decide +kernel
theorem dX6_command_161 : decode cX6_command 161 = .ok (.iload_n 3, 1) := by decide +kernel
theorem dX6_command_162 : decode cX6_command 162 = .ok (.invokevirtual 264, 3) := by decide +kernel
theorem dX6_command_165 : decode cX6_command 165 = .ok (.ifCond .eq 7, 3) := by decide +kernel
theorem dX6_command_168 : decode cX6_command 168 = .ok (.iconst 1, 1) := by decide +kernel
theorem dX6_command_169 : decode cX6_command 169 = .ok (.goto 4, 3) := by decide +kernel
theorem dX6_command_172 : decode cX6_command 172 = .ok (.iconst 0, 1) := by decide +kernel
theorem dX6_command_173 : decode cX6_command 173 = .ok (.ireturn, 1) := by decide +kernel
theorem dX6_command_174 : decode cX6_command 174 = .ok (.iload 7, 2) := by decide +kernel
theorem dX6_command_176 : decode cX6_command 176 = .ok (.bipush 10, 2) := by decide +kernel
theorem dX6_command_178 : decode cX6_command 178 = .ok (.if_icmp .ge 17, 3) := by decide +kernel
theorem dX6_command_181 : decode cX6_command 181 = .ok (.aload_n 0, 1) := by decide +kernel
theorem dX6_command_182 : decode cX6_command 182 = .ok (.iload_n 2, 1) := by decide +kernel
theorem dX6_command_183 : decode cX6_command 183 = .ok (.iload 6, 2) := by decide +kernel
theorem dX6_command_185 : decode cX6_command 185 = .ok (.invokevirtual 267, 3) := by decide +kernel
theorem dX6_command_188 : decode cX6_command 188 = .ok (.ifCond .eq 7, 3) := by decide +kernel
theorem dX6_command_191 : decode cX6_command 191 = .ok (.iconst 1, 1) := by decide +kernel
theorem dX6_command_192 : decode cX6_command 192 = .ok (.goto 4, 3) := by decide +kernel
theorem dX6_command_195 : decode cX6_command 195 = .ok (.iconst 0, 1) := by decide +kernel
theorem dX6_command_196 : decode cX6_command 196 = .ok (.ireturn, 1) := by decide +kernel
theorem dX6_command_197 : decode cX6_command 197 = .ok (.iload 6, 2) := by decide +kernel
theorem dX6_command_199 : decode cX6_command 199 = .ok (.ifCond .ne 18, 3) := by decide +kernel
theorem dX6_command_202 : decode cX6_command 202 = .ok (.aload_n 0, 1) := by decide +kernel
theorem dX6_command_203 : decode cX6_command 203 = .ok (.iload_n 2, 1) := by decide +kernel
theorem dX6_command_204 : decode cX6_command 204 = .ok (.iload_n 3, 1) := by decide +kernel
theorem dX6_command_205 : decode cX6_command 205 = .ok (.iload 4, 2) := by decide +kernel
theorem dX6_command_207 : decode cX6_command 207 = .ok (.invokevirtual 270, 3) := by decide +kernel
theorem dX6_command_210 : decode cX6_command 210 = .ok (.ifCond .eq 7, 3) := by decide +kernel
theorem dX6_command_213 : decode cX6_command 213 = .ok (.iconst 1, 1) := by decide +kernel
theorem dX6_command_214 : decode cX6_command 214 = .ok (.goto 4, 3) := by decide +kernel
theorem dX6_command_217 : decode cX6_command 217 = .ok (.iconst 0, 1) := by decide +kernel
theorem dX6_command_218 : decode cX6_command 218 = .ok (.ireturn, 1) := by decide +kernel
theorem dX6_command_219 : decode cX6_command 219 = .ok (.iload 7, 2) := by decide +kernel
theorem dX6_command_221 : decode cX6_command 221 = .ok (.bipush 10, 2) := by decide +kernel
theorem dX6_command_223 : decode cX6_command 223 = .ok (.if_icmp .ge 31, 3) := by decide +kernel
theorem dX6_command_226 : decode cX6_command 226 = .ok (.aload_n 0, 1) := by decide +kernel
theorem dX6_command_227 : decode cX6_command 227 = .ok (.getfield 13, 3) := by decide +kernel
theorem dX6_command_230 : decode cX6_command 230 = .ok (.iload_n 2, 1) := by decide +kernel
theorem dX6_command_231 : decode cX6_command 231 = .ok (.invokestatic 166, 3) := by decide +kernel
theorem dX6_command_234 : decode cX6_command 234 = .ok (.ifCond .eq 20, 3) := by decide +kernel
theorem dX6_command_237 : decode cX6_command 237 = .ok (.aload_n 0, 1) := by decide +kernel
theorem dX6_command_238 : decode cX6_command 238 = .ok (.getfield 13, 3) := by decide +kernel
theorem dX6_command_241 : decode cX6_command 241 = .ok (.iload_n 2, 1) := by decide +kernel
theorem dX6_command_242 : decode cX6_command 242 = .ok (.invokestatic 64, 3) := by decide +kernel
theorem dX6_command_245 : decode cX6_command 245 = .ok (.iload 6, 2) := by decide +kernel
theorem dX6_command_247 : decode cX6_command 247 = .ok (.if_icmp .ne 7, 3) := by decide +kernel
theorem dX6_command_250 : decode cX6_command 250 = .ok (.iconst 1, 1) := by decide +kernel
theorem dX6_command_251 : decode cX6_command 251 = .ok (.goto 4, 3) := by decide +kernel
theorem dX6_command_254 : decode cX6_command 254 = .ok (.iconst 0, 1) := by decide +kernel
theorem dX6_command_255 : decode cX6_command 255 = .ok (.ireturn, 1) := by decide +kernel
theorem dX6_command_256 : decode cX6_command 256 = .ok (.iload_n 3, 1) := by decide +kernel
theorem dX6_command_257 : decode cX6_command 257 = .ok (.ifCond .ne 31, 3) := by decide +kernel
theorem dX6_command_260 : decode cX6_command 260 = .ok (.iload_n 2, 1) := by decide +kernel
theorem dX6_command_261 : decode cX6_command 261 = .ok (.invokestatic 232, 3) := by decide +kernel
theorem dX6_command_264 : decode cX6_command 264 = .ok (.ifCond .eq 24, 3) := by decide +kernel
theorem dX6_command_267 : decode cX6_command 267 = .ok (.aload_n 0, 1) := by decide +kernel
theorem dX6_command_268 : decode cX6_command 268 = .ok (.getfield 13, 3) := by decide +kernel
theorem dX6_command_271 : decode cX6_command 271 = .ok (.sipush 134, 3) := by decide +kernel
theorem dX6_command_274 : decode cX6_command 274 = .ok (.iconst 3, 1) := by decide +kernel
theorem dX6_command_275 : decode cX6_command 275 = .ok (.iload_n 2, 1) := by decide +kernel
theorem dX6_command_276 : decode cX6_command 276 = .ok (.imul, 1) := by decide +kernel
theorem dX6_command_277 : decode cX6_command 277 = .ok (.iadd, 1) := by decide +kernel
theorem dX6_command_278 : decode cX6_command 278 = .ok (.iaload, 1) := by decide +kernel
theorem dX6_command_279 : decode cX6_command 279 = .ok (.iload 5, 2) := by decide +kernel
theorem dX6_command_281 : decode cX6_command 281 = .ok (.if_icmp .lt 7, 3) := by decide +kernel
theorem dX6_command_284 : decode cX6_command 284 = .ok (.iconst 1, 1) := by decide +kernel
theorem dX6_command_285 : decode cX6_command 285 = .ok (.goto 4, 3) := by decide +kernel
theorem dX6_command_288 : decode cX6_command 288 = .ok (.iconst 0, 1) := by decide +kernel
theorem dX6_command_289 : decode cX6_command 289 = .ok (.ireturn, 1) := by decide +kernel
theorem dX6_command_290 : decode cX6_command 290 = .ok (.iload_n 3, 1) := by decide +kernel
theorem dX6_command_291 : decode cX6_command 291 = .ok (.ifCond .ne 35, 3) := by decide +kernel
theorem dX6_command_294 : decode cX6_command 294 = .ok (.aload_n 0, 1) := by decide +kernel
theorem dX6_command_295 : decode cX6_command 295 = .ok (.getfield 13, 3) := by decide +kernel
theorem dX6_command_298 : decode cX6_command 298 = .ok (.iload_n 2, 1) := by decide +kernel
theorem dX6_command_299 : decode cX6_command 299 = .ok (.invokestatic 166, 3) := by decide +kernel
theorem dX6_command_302 : decode cX6_command 302 = .ok (.ifCond .eq 24, 3) := by decide +kernel
theorem dX6_command_305 : decode cX6_command 305 = .ok (.aload_n 0, 1) := by decide +kernel
theorem dX6_command_306 : decode cX6_command 306 = .ok (.getfield 13, 3) := by decide +kernel
theorem dX6_command_309 : decode cX6_command 309 = .ok (.iload_n 2, 1) := by decide +kernel
theorem dX6_command_310 : decode cX6_command 310 = .ok (.invokestatic 60, 3) := by decide +kernel
theorem dX6_command_313 : decode cX6_command 313 = .ok (.bipush 6, 2) := by decide +kernel
theorem dX6_command_315 : decode cX6_command 315 = .ok (.iadd, 1) := by decide +kernel
theorem dX6_command_316 : decode cX6_command 316 = .ok (.iaload, 1) := by decide +kernel
theorem dX6_command_317 : decode cX6_command 317 = .ok (.iload 5, 2) := by decide +kernel
theorem dX6_command_319 : decode cX6_command 319 = .ok (.if_icmp .gt 7, 3) := by decide +kernel
theorem dX6_command_322 : decode cX6_command 322 = .ok (.iconst 1, 1) := by decide +kernel
theorem dX6_command_323 : decode cX6_command 323 = .ok (.goto 4, 3) := by decide +kernel
theorem dX6_command_326 : decode cX6_command 326 = .ok (.iconst 0, 1) := by decide +kernel
theorem dX6_command_327 : decode cX6_command 327 = .ok (.ireturn, 1) := by decide +kernel
theorem dX6_command_328 : decode cX6_command 328 = .ok (.iconst 0, 1) := by decide +kernel
theorem dX6_command_329 : decode cX6_command 329 = .ok (.ireturn, 1) := by decide +kernel
theorem dX6_runScript_0 : decode cX6_runScript 0 = .ok (.aload_n 0, 1) := by decide +kernel
theorem dX6_runScript_1 : decode cX6_runScript 1 = .ok (.iload_n 1, 1) := by decide +kernel
theorem dX6_runScript_2 : decode cX6_runScript 2 = .ok (.i2l, 1) := by decide +kernel
theorem dX6_runScript_3 : decode cX6_runScript 3 = .ok (.lconst 1, 1) := by decide +kernel
theorem dX6_runScript_4 : decode cX6_runScript 4 = .ok (.ldc2_w 50, 3) := by decide +kernel
theorem dX6_runScript_7 : decode cX6_runScript 7 = .ok (.invokestatic 42, 3) := by decide +kernel
theorem dX6_runScript_10 : decode cX6_runScript 10 = .ok (.ifCond .eq 23, 3) := by decide +kernel
theorem dX6_runScript_13 : decode cX6_runScript 13 = .ok (.lload_n 2, 1) := by decide +kernel
theorem dX6_runScript_14 : decode cX6_runScript 14 = .ok (.lconst 0, 1) := by decide +kernel
theorem dX6_runScript_15 : decode cX6_runScript 15 = .ok (.iconst 5, 1) := by decide +kernel
theorem dX6_runScript_16 : decode cX6_runScript 16 = .ok (.iload_n 1, 1) := by decide +kernel
theorem dX6_runScript_17 : decode cX6_runScript 17 = .ok (.imul, 1) := by decide +kernel
theorem dX6_runScript_18 : decode cX6_runScript 18 = .ok (.invokestatic 273, 3) := by decide +kernel
theorem dX6_runScript_21 : decode cX6_runScript 21 = .ok (.lconst 1, 1) := by decide +kernel
theorem dX6_runScript_22 : decode cX6_runScript 22 = .ok (.lsub, 1) := by decide +kernel
theorem dX6_runScript_23 : decode cX6_runScript 23 = .ok (.invokestatic 42, 3) := by decide +kernel
theorem dX6_runScript_26 : decode cX6_runScript 26 = .ok (.ifCond .eq 7, 3) := by decide +kernel
theorem dX6_runScript_29 : decode cX6_runScript 29 = .ok (.iconst 0, 1) := by decide +kernel
theorem dX6_runScript_30 : decode cX6_runScript 30 = .ok (.goto 4, 3) := by decide +kernel
theorem dX6_runScript_33 : decode cX6_runScript 33 = .ok (.iconst 1, 1) := by decide +kernel
theorem dX6_runScript_34 : decode cX6_runScript 34 = .ok (.invokevirtual 122, 3) := by decide +kernel
theorem dX6_runScript_37 : decode cX6_runScript 37 = .ok (.ifCond .eq 5, 3) := by decide +kernel
theorem dX6_runScript_40 : decode cX6_runScript 40 = .ok (.iconst 0, 1) := by decide +kernel
theorem dX6_runScript_41 : decode cX6_runScript 41 = .ok (.ireturn, 1) := by decide +kernel
theorem dX6_runScript_42 : decode cX6_runScript 42 = .ok (.aload_n 0, 1) := by decide +kernel
theorem dX6_runScript_43 : decode cX6_runScript 43 = .ok (.getfield 7, 3) := by decide +kernel
theorem dX6_runScript_46 : decode cX6_runScript 46 = .ok (.aload_n 0, 1) := by decide +kernel
theorem dX6_runScript_47 : decode cX6_runScript 47 = .ok (.getfield 13, 3) := by decide +kernel
theorem dX6_runScript_50 : decode cX6_runScript 50 = .ok (.invokestatic 212, 3) := by decide +kernel
theorem dX6_runScript_53 : decode cX6_runScript 53 = .ok (.iconst 0, 1) := by decide +kernel
theorem dX6_runScript_54 : decode cX6_runScript 54 = .ok (.istore 4, 2) := by decide +kernel
theorem dX6_runScript_56 : decode cX6_runScript 56 = .ok (.iload 4, 2) := by decide +kernel
theorem dX6_runScript_58 : decode cX6_runScript 58 = .ok (.iload_n 1, 1) := by decide +kernel
theorem dX6_runScript_59 : decode cX6_runScript 59 = .ok (.if_icmp .ge 37, 3) := by decide +kernel
theorem dX6_runScript_62 : decode cX6_runScript 62 = .ok (.aload_n 0, 1) := by decide +kernel
theorem dX6_runScript_63 : decode cX6_runScript 63 = .ok (.lload_n 2, 1) := by decide +kernel
theorem dX6_runScript_64 : decode cX6_runScript 64 = .ok (.iconst 5, 1) := by decide +kernel
theorem dX6_runScript_65 : decode cX6_runScript 65 = .ok (.iload_n 1, 1) := by decide +kernel
theorem dX6_runScript_66 : decode cX6_runScript 66 = .ok (.iconst 1, 1) := by decide +kernel
theorem dX6_runScript_67 : decode cX6_runScript 67 = .ok (.isub, 1) := by decide +kernel
theorem dX6_runScript_68 : decode cX6_runScript 68 = .ok (.iload 4, 2) := by decide +kernel
theorem dX6_runScript_70 : decode cX6_runScript 70 = .ok (.isub, 1) := by decide +kernel
theorem dX6_runScript_71 : decode cX6_runScript 71 = .ok (.imul, 1) := by decide +kernel
theorem dX6_runScript_72 : decode cX6_runScript 72 = .ok (.invokestatic 273, 3) := by decide +kernel
theorem dX6_runScript_75 : decode cX6_runScript 75 = .ok (.ldiv, 1) := by decide +kernel
theorem dX6_runScript_76 : decode cX6_runScript 76 = .ok (.ldc2_w 277, 3) := by decide +kernel
theorem dX6_runScript_79 : decode cX6_runScript 79 = .ok (.lrem, 1) := by decide +kernel
theorem dX6_runScript_80 : decode cX6_runScript 80 = .ok (.l2i, 1) := by decide +kernel
theorem dX6_runScript_81 : decode cX6_runScript 81 = .ok (.invokevirtual 279, 3) := by decide +kernel
theorem dX6_runScript_84 : decode cX6_runScript 84 = .ok (.ifCond .ne 6, 3) := by decide +kernel
theorem dX6_runScript_87 : decode cX6_runScript 87 = .ok (.iload 4, 2) := by decide +kernel
theorem dX6_runScript_89 : decode cX6_runScript 89 = .ok (.ireturn, 1) := by decide +kernel
theorem dX6_runScript_90 : decode cX6_runScript 90 = .ok (.iinc 4 1, 3) := by decide +kernel
theorem dX6_runScript_93 : decode cX6_runScript 93 = .ok (.goto (-37), 3) := by decide +kernel
theorem dX6_runScript_96 : decode cX6_runScript 96 = .ok (.iconst (-1), 1) := by decide +kernel
theorem dX6_runScript_97 : decode cX6_runScript 97 = .ok (.ireturn, 1) := by decide +kernel
theorem dX6_runGutter_0 : decode cX6_runGutter 0 = .ok (.iload_n 1, 1) := by decide +kernel
theorem dX6_runGutter_1 : decode cX6_runGutter 1 = .ok (.iload_n 2, 1) := by decide +kernel
theorem dX6_runGutter_2 : decode cX6_runGutter 2 = .ok (.invokestatic 240, 3) := by decide +kernel
theorem dX6_runGutter_5 : decode cX6_runGutter 5 = .ok (.ifCond .eq 33, 3) := by decide +kernel
theorem dX6_runGutter_8 : decode cX6_runGutter 8 = .ok (.aload_n 0, 1) := by decide +kernel
theorem dX6_runGutter_9 : decode cX6_runGutter 9 = .ok (.getfield 13, 3) := by decide +kernel
theorem dX6_runGutter_12 : decode cX6_runGutter 12 = .ok (.sipush 146, 3) := by decide +kernel
theorem dX6_runGutter_15 : decode cX6_runGutter 15 = .ok (.iaload, 1) := by decide +kernel
theorem dX6_runGutter_16 : decode cX6_runGutter 16 = .ok (.bipush 6, 2) := by decide +kernel
theorem dX6_runGutter_18 : decode cX6_runGutter 18 = .ok (.if_icmp .ge 20, 3) := by decide +kernel
theorem dX6_runGutter_21 : decode cX6_runGutter 21 = .ok (.aload_n 0, 1) := by decide +kernel
theorem dX6_runGutter_22 : decode cX6_runGutter 22 = .ok (.getfield 13, 3) := by decide +kernel
theorem dX6_runGutter_25 : decode cX6_runGutter 25 = .ok (.iload_n 3, 1) := by decide +kernel
theorem dX6_runGutter_26 : decode cX6_runGutter 26 = .ok (.iload 4, 2) := by decide +kernel
theorem dX6_runGutter_28 : decode cX6_runGutter 28 = .ok (.invokestatic 151, 3) := by decide +kernel
theorem dX6_runGutter_31 : decode cX6_runGutter 31 = .ok (.ifCond .eq 7, 3) := by decide +kernel
theorem dX6_runGutter_34 : decode cX6_runGutter 34 = .ok (.iconst 1, 1) := by decide +kernel
theorem dX6_runGutter_35 : decode cX6_runGutter 35 = .ok (.goto 4, 3) := by decide +kernel
theorem dX6_runGutter_38 : decode cX6_runGutter 38 = .ok (.iconst 0, 1) := by decide +kernel
theorem dX6_runGutter_39 : decode cX6_runGutter 39 = .ok (.istore 5, 2) := by decide +kernel
theorem dX6_runGutter_41 : decode cX6_runGutter 41 = .ok (.iload 5, 2) := by decide +kernel
theorem dX6_runGutter_43 : decode cX6_runGutter 43 = .ok (.ifCond .eq 22, 3) := by decide +kernel
theorem dX6_runGutter_46 : decode cX6_runGutter 46 = .ok (.aload_n 0, 1) := by decide +kernel
theorem dX6_runGutter_47 : decode cX6_runGutter 47 = .ok (.getfield 13, 3) := by decide +kernel
theorem dX6_runGutter_50 : decode cX6_runGutter 50 = .ok (.iload_n 1, 1) := by decide +kernel
theorem dX6_runGutter_51 : decode cX6_runGutter 51 = .ok (.iload_n 2, 1) := by decide +kernel
theorem dX6_runGutter_52 : decode cX6_runGutter 52 = .ok (.iload_n 3, 1) := by decide +kernel
theorem dX6_runGutter_53 : decode cX6_runGutter 53 = .ok (.iload 4, 2) := by decide +kernel
theorem dX6_runGutter_55 : decode cX6_runGutter 55 = .ok (.invokestatic 158, 3) := by decide +kernel
theorem dX6_runGutter_58 : decode cX6_runGutter 58 = .ok (.ifCond .lt 7, 3) := by decide +kernel
theorem dX6_runGutter_61 : decode cX6_runGutter 61 = .ok (.iconst 1, 1) := by decide +kernel
theorem dX6_runGutter_62 : decode cX6_runGutter 62 = .ok (.goto 4, 3) := by decide +kernel
theorem dX6_runGutter_65 : decode cX6_runGutter 65 = .ok (.iconst 0, 1) := by decide +kernel
theorem dX6_runGutter_66 : decode cX6_runGutter 66 = .ok (.ireturn, 1) := by decide +kernel
theorem dX6_stir_0 : decode cX6_stir 0 = .ok (.iload_n 1, 1) := by decide +kernel
theorem dX6_stir_1 : decode cX6_stir 1 = .ok (.bipush 16, 2) := by decide +kernel
theorem dX6_stir_3 : decode cX6_stir 3 = .ok (.idiv, 1) := by decide +kernel
theorem dX6_stir_4 : decode cX6_stir 4 = .ok (.istore_n 2, 1) := by decide +kernel
theorem dX6_stir_5 : decode cX6_stir 5 = .ok (.iload_n 1, 1) := by decide +kernel
theorem dX6_stir_6 : decode cX6_stir 6 = .ok (.bipush 16, 2) := by decide +kernel
theorem dX6_stir_8 : decode cX6_stir 8 = .ok (.irem, 1) := by decide +kernel
theorem dX6_stir_9 : decode cX6_stir 9 = .ok (.tableswitch 198 0 10 #[59, 96, 96, 122, 122, 122, 122, 141, 165, 165, 182], 59) := by decide +kernel
theorem dX6_stir_68 : decode cX6_stir 68 = .ok (.aload_n 0, 1) := by decide +kernel
theorem dX6_stir_69 : decode cX6_stir 69 = .ok (.iconst 4, 1) := by decide +kernel
theorem dX6_stir_70 : decode cX6_stir 70 = .ok (.iload_n 2, 1) := by decide +kernel
theorem dX6_stir_71 : decode cX6_stir 71 = .ok (.bipush 20, 2) := by decide +kernel
theorem dX6_stir_73 : decode cX6_stir 73 = .ok (.irem, 1) := by decide +kernel
theorem dX6_stir_74 : decode cX6_stir 74 = .ok (.iadd, 1) := by decide +kernel
theorem dX6_stir_75 : decode cX6_stir 75 = .ok (.iload_n 2, 1) := by decide +kernel
theorem dX6_stir_76 : decode cX6_stir 76 = .ok (.bipush 32, 2) := by decide +kernel
theorem dX6_stir_78 : decode cX6_stir 78 = .ok (.idiv, 1) := by decide +kernel
theorem dX6_stir_79 : decode cX6_stir 79 = .ok (.bipush 6, 2) := by decide +kernel
theorem dX6_stir_81 : decode cX6_stir 81 = .ok (.irem, 1) := by decide +kernel
theorem dX6_stir_82 : decode cX6_stir 82 = .ok (.iload_n 2, 1) := by decide +kernel
theorem dX6_stir_83 : decode cX6_stir 83 = .ok (.sipush 256, 3) := by decide +kernel
theorem dX6_stir_86 : decode cX6_stir 86 = .ok (.idiv, 1) := by decide +kernel
theorem dX6_stir_87 : decode cX6_stir 87 = .ok (.bipush 6, 2) := by decide +kernel
theorem dX6_stir_89 : decode cX6_stir 89 = .ok (.irem, 1) := by decide +kernel
theorem dX6_stir_90 : decode cX6_stir 90 = .ok (.iload_n 2, 1) := by decide +kernel
theorem dX6_stir_91 : decode cX6_stir 91 = .ok (.sipush 2048, 3) := by decide +kernel
theorem dX6_stir_94 : decode cX6_stir 94 = .ok (.idiv, 1) := by decide +kernel
theorem dX6_stir_95 : decode cX6_stir 95 = .ok (.bipush 20, 2) := by decide +kernel
theorem dX6_stir_97 : decode cX6_stir 97 = .ok (.irem, 1) := by decide +kernel
theorem dX6_stir_98 : decode cX6_stir 98 = .ok (.invokevirtual 282, 3) := by decide +kernel
theorem dX6_stir_101 : decode cX6_stir 101 = .ok (.istore_n 3, 1) := by decide +kernel
theorem dX6_stir_102 : decode cX6_stir 102 = .ok (.goto 115, 3) := by decide +kernel
theorem dX6_stir_105 : decode cX6_stir 105 = .ok (.aload_n 0, 1) := by decide +kernel
theorem dX6_stir_106 : decode cX6_stir 106 = .ok (.iconst 1, 1) := by decide +kernel
theorem dX6_stir_107 : decode cX6_stir 107 = .ok (.iload_n 2, 1) := by decide +kernel
theorem dX6_stir_108 : decode cX6_stir 108 = .ok (.bipush 9, 2) := by decide +kernel
theorem dX6_stir_110 : decode cX6_stir 110 = .ok (.irem, 1) := by decide +kernel
theorem dX6_stir_111 : decode cX6_stir 111 = .ok (.iadd, 1) := by decide +kernel
theorem dX6_stir_112 : decode cX6_stir 112 = .ok (.iload_n 2, 1) := by decide +kernel
theorem dX6_stir_113 : decode cX6_stir 113 = .ok (.bipush 16, 2) := by decide +kernel
theorem dX6_stir_115 : decode cX6_stir 115 = .ok (.idiv, 1) := by decide +kernel
theorem dX6_stir_116 : decode cX6_stir 116 = .ok (.iconst 4, 1) := by decide +kernel
theorem dX6_stir_117 : decode cX6_stir 117 = .ok (.irem, 1) := by decide +kernel
theorem dX6_stir_118 : decode cX6_stir 118 = .ok (.iload_n 2, 1) := by decide +kernel
theorem dX6_stir_119 : decode cX6_stir 119 = .ok (.bipush 64, 2) := by decide +kernel
theorem dX6_stir_121 : decode cX6_stir 121 = .ok (.idiv, 1) := by decide +kernel
theorem dX6_stir_122 : decode cX6_stir 122 = .ok (.iconst 4, 1) := by decide +kernel
theorem dX6_stir_123 : decode cX6_stir 123 = .ok (.irem, 1) := by decide +kernel
theorem dX6_stir_124 : decode cX6_stir 124 = .ok (.invokevirtual 270, 3) := by decide +kernel
theorem dX6_stir_127 : decode cX6_stir 127 = .ok (.istore_n 3, 1) := by decide +kernel
theorem dX6_stir_128 : decode cX6_stir 128 = .ok (.goto 89, 3) := by decide +kernel
theorem dX6_stir_131 : decode cX6_stir 131 = .ok (.aload_n 0, 1) := by decide +kernel
theorem dX6_stir_132 : decode cX6_stir 132 = .ok (.iload_n 2, 1) := by decide +kernel
theorem dX6_stir_133 : decode cX6_stir 133 = .ok (.bipush 10, 2) := by decide +kernel
theorem dX6_stir_135 : decode cX6_stir 135 = .ok (.irem, 1) := by decide +kernel
theorem dX6_stir_136 : decode cX6_stir 136 = .ok (.iload_n 2, 1) := by decide +kernel
theorem dX6_stir_137 : decode cX6_stir 137 = .ok (.bipush 16, 2) := by decide +kernel
theorem dX6_stir_139 : decode cX6_stir 139 = .ok (.idiv, 1) := by decide +kernel
theorem dX6_stir_140 : decode cX6_stir 140 = .ok (.bipush 6, 2) := by decide +kernel
theorem dX6_stir_142 : decode cX6_stir 142 = .ok (.irem, 1) := by decide +kernel
theorem dX6_stir_143 : decode cX6_stir 143 = .ok (.invokevirtual 254, 3) := by decide +kernel
theorem dX6_stir_146 : decode cX6_stir 146 = .ok (.istore_n 3, 1) := by decide +kernel
theorem dX6_stir_147 : decode cX6_stir 147 = .ok (.goto 70, 3) := by decide +kernel
theorem dX6_stir_150 : decode cX6_stir 150 = .ok (.aload_n 0, 1) := by decide +kernel
theorem dX6_stir_151 : decode cX6_stir 151 = .ok (.iload_n 2, 1) := by decide +kernel
theorem dX6_stir_152 : decode cX6_stir 152 = .ok (.iconst 4, 1) := by decide +kernel
theorem dX6_stir_153 : decode cX6_stir 153 = .ok (.irem, 1) := by decide +kernel
theorem dX6_stir_154 : decode cX6_stir 154 = .ok (.iload_n 2, 1) := by decide +kernel
theorem dX6_stir_155 : decode cX6_stir 155 = .ok (.iconst 4, 1) := by decide +kernel
theorem dX6_stir_156 : decode cX6_stir 156 = .ok (.idiv, 1) := by decide +kernel
theorem dX6_stir_157 : decode cX6_stir 157 = .ok (.bipush 6, 2) := by decide +kernel
theorem dX6_stir_159 : decode cX6_stir 159 = .ok (.irem, 1) := by decide +kernel
theorem dX6_stir_160 : decode cX6_stir 160 = .ok (.iload_n 2, 1) := by decide +kernel
theorem dX6_stir_161 : decode cX6_stir 161 = .ok (.bipush 32, 2) := by decide +kernel
theorem dX6_stir_163 : decode cX6_stir 163 = .ok (.idiv, 1) := by decide +kernel
theorem dX6_stir_164 : decode cX6_stir 164 = .ok (.bipush 20, 2) := by decide +kernel
theorem dX6_stir_166 : decode cX6_stir 166 = .ok (.irem, 1) := by decide +kernel
theorem dX6_stir_167 : decode cX6_stir 167 = .ok (.invokevirtual 260, 3) := by decide +kernel
theorem dX6_stir_170 : decode cX6_stir 170 = .ok (.istore_n 3, 1) := by decide +kernel
theorem dX6_stir_171 : decode cX6_stir 171 = .ok (.goto 46, 3) := by decide +kernel
theorem dX6_stir_174 : decode cX6_stir 174 = .ok (.aload_n 0, 1) := by decide +kernel
theorem dX6_stir_175 : decode cX6_stir 175 = .ok (.iload_n 2, 1) := by decide +kernel
theorem dX6_stir_176 : decode cX6_stir 176 = .ok (.iconst 4, 1) := by decide +kernel
theorem dX6_stir_177 : decode cX6_stir 177 = .ok (.irem, 1) := by decide +kernel
theorem dX6_stir_178 : decode cX6_stir 178 = .ok (.iload_n 2, 1) := by decide +kernel
theorem dX6_stir_179 : decode cX6_stir 179 = .ok (.iconst 4, 1) := by decide +kernel
theorem dX6_stir_180 : decode cX6_stir 180 = .ok (.idiv, 1) := by decide +kernel
theorem dX6_stir_181 : decode cX6_stir 181 = .ok (.bipush 10, 2) := by decide +kernel
theorem dX6_stir_183 : decode cX6_stir 183 = .ok (.irem, 1) := by decide +kernel
theorem dX6_stir_184 : decode cX6_stir 184 = .ok (.invokevirtual 264, 3) := by decide +kernel
theorem dX6_stir_187 : decode cX6_stir 187 = .ok (.istore_n 3, 1) := by decide +kernel
theorem dX6_stir_188 : decode cX6_stir 188 = .ok (.goto 29, 3) := by decide +kernel
theorem dX6_stir_191 : decode cX6_stir 191 = .ok (.aload_n 0, 1) := by decide +kernel
theorem dX6_stir_192 : decode cX6_stir 192 = .ok (.iload_n 2, 1) := by decide +kernel
theorem dX6_stir_193 : decode cX6_stir 193 = .ok (.iconst 3, 1) := by decide +kernel
theorem dX6_stir_194 : decode cX6_stir 194 = .ok (.irem, 1) := by decide +kernel
theorem dX6_stir_195 : decode cX6_stir 195 = .ok (.iload_n 2, 1) := by decide +kernel
theorem dX6_stir_196 : decode cX6_stir 196 = .ok (.iconst 4, 1) := by decide +kernel
theorem dX6_stir_197 : decode cX6_stir 197 = .ok (.idiv, 1) := by decide +kernel
theorem dX6_stir_198 : decode cX6_stir 198 = .ok (.iconst 5, 1) := by decide +kernel
theorem dX6_stir_199 : decode cX6_stir 199 = .ok (.irem, 1) := by decide +kernel
theorem dX6_stir_200 : decode cX6_stir 200 = .ok (.invokevirtual 267, 3) := by decide +kernel
theorem dX6_stir_203 : decode cX6_stir 203 = .ok (.istore_n 3, 1) := by decide +kernel
theorem dX6_stir_204 : decode cX6_stir 204 = .ok (.goto 13, 3) := by decide +kernel
theorem dX6_stir_207 : decode cX6_stir 207 = .ok (.aload_n 0, 1) := by decide +kernel
theorem dX6_stir_208 : decode cX6_stir 208 = .ok (.iconst 1, 1) := by decide +kernel
theorem dX6_stir_209 : decode cX6_stir 209 = .ok (.iload_n 2, 1) := by decide +kernel
theorem dX6_stir_210 : decode cX6_stir 210 = .ok (.iconst 4, 1) := by decide +kernel
theorem dX6_stir_211 : decode cX6_stir 211 = .ok (.irem, 1) := by decide +kernel
theorem dX6_stir_212 : decode cX6_stir 212 = .ok (.iadd, 1) := by decide +kernel
theorem dX6_stir_213 : decode cX6_stir 213 = .ok (.invokevirtual 257, 3) := by decide +kernel
theorem dX6_stir_216 : decode cX6_stir 216 = .ok (.istore_n 3, 1) := by decide +kernel
theorem dX6_stir_217 : decode cX6_stir 217 = .ok (.return_, 1) := by decide +kernel
theorem dX6_simulate_0 : decode cX6_simulate 0 = .ok (.aload_n 0, 1) := by decide +kernel
theorem dX6_simulate_1 : decode cX6_simulate 1 = .ok (.iload_n 3, 1) := by decide +kernel
theorem dX6_simulate_2 : decode cX6_simulate 2 = .ok (.i2l, 1) := by decide +kernel
theorem dX6_simulate_3 : decode cX6_simulate 3 = .ok (.lconst 1, 1) := by decide +kernel
theorem dX6_simulate_4 : decode cX6_simulate 4 = .ok (.ldc2_w 249, 3) := by decide +kernel
theorem dX6_simulate_7 : decode cX6_simulate 7 = .ok (.invokestatic 42, 3) := by decide +kernel
theorem dX6_simulate_10 : decode cX6_simulate 10 = .ok (.ifCond .eq 7, 3) := by decide +kernel
theorem dX6_simulate_13 : decode cX6_simulate 13 = .ok (.iconst 0, 1) := by decide +kernel
theorem dX6_simulate_14 : decode cX6_simulate 14 = .ok (.goto 4, 3) := by decide +kernel
theorem dX6_simulate_17 : decode cX6_simulate 17 = .ok (.iconst 1, 1) := by decide +kernel
theorem dX6_simulate_18 : decode cX6_simulate 18 = .ok (.invokevirtual 122, 3) := by decide +kernel
theorem dX6_simulate_21 : decode cX6_simulate 21 = .ok (.ifCond .eq 5, 3) := by decide +kernel
theorem dX6_simulate_24 : decode cX6_simulate 24 = .ok (.iconst 0, 1) := by decide +kernel
theorem dX6_simulate_25 : decode cX6_simulate 25 = .ok (.ireturn, 1) := by decide +kernel
theorem dX6_simulate_26 : decode cX6_simulate 26 = .ok (.aload_n 0, 1) := by decide +kernel
theorem dX6_simulate_27 : decode cX6_simulate 27 = .ok (.getfield 7, 3) := by decide +kernel
theorem dX6_simulate_30 : decode cX6_simulate 30 = .ok (.aload_n 0, 1) := by decide +kernel
theorem dX6_simulate_31 : decode cX6_simulate 31 = .ok (.getfield 13, 3) := by decide +kernel
theorem dX6_simulate_34 : decode cX6_simulate 34 = .ok (.invokestatic 212, 3) := by decide +kernel
theorem dX6_simulate_37 : decode cX6_simulate 37 = .ok (.lload_n 1, 1) := by decide +kernel
theorem dX6_simulate_38 : decode cX6_simulate 38 = .ok (.lstore 4, 2) := by decide +kernel
theorem dX6_simulate_40 : decode cX6_simulate 40 = .ok (.iconst 0, 1) := by decide +kernel
theorem dX6_simulate_41 : decode cX6_simulate 41 = .ok (.istore 6, 2) := by decide +kernel
theorem dX6_simulate_43 : decode cX6_simulate 43 = .ok (.iload 6, 2) := by decide +kernel
theorem dX6_simulate_45 : decode cX6_simulate 45 = .ok (.iload_n 3, 1) := by decide +kernel
theorem dX6_simulate_46 : decode cX6_simulate 46 = .ok (.if_icmp .ge 31, 3) := by decide +kernel
theorem dX6_simulate_49 : decode cX6_simulate 49 = .ok (.lload 4, 2) := by decide +kernel
theorem dX6_simulate_51 : decode cX6_simulate 51 = .ok (.ldc2_w 286, 3) := by decide +kernel
theorem dX6_simulate_54 : decode cX6_simulate 54 = .ok (.lmul, 1) := by decide +kernel
theorem dX6_simulate_55 : decode cX6_simulate 55 = .ok (.ldc2_w 288, 3) := by decide +kernel
theorem dX6_simulate_58 : decode cX6_simulate 58 = .ok (.ladd, 1) := by decide +kernel
theorem dX6_simulate_59 : decode cX6_simulate 59 = .ok (.lstore 4, 2) := by decide +kernel
theorem dX6_simulate_61 : decode cX6_simulate 61 = .ok (.aload_n 0, 1) := by decide +kernel
theorem dX6_simulate_62 : decode cX6_simulate 62 = .ok (.lload 4, 2) := by decide +kernel
theorem dX6_simulate_64 : decode cX6_simulate 64 = .ok (.bipush 33, 2) := by decide +kernel
theorem dX6_simulate_66 : decode cX6_simulate 66 = .ok (.lushr, 1) := by decide +kernel
theorem dX6_simulate_67 : decode cX6_simulate 67 = .ok (.l2i, 1) := by decide +kernel
theorem dX6_simulate_68 : decode cX6_simulate 68 = .ok (.invokevirtual 290, 3) := by decide +kernel
theorem dX6_simulate_71 : decode cX6_simulate 71 = .ok (.iinc 6 1, 3) := by decide +kernel
theorem dX6_simulate_74 : decode cX6_simulate 74 = .ok (.goto (-31), 3) := by decide +kernel
theorem dX6_simulate_77 : decode cX6_simulate 77 = .ok (.iconst 0, 1) := by decide +kernel
theorem dX6_simulate_78 : decode cX6_simulate 78 = .ok (.istore 6, 2) := by decide +kernel
theorem dX6_simulate_80 : decode cX6_simulate 80 = .ok (.iconst 0, 1) := by decide +kernel
theorem dX6_simulate_81 : decode cX6_simulate 81 = .ok (.istore 7, 2) := by decide +kernel
theorem dX6_simulate_83 : decode cX6_simulate 83 = .ok (.iload 7, 2) := by decide +kernel
theorem dX6_simulate_85 : decode cX6_simulate 85 = .ok (.iconst 4, 1) := by decide +kernel
theorem dX6_simulate_86 : decode cX6_simulate 86 = .ok (.if_icmp .ge 27, 3) := by decide +kernel
theorem dX6_simulate_89 : decode cX6_simulate 89 = .ok (.iload 6, 2) := by decide +kernel
theorem dX6_simulate_91 : decode cX6_simulate 91 = .ok (.aload_n 0, 1) := by decide +kernel
theorem dX6_simulate_92 : decode cX6_simulate 92 = .ok (.getfield 13, 3) := by decide +kernel
theorem dX6_simulate_95 : decode cX6_simulate 95 = .ok (.sipush 134, 3) := by decide +kernel
theorem dX6_simulate_98 : decode cX6_simulate 98 = .ok (.iconst 3, 1) := by decide +kernel
theorem dX6_simulate_99 : decode cX6_simulate 99 = .ok (.iload 7, 2) := by decide +kernel
theorem dX6_simulate_101 : decode cX6_simulate 101 = .ok (.imul, 1) := by decide +kernel
theorem dX6_simulate_102 : decode cX6_simulate 102 = .ok (.iadd, 1) := by decide +kernel
theorem dX6_simulate_103 : decode cX6_simulate 103 = .ok (.iaload, 1) := by decide +kernel
theorem dX6_simulate_104 : decode cX6_simulate 104 = .ok (.iadd, 1) := by decide +kernel
theorem dX6_simulate_105 : decode cX6_simulate 105 = .ok (.istore 6, 2) := by decide +kernel
theorem dX6_simulate_107 : decode cX6_simulate 107 = .ok (.iinc 7 1, 3) := by decide +kernel
theorem dX6_simulate_110 : decode cX6_simulate 110 = .ok (.goto (-27), 3) := by decide +kernel
theorem dX6_simulate_113 : decode cX6_simulate 113 = .ok (.sipush 10000, 3) := by decide +kernel
theorem dX6_simulate_116 : decode cX6_simulate 116 = .ok (.aload_n 0, 1) := by decide +kernel
theorem dX6_simulate_117 : decode cX6_simulate 117 = .ok (.getfield 13, 3) := by decide +kernel
theorem dX6_simulate_120 : decode cX6_simulate 120 = .ok (.sipush 149, 3) := by decide +kernel
theorem dX6_simulate_123 : decode cX6_simulate 123 = .ok (.iaload, 1) := by decide +kernel
theorem dX6_simulate_124 : decode cX6_simulate 124 = .ok (.aload_n 0, 1) := by decide +kernel
theorem dX6_simulate_125 : decode cX6_simulate 125 = .ok (.getfield 7, 3) := by decide +kernel
theorem dX6_simulate_128 : decode cX6_simulate 128 = .ok (.sipush 149, 3) := by decide +kernel
theorem dX6_simulate_131 : decode cX6_simulate 131 = .ok (.iaload, 1) := by decide +kernel
theorem dX6_simulate_132 : decode cX6_simulate 132 = .ok (.isub, 1) := by decide +kernel
theorem dX6_simulate_133 : decode cX6_simulate 133 = .ok (.imul, 1) := by decide +kernel
theorem dX6_simulate_134 : decode cX6_simulate 134 = .ok (.bipush 100, 2) := by decide +kernel
theorem dX6_simulate_136 : decode cX6_simulate 136 = .ok (.iload 6, 2) := by decide +kernel
theorem dX6_simulate_138 : decode cX6_simulate 138 = .ok (.bipush 100, 2) := by decide +kernel
theorem dX6_simulate_140 : decode cX6_simulate 140 = .ok (.irem, 1) := by decide +kernel
theorem dX6_simulate_141 : decode cX6_simulate 141 = .ok (.imul, 1) := by decide +kernel
theorem dX6_simulate_142 : decode cX6_simulate 142 = .ok (.iadd, 1) := by decide +kernel
theorem dX6_simulate_143 : decode cX6_simulate 143 = .ok (.aload_n 0, 1) := by decide +kernel
theorem dX6_simulate_144 : decode cX6_simulate 144 = .ok (.getfield 13, 3) := by decide +kernel
theorem dX6_simulate_147 : decode cX6_simulate 147 = .ok (.iconst 3, 1) := by decide +kernel
theorem dX6_simulate_148 : decode cX6_simulate 148 = .ok (.invokestatic 82, 3) := by decide +kernel
theorem dX6_simulate_151 : decode cX6_simulate 151 = .ok (.iadd, 1) := by decide +kernel
theorem dX6_simulate_152 : decode cX6_simulate 152 = .ok (.ireturn, 1) := by decide +kernel
theorem dX6_save_0 : decode cX6_save 0 = .ok (.aload_n 0, 1) := by decide +kernel
theorem dX6_save_1 : decode cX6_save 1 = .ok (.iload_n 1, 1) := by decide +kernel
theorem dX6_save_2 : decode cX6_save 2 = .ok (.i2l, 1) := by decide +kernel
theorem dX6_save_3 : decode cX6_save 3 = .ok (.lconst 0, 1) := by decide +kernel
theorem dX6_save_4 : decode cX6_save 4 = .ok (.lconst 1, 1) := by decide +kernel
theorem dX6_save_5 : decode cX6_save 5 = .ok (.invokestatic 42, 3) := by decide +kernel
theorem dX6_save_8 : decode cX6_save 8 = .ok (.ifCond .eq 7, 3) := by decide +kernel
theorem dX6_save_11 : decode cX6_save 11 = .ok (.iconst 0, 1) := by decide +kernel
theorem dX6_save_12 : decode cX6_save 12 = .ok (.goto 4, 3) := by decide +kernel
theorem dX6_save_15 : decode cX6_save 15 = .ok (.iconst 1, 1) := by decide +kernel
theorem dX6_save_16 : decode cX6_save 16 = .ok (.invokevirtual 122, 3) := by decide +kernel
theorem dX6_save_19 : decode cX6_save 19 = .ok (.ifCond .eq 5, 3) := by decide +kernel
theorem dX6_save_22 : decode cX6_save 22 = .ok (.iconst 0, 1) := by decide +kernel
theorem dX6_save_23 : decode cX6_save 23 = .ok (.ireturn, 1) := by decide +kernel
theorem dX6_save_24 : decode cX6_save 24 = .ok (.iconst 0, 1) := by decide +kernel
theorem dX6_save_25 : decode cX6_save 25 = .ok (.istore_n 2, 1) := by decide +kernel
theorem dX6_save_26 : decode cX6_save 26 = .ok (.iload_n 2, 1) := by decide +kernel
theorem dX6_save_27 : decode cX6_save 27 = .ok (.sipush 157, 3) := by decide +kernel
theorem dX6_save_30 : decode cX6_save 30 = .ok (.if_icmp .ge 27, 3) := by decide +kernel
theorem dX6_save_33 : decode cX6_save 33 = .ok (.aload_n 0, 1) := by decide +kernel
theorem dX6_save_34 : decode cX6_save 34 = .ok (.getfield 22, 3) := by decide +kernel
theorem dX6_save_37 : decode cX6_save 37 = .ok (.sipush 157, 3) := by decide +kernel
theorem dX6_save_40 : decode cX6_save 40 = .ok (.iload_n 1, 1) := by decide +kernel
theorem dX6_save_41 : decode cX6_save 41 = .ok (.imul, 1) := by decide +kernel
theorem dX6_save_42 : decode cX6_save 42 = .ok (.iload_n 2, 1) := by decide +kernel
theorem dX6_save_43 : decode cX6_save 43 = .ok (.iadd, 1) := by decide +kernel
theorem dX6_save_44 : decode cX6_save 44 = .ok (.aload_n 0, 1) := by decide +kernel
theorem dX6_save_45 : decode cX6_save 45 = .ok (.getfield 7, 3) := by decide +kernel
theorem dX6_save_48 : decode cX6_save 48 = .ok (.iload_n 2, 1) := by decide +kernel
theorem dX6_save_49 : decode cX6_save 49 = .ok (.iaload, 1) := by decide +kernel
theorem dX6_save_50 : decode cX6_save 50 = .ok (.iastore, 1) := by decide +kernel
theorem dX6_save_51 : decode cX6_save 51 = .ok (.iinc 2 1, 3) := by decide +kernel
theorem dX6_save_54 : decode cX6_save 54 = .ok (.goto (-28), 3) := by decide +kernel
theorem dX6_save_57 : decode cX6_save 57 = .ok (.aload_n 0, 1) := by decide +kernel
theorem dX6_save_58 : decode cX6_save 58 = .ok (.getfield 25, 3) := by decide +kernel
theorem dX6_save_61 : decode cX6_save 61 = .ok (.iload_n 1, 1) := by decide +kernel
theorem dX6_save_62 : decode cX6_save 62 = .ok (.iconst 1, 1) := by decide +kernel
theorem dX6_save_63 : decode cX6_save 63 = .ok (.bastore, 1) := by decide +kernel
theorem dX6_save_64 : decode cX6_save 64 = .ok (.aload_n 0, 1) := by decide +kernel
theorem dX6_save_65 : decode cX6_save 65 = .ok (.getfield 7, 3) := by decide +kernel
theorem dX6_save_68 : decode cX6_save 68 = .ok (.sipush 148, 3) := by decide +kernel
theorem dX6_save_71 : decode cX6_save 71 = .ok (.iaload, 1) := by decide +kernel
theorem dX6_save_72 : decode cX6_save 72 = .ok (.ireturn, 1) := by decide +kernel
theorem dX6_restore_0 : decode cX6_restore 0 = .ok (.aload_n 0, 1) := by decide +kernel
theorem dX6_restore_1 : decode cX6_restore 1 = .ok (.iload_n 1, 1) := by decide +kernel
theorem dX6_restore_2 : decode cX6_restore 2 = .ok (.i2l, 1) := by decide +kernel
theorem dX6_restore_3 : decode cX6_restore 3 = .ok (.lconst 0, 1) := by decide +kernel
theorem dX6_restore_4 : decode cX6_restore 4 = .ok (.lconst 1, 1) := by decide +kernel
theorem dX6_restore_5 : decode cX6_restore 5 = .ok (.invokestatic 42, 3) := by decide +kernel
theorem dX6_restore_8 : decode cX6_restore 8 = .ok (.ifCond .ne 7, 3) := by decide +kernel
theorem dX6_restore_11 : decode cX6_restore 11 = .ok (.iconst 1, 1) := by decide +kernel
theorem dX6_restore_12 : decode cX6_restore 12 = .ok (.goto 17, 3) := by decide +kernel
theorem dX6_restore_15 : decode cX6_restore 15 = .ok (.aload_n 0, 1) := by decide +kernel
theorem dX6_restore_16 : decode cX6_restore 16 = .ok (.getfield 25, 3) := by decide +kernel
theorem dX6_restore_19 : decode cX6_restore 19 = .ok (.iload_n 1, 1) := by decide +kernel
theorem dX6_restore_20 : decode cX6_restore 20 = .ok (.baload, 1) := by decide +kernel
theorem dX6_restore_21 : decode cX6_restore 21 = .ok (.ifCond .ne 7, 3) := by decide +kernel
theorem dX6_restore_24 : decode cX6_restore 24 = .ok (.iconst 2, 1) := by decide +kernel
theorem dX6_restore_25 : decode cX6_restore 25 = .ok (.goto 4, 3) := by decide +kernel
theorem dX6_restore_28 : decode cX6_restore 28 = .ok (.iconst 0, 1) := by decide +kernel
theorem dX6_restore_29 : decode cX6_restore 29 = .ok (.invokevirtual 122, 3) := by decide +kernel
theorem dX6_restore_32 : decode cX6_restore 32 = .ok (.ifCond .eq 5, 3) := by decide +kernel
theorem dX6_restore_35 : decode cX6_restore 35 = .ok (.iconst 0, 1) := by decide +kernel
theorem dX6_restore_36 : decode cX6_restore 36 = .ok (.ireturn, 1) := by decide +kernel
theorem dX6_restore_37 : decode cX6_restore 37 = .ok (.iconst 0, 1) := by decide +kernel
theorem dX6_restore_38 : decode cX6_restore 38 = .ok (.istore_n 2, 1) := by decide +kernel
theorem dX6_restore_39 : decode cX6_restore 39 = .ok (.iload_n 2, 1) := by decide +kernel
theorem dX6_restore_40 : decode cX6_restore 40 = .ok (.sipush 157, 3) := by decide +kernel
theorem dX6_restore_43 : decode cX6_restore 43 = .ok (.if_icmp .ge 27, 3) := by decide +kernel
theorem dX6_restore_46 : decode cX6_restore 46 = .ok (.aload_n 0, 1) := by decide +kernel
theorem dX6_restore_47 : decode cX6_restore 47 = .ok (.getfield 7, 3) := by decide +kernel
theorem dX6_restore_50 : decode cX6_restore 50 = .ok (.iload_n 2, 1) := by decide +kernel
theorem dX6_restore_51 : decode cX6_restore 51 = .ok (.aload_n 0, 1) := by decide +kernel
theorem dX6_restore_52 : decode cX6_restore 52 = .ok (.getfield 22, 3) := by decide +kernel
theorem dX6_restore_55 : decode cX6_restore 55 = .ok (.sipush 157, 3) := by decide +kernel
theorem dX6_restore_58 : decode cX6_restore 58 = .ok (.iload_n 1, 1) := by decide +kernel
theorem dX6_restore_59 : decode cX6_restore 59 = .ok (.imul, 1) := by decide +kernel
theorem dX6_restore_60 : decode cX6_restore 60 = .ok (.iload_n 2, 1) := by decide +kernel
theorem dX6_restore_61 : decode cX6_restore 61 = .ok (.iadd, 1) := by decide +kernel
theorem dX6_restore_62 : decode cX6_restore 62 = .ok (.iaload, 1) := by decide +kernel
theorem dX6_restore_63 : decode cX6_restore 63 = .ok (.iastore, 1) := by decide +kernel
theorem dX6_restore_64 : decode cX6_restore 64 = .ok (.iinc 2 1, 3) := by decide +kernel
theorem dX6_restore_67 : decode cX6_restore 67 = .ok (.goto (-28), 3) := by decide +kernel
theorem dX6_restore_70 : decode cX6_restore 70 = .ok (.aload_n 0, 1) := by decide +kernel
theorem dX6_restore_71 : decode cX6_restore 71 = .ok (.iconst 0, 1) := by decide +kernel
theorem dX6_restore_72 : decode cX6_restore 72 = .ok (.putfield 114, 3) := by decide +kernel
theorem dX6_restore_75 : decode cX6_restore 75 = .ok (.aload_n 0, 1) := by decide +kernel
theorem dX6_restore_76 : decode cX6_restore 76 = .ok (.getfield 7, 3) := by decide +kernel
theorem dX6_restore_79 : decode cX6_restore 79 = .ok (.sipush 148, 3) := by decide +kernel
theorem dX6_restore_82 : decode cX6_restore 82 = .ok (.iaload, 1) := by decide +kernel
theorem dX6_restore_83 : decode cX6_restore 83 = .ok (.ireturn, 1) := by decide +kernel

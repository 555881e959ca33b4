theorem dX0_init_0 : decode cX0_init 0 = .ok (.aload_n 0, 1) := by decide +kernel
theorem dX0_init_1 : decode cX0_init 1 = .ok (.invokespecial 3, 3) := by decide +kernel
theorem dX0_init_4 : decode cX0_init 4 = .ok (.aload_n 0, 1) := by decide +kernel
theorem dX0_init_5 : decode cX0_init 5 = .ok (.new 9, 3) := by decide +kernel
theorem dX0_init_8 : decode cX0_init 8 = .ok (.dup, 1) := by decide +kernel
theorem dX0_init_9 : decode cX0_init 9 = .ok (.bipush 14, 2) := by decide +kernel
theorem dX0_init_11 : decode cX0_init 11 = .ok (.invokespecial 11, 3) := by decide +kernel
theorem dX0_init_14 : decode cX0_init 14 = .ok (.putfield 14, 3) := by decide +kernel
theorem dX0_init_17 : decode cX0_init 17 = .ok (.return_, 1) := by decide +kernel
theorem dX0_remember_0 : decode cX0_remember 0 = .ok (.aload_n 0, 1) := by decide +kernel
theorem dX0_remember_1 : decode cX0_remember 1 = .ok (.getfield 14, 3) := by decide +kernel
theorem dX0_remember_4 : decode cX0_remember 4 = .ok (.aload_n 0, 1) := by decide +kernel
theorem dX0_remember_5 : decode cX0_remember 5 = .ok (.getfield 20, 3) := by decide +kernel
theorem dX0_remember_8 : decode cX0_remember 8 = .ok (.aload_n 1, 1) := by decide +kernel
theorem dX0_remember_9 : decode cX0_remember 9 = .ok (.invokevirtual 24, 3) := by decide +kernel
theorem dX0_remember_12 : decode cX0_remember 12 = .ok (.aload_n 0, 1) := by decide +kernel
theorem dX0_remember_13 : decode cX0_remember 13 = .ok (.aload_n 0, 1) := by decide +kernel
theorem dX0_remember_14 : decode cX0_remember 14 = .ok (.getfield 20, 3) := by decide +kernel
theorem dX0_remember_17 : decode cX0_remember 17 = .ok (.iconst 1, 1) := by decide +kernel
theorem dX0_remember_18 : decode cX0_remember 18 = .ok (.iadd, 1) := by decide +kernel
theorem dX0_remember_19 : decode cX0_remember 19 = .ok (.bipush 14, 2) := by decide +kernel
theorem dX0_remember_21 : decode cX0_remember 21 = .ok (.irem, 1) := by decide +kernel
theorem dX0_remember_22 : decode cX0_remember 22 = .ok (.putfield 20, 3) := by decide +kernel
theorem dX0_remember_25 : decode cX0_remember 25 = .ok (.aload_n 0, 1) := by decide +kernel
theorem dX0_remember_26 : decode cX0_remember 26 = .ok (.aload_n 0, 1) := by decide +kernel
theorem dX0_remember_27 : decode cX0_remember 27 = .ok (.getfield 28, 3) := by decide +kernel
theorem dX0_remember_30 : decode cX0_remember 30 = .ok (.iconst 1, 1) := by decide +kernel
theorem dX0_remember_31 : decode cX0_remember 31 = .ok (.iadd, 1) := by decide +kernel
theorem dX0_remember_32 : decode cX0_remember 32 = .ok (.bipush 14, 2) := by decide +kernel
theorem dX0_remember_34 : decode cX0_remember 34 = .ok (.invokestatic 31, 3) := by decide +kernel
theorem dX0_remember_37 : decode cX0_remember 37 = .ok (.putfield 28, 3) := by decide +kernel
theorem dX0_remember_40 : decode cX0_remember 40 = .ok (.return_, 1) := by decide +kernel
theorem dX0_takeBack_0 : decode cX0_takeBack 0 = .ok (.aload_n 0, 1) := by decide +kernel
theorem dX0_takeBack_1 : decode cX0_takeBack 1 = .ok (.getfield 28, 3) := by decide +kernel
theorem dX0_takeBack_4 : decode cX0_takeBack 4 = .ok (.ifCond .le 41, 3) := by decide +kernel
theorem dX0_takeBack_7 : decode cX0_takeBack 7 = .ok (.aload_n 0, 1) := by decide +kernel
theorem dX0_takeBack_8 : decode cX0_takeBack 8 = .ok (.aload_n 0, 1) := by decide +kernel
theorem dX0_takeBack_9 : decode cX0_takeBack 9 = .ok (.getfield 20, 3) := by decide +kernel
theorem dX0_takeBack_12 : decode cX0_takeBack 12 = .ok (.bipush 14, 2) := by decide +kernel
theorem dX0_takeBack_14 : decode cX0_takeBack 14 = .ok (.iadd, 1) := by decide +kernel
theorem dX0_takeBack_15 : decode cX0_takeBack 15 = .ok (.iconst 1, 1) := by decide +kernel
theorem dX0_takeBack_16 : decode cX0_takeBack 16 = .ok (.isub, 1) := by decide +kernel
theorem dX0_takeBack_17 : decode cX0_takeBack 17 = .ok (.bipush 14, 2) := by decide +kernel
theorem dX0_takeBack_19 : decode cX0_takeBack 19 = .ok (.irem, 1) := by decide +kernel
theorem dX0_takeBack_20 : decode cX0_takeBack 20 = .ok (.putfield 20, 3) := by decide +kernel
theorem dX0_takeBack_23 : decode cX0_takeBack 23 = .ok (.aload_n 0, 1) := by decide +kernel
theorem dX0_takeBack_24 : decode cX0_takeBack 24 = .ok (.dup, 1) := by decide +kernel
theorem dX0_takeBack_25 : decode cX0_takeBack 25 = .ok (.getfield 28, 3) := by decide +kernel
theorem dX0_takeBack_28 : decode cX0_takeBack 28 = .ok (.iconst 1, 1) := by decide +kernel
theorem dX0_takeBack_29 : decode cX0_takeBack 29 = .ok (.isub, 1) := by decide +kernel
theorem dX0_takeBack_30 : decode cX0_takeBack 30 = .ok (.putfield 28, 3) := by decide +kernel
theorem dX0_takeBack_33 : decode cX0_takeBack 33 = .ok (.aload_n 0, 1) := by decide +kernel
theorem dX0_takeBack_34 : decode cX0_takeBack 34 = .ok (.getfield 14, 3) := by decide +kernel
theorem dX0_takeBack_37 : decode cX0_takeBack 37 = .ok (.aload_n 0, 1) := by decide +kernel
theorem dX0_takeBack_38 : decode cX0_takeBack 38 = .ok (.getfield 20, 3) := by decide +kernel
theorem dX0_takeBack_41 : decode cX0_takeBack 41 = .ok (.aload_n 1, 1) := by decide +kernel
theorem dX0_takeBack_42 : decode cX0_takeBack 42 = .ok (.invokevirtual 37, 3) := by decide +kernel
theorem dX0_takeBack_45 : decode cX0_takeBack 45 = .ok (.aload_n 0, 1) := by decide +kernel
theorem dX0_takeBack_46 : decode cX0_takeBack 46 = .ok (.getfield 28, 3) := by decide +kernel
theorem dX0_takeBack_49 : decode cX0_takeBack 49 = .ok (.ireturn, 1) := by decide +kernel
theorem dX0_forget_0 : decode cX0_forget 0 = .ok (.aload_n 0, 1) := by decide +kernel
theorem dX0_forget_1 : decode cX0_forget 1 = .ok (.iconst 0, 1) := by decide +kernel
theorem dX0_forget_2 : decode cX0_forget 2 = .ok (.putfield 28, 3) := by decide +kernel
theorem dX0_forget_5 : decode cX0_forget 5 = .ok (.return_, 1) := by decide +kernel
theorem dX1_init_0 : decode cX1_init 0 = .ok (.aload_n 0, 1) := by decide +kernel
theorem dX1_init_1 : decode cX1_init 1 = .ok (.invokespecial 1, 3) := by decide +kernel
theorem dX1_init_4 : decode cX1_init 4 = .ok (.iconst 0, 1) := by decide +kernel
theorem dX1_init_5 : decode cX1_init 5 = .ok (.iload_n 1, 1) := by decide +kernel
theorem dX1_init_6 : decode cX1_init 6 = .ok (.invokestatic 7, 3) := by decide +kernel
theorem dX1_init_9 : decode cX1_init 9 = .ok (.istore_n 2, 1) := by decide +kernel
theorem dX1_init_10 : decode cX1_init 10 = .ok (.aload_n 0, 1) := by decide +kernel
theorem dX1_init_11 : decode cX1_init 11 = .ok (.iload_n 2, 1) := by decide +kernel
theorem dX1_init_12 : decode cX1_init 12 = .ok (.anewarray 13, 3) := by decide +kernel
theorem dX1_init_15 : decode cX1_init 15 = .ok (.putfield 15, 3) := by decide +kernel
theorem dX1_init_18 : decode cX1_init 18 = .ok (.aload_n 0, 1) := by decide +kernel
theorem dX1_init_19 : decode cX1_init 19 = .ok (.iload_n 2, 1) := by decide +kernel
theorem dX1_init_20 : decode cX1_init 20 = .ok (.newarray .boolean, 2) := by decide +kernel
theorem dX1_init_22 : decode cX1_init 22 = .ok (.putfield 21, 3) := by decide +kernel
theorem dX1_init_25 : decode cX1_init 25 = .ok (.iconst 0, 1) := by decide +kernel
theorem dX1_init_26 : decode cX1_init 26 = .ok (.istore_n 3, 1) := by decide +kernel
theorem dX1_init_27 : decode cX1_init 27 = .ok (.iload_n 3, 1) := by decide +kernel
theorem dX1_init_28 : decode cX1_init 28 = .ok (.aload_n 0, 1) := by decide +kernel
theorem dX1_init_29 : decode cX1_init 29 = .ok (.getfield 15, 3) := by decide +kernel
theorem dX1_init_32 : decode cX1_init 32 = .ok (.arraylength, 1) := by decide +kernel
theorem dX1_init_33 : decode cX1_init 33 = .ok (.if_icmp .ge 22, 3) := by decide +kernel
theorem dX1_init_36 : decode cX1_init 36 = .ok (.aload_n 0, 1) := by decide +kernel
theorem dX1_init_37 : decode cX1_init 37 = .ok (.getfield 15, 3) := by decide +kernel
theorem dX1_init_40 : decode cX1_init 40 = .ok (.iload_n 3, 1) := by decide +kernel
theorem dX1_init_41 : decode cX1_init 41 = .ok (.new 13, 3) := by decide +kernel
theorem dX1_init_44 : decode cX1_init 44 = .ok (.dup, 1) := by decide +kernel
theorem dX1_init_45 : decode cX1_init 45 = .ok (.invokespecial 25, 3) := by decide +kernel
theorem dX1_init_48 : decode cX1_init 48 = .ok (.aastore, 1) := by decide +kernel
theorem dX1_init_49 : decode cX1_init 49 = .ok (.iinc 3 1, 3) := by decide +kernel
theorem dX1_init_52 : decode cX1_init 52 = .ok (.goto (-25), 3) := by decide +kernel
theorem dX1_init_55 : decode cX1_init 55 = .ok (.return_, 1) := by decide +kernel
theorem dX1_holds_0 : decode cX1_holds 0 = .ok (.iload_n 1, 1) := by decide +kernel
theorem dX1_holds_1 : decode cX1_holds 1 = .ok (.ifCond .lt 25, 3) := by decide +kernel
theorem dX1_holds_4 : decode cX1_holds 4 = .ok (.iload_n 1, 1) := by decide +kernel
theorem dX1_holds_5 : decode cX1_holds 5 = .ok (.aload_n 0, 1) := by decide +kernel
theorem dX1_holds_6 : decode cX1_holds 6 = .ok (.getfield 21, 3) := by decide +kernel
theorem dX1_holds_9 : decode cX1_holds 9 = .ok (.arraylength, 1) := by decide +kernel
theorem dX1_holds_10 : decode cX1_holds 10 = .ok (.if_icmp .ge 16, 3) := by decide +kernel
theorem dX1_holds_13 : decode cX1_holds 13 = .ok (.aload_n 0, 1) := by decide +kernel
theorem dX1_holds_14 : decode cX1_holds 14 = .ok (.getfield 21, 3) := by decide +kernel
theorem dX1_holds_17 : decode cX1_holds 17 = .ok (.iload_n 1, 1) := by decide +kernel
theorem dX1_holds_18 : decode cX1_holds 18 = .ok (.baload, 1) := by decide +kernel
theorem dX1_holds_19 : decode cX1_holds 19 = .ok (.ifCond .eq 7, 3) := by decide +kernel
theorem dX1_holds_22 : decode cX1_holds 22 = .ok (.iconst 1, 1) := by decide +kernel
theorem dX1_holds_23 : decode cX1_holds 23 = .ok (.goto 4, 3) := by decide +kernel
theorem dX1_holds_26 : decode cX1_holds 26 = .ok (.iconst 0, 1) := by decide +kernel
theorem dX1_holds_27 : decode cX1_holds 27 = .ok (.ireturn, 1) := by decide +kernel
theorem dX1_put_0 : decode cX1_put 0 = .ok (.aload_n 0, 1) := by decide +kernel
theorem dX1_put_1 : decode cX1_put 1 = .ok (.iload_n 1, 1) := by decide +kernel
theorem dX1_put_2 : decode cX1_put 2 = .ok (.invokevirtual 26, 3) := by decide +kernel
theorem dX1_put_5 : decode cX1_put 5 = .ok (.astore_n 3, 1) := by decide +kernel
theorem dX1_put_6 : decode cX1_put 6 = .ok (.aload_n 3, 1) := by decide +kernel
theorem dX1_put_7 : decode cX1_put 7 = .ok (.ifnull 28, 3) := by decide +kernel
theorem dX1_put_10 : decode cX1_put 10 = .ok (.iload_n 1, 1) := by decide +kernel
theorem dX1_put_11 : decode cX1_put 11 = .ok (.ifCond .lt 24, 3) := by decide +kernel
theorem dX1_put_14 : decode cX1_put 14 = .ok (.iload_n 1, 1) := by decide +kernel
theorem dX1_put_15 : decode cX1_put 15 = .ok (.aload_n 0, 1) := by decide +kernel
theorem dX1_put_16 : decode cX1_put 16 = .ok (.getfield 21, 3) := by decide +kernel
theorem dX1_put_19 : decode cX1_put 19 = .ok (.arraylength, 1) := by decide +kernel
theorem dX1_put_20 : decode cX1_put 20 = .ok (.if_icmp .ge 15, 3) := by decide +kernel
theorem dX1_put_23 : decode cX1_put 23 = .ok (.aload_n 3, 1) := by decide +kernel
theorem dX1_put_24 : decode cX1_put 24 = .ok (.aload_n 2, 1) := by decide +kernel
theorem dX1_put_25 : decode cX1_put 25 = .ok (.invokevirtual 30, 3) := by decide +kernel
theorem dX1_put_28 : decode cX1_put 28 = .ok (.aload_n 0, 1) := by decide +kernel
theorem dX1_put_29 : decode cX1_put 29 = .ok (.getfield 21, 3) := by decide +kernel
theorem dX1_put_32 : decode cX1_put 32 = .ok (.iload_n 1, 1) := by decide +kernel
theorem dX1_put_33 : decode cX1_put 33 = .ok (.iconst 1, 1) := by decide +kernel
theorem dX1_put_34 : decode cX1_put 34 = .ok (.bastore, 1) := by decide +kernel
theorem dX1_put_35 : decode cX1_put 35 = .ok (.return_, 1) := by decide +kernel
theorem dX1_copyTo_0 : decode cX1_copyTo 0 = .ok (.aload_n 0, 1) := by decide +kernel
theorem dX1_copyTo_1 : decode cX1_copyTo 1 = .ok (.iload_n 1, 1) := by decide +kernel
theorem dX1_copyTo_2 : decode cX1_copyTo 2 = .ok (.invokevirtual 26, 3) := by decide +kernel
theorem dX1_copyTo_5 : decode cX1_copyTo 5 = .ok (.astore_n 3, 1) := by decide +kernel
theorem dX1_copyTo_6 : decode cX1_copyTo 6 = .ok (.aload_n 3, 1) := by decide +kernel
theorem dX1_copyTo_7 : decode cX1_copyTo 7 = .ok (.ifnull 8, 3) := by decide +kernel
theorem dX1_copyTo_10 : decode cX1_copyTo 10 = .ok (.aload_n 2, 1) := by decide +kernel
theorem dX1_copyTo_11 : decode cX1_copyTo 11 = .ok (.aload_n 3, 1) := by decide +kernel
theorem dX1_copyTo_12 : decode cX1_copyTo 12 = .ok (.invokevirtual 30, 3) := by decide +kernel
theorem dX1_copyTo_15 : decode cX1_copyTo 15 = .ok (.return_, 1) := by decide +kernel
theorem dX1_clear_0 : decode cX1_clear 0 = .ok (.iconst 0, 1) := by decide +kernel
theorem dX1_clear_1 : decode cX1_clear 1 = .ok (.istore_n 1, 1) := by decide +kernel
theorem dX1_clear_2 : decode cX1_clear 2 = .ok (.iload_n 1, 1) := by decide +kernel
theorem dX1_clear_3 : decode cX1_clear 3 = .ok (.aload_n 0, 1) := by decide +kernel
theorem dX1_clear_4 : decode cX1_clear 4 = .ok (.getfield 21, 3) := by decide +kernel
theorem dX1_clear_7 : decode cX1_clear 7 = .ok (.arraylength, 1) := by decide +kernel
theorem dX1_clear_8 : decode cX1_clear 8 = .ok (.if_icmp .ge 16, 3) := by decide +kernel
theorem dX1_clear_11 : decode cX1_clear 11 = .ok (.aload_n 0, 1) := by decide +kernel
theorem dX1_clear_12 : decode cX1_clear 12 = .ok (.getfield 21, 3) := by decide +kernel
theorem dX1_clear_15 : decode cX1_clear 15 = .ok (.iload_n 1, 1) := by decide +kernel
theorem dX1_clear_16 : decode cX1_clear 16 = .ok (.iconst 0, 1) := by decide +kernel
theorem dX1_clear_17 : decode cX1_clear 17 = .ok (.bastore, 1) := by decide +kernel
theorem dX1_clear_18 : decode cX1_clear 18 = .ok (.iinc 1 1, 3) := by decide +kernel
theorem dX1_clear_21 : decode cX1_clear 21 = .ok (.goto (-19), 3) := by decide +kernel
theorem dX1_clear_24 : decode cX1_clear 24 = .ok (.return_, 1) := by decide +kernel
theorem dX1_keptAt_0 : decode cX1_keptAt 0 = .ok (.iload_n 1, 1) := by decide +kernel
theorem dX1_keptAt_1 : decode cX1_keptAt 1 = .ok (.ifCond .lt 21, 3) := by decide +kernel
theorem dX1_keptAt_4 : decode cX1_keptAt 4 = .ok (.iload_n 1, 1) := by decide +kernel
theorem dX1_keptAt_5 : decode cX1_keptAt 5 = .ok (.aload_n 0, 1) := by decide +kernel
theorem dX1_keptAt_6 : decode cX1_keptAt 6 = .ok (.getfield 15, 3) := by decide +kernel
theorem dX1_keptAt_9 : decode cX1_keptAt 9 = .ok (.arraylength, 1) := by decide +kernel
theorem dX1_keptAt_10 : decode cX1_keptAt 10 = .ok (.if_icmp .ge 12, 3) := by decide +kernel
theorem dX1_keptAt_13 : decode cX1_keptAt 13 = .ok (.aload_n 0, 1) := by decide +kernel
theorem dX1_keptAt_14 : decode cX1_keptAt 14 = .ok (.getfield 15, 3) := by decide +kernel
theorem dX1_keptAt_17 : decode cX1_keptAt 17 = .ok (.iload_n 1, 1) := by decide +kernel
theorem dX1_keptAt_18 : decode cX1_keptAt 18 = .ok (.aaload, 1) := by decide +kernel
theorem dX1_keptAt_19 : decode cX1_keptAt 19 = .ok (.goto 4, 3) := by decide +kernel
theorem dX1_keptAt_22 : decode cX1_keptAt 22 = .ok (.aconst_null, 1) := by decide +kernel
theorem dX1_keptAt_23 : decode cX1_keptAt 23 = .ok (.areturn, 1) := by decide +kernel
theorem dX2_init_0 : decode cX2_init 0 = .ok (.aload_n 0, 1) := by decide +kernel
theorem dX2_init_1 : decode cX2_init 1 = .ok (.invokespecial 3, 3) := by decide +kernel
theorem dX2_init_4 : decode cX2_init 4 = .ok (.aload_n 0, 1) := by decide +kernel
theorem dX2_init_5 : decode cX2_init 5 = .ok (.iconst 1, 1) := by decide +kernel
theorem dX2_init_6 : decode cX2_init 6 = .ok (.iload_n 2, 1) := by decide +kernel
theorem dX2_init_7 : decode cX2_init 7 = .ok (.invokestatic 9, 3) := by decide +kernel
theorem dX2_init_10 : decode cX2_init 10 = .ok (.putfield 15, 3) := by decide +kernel
theorem dX2_init_13 : decode cX2_init 13 = .ok (.aload_n 0, 1) := by decide +kernel
theorem dX2_init_14 : decode cX2_init 14 = .ok (.iconst 0, 1) := by decide +kernel
theorem dX2_init_15 : decode cX2_init 15 = .ok (.iload_n 1, 1) := by decide +kernel
theorem dX2_init_16 : decode cX2_init 16 = .ok (.iload_n 2, 1) := by decide +kernel
theorem dX2_init_17 : decode cX2_init 17 = .ok (.imul, 1) := by decide +kernel
theorem dX2_init_18 : decode cX2_init 18 = .ok (.invokestatic 9, 3) := by decide +kernel
theorem dX2_init_21 : decode cX2_init 21 = .ok (.newarray .int, 2) := by decide +kernel
theorem dX2_init_23 : decode cX2_init 23 = .ok (.putfield 21, 3) := by decide +kernel
theorem dX2_init_26 : decode cX2_init 26 = .ok (.return_, 1) := by decide +kernel
theorem dX2_addRow_0 : decode cX2_addRow 0 = .ok (.aload_n 0, 1) := by decide +kernel
theorem dX2_addRow_1 : decode cX2_addRow 1 = .ok (.getfield 25, 3) := by decide +kernel
theorem dX2_addRow_4 : decode cX2_addRow 4 = .ok (.iconst 1, 1) := by decide +kernel
theorem dX2_addRow_5 : decode cX2_addRow 5 = .ok (.iadd, 1) := by decide +kernel
theorem dX2_addRow_6 : decode cX2_addRow 6 = .ok (.aload_n 0, 1) := by decide +kernel
theorem dX2_addRow_7 : decode cX2_addRow 7 = .ok (.getfield 15, 3) := by decide +kernel
theorem dX2_addRow_10 : decode cX2_addRow 10 = .ok (.imul, 1) := by decide +kernel
theorem dX2_addRow_11 : decode cX2_addRow 11 = .ok (.aload_n 0, 1) := by decide +kernel
theorem dX2_addRow_12 : decode cX2_addRow 12 = .ok (.getfield 21, 3) := by decide +kernel
theorem dX2_addRow_15 : decode cX2_addRow 15 = .ok (.arraylength, 1) := by decide +kernel
theorem dX2_addRow_16 : decode cX2_addRow 16 = .ok (.if_icmp .le 5, 3) := by decide +kernel
theorem dX2_addRow_19 : decode cX2_addRow 19 = .ok (.iconst (-1), 1) := by decide +kernel
theorem dX2_addRow_20 : decode cX2_addRow 20 = .ok (.ireturn, 1) := by decide +kernel
theorem dX2_addRow_21 : decode cX2_addRow 21 = .ok (.aload_n 0, 1) := by decide +kernel
theorem dX2_addRow_22 : decode cX2_addRow 22 = .ok (.getfield 25, 3) := by decide +kernel
theorem dX2_addRow_25 : decode cX2_addRow 25 = .ok (.aload_n 0, 1) := by decide +kernel
theorem dX2_addRow_26 : decode cX2_addRow 26 = .ok (.getfield 15, 3) := by decide +kernel
theorem dX2_addRow_29 : decode cX2_addRow 29 = .ok (.imul, 1) := by decide +kernel
theorem dX2_addRow_30 : decode cX2_addRow 30 = .ok (.istore_n 1, 1) := by decide +kernel
theorem dX2_addRow_31 : decode cX2_addRow 31 = .ok (.iload_n 1, 1) := by decide +kernel
theorem dX2_addRow_32 : decode cX2_addRow 32 = .ok (.aload_n 0, 1) := by decide +kernel
theorem dX2_addRow_33 : decode cX2_addRow 33 = .ok (.getfield 25, 3) := by decide +kernel
theorem dX2_addRow_36 : decode cX2_addRow 36 = .ok (.iconst 1, 1) := by decide +kernel
theorem dX2_addRow_37 : decode cX2_addRow 37 = .ok (.iadd, 1) := by decide +kernel
theorem dX2_addRow_38 : decode cX2_addRow 38 = .ok (.aload_n 0, 1) := by decide +kernel
theorem dX2_addRow_39 : decode cX2_addRow 39 = .ok (.getfield 15, 3) := by decide +kernel
theorem dX2_addRow_42 : decode cX2_addRow 42 = .ok (.imul, 1) := by decide +kernel
theorem dX2_addRow_43 : decode cX2_addRow 43 = .ok (.if_icmp .ge 25, 3) := by decide +kernel
theorem dX2_addRow_46 : decode cX2_addRow 46 = .ok (.iload_n 1, 1) := by decide +kernel
theorem dX2_addRow_47 : decode cX2_addRow 47 = .ok (.aload_n 0, 1) := by decide +kernel
theorem dX2_addRow_48 : decode cX2_addRow 48 = .ok (.getfield 21, 3) := by decide +kernel
theorem dX2_addRow_51 : decode cX2_addRow 51 = .ok (.arraylength, 1) := by decide +kernel
theorem dX2_addRow_52 : decode cX2_addRow 52 = .ok (.if_icmp .ge 16, 3) := by decide +kernel
theorem dX2_addRow_55 : decode cX2_addRow 55 = .ok (.aload_n 0, 1) := by decide +kernel
theorem dX2_addRow_56 : decode cX2_addRow 56 = .ok (.getfield 21, 3) := by decide +kernel
theorem dX2_addRow_59 : decode cX2_addRow 59 = .ok (.iload_n 1, 1) := by decide +kernel
theorem dX2_addRow_60 : decode cX2_addRow 60 = .ok (.iconst 0, 1) := by decide +kernel
theorem dX2_addRow_61 : decode cX2_addRow 61 = .ok (.iastore, 1) := by decide +kernel
theorem dX2_addRow_62 : decode cX2_addRow 62 = .ok (.iinc 1 1, 3) := by decide +kernel
theorem dX2_addRow_65 : decode cX2_addRow 65 = .ok (.goto (-34), 3) := by decide +kernel
theorem dX2_addRow_68 : decode cX2_addRow 68 = .ok (.aload_n 0, 1) := by decide +kernel
theorem dX2_addRow_69 : decode cX2_addRow 69 = .ok (.dup, 1) := by decide +kernel
theorem dX2_addRow_70 : decode cX2_addRow 70 = .ok (.getfield 25, 3) := by decide +kernel
theorem dX2_addRow_73 : decode cX2_addRow 73 = .ok (.iconst 1, 1) := by decide +kernel
theorem dX2_addRow_74 : decode cX2_addRow 74 = .ok (.iadd, 1) := by decide +kernel
theorem dX2_addRow_75 : decode cX2_addRow 75 = .ok (.putfield 25, 3) := by decide +kernel
theorem dX2_addRow_78 : decode cX2_addRow 78 = .ok (.aload_n 0, 1) := by decide +kernel
theorem dX2_addRow_79 : decode cX2_addRow 79 = .ok (.getfield 25, 3) := by decide +kernel
theorem dX2_addRow_82 : decode cX2_addRow 82 = .ok (.iconst 1, 1) := by decide +kernel
theorem dX2_addRow_83 : decode cX2_addRow 83 = .ok (.isub, 1) := by decide +kernel
theorem dX2_addRow_84 : decode cX2_addRow 84 = .ok (.ireturn, 1) := by decide +kernel
theorem dX2_at_0 : decode cX2_at 0 = .ok (.iload_n 1, 1) := by decide +kernel
theorem dX2_at_1 : decode cX2_at 1 = .ok (.aload_n 0, 1) := by decide +kernel
theorem dX2_at_2 : decode cX2_at 2 = .ok (.getfield 15, 3) := by decide +kernel
theorem dX2_at_5 : decode cX2_at 5 = .ok (.imul, 1) := by decide +kernel
theorem dX2_at_6 : decode cX2_at 6 = .ok (.iload_n 2, 1) := by decide +kernel
theorem dX2_at_7 : decode cX2_at 7 = .ok (.iadd, 1) := by decide +kernel
theorem dX2_at_8 : decode cX2_at 8 = .ok (.istore_n 3, 1) := by decide +kernel
theorem dX2_at_9 : decode cX2_at 9 = .ok (.iload_n 1, 1) := by decide +kernel
theorem dX2_at_10 : decode cX2_at 10 = .ok (.ifCond .lt 41, 3) := by decide +kernel
theorem dX2_at_13 : decode cX2_at 13 = .ok (.iload_n 1, 1) := by decide +kernel
theorem dX2_at_14 : decode cX2_at 14 = .ok (.aload_n 0, 1) := by decide +kernel
theorem dX2_at_15 : decode cX2_at 15 = .ok (.getfield 25, 3) := by decide +kernel
theorem dX2_at_18 : decode cX2_at 18 = .ok (.if_icmp .ge 33, 3) := by decide +kernel
theorem dX2_at_21 : decode cX2_at 21 = .ok (.iload_n 2, 1) := by decide +kernel
theorem dX2_at_22 : decode cX2_at 22 = .ok (.ifCond .lt 29, 3) := by decide +kernel
theorem dX2_at_25 : decode cX2_at 25 = .ok (.iload_n 2, 1) := by decide +kernel
theorem dX2_at_26 : decode cX2_at 26 = .ok (.aload_n 0, 1) := by decide +kernel
theorem dX2_at_27 : decode cX2_at 27 = .ok (.getfield 15, 3) := by decide +kernel
theorem dX2_at_30 : decode cX2_at 30 = .ok (.if_icmp .ge 21, 3) := by decide +kernel
theorem dX2_at_33 : decode cX2_at 33 = .ok (.iload_n 3, 1) := by decide +kernel
theorem dX2_at_34 : decode cX2_at 34 = .ok (.aload_n 0, 1) := by decide +kernel
theorem dX2_at_35 : decode cX2_at 35 = .ok (.getfield 21, 3) := by decide +kernel
theorem dX2_at_38 : decode cX2_at 38 = .ok (.arraylength, 1) := by decide +kernel
theorem dX2_at_39 : decode cX2_at 39 = .ok (.if_icmp .ge 12, 3) := by decide +kernel
theorem dX2_at_42 : decode cX2_at 42 = .ok (.aload_n 0, 1) := by decide +kernel
theorem dX2_at_43 : decode cX2_at 43 = .ok (.getfield 21, 3) := by decide +kernel
theorem dX2_at_46 : decode cX2_at 46 = .ok (.iload_n 3, 1) := by decide +kernel
theorem dX2_at_47 : decode cX2_at 47 = .ok (.iaload, 1) := by decide +kernel
theorem dX2_at_48 : decode cX2_at 48 = .ok (.goto 4, 3) := by decide +kernel
theorem dX2_at_51 : decode cX2_at 51 = .ok (.iconst (-1), 1) := by decide +kernel
theorem dX2_at_52 : decode cX2_at 52 = .ok (.ireturn, 1) := by decide +kernel
theorem dX2_put_0 : decode cX2_put 0 = .ok (.iload_n 1, 1) := by decide +kernel
theorem dX2_put_1 : decode cX2_put 1 = .ok (.aload_n 0, 1) := by decide +kernel
theorem dX2_put_2 : decode cX2_put 2 = .ok (.getfield 15, 3) := by decide +kernel
theorem dX2_put_5 : decode cX2_put 5 = .ok (.imul, 1) := by decide +kernel
theorem dX2_put_6 : decode cX2_put 6 = .ok (.iload_n 2, 1) := by decide +kernel
theorem dX2_put_7 : decode cX2_put 7 = .ok (.iadd, 1) := by decide +kernel
theorem dX2_put_8 : decode cX2_put 8 = .ok (.istore 4, 2) := by decide +kernel
theorem dX2_put_10 : decode cX2_put 10 = .ok (.iload_n 1, 1) := by decide +kernel
theorem dX2_put_11 : decode cX2_put 11 = .ok (.ifCond .lt 41, 3) := by decide +kernel
theorem dX2_put_14 : decode cX2_put 14 = .ok (.iload_n 1, 1) := by decide +kernel
theorem dX2_put_15 : decode cX2_put 15 = .ok (.aload_n 0, 1) := by decide +kernel
theorem dX2_put_16 : decode cX2_put 16 = .ok (.getfield 25, 3) := by decide +kernel
theorem dX2_put_19 : decode cX2_put 19 = .ok (.if_icmp .ge 33, 3) := by decide +kernel
theorem dX2_put_22 : decode cX2_put 22 = .ok (.iload_n 2, 1) := by decide +kernel
theorem dX2_put_23 : decode cX2_put 23 = .ok (.ifCond .lt 29, 3) := by decide +kernel
theorem dX2_put_26 : decode cX2_put 26 = .ok (.iload_n 2, 1) := by decide +kernel
theorem dX2_put_27 : decode cX2_put 27 = .ok (.aload_n 0, 1) := by decide +kernel
theorem dX2_put_28 : decode cX2_put 28 = .ok (.getfield 15, 3) := by decide +kernel
theorem dX2_put_31 : decode cX2_put 31 = .ok (.if_icmp .ge 21, 3) := by decide +kernel
theorem dX2_put_34 : decode cX2_put 34 = .ok (.iload 4, 2) := by decide +kernel
theorem dX2_put_36 : decode cX2_put 36 = .ok (.aload_n 0, 1) := by decide +kernel
theorem dX2_put_37 : decode cX2_put 37 = .ok (.getfield 21, 3) := by decide +kernel
theorem dX2_put_40 : decode cX2_put 40 = .ok (.arraylength, 1) := by decide +kernel
theorem dX2_put_41 : decode cX2_put 41 = .ok (.if_icmp .ge 11, 3) := by decide +kernel
theorem dX2_put_44 : decode cX2_put 44 = .ok (.aload_n 0, 1) := by decide +kernel
theorem dX2_put_45 : decode cX2_put 45 = .ok (.getfield 21, 3) := by decide +kernel
theorem dX2_put_48 : decode cX2_put 48 = .ok (.iload 4, 2) := by decide +kernel
theorem dX2_put_50 : decode cX2_put 50 = .ok (.iload_n 3, 1) := by decide +kernel
theorem dX2_put_51 : decode cX2_put 51 = .ok (.iastore, 1) := by decide +kernel
theorem dX2_put_52 : decode cX2_put 52 = .ok (.return_, 1) := by decide +kernel
theorem dX2_increase_0 : decode cX2_increase 0 = .ok (.aload_n 0, 1) := by decide +kernel
theorem dX2_increase_1 : decode cX2_increase 1 = .ok (.iload_n 1, 1) := by decide +kernel
theorem dX2_increase_2 : decode cX2_increase 2 = .ok (.iload_n 2, 1) := by decide +kernel
theorem dX2_increase_3 : decode cX2_increase 3 = .ok (.aload_n 0, 1) := by decide +kernel
theorem dX2_increase_4 : decode cX2_increase 4 = .ok (.iload_n 1, 1) := by decide +kernel
theorem dX2_increase_5 : decode cX2_increase 5 = .ok (.iload_n 2, 1) := by decide +kernel
theorem dX2_increase_6 : decode cX2_increase 6 = .ok (.invokevirtual 28, 3) := by decide +kernel
theorem dX2_increase_9 : decode cX2_increase 9 = .ok (.iload_n 3, 1) := by decide +kernel
theorem dX2_increase_10 : decode cX2_increase 10 = .ok (.iadd, 1) := by decide +kernel
theorem dX2_increase_11 : decode cX2_increase 11 = .ok (.invokevirtual 31, 3) := by decide +kernel
theorem dX2_increase_14 : decode cX2_increase 14 = .ok (.return_, 1) := by decide +kernel
theorem dX2_sum_0 : decode cX2_sum 0 = .ok (.iconst 0, 1) := by decide +kernel
theorem dX2_sum_1 : decode cX2_sum 1 = .ok (.istore_n 2, 1) := by decide +kernel
theorem dX2_sum_2 : decode cX2_sum 2 = .ok (.iconst 0, 1) := by decide +kernel
theorem dX2_sum_3 : decode cX2_sum 3 = .ok (.istore_n 3, 1) := by decide +kernel
theorem dX2_sum_4 : decode cX2_sum 4 = .ok (.iload_n 3, 1) := by decide +kernel
theorem dX2_sum_5 : decode cX2_sum 5 = .ok (.aload_n 0, 1) := by decide +kernel
theorem dX2_sum_6 : decode cX2_sum 6 = .ok (.getfield 25, 3) := by decide +kernel
theorem dX2_sum_9 : decode cX2_sum 9 = .ok (.if_icmp .ge 18, 3) := by decide +kernel
theorem dX2_sum_12 : decode cX2_sum 12 = .ok (.iload_n 2, 1) := by decide +kernel
theorem dX2_sum_13 : decode cX2_sum 13 = .ok (.aload_n 0, 1) := by decide +kernel
theorem dX2_sum_14 : decode cX2_sum 14 = .ok (.iload_n 3, 1) := by decide +kernel
theorem dX2_sum_15 : decode cX2_sum 15 = .ok (.iload_n 1, 1) := by decide +kernel
theorem dX2_sum_16 : decode cX2_sum 16 = .ok (.invokevirtual 28, 3) := by decide +kernel
theorem dX2_sum_19 : decode cX2_sum 19 = .ok (.iadd, 1) := by decide +kernel
theorem dX2_sum_20 : decode cX2_sum 20 = .ok (.istore_n 2, 1) := by decide +kernel
theorem dX2_sum_21 : decode cX2_sum 21 = .ok (.iinc 3 1, 3) := by decide +kernel
theorem dX2_sum_24 : decode cX2_sum 24 = .ok (.goto (-20), 3) := by decide +kernel
theorem dX2_sum_27 : decode cX2_sum 27 = .ok (.iload_n 2, 1) := by decide +kernel
theorem dX2_sum_28 : decode cX2_sum 28 = .ok (.ireturn, 1) := by decide +kernel
theorem dX2_count_0 : decode cX2_count 0 = .ok (.iconst 0, 1) := by decide +kernel
theorem dX2_count_1 : decode cX2_count 1 = .ok (.istore_n 3, 1) := by decide +kernel
theorem dX2_count_2 : decode cX2_count 2 = .ok (.iconst 0, 1) := by decide +kernel
theorem dX2_count_3 : decode cX2_count 3 = .ok (.istore 4, 2) := by decide +kernel
theorem dX2_count_5 : decode cX2_count 5 = .ok (.iload 4, 2) := by decide +kernel
theorem dX2_count_7 : decode cX2_count 7 = .ok (.aload_n 0, 1) := by decide +kernel
theorem dX2_count_8 : decode cX2_count 8 = .ok (.getfield 25, 3) := by decide +kernel
theorem dX2_count_11 : decode cX2_count 11 = .ok (.if_icmp .ge 23, 3) := by decide +kernel
theorem dX2_count_14 : decode cX2_count 14 = .ok (.aload_n 0, 1) := by decide +kernel
theorem dX2_count_15 : decode cX2_count 15 = .ok (.iload 4, 2) := by decide +kernel
theorem dX2_count_17 : decode cX2_count 17 = .ok (.iload_n 1, 1) := by decide +kernel
theorem dX2_count_18 : decode cX2_count 18 = .ok (.invokevirtual 28, 3) := by decide +kernel
theorem dX2_count_21 : decode cX2_count 21 = .ok (.iload_n 2, 1) := by decide +kernel
theorem dX2_count_22 : decode cX2_count 22 = .ok (.if_icmp .ne 6, 3) := by decide +kernel
theorem dX2_count_25 : decode cX2_count 25 = .ok (.iinc 3 1, 3) := by decide +kernel
theorem dX2_count_28 : decode cX2_count 28 = .ok (.iinc 4 1, 3) := by decide +kernel
theorem dX2_count_31 : decode cX2_count 31 = .ok (.goto (-26), 3) := by decide +kernel
theorem dX2_count_34 : decode cX2_count 34 = .ok (.iload_n 3, 1) := by decide +kernel
theorem dX2_count_35 : decode cX2_count 35 = .ok (.ireturn, 1) := by decide +kernel
theorem dX2_copyFrom_0 : decode cX2_copyFrom 0 = .ok (.aload_n 0, 1) := by decide +kernel
theorem dX2_copyFrom_1 : decode cX2_copyFrom 1 = .ok (.aload_n 1, 1) := by decide +kernel
theorem dX2_copyFrom_2 : decode cX2_copyFrom 2 = .ok (.getfield 25, 3) := by decide +kernel
theorem dX2_copyFrom_5 : decode cX2_copyFrom 5 = .ok (.putfield 25, 3) := by decide +kernel
theorem dX2_copyFrom_8 : decode cX2_copyFrom 8 = .ok (.aload_n 1, 1) := by decide +kernel
theorem dX2_copyFrom_9 : decode cX2_copyFrom 9 = .ok (.getfield 21, 3) := by decide +kernel
theorem dX2_copyFrom_12 : decode cX2_copyFrom 12 = .ok (.iconst 0, 1) := by decide +kernel
theorem dX2_copyFrom_13 : decode cX2_copyFrom 13 = .ok (.aload_n 0, 1) := by decide +kernel
theorem dX2_copyFrom_14 : decode cX2_copyFrom 14 = .ok (.getfield 21, 3) := by decide +kernel
theorem dX2_copyFrom_17 : decode cX2_copyFrom 17 = .ok (.iconst 0, 1) := by decide +kernel
theorem dX2_copyFrom_18 : decode cX2_copyFrom 18 = .ok (.aload_n 0, 1) := by decide +kernel
theorem dX2_copyFrom_19 : decode cX2_copyFrom 19 = .ok (.getfield 21, 3) := by decide +kernel
theorem dX2_copyFrom_22 : decode cX2_copyFrom 22 = .ok (.arraylength, 1) := by decide +kernel
theorem dX2_copyFrom_23 : decode cX2_copyFrom 23 = .ok (.aload_n 1, 1) := by decide +kernel
theorem dX2_copyFrom_24 : decode cX2_copyFrom 24 = .ok (.getfield 21, 3) := by decide +kernel
theorem dX2_copyFrom_27 : decode cX2_copyFrom 27 = .ok (.arraylength, 1) := by decide +kernel
theorem dX2_copyFrom_28 : decode cX2_copyFrom 28 = .ok (.invokestatic 35, 3) := by decide +kernel
theorem dX2_copyFrom_31 : decode cX2_copyFrom 31 = .ok (.invokestatic 38, 3) := by decide +kernel
theorem dX2_copyFrom_34 : decode cX2_copyFrom 34 = .ok (.return_, 1) := by decide +kernel
theorem dX3_init_0 : decode cX3_init 0 = .ok (.aload_n 0, 1) := by decide +kernel
theorem dX3_init_1 : decode cX3_init 1 = .ok (.invokespecial 3, 3) := by decide +kernel
theorem dX3_init_4 : decode cX3_init 4 = .ok (.aload_n 0, 1) := by decide +kernel
theorem dX3_init_5 : decode cX3_init 5 = .ok (.bipush 120, 2) := by decide +kernel
theorem dX3_init_7 : decode cX3_init 7 = .ok (.newarray .int, 2) := by decide +kernel
theorem dX3_init_9 : decode cX3_init 9 = .ok (.putfield 9, 3) := by decide +kernel
theorem dX3_init_12 : decode cX3_init 12 = .ok (.aload_n 0, 1) := by decide +kernel
theorem dX3_init_13 : decode cX3_init 13 = .ok (.iconst 4, 1) := by decide +kernel
theorem dX3_init_14 : decode cX3_init 14 = .ok (.newarray .int, 2) := by decide +kernel
theorem dX3_init_16 : decode cX3_init 16 = .ok (.putfield 15, 3) := by decide +kernel
theorem dX3_init_19 : decode cX3_init 19 = .ok (.return_, 1) := by decide +kernel
theorem dX3_isFull_0 : decode cX3_isFull 0 = .ok (.aload_n 0, 1) := by decide +kernel
theorem dX3_isFull_1 : decode cX3_isFull 1 = .ok (.getfield 18, 3) := by decide +kernel
theorem dX3_isFull_4 : decode cX3_isFull 4 = .ok (.bipush 120, 2) := by decide +kernel
theorem dX3_isFull_6 : decode cX3_isFull 6 = .ok (.if_icmp .lt 7, 3) := by decide +kernel
theorem dX3_isFull_9 : decode cX3_isFull 9 = .ok (.iconst 1, 1) := by decide +kernel
theorem dX3_isFull_10 : decode cX3_isFull 10 = .ok (.goto 4, 3) := by decide +kernel
theorem dX3_isFull_13 : decode cX3_isFull 13 = .ok (.iconst 0, 1) := by decide +kernel
theorem dX3_isFull_14 : decode cX3_isFull 14 = .ok (.ireturn, 1) := by decide +kernel
theorem dX3_add_0 : decode cX3_add 0 = .ok (.aload_n 0, 1) := by decide +kernel
theorem dX3_add_1 : decode cX3_add 1 = .ok (.getfield 18, 3) := by decide +kernel
theorem dX3_add_4 : decode cX3_add 4 = .ok (.ifCond .lt 35, 3) := by decide +kernel
theorem dX3_add_7 : decode cX3_add 7 = .ok (.aload_n 0, 1) := by decide +kernel
theorem dX3_add_8 : decode cX3_add 8 = .ok (.getfield 18, 3) := by decide +kernel
theorem dX3_add_11 : decode cX3_add 11 = .ok (.aload_n 0, 1) := by decide +kernel
theorem dX3_add_12 : decode cX3_add 12 = .ok (.getfield 9, 3) := by decide +kernel
theorem dX3_add_15 : decode cX3_add 15 = .ok (.arraylength, 1) := by decide +kernel
theorem dX3_add_16 : decode cX3_add 16 = .ok (.if_icmp .ge 23, 3) := by decide +kernel
theorem dX3_add_19 : decode cX3_add 19 = .ok (.aload_n 0, 1) := by decide +kernel
theorem dX3_add_20 : decode cX3_add 20 = .ok (.getfield 9, 3) := by decide +kernel
theorem dX3_add_23 : decode cX3_add 23 = .ok (.aload_n 0, 1) := by decide +kernel
theorem dX3_add_24 : decode cX3_add 24 = .ok (.getfield 18, 3) := by decide +kernel
theorem dX3_add_27 : decode cX3_add 27 = .ok (.iload_n 1, 1) := by decide +kernel
theorem dX3_add_28 : decode cX3_add 28 = .ok (.iastore, 1) := by decide +kernel
theorem dX3_add_29 : decode cX3_add 29 = .ok (.aload_n 0, 1) := by decide +kernel
theorem dX3_add_30 : decode cX3_add 30 = .ok (.dup, 1) := by decide +kernel
theorem dX3_add_31 : decode cX3_add 31 = .ok (.getfield 18, 3) := by decide +kernel
theorem dX3_add_34 : decode cX3_add 34 = .ok (.iconst 1, 1) := by decide +kernel
theorem dX3_add_35 : decode cX3_add 35 = .ok (.iadd, 1) := by decide +kernel
theorem dX3_add_36 : decode cX3_add 36 = .ok (.putfield 18, 3) := by decide +kernel
theorem dX3_add_39 : decode cX3_add 39 = .ok (.aload_n 0, 1) := by decide +kernel
theorem dX3_add_40 : decode cX3_add 40 = .ok (.getfield 18, 3) := by decide +kernel
theorem dX3_add_43 : decode cX3_add 43 = .ok (.ireturn, 1) := by decide +kernel
theorem dX3_makeEmpty_0 : decode cX3_makeEmpty 0 = .ok (.aload_n 0, 1) := by decide +kernel
theorem dX3_makeEmpty_1 : decode cX3_makeEmpty 1 = .ok (.getfield 18, 3) := by decide +kernel
theorem dX3_makeEmpty_4 : decode cX3_makeEmpty 4 = .ok (.istore_n 1, 1) := by decide +kernel
theorem dX3_makeEmpty_5 : decode cX3_makeEmpty 5 = .ok (.aload_n 0, 1) := by decide +kernel
theorem dX3_makeEmpty_6 : decode cX3_makeEmpty 6 = .ok (.iconst 0, 1) := by decide +kernel
theorem dX3_makeEmpty_7 : decode cX3_makeEmpty 7 = .ok (.putfield 18, 3) := by decide +kernel
theorem dX3_makeEmpty_10 : decode cX3_makeEmpty 10 = .ok (.iload_n 1, 1) := by decide +kernel
theorem dX3_makeEmpty_11 : decode cX3_makeEmpty 11 = .ok (.ireturn, 1) := by decide +kernel
theorem dX3_firstError_0 : decode cX3_firstError 0 = .ok (.aload_n 0, 1) := by decide +kernel
theorem dX3_firstError_1 : decode cX3_firstError 1 = .ok (.iconst 0, 1) := by decide +kernel
theorem dX3_firstError_2 : decode cX3_firstError 2 = .ok (.putfield 22, 3) := by decide +kernel
theorem dX3_firstError_5 : decode cX3_firstError 5 = .ok (.aload_n 0, 1) := by decide +kernel
theorem dX3_firstError_6 : decode cX3_firstError 6 = .ok (.invokevirtual 25, 3) := by decide +kernel
theorem dX3_firstError_9 : decode cX3_firstError 9 = .ok (.bipush 84, 2) := by decide +kernel
theorem dX3_firstError_11 : decode cX3_firstError 11 = .ok (.if_icmp .eq 5, 3) := by decide +kernel
theorem dX3_firstError_14 : decode cX3_firstError 14 = .ok (.iconst 0, 1) := by decide +kernel
theorem dX3_firstError_15 : decode cX3_firstError 15 = .ok (.ireturn, 1) := by decide +kernel
theorem dX3_firstError_16 : decode cX3_firstError 16 = .ok (.aload_n 0, 1) := by decide +kernel
theorem dX3_firstError_17 : decode cX3_firstError 17 = .ok (.iconst 1, 1) := by decide +kernel
theorem dX3_firstError_18 : decode cX3_firstError 18 = .ok (.putfield 22, 3) := by decide +kernel
theorem dX3_firstError_21 : decode cX3_firstError 21 = .ok (.iconst 0, 1) := by decide +kernel
theorem dX3_firstError_22 : decode cX3_firstError 22 = .ok (.istore_n 1, 1) := by decide +kernel
theorem dX3_firstError_23 : decode cX3_firstError 23 = .ok (.iload_n 1, 1) := by decide +kernel
theorem dX3_firstError_24 : decode cX3_firstError 24 = .ok (.bipush 120, 2) := by decide +kernel
theorem dX3_firstError_26 : decode cX3_firstError 26 = .ok (.if_icmp .ge 32, 3) := by decide +kernel
theorem dX3_firstError_29 : decode cX3_firstError 29 = .ok (.aload_n 0, 1) := by decide +kernel
theorem dX3_firstError_30 : decode cX3_firstError 30 = .ok (.getfield 22, 3) := by decide +kernel
theorem dX3_firstError_33 : decode cX3_firstError 33 = .ok (.aload_n 0, 1) := by decide +kernel
theorem dX3_firstError_34 : decode cX3_firstError 34 = .ok (.getfield 18, 3) := by decide +kernel
theorem dX3_firstError_37 : decode cX3_firstError 37 = .ok (.if_icmp .ge 21, 3) := by decide +kernel
theorem dX3_firstError_40 : decode cX3_firstError 40 = .ok (.aload_n 0, 1) := by decide +kernel
theorem dX3_firstError_41 : decode cX3_firstError 41 = .ok (.invokevirtual 29, 3) := by decide +kernel
theorem dX3_firstError_44 : decode cX3_firstError 44 = .ok (.ifCond .ne 8, 3) := by decide +kernel
theorem dX3_firstError_47 : decode cX3_firstError 47 = .ok (.aload_n 0, 1) := by decide +kernel
theorem dX3_firstError_48 : decode cX3_firstError 48 = .ok (.getfield 22, 3) := by decide +kernel
theorem dX3_firstError_51 : decode cX3_firstError 51 = .ok (.ireturn, 1) := by decide +kernel
theorem dX3_firstError_52 : decode cX3_firstError 52 = .ok (.iinc 1 1, 3) := by decide +kernel
theorem dX3_firstError_55 : decode cX3_firstError 55 = .ok (.goto (-32), 3) := by decide +kernel
theorem dX3_firstError_58 : decode cX3_firstError 58 = .ok (.iconst (-1), 1) := by decide +kernel
theorem dX3_firstError_59 : decode cX3_firstError 59 = .ok (.ireturn, 1) := by decide +kernel
theorem dX3_runCommands_0 : decode cX3_runCommands 0 = .ok (.iconst 0, 1) := by decide +kernel
theorem dX3_runCommands_1 : decode cX3_runCommands 1 = .ok (.istore_n 2, 1) := by decide +kernel
theorem dX3_runCommands_2 : decode cX3_runCommands 2 = .ok (.aload_n 0, 1) := by decide +kernel
theorem dX3_runCommands_3 : decode cX3_runCommands 3 = .ok (.iconst 1, 1) := by decide +kernel
theorem dX3_runCommands_4 : decode cX3_runCommands 4 = .ok (.putfield 22, 3) := by decide +kernel
theorem dX3_runCommands_7 : decode cX3_runCommands 7 = .ok (.iconst 0, 1) := by decide +kernel
theorem dX3_runCommands_8 : decode cX3_runCommands 8 = .ok (.istore_n 3, 1) := by decide +kernel
theorem dX3_runCommands_9 : decode cX3_runCommands 9 = .ok (.iload_n 3, 1) := by decide +kernel
theorem dX3_runCommands_10 : decode cX3_runCommands 10 = .ok (.bipush 120, 2) := by decide +kernel
theorem dX3_runCommands_12 : decode cX3_runCommands 12 = .ok (.if_icmp .ge 59, 3) := by decide +kernel
theorem dX3_runCommands_15 : decode cX3_runCommands 15 = .ok (.aload_n 0, 1) := by decide +kernel
theorem dX3_runCommands_16 : decode cX3_runCommands 16 = .ok (.getfield 22, 3) := by decide +kernel
theorem dX3_runCommands_19 : decode cX3_runCommands 19 = .ok (.aload_n 0, 1) := by decide +kernel
theorem dX3_runCommands_20 : decode cX3_runCommands 20 = .ok (.getfield 18, 3) := by decide +kernel
theorem dX3_runCommands_23 : decode cX3_runCommands 23 = .ok (.if_icmp .ge 48, 3) := by decide +kernel
theorem dX3_runCommands_26 : decode cX3_runCommands 26 = .ok (.aload_n 0, 1) := by decide +kernel
theorem dX3_runCommands_27 : decode cX3_runCommands 27 = .ok (.invokevirtual 29, 3) := by decide +kernel
theorem dX3_runCommands_30 : decode cX3_runCommands 30 = .ok (.pop, 1) := by decide +kernel
theorem dX3_runCommands_31 : decode cX3_runCommands 31 = .ok (.aload_n 1, 1) := by decide +kernel
theorem dX3_runCommands_32 : decode cX3_runCommands 32 = .ok (.aload_n 0, 1) := by decide +kernel
theorem dX3_runCommands_33 : decode cX3_runCommands 33 = .ok (.getfield 33, 3) := by decide +kernel
theorem dX3_runCommands_36 : decode cX3_runCommands 36 = .ok (.aload_n 0, 1) := by decide +kernel
theorem dX3_runCommands_37 : decode cX3_runCommands 37 = .ok (.iconst 0, 1) := by decide +kernel
theorem dX3_runCommands_38 : decode cX3_runCommands 38 = .ok (.invokevirtual 36, 3) := by decide +kernel
theorem dX3_runCommands_41 : decode cX3_runCommands 41 = .ok (.aload_n 0, 1) := by decide +kernel
theorem dX3_runCommands_42 : decode cX3_runCommands 42 = .ok (.iconst 1, 1) := by decide +kernel
theorem dX3_runCommands_43 : decode cX3_runCommands 43 = .ok (.invokevirtual 36, 3) := by decide +kernel
theorem dX3_runCommands_46 : decode cX3_runCommands 46 = .ok (.aload_n 0, 1) := by decide +kernel
theorem dX3_runCommands_47 : decode cX3_runCommands 47 = .ok (.iconst 2, 1) := by decide +kernel
theorem dX3_runCommands_48 : decode cX3_runCommands 48 = .ok (.invokevirtual 36, 3) := by decide +kernel
theorem dX3_runCommands_51 : decode cX3_runCommands 51 = .ok (.aload_n 0, 1) := by decide +kernel
theorem dX3_runCommands_52 : decode cX3_runCommands 52 = .ok (.iconst 3, 1) := by decide +kernel
theorem dX3_runCommands_53 : decode cX3_runCommands 53 = .ok (.invokevirtual 36, 3) := by decide +kernel
theorem dX3_runCommands_56 : decode cX3_runCommands 56 = .ok (.invokevirtual 40, 3) := by decide +kernel
theorem dX3_runCommands_59 : decode cX3_runCommands 59 = .ok (.ifCond .ne 6, 3) := by decide +kernel
theorem dX3_runCommands_62 : decode cX3_runCommands 62 = .ok (.iinc 2 1, 3) := by decide +kernel
theorem dX3_runCommands_65 : decode cX3_runCommands 65 = .ok (.iinc 3 1, 3) := by decide +kernel
theorem dX3_runCommands_68 : decode cX3_runCommands 68 = .ok (.goto (-59), 3) := by decide +kernel
theorem dX3_runCommands_71 : decode cX3_runCommands 71 = .ok (.iload_n 2, 1) := by decide +kernel
theorem dX3_runCommands_72 : decode cX3_runCommands 72 = .ok (.ireturn, 1) := by decide +kernel
theorem dX3_readCommand_0 : decode cX3_readCommand 0 = .ok (.aload_n 0, 1) := by decide +kernel
theorem dX3_readCommand_1 : decode cX3_readCommand 1 = .ok (.aload_n 0, 1) := by decide +kernel
theorem dX3_readCommand_2 : decode cX3_readCommand 2 = .ok (.invokevirtual 25, 3) := by decide +kernel
theorem dX3_readCommand_5 : decode cX3_readCommand 5 = .ok (.putfield 33, 3) := by decide +kernel
theorem dX3_readCommand_8 : decode cX3_readCommand 8 = .ok (.aload_n 0, 1) := by decide +kernel
theorem dX3_readCommand_9 : decode cX3_readCommand 9 = .ok (.getfield 33, 3) := by decide +kernel
theorem dX3_readCommand_12 : decode cX3_readCommand 12 = .ok (.invokestatic 46, 3) := by decide +kernel
theorem dX3_readCommand_15 : decode cX3_readCommand 15 = .ok (.astore_n 1, 1) := by decide +kernel
theorem dX3_readCommand_16 : decode cX3_readCommand 16 = .ok (.aload_n 1, 1) := by decide +kernel
theorem dX3_readCommand_17 : decode cX3_readCommand 17 = .ok (.arraylength, 1) := by decide +kernel
theorem dX3_readCommand_18 : decode cX3_readCommand 18 = .ok (.ifCond .ne 5, 3) := by decide +kernel
theorem dX3_readCommand_21 : decode cX3_readCommand 21 = .ok (.iconst 0, 1) := by decide +kernel
theorem dX3_readCommand_22 : decode cX3_readCommand 22 = .ok (.ireturn, 1) := by decide +kernel
theorem dX3_readCommand_23 : decode cX3_readCommand 23 = .ok (.aload_n 0, 1) := by decide +kernel
theorem dX3_readCommand_24 : decode cX3_readCommand 24 = .ok (.dup, 1) := by decide +kernel
theorem dX3_readCommand_25 : decode cX3_readCommand 25 = .ok (.getfield 22, 3) := by decide +kernel
theorem dX3_readCommand_28 : decode cX3_readCommand 28 = .ok (.iconst 1, 1) := by decide +kernel
theorem dX3_readCommand_29 : decode cX3_readCommand 29 = .ok (.iadd, 1) := by decide +kernel
theorem dX3_readCommand_30 : decode cX3_readCommand 30 = .ok (.putfield 22, 3) := by decide +kernel
theorem dX3_readCommand_33 : decode cX3_readCommand 33 = .ok (.iconst 0, 1) := by decide +kernel
theorem dX3_readCommand_34 : decode cX3_readCommand 34 = .ok (.istore_n 2, 1) := by decide +kernel
theorem dX3_readCommand_35 : decode cX3_readCommand 35 = .ok (.iload_n 2, 1) := by decide +kernel
theorem dX3_readCommand_36 : decode cX3_readCommand 36 = .ok (.aload_n 0, 1) := by decide +kernel
theorem dX3_readCommand_37 : decode cX3_readCommand 37 = .ok (.getfield 15, 3) := by decide +kernel
theorem dX3_readCommand_40 : decode cX3_readCommand 40 = .ok (.arraylength, 1) := by decide +kernel
theorem dX3_readCommand_41 : decode cX3_readCommand 41 = .ok (.if_icmp .ge 57, 3) := by decide +kernel
theorem dX3_readCommand_44 : decode cX3_readCommand 44 = .ok (.iconst 3, 1) := by decide +kernel
theorem dX3_readCommand_45 : decode cX3_readCommand 45 = .ok (.iload_n 2, 1) := by decide +kernel
theorem dX3_readCommand_46 : decode cX3_readCommand 46 = .ok (.imul, 1) := by decide +kernel
theorem dX3_readCommand_47 : decode cX3_readCommand 47 = .ok (.iconst 2, 1) := by decide +kernel
theorem dX3_readCommand_48 : decode cX3_readCommand 48 = .ok (.iadd, 1) := by decide +kernel
theorem dX3_readCommand_49 : decode cX3_readCommand 49 = .ok (.aload_n 1, 1) := by decide +kernel
theorem dX3_readCommand_50 : decode cX3_readCommand 50 = .ok (.arraylength, 1) := by decide +kernel
theorem dX3_readCommand_51 : decode cX3_readCommand 51 = .ok (.if_icmp .ge 47, 3) := by decide +kernel
theorem dX3_readCommand_54 : decode cX3_readCommand 54 = .ok (.aload_n 0, 1) := by decide +kernel
theorem dX3_readCommand_55 : decode cX3_readCommand 55 = .ok (.aload_n 1, 1) := by decide +kernel
theorem dX3_readCommand_56 : decode cX3_readCommand 56 = .ok (.iconst 3, 1) := by decide +kernel
theorem dX3_readCommand_57 : decode cX3_readCommand 57 = .ok (.iload_n 2, 1) := by decide +kernel
theorem dX3_readCommand_58 : decode cX3_readCommand 58 = .ok (.imul, 1) := by decide +kernel
theorem dX3_readCommand_59 : decode cX3_readCommand 59 = .ok (.iaload, 1) := by decide +kernel
theorem dX3_readCommand_60 : decode cX3_readCommand 60 = .ok (.aload_n 1, 1) := by decide +kernel
theorem dX3_readCommand_61 : decode cX3_readCommand 61 = .ok (.iconst 3, 1) := by decide +kernel
theorem dX3_readCommand_62 : decode cX3_readCommand 62 = .ok (.iload_n 2, 1) := by decide +kernel
theorem dX3_readCommand_63 : decode cX3_readCommand 63 = .ok (.imul, 1) := by decide +kernel
theorem dX3_readCommand_64 : decode cX3_readCommand 64 = .ok (.iconst 1, 1) := by decide +kernel
theorem dX3_readCommand_65 : decode cX3_readCommand 65 = .ok (.iadd, 1) := by decide +kernel
theorem dX3_readCommand_66 : decode cX3_readCommand 66 = .ok (.iaload, 1) := by decide +kernel
theorem dX3_readCommand_67 : decode cX3_readCommand 67 = .ok (.aload_n 1, 1) := by decide +kernel
theorem dX3_readCommand_68 : decode cX3_readCommand 68 = .ok (.iconst 3, 1) := by decide +kernel
theorem dX3_readCommand_69 : decode cX3_readCommand 69 = .ok (.iload_n 2, 1) := by decide +kernel
theorem dX3_readCommand_70 : decode cX3_readCommand 70 = .ok (.imul, 1) := by decide +kernel
theorem dX3_readCommand_71 : decode cX3_readCommand 71 = .ok (.iconst 2, 1) := by decide +kernel
theorem dX3_readCommand_72 : decode cX3_readCommand 72 = .ok (.iadd, 1) := by decide +kernel
theorem dX3_readCommand_73 : decode cX3_readCommand 73 = .ok (.iaload, 1) := by decide +kernel
theorem dX3_readCommand_74 : decode cX3_readCommand 74 = .ok (.invokevirtual 50, 3) := by decide +kernel
theorem dX3_readCommand_77 : decode cX3_readCommand 77 = .ok (.istore_n 3, 1) := by decide +kernel
theorem dX3_readCommand_78 : decode cX3_readCommand 78 = .ok (.iload_n 3, 1) := by decide +kernel
theorem dX3_readCommand_79 : decode cX3_readCommand 79 = .ok (.iconst (-1), 1) := by decide +kernel
theorem dX3_readCommand_80 : decode cX3_readCommand 80 = .ok (.if_icmp .ne 5, 3) := by decide +kernel
theorem dX3_readCommand_83 : decode cX3_readCommand 83 = .ok (.iconst 0, 1) := by decide +kernel
theorem dX3_readCommand_84 : decode cX3_readCommand 84 = .ok (.ireturn, 1) := by decide +kernel
theorem dX3_readCommand_85 : decode cX3_readCommand 85 = .ok (.aload_n 0, 1) := by decide +kernel
theorem dX3_readCommand_86 : decode cX3_readCommand 86 = .ok (.getfield 15, 3) := by decide +kernel
theorem dX3_readCommand_89 : decode cX3_readCommand 89 = .ok (.iload_n 2, 1) := by decide +kernel
theorem dX3_readCommand_90 : decode cX3_readCommand 90 = .ok (.iload_n 3, 1) := by decide +kernel
theorem dX3_readCommand_91 : decode cX3_readCommand 91 = .ok (.iastore, 1) := by decide +kernel
theorem dX3_readCommand_92 : decode cX3_readCommand 92 = .ok (.iinc 2 1, 3) := by decide +kernel
theorem dX3_readCommand_95 : decode cX3_readCommand 95 = .ok (.goto (-60), 3) := by decide +kernel
theorem dX3_readCommand_98 : decode cX3_readCommand 98 = .ok (.iconst 1, 1) := by decide +kernel
theorem dX3_readCommand_99 : decode cX3_readCommand 99 = .ok (.ireturn, 1) := by decide +kernel
theorem dX3_readNumber_0 : decode cX3_readNumber 0 = .ok (.iconst 0, 1) := by decide +kernel
theorem dX3_readNumber_1 : decode cX3_readNumber 1 = .ok (.istore 4, 2) := by decide +kernel
theorem dX3_readNumber_3 : decode cX3_readNumber 3 = .ok (.iload_n 1, 1) := by decide +kernel
theorem dX3_readNumber_4 : decode cX3_readNumber 4 = .ok (.istore 5, 2) := by decide +kernel
theorem dX3_readNumber_6 : decode cX3_readNumber 6 = .ok (.iload 5, 2) := by decide +kernel
theorem dX3_readNumber_8 : decode cX3_readNumber 8 = .ok (.ifCond .le 75, 3) := by decide +kernel
theorem dX3_readNumber_11 : decode cX3_readNumber 11 = .ok (.aload_n 0, 1) := by decide +kernel
theorem dX3_readNumber_12 : decode cX3_readNumber 12 = .ok (.invokevirtual 25, 3) := by decide +kernel
theorem dX3_readNumber_15 : decode cX3_readNumber 15 = .ok (.bipush 48, 2) := by decide +kernel
theorem dX3_readNumber_17 : decode cX3_readNumber 17 = .ok (.isub, 1) := by decide +kernel
theorem dX3_readNumber_18 : decode cX3_readNumber 18 = .ok (.istore 6, 2) := by decide +kernel
theorem dX3_readNumber_20 : decode cX3_readNumber 20 = .ok (.iload 6, 2) := by decide +kernel
theorem dX3_readNumber_22 : decode cX3_readNumber 22 = .ok (.ifCond .lt 10, 3) := by decide +kernel
theorem dX3_readNumber_25 : decode cX3_readNumber 25 = .ok (.iload 6, 2) := by decide +kernel
theorem dX3_readNumber_27 : decode cX3_readNumber 27 = .ok (.bipush 9, 2) := by decide +kernel
theorem dX3_readNumber_29 : decode cX3_readNumber 29 = .ok (.if_icmp .le 5, 3) := by decide +kernel
theorem dX3_readNumber_32 : decode cX3_readNumber 32 = .ok (.iconst (-1), 1) := by decide +kernel
theorem dX3_readNumber_33 : decode cX3_readNumber 33 = .ok (.ireturn, 1) := by decide +kernel
theorem dX3_readNumber_34 : decode cX3_readNumber 34 = .ok (.iload 4, 2) := by decide +kernel
theorem dX3_readNumber_36 : decode cX3_readNumber 36 = .ok (.iload 6, 2) := by decide +kernel
theorem dX3_readNumber_38 : decode cX3_readNumber 38 = .ok (.iload 5, 2) := by decide +kernel
theorem dX3_readNumber_40 : decode cX3_readNumber 40 = .ok (.imul, 1) := by decide +kernel
theorem dX3_readNumber_41 : decode cX3_readNumber 41 = .ok (.iadd, 1) := by decide +kernel
theorem dX3_readNumber_42 : decode cX3_readNumber 42 = .ok (.istore 4, 2) := by decide +kernel
theorem dX3_readNumber_44 : decode cX3_readNumber 44 = .ok (.iload 4, 2) := by decide +kernel
theorem dX3_readNumber_46 : decode cX3_readNumber 46 = .ok (.iload_n 3, 1) := by decide +kernel
theorem dX3_readNumber_47 : decode cX3_readNumber 47 = .ok (.if_icmp .gt 14, 3) := by decide +kernel
theorem dX3_readNumber_50 : decode cX3_readNumber 50 = .ok (.iload 4, 2) := by decide +kernel
theorem dX3_readNumber_52 : decode cX3_readNumber 52 = .ok (.iload 5, 2) := by decide +kernel
theorem dX3_readNumber_54 : decode cX3_readNumber 54 = .ok (.iadd, 1) := by decide +kernel
theorem dX3_readNumber_55 : decode cX3_readNumber 55 = .ok (.iconst 1, 1) := by decide +kernel
theorem dX3_readNumber_56 : decode cX3_readNumber 56 = .ok (.isub, 1) := by decide +kernel
theorem dX3_readNumber_57 : decode cX3_readNumber 57 = .ok (.iload_n 2, 1) := by decide +kernel
theorem dX3_readNumber_58 : decode cX3_readNumber 58 = .ok (.if_icmp .ge 5, 3) := by decide +kernel
theorem dX3_readNumber_61 : decode cX3_readNumber 61 = .ok (.iconst (-1), 1) := by decide +kernel
theorem dX3_readNumber_62 : decode cX3_readNumber 62 = .ok (.ireturn, 1) := by decide +kernel
theorem dX3_readNumber_63 : decode cX3_readNumber 63 = .ok (.aload_n 0, 1) := by decide +kernel
theorem dX3_readNumber_64 : decode cX3_readNumber 64 = .ok (.dup, 1) := by decide +kernel
theorem dX3_readNumber_65 : decode cX3_readNumber 65 = .ok (.getfield 22, 3) := by decide +kernel
theorem dX3_readNumber_68 : decode cX3_readNumber 68 = .ok (.iconst 1, 1) := by decide +kernel
theorem dX3_readNumber_69 : decode cX3_readNumber 69 = .ok (.iadd, 1) := by decide +kernel
theorem dX3_readNumber_70 : decode cX3_readNumber 70 = .ok (.putfield 22, 3) := by decide +kernel
theorem dX3_readNumber_73 : decode cX3_readNumber 73 = .ok (.iload 5, 2) := by decide +kernel
theorem dX3_readNumber_75 : decode cX3_readNumber 75 = .ok (.bipush 10, 2) := by decide +kernel
theorem dX3_readNumber_77 : decode cX3_readNumber 77 = .ok (.idiv, 1) := by decide +kernel
theorem dX3_readNumber_78 : decode cX3_readNumber 78 = .ok (.istore 5, 2) := by decide +kernel
theorem dX3_readNumber_80 : decode cX3_readNumber 80 = .ok (.goto (-74), 3) := by decide +kernel
theorem dX3_readNumber_83 : decode cX3_readNumber 83 = .ok (.iload 4, 2) := by decide +kernel
theorem dX3_readNumber_85 : decode cX3_readNumber 85 = .ok (.ireturn, 1) := by decide +kernel
theorem dX3_numberAt_0 : decode cX3_numberAt 0 = .ok (.iload_n 1, 1) := by decide +kernel
theorem dX3_numberAt_1 : decode cX3_numberAt 1 = .ok (.ifCond .lt 21, 3) := by decide +kernel
theorem dX3_numberAt_4 : decode cX3_numberAt 4 = .ok (.iload_n 1, 1) := by decide +kernel
theorem dX3_numberAt_5 : decode cX3_numberAt 5 = .ok (.aload_n 0, 1) := by decide +kernel
theorem dX3_numberAt_6 : decode cX3_numberAt 6 = .ok (.getfield 15, 3) := by decide +kernel
theorem dX3_numberAt_9 : decode cX3_numberAt 9 = .ok (.arraylength, 1) := by decide +kernel
theorem dX3_numberAt_10 : decode cX3_numberAt 10 = .ok (.if_icmp .ge 12, 3) := by decide +kernel
theorem dX3_numberAt_13 : decode cX3_numberAt 13 = .ok (.aload_n 0, 1) := by decide +kernel
theorem dX3_numberAt_14 : decode cX3_numberAt 14 = .ok (.getfield 15, 3) := by decide +kernel
theorem dX3_numberAt_17 : decode cX3_numberAt 17 = .ok (.iload_n 1, 1) := by decide +kernel
theorem dX3_numberAt_18 : decode cX3_numberAt 18 = .ok (.iaload, 1) := by decide +kernel
theorem dX3_numberAt_19 : decode cX3_numberAt 19 = .ok (.goto 4, 3) := by decide +kernel
theorem dX3_numberAt_22 : decode cX3_numberAt 22 = .ok (.iconst 0, 1) := by decide +kernel
theorem dX3_numberAt_23 : decode cX3_numberAt 23 = .ok (.ireturn, 1) := by decide +kernel
theorem dX3_atHand_0 : decode cX3_atHand 0 = .ok (.aload_n 0, 1) := by decide +kernel
theorem dX3_atHand_1 : decode cX3_atHand 1 = .ok (.getfield 22, 3) := by decide +kernel
theorem dX3_atHand_4 : decode cX3_atHand 4 = .ok (.ifCond .lt 38, 3) := by decide +kernel
theorem dX3_atHand_7 : decode cX3_atHand 7 = .ok (.aload_n 0, 1) := by decide +kernel
theorem dX3_atHand_8 : decode cX3_atHand 8 = .ok (.getfield 22, 3) := by decide +kernel
theorem dX3_atHand_11 : decode cX3_atHand 11 = .ok (.aload_n 0, 1) := by decide +kernel
theorem dX3_atHand_12 : decode cX3_atHand 12 = .ok (.getfield 18, 3) := by decide +kernel
theorem dX3_atHand_15 : decode cX3_atHand 15 = .ok (.if_icmp .ge 27, 3) := by decide +kernel
theorem dX3_atHand_18 : decode cX3_atHand 18 = .ok (.aload_n 0, 1) := by decide +kernel
theorem dX3_atHand_19 : decode cX3_atHand 19 = .ok (.getfield 22, 3) := by decide +kernel
theorem dX3_atHand_22 : decode cX3_atHand 22 = .ok (.aload_n 0, 1) := by decide +kernel
theorem dX3_atHand_23 : decode cX3_atHand 23 = .ok (.getfield 9, 3) := by decide +kernel
theorem dX3_atHand_26 : decode cX3_atHand 26 = .ok (.arraylength, 1) := by decide +kernel
theorem dX3_atHand_27 : decode cX3_atHand 27 = .ok (.if_icmp .ge 15, 3) := by decide +kernel
theorem dX3_atHand_30 : decode cX3_atHand 30 = .ok (.aload_n 0, 1) := by decide +kernel
theorem dX3_atHand_31 : decode cX3_atHand 31 = .ok (.getfield 9, 3) := by decide +kernel
theorem dX3_atHand_34 : decode cX3_atHand 34 = .ok (.aload_n 0, 1) := by decide +kernel
theorem dX3_atHand_35 : decode cX3_atHand 35 = .ok (.getfield 22, 3) := by decide +kernel
theorem dX3_atHand_38 : decode cX3_atHand 38 = .ok (.iaload, 1) := by decide +kernel
theorem dX3_atHand_39 : decode cX3_atHand 39 = .ok (.goto 4, 3) := by decide +kernel
theorem dX3_atHand_42 : decode cX3_atHand 42 = .ok (.iconst (-1), 1) := by decide +kernel
theorem dX3_atHand_43 : decode cX3_atHand 43 = .ok (.ireturn, 1) := by decide +kernel
theorem dX3_numbersBehind_0 : decode cX3_numbersBehind 0 = .ok (.iload_n 0, 1) := by decide +kernel
theorem dX3_numbersBehind_1 : decode cX3_numbersBehind 1 = .ok (.tableswitch 115 98 115 #[91, 107, 115, 115, 115, 87, 103, 115, 115, 115, 95, 99, 115, 115, 115, 115, 115, 111], 87) := by decide +kernel
theorem dX3_numbersBehind_88 : decode cX3_numbersBehind 88 = .ok (.getstatic 54, 3) := by decide +kernel
theorem dX3_numbersBehind_91 : decode cX3_numbersBehind 91 = .ok (.areturn, 1) := by decide +kernel
theorem dX3_numbersBehind_92 : decode cX3_numbersBehind 92 = .ok (.getstatic 57, 3) := by decide +kernel
theorem dX3_numbersBehind_95 : decode cX3_numbersBehind 95 = .ok (.areturn, 1) := by decide +kernel
theorem dX3_numbersBehind_96 : decode cX3_numbersBehind 96 = .ok (.getstatic 60, 3) := by decide +kernel
theorem dX3_numbersBehind_99 : decode cX3_numbersBehind 99 = .ok (.areturn, 1) := by decide +kernel
theorem dX3_numbersBehind_100 : decode cX3_numbersBehind 100 = .ok (.getstatic 63, 3) := by decide +kernel
theorem dX3_numbersBehind_103 : decode cX3_numbersBehind 103 = .ok (.areturn, 1) := by decide +kernel
theorem dX3_numbersBehind_104 : decode cX3_numbersBehind 104 = .ok (.getstatic 66, 3) := by decide +kernel
theorem dX3_numbersBehind_107 : decode cX3_numbersBehind 107 = .ok (.areturn, 1) := by decide +kernel
theorem dX3_numbersBehind_108 : decode cX3_numbersBehind 108 = .ok (.getstatic 69, 3) := by decide +kernel
theorem dX3_numbersBehind_111 : decode cX3_numbersBehind 111 = .ok (.areturn, 1) := by decide +kernel
theorem dX3_numbersBehind_112 : decode cX3_numbersBehind 112 = .ok (.getstatic 72, 3) := by decide +kernel
theorem dX3_numbersBehind_115 : decode cX3_numbersBehind 115 = .ok (.areturn, 1) := by decide +kernel
theorem dX3_numbersBehind_116 : decode cX3_numbersBehind 116 = .ok (.getstatic 75, 3) := by decide +kernel
theorem dX3_numbersBehind_119 : decode cX3_numbersBehind 119 = .ok (.areturn, 1) := by decide +kernel
theorem dX4_init_0 : decode cX4_init 0 = .ok (.aload_n 0, 1) := by decide +kernel
theorem dX4_init_1 : decode cX4_init 1 = .ok (.invokespecial 3, 3) := by decide +kernel
theorem dX4_init_4 : decode cX4_init 4 = .ok (.aload_n 0, 1) := by decide +kernel
theorem dX4_init_5 : decode cX4_init 5 = .ok (.new 9, 3) := by decide +kernel
theorem dX4_init_8 : decode cX4_init 8 = .ok (.dup, 1) := by decide +kernel
theorem dX4_init_9 : decode cX4_init 9 = .ok (.bipush 6, 2) := by decide +kernel
theorem dX4_init_11 : decode cX4_init 11 = .ok (.iconst 4, 1) := by decide +kernel
theorem dX4_init_12 : decode cX4_init 12 = .ok (.invokespecial 11, 3) := by decide +kernel
theorem dX4_init_15 : decode cX4_init 15 = .ok (.putfield 14, 3) := by decide +kernel
theorem dX4_init_18 : decode cX4_init 18 = .ok (.aload_n 0, 1) := by decide +kernel
theorem dX4_init_19 : decode cX4_init 19 = .ok (.new 9, 3) := by decide +kernel
theorem dX4_init_22 : decode cX4_init 22 = .ok (.dup, 1) := by decide +kernel
theorem dX4_init_23 : decode cX4_init 23 = .ok (.bipush 11, 2) := by decide +kernel
theorem dX4_init_25 : decode cX4_init 25 = .ok (.bipush 10, 2) := by decide +kernel
theorem dX4_init_27 : decode cX4_init 27 = .ok (.invokespecial 11, 3) := by decide +kernel
theorem dX4_init_30 : decode cX4_init 30 = .ok (.putfield 20, 3) := by decide +kernel
theorem dX4_init_33 : decode cX4_init 33 = .ok (.aload_n 0, 1) := by decide +kernel
theorem dX4_init_34 : decode cX4_init 34 = .ok (.new 9, 3) := by decide +kernel
theorem dX4_init_37 : decode cX4_init 37 = .ok (.dup, 1) := by decide +kernel
theorem dX4_init_38 : decode cX4_init 38 = .ok (.iconst 4, 1) := by decide +kernel
theorem dX4_init_39 : decode cX4_init 39 = .ok (.iconst 3, 1) := by decide +kernel
theorem dX4_init_40 : decode cX4_init 40 = .ok (.invokespecial 11, 3) := by decide +kernel
theorem dX4_init_43 : decode cX4_init 43 = .ok (.putfield 23, 3) := by decide +kernel
theorem dX4_init_46 : decode cX4_init 46 = .ok (.aload_n 0, 1) := by decide +kernel
theorem dX4_init_47 : decode cX4_init 47 = .ok (.invokevirtual 26, 3) := by decide +kernel
theorem dX4_init_50 : decode cX4_init 50 = .ok (.return_, 1) := by decide +kernel
theorem dX4_makeNew_0 : decode cX4_makeNew 0 = .ok (.aload_n 0, 1) := by decide +kernel
theorem dX4_makeNew_1 : decode cX4_makeNew 1 = .ok (.getfield 14, 3) := by decide +kernel
theorem dX4_makeNew_4 : decode cX4_makeNew 4 = .ok (.iconst 0, 1) := by decide +kernel
theorem dX4_makeNew_5 : decode cX4_makeNew 5 = .ok (.putfield 29, 3) := by decide +kernel
theorem dX4_makeNew_8 : decode cX4_makeNew 8 = .ok (.aload_n 0, 1) := by decide +kernel
theorem dX4_makeNew_9 : decode cX4_makeNew 9 = .ok (.getfield 20, 3) := by decide +kernel
theorem dX4_makeNew_12 : decode cX4_makeNew 12 = .ok (.iconst 0, 1) := by decide +kernel
theorem dX4_makeNew_13 : decode cX4_makeNew 13 = .ok (.putfield 29, 3) := by decide +kernel
theorem dX4_makeNew_16 : decode cX4_makeNew 16 = .ok (.aload_n 0, 1) := by decide +kernel
theorem dX4_makeNew_17 : decode cX4_makeNew 17 = .ok (.getfield 23, 3) := by decide +kernel
theorem dX4_makeNew_20 : decode cX4_makeNew 20 = .ok (.iconst 0, 1) := by decide +kernel
theorem dX4_makeNew_21 : decode cX4_makeNew 21 = .ok (.putfield 29, 3) := by decide +kernel
theorem dX4_makeNew_24 : decode cX4_makeNew 24 = .ok (.iconst 0, 1) := by decide +kernel
theorem dX4_makeNew_25 : decode cX4_makeNew 25 = .ok (.istore_n 1, 1) := by decide +kernel
theorem dX4_makeNew_26 : decode cX4_makeNew 26 = .ok (.iload_n 1, 1) := by decide +kernel
theorem dX4_makeNew_27 : decode cX4_makeNew 27 = .ok (.iconst 4, 1) := by decide +kernel
theorem dX4_makeNew_28 : decode cX4_makeNew 28 = .ok (.if_icmp .ge 37, 3) := by decide +kernel
theorem dX4_makeNew_31 : decode cX4_makeNew 31 = .ok (.aload_n 0, 1) := by decide +kernel
theorem dX4_makeNew_32 : decode cX4_makeNew 32 = .ok (.getfield 23, 3) := by decide +kernel
theorem dX4_makeNew_35 : decode cX4_makeNew 35 = .ok (.invokevirtual 33, 3) := by decide +kernel
theorem dX4_makeNew_38 : decode cX4_makeNew 38 = .ok (.istore_n 2, 1) := by decide +kernel
theorem dX4_makeNew_39 : decode cX4_makeNew 39 = .ok (.aload_n 0, 1) := by decide +kernel
theorem dX4_makeNew_40 : decode cX4_makeNew 40 = .ok (.getfield 23, 3) := by decide +kernel
theorem dX4_makeNew_43 : decode cX4_makeNew 43 = .ok (.iload_n 2, 1) := by decide +kernel
theorem dX4_makeNew_44 : decode cX4_makeNew 44 = .ok (.iconst 1, 1) := by decide +kernel
theorem dX4_makeNew_45 : decode cX4_makeNew 45 = .ok (.iconst (-1), 1) := by decide +kernel
theorem dX4_makeNew_46 : decode cX4_makeNew 46 = .ok (.invokevirtual 37, 3) := by decide +kernel
theorem dX4_makeNew_49 : decode cX4_makeNew 49 = .ok (.aload_n 0, 1) := by decide +kernel
theorem dX4_makeNew_50 : decode cX4_makeNew 50 = .ok (.getfield 23, 3) := by decide +kernel
theorem dX4_makeNew_53 : decode cX4_makeNew 53 = .ok (.iload_n 2, 1) := by decide +kernel
theorem dX4_makeNew_54 : decode cX4_makeNew 54 = .ok (.iconst 2, 1) := by decide +kernel
theorem dX4_makeNew_55 : decode cX4_makeNew 55 = .ok (.iconst (-1), 1) := by decide +kernel
theorem dX4_makeNew_56 : decode cX4_makeNew 56 = .ok (.invokevirtual 37, 3) := by decide +kernel
theorem dX4_makeNew_59 : decode cX4_makeNew 59 = .ok (.iinc 1 1, 3) := by decide +kernel
theorem dX4_makeNew_62 : decode cX4_makeNew 62 = .ok (.goto (-36), 3) := by decide +kernel
theorem dX4_makeNew_65 : decode cX4_makeNew 65 = .ok (.aload_n 0, 1) := by decide +kernel
theorem dX4_makeNew_66 : decode cX4_makeNew 66 = .ok (.iconst 0, 1) := by decide +kernel
theorem dX4_makeNew_67 : decode cX4_makeNew 67 = .ok (.putfield 41, 3) := by decide +kernel
theorem dX4_makeNew_70 : decode cX4_makeNew 70 = .ok (.aload_n 0, 1) := by decide +kernel
theorem dX4_makeNew_71 : decode cX4_makeNew 71 = .ok (.iconst 3, 1) := by decide +kernel
theorem dX4_makeNew_72 : decode cX4_makeNew 72 = .ok (.putfield 44, 3) := by decide +kernel
theorem dX4_makeNew_75 : decode cX4_makeNew 75 = .ok (.aload_n 0, 1) := by decide +kernel
theorem dX4_makeNew_76 : decode cX4_makeNew 76 = .ok (.iconst 2, 1) := by decide +kernel
theorem dX4_makeNew_77 : decode cX4_makeNew 77 = .ok (.putfield 47, 3) := by decide +kernel
theorem dX4_makeNew_80 : decode cX4_makeNew 80 = .ok (.aload_n 0, 1) := by decide +kernel
theorem dX4_makeNew_81 : decode cX4_makeNew 81 = .ok (.iconst 0, 1) := by decide +kernel
theorem dX4_makeNew_82 : decode cX4_makeNew 82 = .ok (.putfield 50, 3) := by decide +kernel
theorem dX4_makeNew_85 : decode cX4_makeNew 85 = .ok (.aload_n 0, 1) := by decide +kernel
theorem dX4_makeNew_86 : decode cX4_makeNew 86 = .ok (.iconst 0, 1) := by decide +kernel
theorem dX4_makeNew_87 : decode cX4_makeNew 87 = .ok (.putfield 53, 3) := by decide +kernel
theorem dX4_makeNew_90 : decode cX4_makeNew 90 = .ok (.aload_n 0, 1) := by decide +kernel
theorem dX4_makeNew_91 : decode cX4_makeNew 91 = .ok (.iconst 0, 1) := by decide +kernel
theorem dX4_makeNew_92 : decode cX4_makeNew 92 = .ok (.putfield 56, 3) := by decide +kernel
theorem dX4_makeNew_95 : decode cX4_makeNew 95 = .ok (.aload_n 0, 1) := by decide +kernel
theorem dX4_makeNew_96 : decode cX4_makeNew 96 = .ok (.iconst 0, 1) := by decide +kernel
theorem dX4_makeNew_97 : decode cX4_makeNew 97 = .ok (.putfield 60, 3) := by decide +kernel
theorem dX4_makeNew_100 : decode cX4_makeNew 100 = .ok (.return_, 1) := by decide +kernel
theorem dX4_copyFrom_0 : decode cX4_copyFrom 0 = .ok (.aload_n 0, 1) := by decide +kernel
theorem dX4_copyFrom_1 : decode cX4_copyFrom 1 = .ok (.getfield 14, 3) := by decide +kernel
theorem dX4_copyFrom_4 : decode cX4_copyFrom 4 = .ok (.aload_n 1, 1) := by decide +kernel
theorem dX4_copyFrom_5 : decode cX4_copyFrom 5 = .ok (.getfield 14, 3) := by decide +kernel
theorem dX4_copyFrom_8 : decode cX4_copyFrom 8 = .ok (.invokevirtual 63, 3) := by decide +kernel
theorem dX4_copyFrom_11 : decode cX4_copyFrom 11 = .ok (.aload_n 0, 1) := by decide +kernel
theorem dX4_copyFrom_12 : decode cX4_copyFrom 12 = .ok (.getfield 20, 3) := by decide +kernel
theorem dX4_copyFrom_15 : decode cX4_copyFrom 15 = .ok (.aload_n 1, 1) := by decide +kernel
theorem dX4_copyFrom_16 : decode cX4_copyFrom 16 = .ok (.getfield 20, 3) := by decide +kernel
theorem dX4_copyFrom_19 : decode cX4_copyFrom 19 = .ok (.invokevirtual 63, 3) := by decide +kernel
theorem dX4_copyFrom_22 : decode cX4_copyFrom 22 = .ok (.aload_n 0, 1) := by decide +kernel
theorem dX4_copyFrom_23 : decode cX4_copyFrom 23 = .ok (.getfield 23, 3) := by decide +kernel
theorem dX4_copyFrom_26 : decode cX4_copyFrom 26 = .ok (.aload_n 1, 1) := by decide +kernel
theorem dX4_copyFrom_27 : decode cX4_copyFrom 27 = .ok (.getfield 23, 3) := by decide +kernel
theorem dX4_copyFrom_30 : decode cX4_copyFrom 30 = .ok (.invokevirtual 63, 3) := by decide +kernel
theorem dX4_copyFrom_33 : decode cX4_copyFrom 33 = .ok (.aload_n 0, 1) := by decide +kernel
theorem dX4_copyFrom_34 : decode cX4_copyFrom 34 = .ok (.aload_n 1, 1) := by decide +kernel
theorem dX4_copyFrom_35 : decode cX4_copyFrom 35 = .ok (.getfield 41, 3) := by decide +kernel
theorem dX4_copyFrom_38 : decode cX4_copyFrom 38 = .ok (.putfield 41, 3) := by decide +kernel
theorem dX4_copyFrom_41 : decode cX4_copyFrom 41 = .ok (.aload_n 0, 1) := by decide +kernel
theorem dX4_copyFrom_42 : decode cX4_copyFrom 42 = .ok (.aload_n 1, 1) := by decide +kernel
theorem dX4_copyFrom_43 : decode cX4_copyFrom 43 = .ok (.getfield 44, 3) := by decide +kernel
theorem dX4_copyFrom_46 : decode cX4_copyFrom 46 = .ok (.putfield 44, 3) := by decide +kernel
theorem dX4_copyFrom_49 : decode cX4_copyFrom 49 = .ok (.aload_n 0, 1) := by decide +kernel
theorem dX4_copyFrom_50 : decode cX4_copyFrom 50 = .ok (.aload_n 1, 1) := by decide +kernel
theorem dX4_copyFrom_51 : decode cX4_copyFrom 51 = .ok (.getfield 47, 3) := by decide +kernel
theorem dX4_copyFrom_54 : decode cX4_copyFrom 54 = .ok (.putfield 47, 3) := by decide +kernel
theorem dX4_copyFrom_57 : decode cX4_copyFrom 57 = .ok (.aload_n 0, 1) := by decide +kernel
theorem dX4_copyFrom_58 : decode cX4_copyFrom 58 = .ok (.aload_n 1, 1) := by decide +kernel
theorem dX4_copyFrom_59 : decode cX4_copyFrom 59 = .ok (.getfield 50, 3) := by decide +kernel
theorem dX4_copyFrom_62 : decode cX4_copyFrom 62 = .ok (.putfield 50, 3) := by decide +kernel
theorem dX4_copyFrom_65 : decode cX4_copyFrom 65 = .ok (.aload_n 0, 1) := by decide +kernel
theorem dX4_copyFrom_66 : decode cX4_copyFrom 66 = .ok (.aload_n 1, 1) := by decide +kernel
theorem dX4_copyFrom_67 : decode cX4_copyFrom 67 = .ok (.getfield 53, 3) := by decide +kernel
theorem dX4_copyFrom_70 : decode cX4_copyFrom 70 = .ok (.putfield 53, 3) := by decide +kernel
theorem dX4_copyFrom_73 : decode cX4_copyFrom 73 = .ok (.aload_n 0, 1) := by decide +kernel
theorem dX4_copyFrom_74 : decode cX4_copyFrom 74 = .ok (.aload_n 1, 1) := by decide +kernel
theorem dX4_copyFrom_75 : decode cX4_copyFrom 75 = .ok (.getfield 56, 3) := by decide +kernel
theorem dX4_copyFrom_78 : decode cX4_copyFrom 78 = .ok (.putfield 56, 3) := by decide +kernel
theorem dX4_copyFrom_81 : decode cX4_copyFrom 81 = .ok (.aload_n 0, 1) := by decide +kernel
theorem dX4_copyFrom_82 : decode cX4_copyFrom 82 = .ok (.aload_n 1, 1) := by decide +kernel
theorem dX4_copyFrom_83 : decode cX4_copyFrom 83 = .ok (.getfield 60, 3) := by decide +kernel
theorem dX4_copyFrom_86 : decode cX4_copyFrom 86 = .ok (.putfield 60, 3) := by decide +kernel
theorem dX4_copyFrom_89 : decode cX4_copyFrom 89 = .ok (.return_, 1) := by decide +kernel
theorem dX4_hasGutter_0 : decode cX4_hasGutter 0 = .ok (.iload_n 1, 1) := by decide +kernel
theorem dX4_hasGutter_1 : decode cX4_hasGutter 1 = .ok (.ifCond .lt 18, 3) := by decide +kernel
theorem dX4_hasGutter_4 : decode cX4_hasGutter 4 = .ok (.iload_n 1, 1) := by decide +kernel
theorem dX4_hasGutter_5 : decode cX4_hasGutter 5 = .ok (.aload_n 0, 1) := by decide +kernel
theorem dX4_hasGutter_6 : decode cX4_hasGutter 6 = .ok (.getfield 14, 3) := by decide +kernel
theorem dX4_hasGutter_9 : decode cX4_hasGutter 9 = .ok (.getfield 29, 3) := by decide +kernel
theorem dX4_hasGutter_12 : decode cX4_hasGutter 12 = .ok (.if_icmp .ge 7, 3) := by decide +kernel
theorem dX4_hasGutter_15 : decode cX4_hasGutter 15 = .ok (.iconst 1, 1) := by decide +kernel
theorem dX4_hasGutter_16 : decode cX4_hasGutter 16 = .ok (.goto 4, 3) := by decide +kernel
theorem dX4_hasGutter_19 : decode cX4_hasGutter 19 = .ok (.iconst 0, 1) := by decide +kernel
theorem dX4_hasGutter_20 : decode cX4_hasGutter 20 = .ok (.ireturn, 1) := by decide +kernel
theorem dX4_hasCell_0 : decode cX4_hasCell 0 = .ok (.aload_n 0, 1) := by decide +kernel
theorem dX4_hasCell_1 : decode cX4_hasCell 1 = .ok (.iload_n 1, 1) := by decide +kernel
theorem dX4_hasCell_2 : decode cX4_hasCell 2 = .ok (.invokevirtual 67, 3) := by decide +kernel
theorem dX4_hasCell_5 : decode cX4_hasCell 5 = .ok (.ifCond .eq 24, 3) := by decide +kernel
theorem dX4_hasCell_8 : decode cX4_hasCell 8 = .ok (.iload_n 2, 1) := by decide +kernel
theorem dX4_hasCell_9 : decode cX4_hasCell 9 = .ok (.ifCond .lt 20, 3) := by decide +kernel
theorem dX4_hasCell_12 : decode cX4_hasCell 12 = .ok (.iload_n 2, 1) := by decide +kernel
theorem dX4_hasCell_13 : decode cX4_hasCell 13 = .ok (.aload_n 0, 1) := by decide +kernel
theorem dX4_hasCell_14 : decode cX4_hasCell 14 = .ok (.getfield 14, 3) := by decide +kernel
theorem dX4_hasCell_17 : decode cX4_hasCell 17 = .ok (.iload_n 1, 1) := by decide +kernel
theorem dX4_hasCell_18 : decode cX4_hasCell 18 = .ok (.iconst 0, 1) := by decide +kernel
theorem dX4_hasCell_19 : decode cX4_hasCell 19 = .ok (.invokevirtual 71, 3) := by decide +kernel
theorem dX4_hasCell_22 : decode cX4_hasCell 22 = .ok (.if_icmp .ge 7, 3) := by decide +kernel
theorem dX4_hasCell_25 : decode cX4_hasCell 25 = .ok (.iconst 1, 1) := by decide +kernel
theorem dX4_hasCell_26 : decode cX4_hasCell 26 = .ok (.goto 4, 3) := by decide +kernel
theorem dX4_hasCell_29 : decode cX4_hasCell 29 = .ok (.iconst 0, 1) := by decide +kernel
theorem dX4_hasCell_30 : decode cX4_hasCell 30 = .ok (.ireturn, 1) := by decide +kernel
theorem dX4_hasBoat_0 : decode cX4_hasBoat 0 = .ok (.iload_n 1, 1) := by decide +kernel
theorem dX4_hasBoat_1 : decode cX4_hasBoat 1 = .ok (.ifCond .lt 18, 3) := by decide +kernel
theorem dX4_hasBoat_4 : decode cX4_hasBoat 4 = .ok (.iload_n 1, 1) := by decide +kernel
theorem dX4_hasBoat_5 : decode cX4_hasBoat 5 = .ok (.aload_n 0, 1) := by decide +kernel
theorem dX4_hasBoat_6 : decode cX4_hasBoat 6 = .ok (.getfield 20, 3) := by decide +kernel
theorem dX4_hasBoat_9 : decode cX4_hasBoat 9 = .ok (.getfield 29, 3) := by decide +kernel
theorem dX4_hasBoat_12 : decode cX4_hasBoat 12 = .ok (.if_icmp .ge 7, 3) := by decide +kernel
theorem dX4_hasBoat_15 : decode cX4_hasBoat 15 = .ok (.iconst 1, 1) := by decide +kernel
theorem dX4_hasBoat_16 : decode cX4_hasBoat 16 = .ok (.goto 4, 3) := by decide +kernel
theorem dX4_hasBoat_19 : decode cX4_hasBoat 19 = .ok (.iconst 0, 1) := by decide +kernel
theorem dX4_hasBoat_20 : decode cX4_hasBoat 20 = .ok (.ireturn, 1) := by decide +kernel
theorem dX4_hasOwner_0 : decode cX4_hasOwner 0 = .ok (.iload_n 1, 1) := by decide +kernel
theorem dX4_hasOwner_1 : decode cX4_hasOwner 1 = .ok (.ifCond .lt 12, 3) := by decide +kernel
theorem dX4_hasOwner_4 : decode cX4_hasOwner 4 = .ok (.iload_n 1, 1) := by decide +kernel
theorem dX4_hasOwner_5 : decode cX4_hasOwner 5 = .ok (.iconst 4, 1) := by decide +kernel
theorem dX4_hasOwner_6 : decode cX4_hasOwner 6 = .ok (.if_icmp .ge 7, 3) := by decide +kernel
theorem dX4_hasOwner_9 : decode cX4_hasOwner 9 = .ok (.iconst 1, 1) := by decide +kernel
theorem dX4_hasOwner_10 : decode cX4_hasOwner 10 = .ok (.goto 4, 3) := by decide +kernel
theorem dX4_hasOwner_13 : decode cX4_hasOwner 13 = .ok (.iconst 0, 1) := by decide +kernel
theorem dX4_hasOwner_14 : decode cX4_hasOwner 14 = .ok (.ireturn, 1) := by decide +kernel
theorem dX4_gutterFault_0 : decode cX4_gutterFault 0 = .ok (.aload_n 0, 1) := by decide +kernel
theorem dX4_gutterFault_1 : decode cX4_gutterFault 1 = .ok (.getfield 14, 3) := by decide +kernel
theorem dX4_gutterFault_4 : decode cX4_gutterFault 4 = .ok (.getfield 29, 3) := by decide +kernel
theorem dX4_gutterFault_7 : decode cX4_gutterFault 7 = .ok (.ifCond .le 15, 3) := by decide +kernel
theorem dX4_gutterFault_10 : decode cX4_gutterFault 10 = .ok (.aload_n 0, 1) := by decide +kernel
theorem dX4_gutterFault_11 : decode cX4_gutterFault 11 = .ok (.iload_n 3, 1) := by decide +kernel
theorem dX4_gutterFault_12 : decode cX4_gutterFault 12 = .ok (.iload 4, 2) := by decide +kernel
theorem dX4_gutterFault_14 : decode cX4_gutterFault 14 = .ok (.invokevirtual 75, 3) := by decide +kernel
theorem dX4_gutterFault_17 : decode cX4_gutterFault 17 = .ok (.ifCond .ne 5, 3) := by decide +kernel
theorem dX4_gutterFault_20 : decode cX4_gutterFault 20 = .ok (.iconst 1, 1) := by decide +kernel
theorem dX4_gutterFault_21 : decode cX4_gutterFault 21 = .ok (.ireturn, 1) := by decide +kernel
theorem dX4_gutterFault_22 : decode cX4_gutterFault 22 = .ok (.iload_n 1, 1) := by decide +kernel
theorem dX4_gutterFault_23 : decode cX4_gutterFault 23 = .ok (.iconst 4, 1) := by decide +kernel
theorem dX4_gutterFault_24 : decode cX4_gutterFault 24 = .ok (.if_icmp .lt 18, 3) := by decide +kernel
theorem dX4_gutterFault_27 : decode cX4_gutterFault 27 = .ok (.iload_n 1, 1) := by decide +kernel
theorem dX4_gutterFault_28 : decode cX4_gutterFault 28 = .ok (.bipush 40, 2) := by decide +kernel
theorem dX4_gutterFault_30 : decode cX4_gutterFault 30 = .ok (.if_icmp .gt 12, 3) := by decide +kernel
theorem dX4_gutterFault_33 : decode cX4_gutterFault 33 = .ok (.iload_n 2, 1) := by decide +kernel
theorem dX4_gutterFault_34 : decode cX4_gutterFault 34 = .ok (.ifCond .lt 8, 3) := by decide +kernel
theorem dX4_gutterFault_37 : decode cX4_gutterFault 37 = .ok (.iload_n 2, 1) := by decide +kernel
theorem dX4_gutterFault_38 : decode cX4_gutterFault 38 = .ok (.iconst 5, 1) := by decide +kernel
theorem dX4_gutterFault_39 : decode cX4_gutterFault 39 = .ok (.if_icmp .le 5, 3) := by decide +kernel
theorem dX4_gutterFault_42 : decode cX4_gutterFault 42 = .ok (.iconst 2, 1) := by decide +kernel
theorem dX4_gutterFault_43 : decode cX4_gutterFault 43 = .ok (.ireturn, 1) := by decide +kernel
theorem dX4_gutterFault_44 : decode cX4_gutterFault 44 = .ok (.aload_n 0, 1) := by decide +kernel
theorem dX4_gutterFault_45 : decode cX4_gutterFault 45 = .ok (.getfield 14, 3) := by decide +kernel
theorem dX4_gutterFault_48 : decode cX4_gutterFault 48 = .ok (.getfield 29, 3) := by decide +kernel
theorem dX4_gutterFault_51 : decode cX4_gutterFault 51 = .ok (.bipush 6, 2) := by decide +kernel
theorem dX4_gutterFault_53 : decode cX4_gutterFault 53 = .ok (.if_icmp .lt 7, 3) := by decide +kernel
theorem dX4_gutterFault_56 : decode cX4_gutterFault 56 = .ok (.iconst 3, 1) := by decide +kernel
theorem dX4_gutterFault_57 : decode cX4_gutterFault 57 = .ok (.goto 4, 3) := by decide +kernel
theorem dX4_gutterFault_60 : decode cX4_gutterFault 60 = .ok (.iconst 0, 1) := by decide +kernel
theorem dX4_gutterFault_61 : decode cX4_gutterFault 61 = .ok (.ireturn, 1) := by decide +kernel
theorem dX4_boatFault_0 : decode cX4_boatFault 0 = .ok (.aload_n 0, 1) := by decide +kernel
theorem dX4_boatFault_1 : decode cX4_boatFault 1 = .ok (.iload_n 3, 1) := by decide +kernel
theorem dX4_boatFault_2 : decode cX4_boatFault 2 = .ok (.invokevirtual 79, 3) := by decide +kernel
theorem dX4_boatFault_5 : decode cX4_boatFault 5 = .ok (.ifCond .ne 5, 3) := by decide +kernel
theorem dX4_boatFault_8 : decode cX4_boatFault 8 = .ok (.iconst 1, 1) := by decide +kernel
theorem dX4_boatFault_9 : decode cX4_boatFault 9 = .ok (.ireturn, 1) := by decide +kernel
theorem dX4_boatFault_10 : decode cX4_boatFault 10 = .ok (.iload_n 1, 1) := by decide +kernel
theorem dX4_boatFault_11 : decode cX4_boatFault 11 = .ok (.iconst 1, 1) := by decide +kernel
theorem dX4_boatFault_12 : decode cX4_boatFault 12 = .ok (.if_icmp .lt 18, 3) := by decide +kernel
theorem dX4_boatFault_15 : decode cX4_boatFault 15 = .ok (.iload_n 1, 1) := by decide +kernel
theorem dX4_boatFault_16 : decode cX4_boatFault 16 = .ok (.bipush 9, 2) := by decide +kernel
theorem dX4_boatFault_18 : decode cX4_boatFault 18 = .ok (.if_icmp .gt 12, 3) := by decide +kernel
theorem dX4_boatFault_21 : decode cX4_boatFault 21 = .ok (.iload_n 2, 1) := by decide +kernel
theorem dX4_boatFault_22 : decode cX4_boatFault 22 = .ok (.ifCond .lt 8, 3) := by decide +kernel
theorem dX4_boatFault_25 : decode cX4_boatFault 25 = .ok (.iload_n 2, 1) := by decide +kernel
theorem dX4_boatFault_26 : decode cX4_boatFault 26 = .ok (.iconst 3, 1) := by decide +kernel
theorem dX4_boatFault_27 : decode cX4_boatFault 27 = .ok (.if_icmp .le 5, 3) := by decide +kernel
theorem dX4_boatFault_30 : decode cX4_boatFault 30 = .ok (.iconst 2, 1) := by decide +kernel
theorem dX4_boatFault_31 : decode cX4_boatFault 31 = .ok (.ireturn, 1) := by decide +kernel
theorem dX4_boatFault_32 : decode cX4_boatFault 32 = .ok (.aload_n 0, 1) := by decide +kernel
theorem dX4_boatFault_33 : decode cX4_boatFault 33 = .ok (.getfield 20, 3) := by decide +kernel
theorem dX4_boatFault_36 : decode cX4_boatFault 36 = .ok (.getfield 29, 3) := by decide +kernel
theorem dX4_boatFault_39 : decode cX4_boatFault 39 = .ok (.bipush 10, 2) := by decide +kernel
theorem dX4_boatFault_41 : decode cX4_boatFault 41 = .ok (.if_icmp .lt 7, 3) := by decide +kernel
theorem dX4_boatFault_44 : decode cX4_boatFault 44 = .ok (.iconst 3, 1) := by decide +kernel
theorem dX4_boatFault_45 : decode cX4_boatFault 45 = .ok (.goto 4, 3) := by decide +kernel
theorem dX4_boatFault_48 : decode cX4_boatFault 48 = .ok (.iconst 0, 1) := by decide +kernel
theorem dX4_boatFault_49 : decode cX4_boatFault 49 = .ok (.ireturn, 1) := by decide +kernel
theorem dX4_launchFault_0 : decode cX4_launchFault 0 = .ok (.aload_n 0, 1) := by decide +kernel
theorem dX4_launchFault_1 : decode cX4_launchFault 1 = .ok (.iload_n 1, 1) := by decide +kernel
theorem dX4_launchFault_2 : decode cX4_launchFault 2 = .ok (.invokevirtual 82, 3) := by decide +kernel
theorem dX4_launchFault_5 : decode cX4_launchFault 5 = .ok (.ifCond .eq 11, 3) := by decide +kernel
theorem dX4_launchFault_8 : decode cX4_launchFault 8 = .ok (.aload_n 0, 1) := by decide +kernel
theorem dX4_launchFault_9 : decode cX4_launchFault 9 = .ok (.iload_n 2, 1) := by decide +kernel
theorem dX4_launchFault_10 : decode cX4_launchFault 10 = .ok (.invokevirtual 67, 3) := by decide +kernel
theorem dX4_launchFault_13 : decode cX4_launchFault 13 = .ok (.ifCond .ne 5, 3) := by decide +kernel
theorem dX4_launchFault_16 : decode cX4_launchFault 16 = .ok (.iconst 1, 1) := by decide +kernel
theorem dX4_launchFault_17 : decode cX4_launchFault 17 = .ok (.ireturn, 1) := by decide +kernel
theorem dX4_launchFault_18 : decode cX4_launchFault 18 = .ok (.aload_n 0, 1) := by decide +kernel
theorem dX4_launchFault_19 : decode cX4_launchFault 19 = .ok (.getfield 20, 3) := by decide +kernel
theorem dX4_launchFault_22 : decode cX4_launchFault 22 = .ok (.iload_n 1, 1) := by decide +kernel
theorem dX4_launchFault_23 : decode cX4_launchFault 23 = .ok (.iconst 3, 1) := by decide +kernel
theorem dX4_launchFault_24 : decode cX4_launchFault 24 = .ok (.invokevirtual 71, 3) := by decide +kernel
theorem dX4_launchFault_27 : decode cX4_launchFault 27 = .ok (.ifCond .eq 7, 3) := by decide +kernel
theorem dX4_launchFault_30 : decode cX4_launchFault 30 = .ok (.iconst 3, 1) := by decide +kernel
theorem dX4_launchFault_31 : decode cX4_launchFault 31 = .ok (.goto 4, 3) := by decide +kernel
theorem dX4_launchFault_34 : decode cX4_launchFault 34 = .ok (.iconst 0, 1) := by decide +kernel
theorem dX4_launchFault_35 : decode cX4_launchFault 35 = .ok (.ireturn, 1) := by decide +kernel
theorem dX4_hookFault_0 : decode cX4_hookFault 0 = .ok (.aload_n 0, 1) := by decide +kernel
theorem dX4_hookFault_1 : decode cX4_hookFault 1 = .ok (.iload_n 1, 1) := by decide +kernel
theorem dX4_hookFault_2 : decode cX4_hookFault 2 = .ok (.invokevirtual 79, 3) := by decide +kernel
theorem dX4_hookFault_5 : decode cX4_hookFault 5 = .ok (.ifCond .eq 16, 3) := by decide +kernel
theorem dX4_hookFault_8 : decode cX4_hookFault 8 = .ok (.aload_n 0, 1) := by decide +kernel
theorem dX4_hookFault_9 : decode cX4_hookFault 9 = .ok (.iload_n 2, 1) := by decide +kernel
theorem dX4_hookFault_10 : decode cX4_hookFault 10 = .ok (.iload_n 3, 1) := by decide +kernel
theorem dX4_hookFault_11 : decode cX4_hookFault 11 = .ok (.invokevirtual 75, 3) := by decide +kernel
theorem dX4_hookFault_14 : decode cX4_hookFault 14 = .ok (.ifCond .eq 7, 3) := by decide +kernel
theorem dX4_hookFault_17 : decode cX4_hookFault 17 = .ok (.iconst 0, 1) := by decide +kernel
theorem dX4_hookFault_18 : decode cX4_hookFault 18 = .ok (.goto 4, 3) := by decide +kernel
theorem dX4_hookFault_21 : decode cX4_hookFault 21 = .ok (.iconst 1, 1) := by decide +kernel
theorem dX4_hookFault_22 : decode cX4_hookFault 22 = .ok (.ireturn, 1) := by decide +kernel
theorem dX4_claimFault_0 : decode cX4_claimFault 0 = .ok (.aload_n 0, 1) := by decide +kernel
theorem dX4_claimFault_1 : decode cX4_claimFault 1 = .ok (.iload_n 1, 1) := by decide +kernel
theorem dX4_claimFault_2 : decode cX4_claimFault 2 = .ok (.invokevirtual 79, 3) := by decide +kernel
theorem dX4_claimFault_5 : decode cX4_claimFault 5 = .ok (.ifCond .eq 15, 3) := by decide +kernel
theorem dX4_claimFault_8 : decode cX4_claimFault 8 = .ok (.aload_n 0, 1) := by decide +kernel
theorem dX4_claimFault_9 : decode cX4_claimFault 9 = .ok (.iload_n 2, 1) := by decide +kernel
theorem dX4_claimFault_10 : decode cX4_claimFault 10 = .ok (.invokevirtual 82, 3) := by decide +kernel
theorem dX4_claimFault_13 : decode cX4_claimFault 13 = .ok (.ifCond .eq 7, 3) := by decide +kernel
theorem dX4_claimFault_16 : decode cX4_claimFault 16 = .ok (.iconst 0, 1) := by decide +kernel
theorem dX4_claimFault_17 : decode cX4_claimFault 17 = .ok (.goto 4, 3) := by decide +kernel
theorem dX4_claimFault_20 : decode cX4_claimFault 20 = .ok (.iconst 1, 1) := by decide +kernel
theorem dX4_claimFault_21 : decode cX4_claimFault 21 = .ok (.ireturn, 1) := by decide +kernel
theorem dX4_minutesFault_0 : decode cX4_minutesFault 0 = .ok (.iload_n 1, 1) := by decide +kernel
theorem dX4_minutesFault_1 : decode cX4_minutesFault 1 = .ok (.iconst 1, 1) := by decide +kernel
theorem dX4_minutesFault_2 : decode cX4_minutesFault 2 = .ok (.if_icmp .lt 9, 3) := by decide +kernel
theorem dX4_minutesFault_5 : decode cX4_minutesFault 5 = .ok (.iload_n 1, 1) := by decide +kernel
theorem dX4_minutesFault_6 : decode cX4_minutesFault 6 = .ok (.bipush 60, 2) := by decide +kernel
theorem dX4_minutesFault_8 : decode cX4_minutesFault 8 = .ok (.if_icmp .le 7, 3) := by decide +kernel
theorem dX4_minutesFault_11 : decode cX4_minutesFault 11 = .ok (.iconst 2, 1) := by decide +kernel
theorem dX4_minutesFault_12 : decode cX4_minutesFault 12 = .ok (.goto 4, 3) := by decide +kernel
theorem dX4_minutesFault_15 : decode cX4_minutesFault 15 = .ok (.iconst 0, 1) := by decide +kernel
theorem dX4_minutesFault_16 : decode cX4_minutesFault 16 = .ok (.ireturn, 1) := by decide +kernel
theorem dX4_settingFault_0 : decode cX4_settingFault 0 = .ok (.iload_n 1, 1) := by decide +kernel
theorem dX4_settingFault_1 : decode cX4_settingFault 1 = .ok (.ifCond .lt 8, 3) := by decide +kernel
theorem dX4_settingFault_4 : decode cX4_settingFault 4 = .ok (.iload_n 1, 1) := by decide +kernel
theorem dX4_settingFault_5 : decode cX4_settingFault 5 = .ok (.iconst 2, 1) := by decide +kernel
theorem dX4_settingFault_6 : decode cX4_settingFault 6 = .ok (.if_icmp .le 5, 3) := by decide +kernel
theorem dX4_settingFault_9 : decode cX4_settingFault 9 = .ok (.iconst 2, 1) := by decide +kernel
theorem dX4_settingFault_10 : decode cX4_settingFault 10 = .ok (.ireturn, 1) := by decide +kernel
theorem dX4_settingFault_11 : decode cX4_settingFault 11 = .ok (.iload_n 1, 1) := by decide +kernel
theorem dX4_settingFault_12 : decode cX4_settingFault 12 = .ok (.iconst 1, 1) := by decide +kernel
theorem dX4_settingFault_13 : decode cX4_settingFault 13 = .ok (.if_icmp .ne 7, 3) := by decide +kernel
theorem dX4_settingFault_16 : decode cX4_settingFault 16 = .ok (.iconst 1, 1) := by decide +kernel
theorem dX4_settingFault_17 : decode cX4_settingFault 17 = .ok (.goto 4, 3) := by decide +kernel
theorem dX4_settingFault_20 : decode cX4_settingFault 20 = .ok (.iconst 0, 1) := by decide +kernel
theorem dX4_settingFault_21 : decode cX4_settingFault 21 = .ok (.istore_n 3, 1) := by decide +kernel
theorem dX4_settingFault_22 : decode cX4_settingFault 22 = .ok (.iload_n 1, 1) := by decide +kernel
theorem dX4_settingFault_23 : decode cX4_settingFault 23 = .ok (.ifCond .ne 7, 3) := by decide +kernel
theorem dX4_settingFault_26 : decode cX4_settingFault 26 = .ok (.iconst 3, 1) := by decide +kernel
theorem dX4_settingFault_27 : decode cX4_settingFault 27 = .ok (.goto 5, 3) := by decide +kernel
theorem dX4_settingFault_30 : decode cX4_settingFault 30 = .ok (.bipush 9, 2) := by decide +kernel
theorem dX4_settingFault_32 : decode cX4_settingFault 32 = .ok (.istore 4, 2) := by decide +kernel
theorem dX4_settingFault_34 : decode cX4_settingFault 34 = .ok (.iload_n 2, 1) := by decide +kernel
theorem dX4_settingFault_35 : decode cX4_settingFault 35 = .ok (.iload_n 3, 1) := by decide +kernel
theorem dX4_settingFault_36 : decode cX4_settingFault 36 = .ok (.if_icmp .lt 9, 3) := by decide +kernel
theorem dX4_settingFault_39 : decode cX4_settingFault 39 = .ok (.iload_n 2, 1) := by decide +kernel
theorem dX4_settingFault_40 : decode cX4_settingFault 40 = .ok (.iload 4, 2) := by decide +kernel
theorem dX4_settingFault_42 : decode cX4_settingFault 42 = .ok (.if_icmp .le 7, 3) := by decide +kernel
theorem dX4_settingFault_45 : decode cX4_settingFault 45 = .ok (.iconst 2, 1) := by decide +kernel
theorem dX4_settingFault_46 : decode cX4_settingFault 46 = .ok (.goto 4, 3) := by decide +kernel
theorem dX4_settingFault_49 : decode cX4_settingFault 49 = .ok (.iconst 0, 1) := by decide +kernel
theorem dX4_settingFault_50 : decode cX4_settingFault 50 = .ok (.ireturn, 1) := by decide +kernel
theorem dX4_perform_0 : decode cX4_perform 0 = .ok (.iload_n 1, 1) := by decide +kernel
theorem dX4_perform_1 : decode cX4_perform 1 = .ok (.tableswitch 273 98 115 #[119, 216, 273, 273, 273, 87, 193, 273, 273, 273, 147, 171, 273, 273, 273, 273, 273, 249], 87) := by decide +kernel
theorem dX4_perform_88 : decode cX4_perform 88 = .ok (.aload_n 0, 1) := by decide +kernel
theorem dX4_perform_89 : decode cX4_perform 89 = .ok (.iload_n 2, 1) := by decide +kernel
theorem dX4_perform_90 : decode cX4_perform 90 = .ok (.iload_n 3, 1) := by decide +kernel
theorem dX4_perform_91 : decode cX4_perform 91 = .ok (.iload 4, 2) := by decide +kernel
theorem dX4_perform_93 : decode cX4_perform 93 = .ok (.iload 5, 2) := by decide +kernel
theorem dX4_perform_95 : decode cX4_perform 95 = .ok (.invokevirtual 85, 3) := by decide +kernel
theorem dX4_perform_98 : decode cX4_perform 98 = .ok (.ifCond .ne 20, 3) := by decide +kernel
theorem dX4_perform_101 : decode cX4_perform 101 = .ok (.aload_n 0, 1) := by decide +kernel
theorem dX4_perform_102 : decode cX4_perform 102 = .ok (.iload_n 2, 1) := by decide +kernel
theorem dX4_perform_103 : decode cX4_perform 103 = .ok (.iload_n 3, 1) := by decide +kernel
theorem dX4_perform_104 : decode cX4_perform 104 = .ok (.iload 4, 2) := by decide +kernel
theorem dX4_perform_106 : decode cX4_perform 106 = .ok (.iload 5, 2) := by decide +kernel
theorem dX4_perform_108 : decode cX4_perform 108 = .ok (.invokevirtual 89, 3) := by decide +kernel
theorem dX4_perform_111 : decode cX4_perform 111 = .ok (.ifCond .lt 7, 3) := by decide +kernel
theorem dX4_perform_114 : decode cX4_perform 114 = .ok (.iconst 1, 1) := by decide +kernel
theorem dX4_perform_115 : decode cX4_perform 115 = .ok (.goto 4, 3) := by decide +kernel
theorem dX4_perform_118 : decode cX4_perform 118 = .ok (.iconst 0, 1) := by decide +kernel
theorem dX4_perform_119 : decode cX4_perform 119 = .ok (.ireturn, 1) := by decide +kernel
theorem dX4_perform_120 : decode cX4_perform 120 = .ok (.aload_n 0, 1) := by decide +kernel
theorem dX4_perform_121 : decode cX4_perform 121 = .ok (.iload_n 2, 1) := by decide +kernel
theorem dX4_perform_122 : decode cX4_perform 122 = .ok (.iload_n 3, 1) := by decide +kernel
theorem dX4_perform_123 : decode cX4_perform 123 = .ok (.iload 4, 2) := by decide +kernel
theorem dX4_perform_125 : decode cX4_perform 125 = .ok (.invokevirtual 92, 3) := by decide +kernel
theorem dX4_perform_128 : decode cX4_perform 128 = .ok (.ifCond .ne 18, 3) := by decide +kernel
theorem dX4_perform_131 : decode cX4_perform 131 = .ok (.aload_n 0, 1) := by decide +kernel
theorem dX4_perform_132 : decode cX4_perform 132 = .ok (.iload_n 2, 1) := by decide +kernel
theorem dX4_perform_133 : decode cX4_perform 133 = .ok (.iload_n 3, 1) := by decide +kernel
theorem dX4_perform_134 : decode cX4_perform 134 = .ok (.iload 4, 2) := by decide +kernel
theorem dX4_perform_136 : decode cX4_perform 136 = .ok (.invokevirtual 96, 3) := by decide +kernel
theorem dX4_perform_139 : decode cX4_perform 139 = .ok (.ifCond .lt 7, 3) := by decide +kernel
theorem dX4_perform_142 : decode cX4_perform 142 = .ok (.iconst 1, 1) := by decide +kernel
theorem dX4_perform_143 : decode cX4_perform 143 = .ok (.goto 4, 3) := by decide +kernel
theorem dX4_perform_146 : decode cX4_perform 146 = .ok (.iconst 0, 1) := by decide +kernel
theorem dX4_perform_147 : decode cX4_perform 147 = .ok (.ireturn, 1) := by decide +kernel
theorem dX4_perform_148 : decode cX4_perform 148 = .ok (.aload_n 0, 1) := by decide +kernel
theorem dX4_perform_149 : decode cX4_perform 149 = .ok (.iload_n 2, 1) := by decide +kernel
theorem dX4_perform_150 : decode cX4_perform 150 = .ok (.iload_n 3, 1) := by decide +kernel
theorem dX4_perform_151 : decode cX4_perform 151 = .ok (.invokevirtual 99, 3) := by decide +kernel
theorem dX4_perform_154 : decode cX4_perform 154 = .ok (.ifCond .ne 16, 3) := by decide +kernel
theorem dX4_perform_157 : decode cX4_perform 157 = .ok (.aload_n 0, 1) := by decide +kernel
theorem dX4_perform_158 : decode cX4_perform 158 = .ok (.iload_n 2, 1) := by decide +kernel
theorem dX4_perform_159 : decode cX4_perform 159 = .ok (.iload_n 3, 1) := by decide +kernel
theorem dX4_perform_160 : decode cX4_perform 160 = .ok (.invokevirtual 102, 3) := by decide +kernel
theorem dX4_perform_163 : decode cX4_perform 163 = .ok (.ifCond .lt 7, 3) := by decide +kernel
theorem dX4_perform_166 : decode cX4_perform 166 = .ok (.iconst 1, 1) := by decide +kernel
theorem dX4_perform_167 : decode cX4_perform 167 = .ok (.goto 4, 3) := by decide +kernel
theorem dX4_perform_170 : decode cX4_perform 170 = .ok (.iconst 0, 1) := by decide +kernel
theorem dX4_perform_171 : decode cX4_perform 171 = .ok (.ireturn, 1) := by decide +kernel
theorem dX4_perform_172 : decode cX4_perform 172 = .ok (.aload_n 0, 1) := by decide +kernel
theorem dX4_perform_173 : decode cX4_perform 173 = .ok (.iload_n 2, 1) := by decide +kernel
theorem dX4_perform_174 : decode cX4_perform 174 = .ok (.invokevirtual 105, 3) := by decide +kernel
theorem dX4_perform_177 : decode cX4_perform 177 = .ok (.ifCond .ne 15, 3) := by decide +kernel
theorem dX4_perform_180 : decode cX4_perform 180 = .ok (.aload_n 0, 1) := by decide +kernel
theorem dX4_perform_181 : decode cX4_perform 181 = .ok (.iload_n 2, 1) := by decide +kernel
theorem dX4_perform_182 : decode cX4_perform 182 = .ok (.invokevirtual 109, 3) := by decide +kernel
theorem dX4_perform_185 : decode cX4_perform 185 = .ok (.ifCond .lt 7, 3) := by decide +kernel
theorem dX4_perform_188 : decode cX4_perform 188 = .ok (.iconst 1, 1) := by decide +kernel
theorem dX4_perform_189 : decode cX4_perform 189 = .ok (.goto 4, 3) := by decide +kernel
theorem dX4_perform_192 : decode cX4_perform 192 = .ok (.iconst 0, 1) := by decide +kernel
theorem dX4_perform_193 : decode cX4_perform 193 = .ok (.ireturn, 1) := by decide +kernel
theorem dX4_perform_194 : decode cX4_perform 194 = .ok (.aload_n 0, 1) := by decide +kernel
theorem dX4_perform_195 : decode cX4_perform 195 = .ok (.iload_n 2, 1) := by decide +kernel
theorem dX4_perform_196 : decode cX4_perform 196 = .ok (.iload_n 3, 1) := by decide +kernel
theorem dX4_perform_197 : decode cX4_perform 197 = .ok (.iload 4, 2) := by decide +kernel
theorem dX4_perform_199 : decode cX4_perform 199 = .ok (.invokevirtual 112, 3) := by decide +kernel
theorem dX4_perform_202 : decode cX4_perform 202 = .ok (.ifCond .eq 5, 3) := by decide +kernel
theorem dX4_perform_205 : decode cX4_perform 205 = .ok (.iconst 0, 1) := by decide +kernel
theorem dX4_perform_206 : decode cX4_perform 206 = .ok (.ireturn, 1) := by decide +kernel
theorem dX4_perform_207 : decode cX4_perform 207 = .ok (.aload_n 0, 1) := by decide +kernel
theorem dX4_perform_208 : decode cX4_perform 208 = .ok (.iload_n 2, 1) := by decide +kernel
theorem dX4_perform_209 : decode cX4_perform 209 = .ok (.iload_n 3, 1) := by decide +kernel
theorem dX4_perform_210 : decode cX4_perform 210 = .ok (.iload 4, 2) := by decide +kernel
theorem dX4_perform_212 : decode cX4_perform 212 = .ok (.invokevirtual 115, 3) := by decide +kernel
theorem dX4_perform_215 : decode cX4_perform 215 = .ok (.iconst 1, 1) := by decide +kernel
theorem dX4_perform_216 : decode cX4_perform 216 = .ok (.ireturn, 1) := by decide +kernel
theorem dX4_perform_217 : decode cX4_perform 217 = .ok (.aload_n 0, 1) := by decide +kernel
theorem dX4_perform_218 : decode cX4_perform 218 = .ok (.iload_n 2, 1) := by decide +kernel
theorem dX4_perform_219 : decode cX4_perform 219 = .ok (.iload_n 3, 1) := by decide +kernel
theorem dX4_perform_220 : decode cX4_perform 220 = .ok (.invokevirtual 118, 3) := by decide +kernel
theorem dX4_perform_223 : decode cX4_perform 223 = .ok (.ifCond .ne 25, 3) := by decide +kernel
theorem dX4_perform_226 : decode cX4_perform 226 = .ok (.aload_n 0, 1) := by decide +kernel
theorem dX4_perform_227 : decode cX4_perform 227 = .ok (.iload_n 2, 1) := by decide +kernel
theorem dX4_perform_228 : decode cX4_perform 228 = .ok (.iload_n 3, 1) := by decide +kernel
theorem dX4_perform_229 : decode cX4_perform 229 = .ok (.invokevirtual 121, 3) := by decide +kernel
theorem dX4_perform_232 : decode cX4_perform 232 = .ok (.ifCond .ne 16, 3) := by decide +kernel
theorem dX4_perform_235 : decode cX4_perform 235 = .ok (.aload_n 0, 1) := by decide +kernel
theorem dX4_perform_236 : decode cX4_perform 236 = .ok (.iload_n 2, 1) := by decide +kernel
theorem dX4_perform_237 : decode cX4_perform 237 = .ok (.iload_n 3, 1) := by decide +kernel
theorem dX4_perform_238 : decode cX4_perform 238 = .ok (.invokevirtual 124, 3) := by decide +kernel
theorem dX4_perform_241 : decode cX4_perform 241 = .ok (.ifCond .lt 7, 3) := by decide +kernel
theorem dX4_perform_244 : decode cX4_perform 244 = .ok (.iconst 1, 1) := by decide +kernel
theorem dX4_perform_245 : decode cX4_perform 245 = .ok (.goto 4, 3) := by decide +kernel
theorem dX4_perform_248 : decode cX4_perform 248 = .ok (.iconst 0, 1) := by decide +kernel
theorem dX4_perform_249 : decode cX4_perform 249 = .ok (.ireturn, 1) := by decide +kernel
theorem dX4_perform_250 : decode cX4_perform 250 = .ok (.aload_n 0, 1) := by decide +kernel
theorem dX4_perform_251 : decode cX4_perform 251 = .ok (.iload_n 2, 1) := by decide +kernel
theorem dX4_perform_252 : decode cX4_perform 252 = .ok (.iload_n 3, 1) := by decide +kernel
theorem dX4_perform_253 : decode cX4_perform 253 = .ok (.invokevirtual 127, 3) := by decide +kernel
theorem dX4_perform_256 : decode cX4_perform 256 = .ok (.ifCond .ne 16, 3) := by decide +kernel
theorem dX4_perform_259 : decode cX4_perform 259 = .ok (.aload_n 0, 1) := by decide +kernel
theorem dX4_perform_260 : decode cX4_perform 260 = .ok (.iload_n 2, 1) := by decide +kernel
theorem dX4_perform_261 : decode cX4_perform 261 = .ok (.iload_n 3, 1) := by decide +kernel
theorem dX4_perform_262 : decode cX4_perform 262 = .ok (.invokevirtual 130, 3) := by decide +kernel
theorem dX4_perform_265 : decode cX4_perform 265 = .ok (.ifCond .lt 7, 3) := by decide +kernel
theorem dX4_perform_268 : decode cX4_perform 268 = .ok (.iconst 1, 1) := by decide +kernel
theorem dX4_perform_269 : decode cX4_perform 269 = .ok (.goto 4, 3) := by decide +kernel
theorem dX4_perform_272 : decode cX4_perform 272 = .ok (.iconst 0, 1) := by decide +kernel
theorem dX4_perform_273 : decode cX4_perform 273 = .ok (.ireturn, 1) := by decide +kernel
theorem dX4_perform_274 : decode cX4_perform 274 = .ok (.iconst 0, 1) := by decide +kernel
theorem dX4_perform_275 : decode cX4_perform 275 = .ok (.ireturn, 1) := by decide +kernel
theorem dX4_addGutter_0 : decode cX4_addGutter 0 = .ok (.aload_n 0, 1) := by decide +kernel
theorem dX4_addGutter_1 : decode cX4_addGutter 1 = .ok (.getfield 14, 3) := by decide +kernel
theorem dX4_addGutter_4 : decode cX4_addGutter 4 = .ok (.invokevirtual 33, 3) := by decide +kernel
theorem dX4_addGutter_7 : decode cX4_addGutter 7 = .ok (.istore 5, 2) := by decide +kernel
theorem dX4_addGutter_9 : decode cX4_addGutter 9 = .ok (.aload_n 0, 1) := by decide +kernel
theorem dX4_addGutter_10 : decode cX4_addGutter 10 = .ok (.getfield 14, 3) := by decide +kernel
theorem dX4_addGutter_13 : decode cX4_addGutter 13 = .ok (.iload 5, 2) := by decide +kernel
theorem dX4_addGutter_15 : decode cX4_addGutter 15 = .ok (.iconst 0, 1) := by decide +kernel
theorem dX4_addGutter_16 : decode cX4_addGutter 16 = .ok (.iload_n 1, 1) := by decide +kernel
theorem dX4_addGutter_17 : decode cX4_addGutter 17 = .ok (.invokevirtual 37, 3) := by decide +kernel
theorem dX4_addGutter_20 : decode cX4_addGutter 20 = .ok (.aload_n 0, 1) := by decide +kernel
theorem dX4_addGutter_21 : decode cX4_addGutter 21 = .ok (.getfield 14, 3) := by decide +kernel
theorem dX4_addGutter_24 : decode cX4_addGutter 24 = .ok (.iload 5, 2) := by decide +kernel
theorem dX4_addGutter_26 : decode cX4_addGutter 26 = .ok (.iconst 1, 1) := by decide +kernel
theorem dX4_addGutter_27 : decode cX4_addGutter 27 = .ok (.iload_n 2, 1) := by decide +kernel
theorem dX4_addGutter_28 : decode cX4_addGutter 28 = .ok (.invokevirtual 37, 3) := by decide +kernel
theorem dX4_addGutter_31 : decode cX4_addGutter 31 = .ok (.aload_n 0, 1) := by decide +kernel
theorem dX4_addGutter_32 : decode cX4_addGutter 32 = .ok (.getfield 14, 3) := by decide +kernel
theorem dX4_addGutter_35 : decode cX4_addGutter 35 = .ok (.iload 5, 2) := by decide +kernel
theorem dX4_addGutter_37 : decode cX4_addGutter 37 = .ok (.iconst 2, 1) := by decide +kernel
theorem dX4_addGutter_38 : decode cX4_addGutter 38 = .ok (.iload 5, 2) := by decide +kernel
theorem dX4_addGutter_40 : decode cX4_addGutter 40 = .ok (.ifCond .ne 7, 3) := by decide +kernel
theorem dX4_addGutter_43 : decode cX4_addGutter 43 = .ok (.iconst (-1), 1) := by decide +kernel
theorem dX4_addGutter_44 : decode cX4_addGutter 44 = .ok (.goto 4, 3) := by decide +kernel
theorem dX4_addGutter_47 : decode cX4_addGutter 47 = .ok (.iload_n 3, 1) := by decide +kernel
theorem dX4_addGutter_48 : decode cX4_addGutter 48 = .ok (.invokevirtual 37, 3) := by decide +kernel
theorem dX4_addGutter_51 : decode cX4_addGutter 51 = .ok (.aload_n 0, 1) := by decide +kernel
theorem dX4_addGutter_52 : decode cX4_addGutter 52 = .ok (.getfield 14, 3) := by decide +kernel
theorem dX4_addGutter_55 : decode cX4_addGutter 55 = .ok (.iload 5, 2) := by decide +kernel
theorem dX4_addGutter_57 : decode cX4_addGutter 57 = .ok (.iconst 3, 1) := by decide +kernel
theorem dX4_addGutter_58 : decode cX4_addGutter 58 = .ok (.iload 5, 2) := by decide +kernel
theorem dX4_addGutter_60 : decode cX4_addGutter 60 = .ok (.ifCond .ne 7, 3) := by decide +kernel
theorem dX4_addGutter_63 : decode cX4_addGutter 63 = .ok (.iconst (-1), 1) := by decide +kernel
theorem dX4_addGutter_64 : decode cX4_addGutter 64 = .ok (.goto 5, 3) := by decide +kernel
theorem dX4_addGutter_67 : decode cX4_addGutter 67 = .ok (.iload 4, 2) := by decide +kernel
theorem dX4_addGutter_69 : decode cX4_addGutter 69 = .ok (.invokevirtual 37, 3) := by decide +kernel
theorem dX4_addGutter_72 : decode cX4_addGutter 72 = .ok (.iload 5, 2) := by decide +kernel
theorem dX4_addGutter_74 : decode cX4_addGutter 74 = .ok (.ireturn, 1) := by decide +kernel
theorem dX4_addBoat_0 : decode cX4_addBoat 0 = .ok (.aload_n 0, 1) := by decide +kernel
theorem dX4_addBoat_1 : decode cX4_addBoat 1 = .ok (.getfield 20, 3) := by decide +kernel
theorem dX4_addBoat_4 : decode cX4_addBoat 4 = .ok (.invokevirtual 33, 3) := by decide +kernel
theorem dX4_addBoat_7 : decode cX4_addBoat 7 = .ok (.istore 4, 2) := by decide +kernel
theorem dX4_addBoat_9 : decode cX4_addBoat 9 = .ok (.aload_n 0, 1) := by decide +kernel
theorem dX4_addBoat_10 : decode cX4_addBoat 10 = .ok (.getfield 20, 3) := by decide +kernel
theorem dX4_addBoat_13 : decode cX4_addBoat 13 = .ok (.iload 4, 2) := by decide +kernel
theorem dX4_addBoat_15 : decode cX4_addBoat 15 = .ok (.iconst 0, 1) := by decide +kernel
theorem dX4_addBoat_16 : decode cX4_addBoat 16 = .ok (.iload_n 1, 1) := by decide +kernel
theorem dX4_addBoat_17 : decode cX4_addBoat 17 = .ok (.invokevirtual 37, 3) := by decide +kernel
theorem dX4_addBoat_20 : decode cX4_addBoat 20 = .ok (.aload_n 0, 1) := by decide +kernel
theorem dX4_addBoat_21 : decode cX4_addBoat 21 = .ok (.getfield 20, 3) := by decide +kernel
theorem dX4_addBoat_24 : decode cX4_addBoat 24 = .ok (.iload 4, 2) := by decide +kernel
theorem dX4_addBoat_26 : decode cX4_addBoat 26 = .ok (.iconst 1, 1) := by decide +kernel
theorem dX4_addBoat_27 : decode cX4_addBoat 27 = .ok (.iload_n 2, 1) := by decide +kernel
theorem dX4_addBoat_28 : decode cX4_addBoat 28 = .ok (.invokevirtual 37, 3) := by decide +kernel
theorem dX4_addBoat_31 : decode cX4_addBoat 31 = .ok (.aload_n 0, 1) := by decide +kernel
theorem dX4_addBoat_32 : decode cX4_addBoat 32 = .ok (.getfield 20, 3) := by decide +kernel
theorem dX4_addBoat_35 : decode cX4_addBoat 35 = .ok (.iload 4, 2) := by decide +kernel
theorem dX4_addBoat_37 : decode cX4_addBoat 37 = .ok (.iconst 2, 1) := by decide +kernel
theorem dX4_addBoat_38 : decode cX4_addBoat 38 = .ok (.iload_n 3, 1) := by decide +kernel
theorem dX4_addBoat_39 : decode cX4_addBoat 39 = .ok (.invokevirtual 37, 3) := by decide +kernel
theorem dX4_addBoat_42 : decode cX4_addBoat 42 = .ok (.aload_n 0, 1) := by decide +kernel
theorem dX4_addBoat_43 : decode cX4_addBoat 43 = .ok (.iload 4, 2) := by decide +kernel
theorem dX4_addBoat_45 : decode cX4_addBoat 45 = .ok (.iconst 0, 1) := by decide +kernel
theorem dX4_addBoat_46 : decode cX4_addBoat 46 = .ok (.invokevirtual 133, 3) := by decide +kernel
theorem dX4_addBoat_49 : decode cX4_addBoat 49 = .ok (.iload 4, 2) := by decide +kernel
theorem dX4_addBoat_51 : decode cX4_addBoat 51 = .ok (.ireturn, 1) := by decide +kernel
theorem dX4_launchBoat_0 : decode cX4_launchBoat 0 = .ok (.aload_n 0, 1) := by decide +kernel
theorem dX4_launchBoat_1 : decode cX4_launchBoat 1 = .ok (.getfield 20, 3) := by decide +kernel
theorem dX4_launchBoat_4 : decode cX4_launchBoat 4 = .ok (.iconst 3, 1) := by decide +kernel
theorem dX4_launchBoat_5 : decode cX4_launchBoat 5 = .ok (.iconst 1, 1) := by decide +kernel
theorem dX4_launchBoat_6 : decode cX4_launchBoat 6 = .ok (.invokevirtual 136, 3) := by decide +kernel
theorem dX4_launchBoat_9 : decode cX4_launchBoat 9 = .ok (.ifCond .ne 30, 3) := by decide +kernel
theorem dX4_launchBoat_12 : decode cX4_launchBoat 12 = .ok (.aload_n 0, 1) := by decide +kernel
theorem dX4_launchBoat_13 : decode cX4_launchBoat 13 = .ok (.getfield 20, 3) := by decide +kernel
theorem dX4_launchBoat_16 : decode cX4_launchBoat 16 = .ok (.iconst 3, 1) := by decide +kernel
theorem dX4_launchBoat_17 : decode cX4_launchBoat 17 = .ok (.iconst 2, 1) := by decide +kernel
theorem dX4_launchBoat_18 : decode cX4_launchBoat 18 = .ok (.invokevirtual 136, 3) := by decide +kernel
theorem dX4_launchBoat_21 : decode cX4_launchBoat 21 = .ok (.ifCond .ne 18, 3) := by decide +kernel
theorem dX4_launchBoat_24 : decode cX4_launchBoat 24 = .ok (.aload_n 0, 1) := by decide +kernel
theorem dX4_launchBoat_25 : decode cX4_launchBoat 25 = .ok (.dup, 1) := by decide +kernel
theorem dX4_launchBoat_26 : decode cX4_launchBoat 26 = .ok (.getfield 53, 3) := by decide +kernel
theorem dX4_launchBoat_29 : decode cX4_launchBoat 29 = .ok (.iconst 1, 1) := by decide +kernel
theorem dX4_launchBoat_30 : decode cX4_launchBoat 30 = .ok (.iadd, 1) := by decide +kernel
theorem dX4_launchBoat_31 : decode cX4_launchBoat 31 = .ok (.putfield 53, 3) := by decide +kernel
theorem dX4_launchBoat_34 : decode cX4_launchBoat 34 = .ok (.aload_n 0, 1) := by decide +kernel
theorem dX4_launchBoat_35 : decode cX4_launchBoat 35 = .ok (.iconst 1, 1) := by decide +kernel
theorem dX4_launchBoat_36 : decode cX4_launchBoat 36 = .ok (.putfield 56, 3) := by decide +kernel
theorem dX4_launchBoat_39 : decode cX4_launchBoat 39 = .ok (.aload_n 0, 1) := by decide +kernel
theorem dX4_launchBoat_40 : decode cX4_launchBoat 40 = .ok (.getfield 20, 3) := by decide +kernel
theorem dX4_launchBoat_43 : decode cX4_launchBoat 43 = .ok (.iload_n 1, 1) := by decide +kernel
theorem dX4_launchBoat_44 : decode cX4_launchBoat 44 = .ok (.iconst 3, 1) := by decide +kernel
theorem dX4_launchBoat_45 : decode cX4_launchBoat 45 = .ok (.iconst 1, 1) := by decide +kernel
theorem dX4_launchBoat_46 : decode cX4_launchBoat 46 = .ok (.invokevirtual 37, 3) := by decide +kernel
theorem dX4_launchBoat_49 : decode cX4_launchBoat 49 = .ok (.aload_n 0, 1) := by decide +kernel
theorem dX4_launchBoat_50 : decode cX4_launchBoat 50 = .ok (.getfield 20, 3) := by decide +kernel
theorem dX4_launchBoat_53 : decode cX4_launchBoat 53 = .ok (.iload_n 1, 1) := by decide +kernel
theorem dX4_launchBoat_54 : decode cX4_launchBoat 54 = .ok (.iconst 4, 1) := by decide +kernel
theorem dX4_launchBoat_55 : decode cX4_launchBoat 55 = .ok (.iload_n 2, 1) := by decide +kernel
theorem dX4_launchBoat_56 : decode cX4_launchBoat 56 = .ok (.invokevirtual 37, 3) := by decide +kernel
theorem dX4_launchBoat_59 : decode cX4_launchBoat 59 = .ok (.aload_n 0, 1) := by decide +kernel
theorem dX4_launchBoat_60 : decode cX4_launchBoat 60 = .ok (.getfield 20, 3) := by decide +kernel
theorem dX4_launchBoat_63 : decode cX4_launchBoat 63 = .ok (.iload_n 1, 1) := by decide +kernel
theorem dX4_launchBoat_64 : decode cX4_launchBoat 64 = .ok (.iconst 5, 1) := by decide +kernel
theorem dX4_launchBoat_65 : decode cX4_launchBoat 65 = .ok (.iconst 0, 1) := by decide +kernel
theorem dX4_launchBoat_66 : decode cX4_launchBoat 66 = .ok (.invokevirtual 37, 3) := by decide +kernel
theorem dX4_launchBoat_69 : decode cX4_launchBoat 69 = .ok (.aload_n 0, 1) := by decide +kernel
theorem dX4_launchBoat_70 : decode cX4_launchBoat 70 = .ok (.getfield 20, 3) := by decide +kernel
theorem dX4_launchBoat_73 : decode cX4_launchBoat 73 = .ok (.iload_n 1, 1) := by decide +kernel
theorem dX4_launchBoat_74 : decode cX4_launchBoat 74 = .ok (.bipush 6, 2) := by decide +kernel
theorem dX4_launchBoat_76 : decode cX4_launchBoat 76 = .ok (.iconst 0, 1) := by decide +kernel
theorem dX4_launchBoat_77 : decode cX4_launchBoat 77 = .ok (.invokevirtual 37, 3) := by decide +kernel
theorem dX4_launchBoat_80 : decode cX4_launchBoat 80 = .ok (.aload_n 0, 1) := by decide +kernel
theorem dX4_launchBoat_81 : decode cX4_launchBoat 81 = .ok (.iload_n 2, 1) := by decide +kernel
theorem dX4_launchBoat_82 : decode cX4_launchBoat 82 = .ok (.iconst 0, 1) := by decide +kernel
theorem dX4_launchBoat_83 : decode cX4_launchBoat 83 = .ok (.invokevirtual 139, 3) := by decide +kernel
theorem dX4_launchBoat_86 : decode cX4_launchBoat 86 = .ok (.ireturn, 1) := by decide +kernel
theorem dX4_putHook_0 : decode cX4_putHook 0 = .ok (.aload_n 0, 1) := by decide +kernel
theorem dX4_putHook_1 : decode cX4_putHook 1 = .ok (.getfield 23, 3) := by decide +kernel
theorem dX4_putHook_4 : decode cX4_putHook 4 = .ok (.iload_n 1, 1) := by decide +kernel
theorem dX4_putHook_5 : decode cX4_putHook 5 = .ok (.iconst 1, 1) := by decide +kernel
theorem dX4_putHook_6 : decode cX4_putHook 6 = .ok (.iload_n 2, 1) := by decide +kernel
theorem dX4_putHook_7 : decode cX4_putHook 7 = .ok (.invokevirtual 37, 3) := by decide +kernel
theorem dX4_putHook_10 : decode cX4_putHook 10 = .ok (.aload_n 0, 1) := by decide +kernel
theorem dX4_putHook_11 : decode cX4_putHook 11 = .ok (.getfield 23, 3) := by decide +kernel
theorem dX4_putHook_14 : decode cX4_putHook 14 = .ok (.iload_n 1, 1) := by decide +kernel
theorem dX4_putHook_15 : decode cX4_putHook 15 = .ok (.iconst 2, 1) := by decide +kernel
theorem dX4_putHook_16 : decode cX4_putHook 16 = .ok (.iload_n 3, 1) := by decide +kernel
theorem dX4_putHook_17 : decode cX4_putHook 17 = .ok (.invokevirtual 37, 3) := by decide +kernel
theorem dX4_putHook_20 : decode cX4_putHook 20 = .ok (.return_, 1) := by decide +kernel
theorem dX4_takeWreck_0 : decode cX4_takeWreck 0 = .ok (.aload_n 0, 1) := by decide +kernel
theorem dX4_takeWreck_1 : decode cX4_takeWreck 1 = .ok (.getfield 20, 3) := by decide +kernel
theorem dX4_takeWreck_4 : decode cX4_takeWreck 4 = .ok (.iload_n 2, 1) := by decide +kernel
theorem dX4_takeWreck_5 : decode cX4_takeWreck 5 = .ok (.iconst 0, 1) := by decide +kernel
theorem dX4_takeWreck_6 : decode cX4_takeWreck 6 = .ok (.invokevirtual 71, 3) := by decide +kernel
theorem dX4_takeWreck_9 : decode cX4_takeWreck 9 = .ok (.istore_n 3, 1) := by decide +kernel
theorem dX4_takeWreck_10 : decode cX4_takeWreck 10 = .ok (.aload_n 0, 1) := by decide +kernel
theorem dX4_takeWreck_11 : decode cX4_takeWreck 11 = .ok (.getfield 23, 3) := by decide +kernel
theorem dX4_takeWreck_14 : decode cX4_takeWreck 14 = .ok (.iload_n 1, 1) := by decide +kernel
theorem dX4_takeWreck_15 : decode cX4_takeWreck 15 = .ok (.iconst 0, 1) := by decide +kernel
theorem dX4_takeWreck_16 : decode cX4_takeWreck 16 = .ok (.iload_n 3, 1) := by decide +kernel
theorem dX4_takeWreck_17 : decode cX4_takeWreck 17 = .ok (.invokevirtual 142, 3) := by decide +kernel
theorem dX4_takeWreck_20 : decode cX4_takeWreck 20 = .ok (.aload_n 0, 1) := by decide +kernel
theorem dX4_takeWreck_21 : decode cX4_takeWreck 21 = .ok (.iload_n 2, 1) := by decide +kernel
theorem dX4_takeWreck_22 : decode cX4_takeWreck 22 = .ok (.iconst 4, 1) := by decide +kernel
theorem dX4_takeWreck_23 : decode cX4_takeWreck 23 = .ok (.invokevirtual 133, 3) := by decide +kernel
theorem dX4_takeWreck_26 : decode cX4_takeWreck 26 = .ok (.iload_n 3, 1) := by decide +kernel
theorem dX4_takeWreck_27 : decode cX4_takeWreck 27 = .ok (.ireturn, 1) := by decide +kernel
theorem dX4_changeSetting_0 : decode cX4_changeSetting 0 = .ok (.aload_n 0, 1) := by decide +kernel
theorem dX4_changeSetting_1 : decode cX4_changeSetting 1 = .ok (.iload_n 1, 1) := by decide +kernel
theorem dX4_changeSetting_2 : decode cX4_changeSetting 2 = .ok (.invokevirtual 145, 3) := by decide +kernel
theorem dX4_changeSetting_5 : decode cX4_changeSetting 5 = .ok (.istore_n 3, 1) := by decide +kernel
theorem dX4_changeSetting_6 : decode cX4_changeSetting 6 = .ok (.iload_n 1, 1) := by decide +kernel
theorem dX4_changeSetting_7 : decode cX4_changeSetting 7 = .ok (.ifCond .ne 11, 3) := by decide +kernel
theorem dX4_changeSetting_10 : decode cX4_changeSetting 10 = .ok (.aload_n 0, 1) := by decide +kernel
theorem dX4_changeSetting_11 : decode cX4_changeSetting 11 = .ok (.iload_n 2, 1) := by decide +kernel
theorem dX4_changeSetting_12 : decode cX4_changeSetting 12 = .ok (.putfield 41, 3) := by decide +kernel
theorem dX4_changeSetting_15 : decode cX4_changeSetting 15 = .ok (.goto 21, 3) := by decide +kernel
theorem dX4_changeSetting_18 : decode cX4_changeSetting 18 = .ok (.iload_n 1, 1) := by decide +kernel
theorem dX4_changeSetting_19 : decode cX4_changeSetting 19 = .ok (.iconst 1, 1) := by decide +kernel
theorem dX4_changeSetting_20 : decode cX4_changeSetting 20 = .ok (.if_icmp .ne 11, 3) := by decide +kernel
theorem dX4_changeSetting_23 : decode cX4_changeSetting 23 = .ok (.aload_n 0, 1) := by decide +kernel
theorem dX4_changeSetting_24 : decode cX4_changeSetting 24 = .ok (.iload_n 2, 1) := by decide +kernel
theorem dX4_changeSetting_25 : decode cX4_changeSetting 25 = .ok (.putfield 44, 3) := by decide +kernel
theorem dX4_changeSetting_28 : decode cX4_changeSetting 28 = .ok (.goto 8, 3) := by decide +kernel
theorem dX4_changeSetting_31 : decode cX4_changeSetting 31 = .ok (.aload_n 0, 1) := by decide +kernel
theorem dX4_changeSetting_32 : decode cX4_changeSetting 32 = .ok (.iload_n 2, 1) := by decide +kernel
theorem dX4_changeSetting_33 : decode cX4_changeSetting 33 = .ok (.putfield 47, 3) := by decide +kernel
theorem dX4_changeSetting_36 : decode cX4_changeSetting 36 = .ok (.iload_n 3, 1) := by decide +kernel
theorem dX4_changeSetting_37 : decode cX4_changeSetting 37 = .ok (.ireturn, 1) := by decide +kernel
theorem dX4_settingNow_0 : decode cX4_settingNow 0 = .ok (.iload_n 1, 1) := by decide +kernel
theorem dX4_settingNow_1 : decode cX4_settingNow 1 = .ok (.ifCond .ne 8, 3) := by decide +kernel
theorem dX4_settingNow_4 : decode cX4_settingNow 4 = .ok (.aload_n 0, 1) := by decide +kernel
theorem dX4_settingNow_5 : decode cX4_settingNow 5 = .ok (.getfield 41, 3) := by decide +kernel
theorem dX4_settingNow_8 : decode cX4_settingNow 8 = .ok (.ireturn, 1) := by decide +kernel
theorem dX4_settingNow_9 : decode cX4_settingNow 9 = .ok (.iload_n 1, 1) := by decide +kernel
theorem dX4_settingNow_10 : decode cX4_settingNow 10 = .ok (.iconst 1, 1) := by decide +kernel
theorem dX4_settingNow_11 : decode cX4_settingNow 11 = .ok (.if_icmp .ne 10, 3) := by decide +kernel
theorem dX4_settingNow_14 : decode cX4_settingNow 14 = .ok (.aload_n 0, 1) := by decide +kernel
theorem dX4_settingNow_15 : decode cX4_settingNow 15 = .ok (.getfield 44, 3) := by decide +kernel
theorem dX4_settingNow_18 : decode cX4_settingNow 18 = .ok (.goto 7, 3) := by decide +kernel
theorem dX4_settingNow_21 : decode cX4_settingNow 21 = .ok (.aload_n 0, 1) := by decide +kernel
theorem dX4_settingNow_22 : decode cX4_settingNow 22 = .ok (.getfield 47, 3) := by decide +kernel
theorem dX4_settingNow_25 : decode cX4_settingNow 25 = .ok (.ireturn, 1) := by decide +kernel
theorem dX4_passMinutes_0 : decode cX4_passMinutes 0 = .ok (.iconst 0, 1) := by decide +kernel
theorem dX4_passMinutes_1 : decode cX4_passMinutes 1 = .ok (.istore_n 2, 1) := by decide +kernel
theorem dX4_passMinutes_2 : decode cX4_passMinutes 2 = .ok (.iconst 0, 1) := by decide +kernel
theorem dX4_passMinutes_3 : decode cX4_passMinutes 3 = .ok (.istore_n 3, 1) := by decide +kernel
theorem dX4_passMinutes_4 : decode cX4_passMinutes 4 = .ok (.iload_n 3, 1) := by decide +kernel
theorem dX4_passMinutes_5 : decode cX4_passMinutes 5 = .ok (.iload_n 1, 1) := by decide +kernel
theorem dX4_passMinutes_6 : decode cX4_passMinutes 6 = .ok (.if_icmp .ge 107, 3) := by decide +kernel
theorem dX4_passMinutes_9 : decode cX4_passMinutes 9 = .ok (.aload_n 0, 1) := by decide +kernel
theorem dX4_passMinutes_10 : decode cX4_passMinutes 10 = .ok (.dup, 1) := by decide +kernel
theorem dX4_passMinutes_11 : decode cX4_passMinutes 11 = .ok (.getfield 50, 3) := by decide +kernel
theorem dX4_passMinutes_14 : decode cX4_passMinutes 14 = .ok (.iconst 1, 1) := by decide +kernel
theorem dX4_passMinutes_15 : decode cX4_passMinutes 15 = .ok (.iadd, 1) := by decide +kernel
theorem dX4_passMinutes_16 : decode cX4_passMinutes 16 = .ok (.putfield 50, 3) := by decide +kernel
theorem dX4_passMinutes_19 : decode cX4_passMinutes 19 = .ok (.iconst 0, 1) := by decide +kernel
theorem dX4_passMinutes_20 : decode cX4_passMinutes 20 = .ok (.istore 4, 2) := by decide +kernel
theorem dX4_passMinutes_22 : decode cX4_passMinutes 22 = .ok (.iload 4, 2) := by decide +kernel
theorem dX4_passMinutes_24 : decode cX4_passMinutes 24 = .ok (.aload_n 0, 1) := by decide +kernel
theorem dX4_passMinutes_25 : decode cX4_passMinutes 25 = .ok (.getfield 20, 3) := by decide +kernel
theorem dX4_passMinutes_28 : decode cX4_passMinutes 28 = .ok (.getfield 29, 3) := by decide +kernel
theorem dX4_passMinutes_31 : decode cX4_passMinutes 31 = .ok (.if_icmp .ge 53, 3) := by decide +kernel
theorem dX4_passMinutes_34 : decode cX4_passMinutes 34 = .ok (.aload_n 0, 1) := by decide +kernel
theorem dX4_passMinutes_35 : decode cX4_passMinutes 35 = .ok (.getfield 20, 3) := by decide +kernel
theorem dX4_passMinutes_38 : decode cX4_passMinutes 38 = .ok (.iload 4, 2) := by decide +kernel
theorem dX4_passMinutes_40 : decode cX4_passMinutes 40 = .ok (.iconst 3, 1) := by decide +kernel
theorem dX4_passMinutes_41 : decode cX4_passMinutes 41 = .ok (.invokevirtual 71, 3) := by decide +kernel
theorem dX4_passMinutes_44 : decode cX4_passMinutes 44 = .ok (.iconst 1, 1) := by decide +kernel
theorem dX4_passMinutes_45 : decode cX4_passMinutes 45 = .ok (.if_icmp .eq 6, 3) := by decide +kernel
theorem dX4_passMinutes_48 : decode cX4_passMinutes 48 = .ok (.goto 30, 3) := by decide +kernel
theorem dX4_passMinutes_51 : decode cX4_passMinutes 51 = .ok (.aload_n 0, 1) := by decide +kernel
theorem dX4_passMinutes_52 : decode cX4_passMinutes 52 = .ok (.iload 4, 2) := by decide +kernel
theorem dX4_passMinutes_54 : decode cX4_passMinutes 54 = .ok (.invokevirtual 148, 3) := by decide +kernel
theorem dX4_passMinutes_57 : decode cX4_passMinutes 57 = .ok (.ifCond .eq 15, 3) := by decide +kernel
theorem dX4_passMinutes_60 : decode cX4_passMinutes 60 = .ok (.aload_n 0, 1) := by decide +kernel
theorem dX4_passMinutes_61 : decode cX4_passMinutes 61 = .ok (.iload 4, 2) := by decide +kernel
theorem dX4_passMinutes_63 : decode cX4_passMinutes 63 = .ok (.invokevirtual 151, 3) := by decide +kernel
theorem dX4_passMinutes_66 : decode cX4_passMinutes 66 = .ok (.iinc 2 1, 3) := by decide +kernel
theorem dX4_passMinutes_69 : decode cX4_passMinutes 69 = .ok (.goto 9, 3) := by decide +kernel
theorem dX4_passMinutes_72 : decode cX4_passMinutes 72 = .ok (.aload_n 0, 1) := by decide +kernel
theorem dX4_passMinutes_73 : decode cX4_passMinutes 73 = .ok (.iload 4, 2) := by decide +kernel
theorem dX4_passMinutes_75 : decode cX4_passMinutes 75 = .ok (.invokevirtual 155, 3) := by decide +kernel
theorem dX4_passMinutes_78 : decode cX4_passMinutes 78 = .ok (.iinc 4 1, 3) := by decide +kernel
theorem dX4_passMinutes_81 : decode cX4_passMinutes 81 = .ok (.goto (-59), 3) := by decide +kernel
theorem dX4_passMinutes_84 : decode cX4_passMinutes 84 = .ok (.aload_n 0, 1) := by decide +kernel
theorem dX4_passMinutes_85 : decode cX4_passMinutes 85 = .ok (.getfield 56, 3) := by decide +kernel
theorem dX4_passMinutes_88 : decode cX4_passMinutes 88 = .ok (.ifCond .eq 19, 3) := by decide +kernel
theorem dX4_passMinutes_91 : decode cX4_passMinutes 91 = .ok (.aload_n 0, 1) := by decide +kernel
theorem dX4_passMinutes_92 : decode cX4_passMinutes 92 = .ok (.getfield 20, 3) := by decide +kernel
theorem dX4_passMinutes_95 : decode cX4_passMinutes 95 = .ok (.iconst 3, 1) := by decide +kernel
theorem dX4_passMinutes_96 : decode cX4_passMinutes 96 = .ok (.iconst 1, 1) := by decide +kernel
theorem dX4_passMinutes_97 : decode cX4_passMinutes 97 = .ok (.invokevirtual 136, 3) := by decide +kernel
theorem dX4_passMinutes_100 : decode cX4_passMinutes 100 = .ok (.ifCond .ne 7, 3) := by decide +kernel
theorem dX4_passMinutes_103 : decode cX4_passMinutes 103 = .ok (.aload_n 0, 1) := by decide +kernel
theorem dX4_passMinutes_104 : decode cX4_passMinutes 104 = .ok (.invokevirtual 158, 3) := by decide +kernel
theorem dX4_passMinutes_107 : decode cX4_passMinutes 107 = .ok (.iinc 3 1, 3) := by decide +kernel
theorem dX4_passMinutes_110 : decode cX4_passMinutes 110 = .ok (.goto (-106), 3) := by decide +kernel
theorem dX4_passMinutes_113 : decode cX4_passMinutes 113 = .ok (.iload_n 2, 1) := by decide +kernel
theorem dX4_passMinutes_114 : decode cX4_passMinutes 114 = .ok (.ireturn, 1) := by decide +kernel
theorem dX4_driftsIntoDrain_0 : decode cX4_driftsIntoDrain 0 = .ok (.aload_n 0, 1) := by decide +kernel
theorem dX4_driftsIntoDrain_1 : decode cX4_driftsIntoDrain 1 = .ok (.getfield 14, 3) := by decide +kernel
theorem dX4_driftsIntoDrain_4 : decode cX4_driftsIntoDrain 4 = .ok (.aload_n 0, 1) := by decide +kernel
theorem dX4_driftsIntoDrain_5 : decode cX4_driftsIntoDrain 5 = .ok (.getfield 20, 3) := by decide +kernel
theorem dX4_driftsIntoDrain_8 : decode cX4_driftsIntoDrain 8 = .ok (.iload_n 1, 1) := by decide +kernel
theorem dX4_driftsIntoDrain_9 : decode cX4_driftsIntoDrain 9 = .ok (.iconst 4, 1) := by decide +kernel
theorem dX4_driftsIntoDrain_10 : decode cX4_driftsIntoDrain 10 = .ok (.invokevirtual 71, 3) := by decide +kernel
theorem dX4_driftsIntoDrain_13 : decode cX4_driftsIntoDrain 13 = .ok (.iconst 1, 1) := by decide +kernel
theorem dX4_driftsIntoDrain_14 : decode cX4_driftsIntoDrain 14 = .ok (.invokevirtual 71, 3) := by decide +kernel
theorem dX4_driftsIntoDrain_17 : decode cX4_driftsIntoDrain 17 = .ok (.aload_n 0, 1) := by decide +kernel
theorem dX4_driftsIntoDrain_18 : decode cX4_driftsIntoDrain 18 = .ok (.getfield 41, 3) := by decide +kernel
theorem dX4_driftsIntoDrain_21 : decode cX4_driftsIntoDrain 21 = .ok (.iadd, 1) := by decide +kernel
theorem dX4_driftsIntoDrain_22 : decode cX4_driftsIntoDrain 22 = .ok (.aload_n 0, 1) := by decide +kernel
theorem dX4_driftsIntoDrain_23 : decode cX4_driftsIntoDrain 23 = .ok (.getfield 20, 3) := by decide +kernel
theorem dX4_driftsIntoDrain_26 : decode cX4_driftsIntoDrain 26 = .ok (.iload_n 1, 1) := by decide +kernel
theorem dX4_driftsIntoDrain_27 : decode cX4_driftsIntoDrain 27 = .ok (.iconst 0, 1) := by decide +kernel
theorem dX4_driftsIntoDrain_28 : decode cX4_driftsIntoDrain 28 = .ok (.invokevirtual 71, 3) := by decide +kernel
theorem dX4_driftsIntoDrain_31 : decode cX4_driftsIntoDrain 31 = .ok (.iconst 4, 1) := by decide +kernel
theorem dX4_driftsIntoDrain_32 : decode cX4_driftsIntoDrain 32 = .ok (.idiv, 1) := by decide +kernel
theorem dX4_driftsIntoDrain_33 : decode cX4_driftsIntoDrain 33 = .ok (.isub, 1) := by decide +kernel
theorem dX4_driftsIntoDrain_34 : decode cX4_driftsIntoDrain 34 = .ok (.istore_n 2, 1) := by decide +kernel
theorem dX4_driftsIntoDrain_35 : decode cX4_driftsIntoDrain 35 = .ok (.iconst 0, 1) := by decide +kernel
theorem dX4_driftsIntoDrain_36 : decode cX4_driftsIntoDrain 36 = .ok (.istore_n 3, 1) := by decide +kernel
theorem dX4_driftsIntoDrain_37 : decode cX4_driftsIntoDrain 37 = .ok (.iload_n 3, 1) := by decide +kernel
theorem dX4_driftsIntoDrain_38 : decode cX4_driftsIntoDrain 38 = .ok (.iload_n 2, 1) := by decide +kernel
theorem dX4_driftsIntoDrain_39 : decode cX4_driftsIntoDrain 39 = .ok (.if_icmp .ge 117, 3) := by decide +kernel
theorem dX4_driftsIntoDrain_42 : decode cX4_driftsIntoDrain 42 = .ok (.aload_n 0, 1) := by decide +kernel
theorem dX4_driftsIntoDrain_43 : decode cX4_driftsIntoDrain 43 = .ok (.aload_n 0, 1) := by decide +kernel
theorem dX4_driftsIntoDrain_44 : decode cX4_driftsIntoDrain 44 = .ok (.getfield 20, 3) := by decide +kernel
theorem dX4_driftsIntoDrain_47 : decode cX4_driftsIntoDrain 47 = .ok (.iload_n 1, 1) := by decide +kernel
theorem dX4_driftsIntoDrain_48 : decode cX4_driftsIntoDrain 48 = .ok (.iconst 4, 1) := by decide +kernel
theorem dX4_driftsIntoDrain_49 : decode cX4_driftsIntoDrain 49 = .ok (.invokevirtual 71, 3) := by decide +kernel
theorem dX4_driftsIntoDrain_52 : decode cX4_driftsIntoDrain 52 = .ok (.aload_n 0, 1) := by decide +kernel
theorem dX4_driftsIntoDrain_53 : decode cX4_driftsIntoDrain 53 = .ok (.getfield 20, 3) := by decide +kernel
theorem dX4_driftsIntoDrain_56 : decode cX4_driftsIntoDrain 56 = .ok (.iload_n 1, 1) := by decide +kernel
theorem dX4_driftsIntoDrain_57 : decode cX4_driftsIntoDrain 57 = .ok (.iconst 5, 1) := by decide +kernel
theorem dX4_driftsIntoDrain_58 : decode cX4_driftsIntoDrain 58 = .ok (.invokevirtual 71, 3) := by decide +kernel
theorem dX4_driftsIntoDrain_61 : decode cX4_driftsIntoDrain 61 = .ok (.invokevirtual 161, 3) := by decide +kernel
theorem dX4_driftsIntoDrain_64 : decode cX4_driftsIntoDrain 64 = .ok (.istore 4, 2) := by decide +kernel
theorem dX4_driftsIntoDrain_66 : decode cX4_driftsIntoDrain 66 = .ok (.aload_n 0, 1) := by decide +kernel
theorem dX4_driftsIntoDrain_67 : decode cX4_driftsIntoDrain 67 = .ok (.aload_n 0, 1) := by decide +kernel
theorem dX4_driftsIntoDrain_68 : decode cX4_driftsIntoDrain 68 = .ok (.getfield 20, 3) := by decide +kernel
theorem dX4_driftsIntoDrain_71 : decode cX4_driftsIntoDrain 71 = .ok (.iload_n 1, 1) := by decide +kernel
theorem dX4_driftsIntoDrain_72 : decode cX4_driftsIntoDrain 72 = .ok (.iconst 4, 1) := by decide +kernel
theorem dX4_driftsIntoDrain_73 : decode cX4_driftsIntoDrain 73 = .ok (.invokevirtual 71, 3) := by decide +kernel
theorem dX4_driftsIntoDrain_76 : decode cX4_driftsIntoDrain 76 = .ok (.aload_n 0, 1) := by decide +kernel
theorem dX4_driftsIntoDrain_77 : decode cX4_driftsIntoDrain 77 = .ok (.getfield 20, 3) := by decide +kernel
theorem dX4_driftsIntoDrain_80 : decode cX4_driftsIntoDrain 80 = .ok (.iload_n 1, 1) := by decide +kernel
theorem dX4_driftsIntoDrain_81 : decode cX4_driftsIntoDrain 81 = .ok (.iconst 5, 1) := by decide +kernel
theorem dX4_driftsIntoDrain_82 : decode cX4_driftsIntoDrain 82 = .ok (.invokevirtual 71, 3) := by decide +kernel
theorem dX4_driftsIntoDrain_85 : decode cX4_driftsIntoDrain 85 = .ok (.invokevirtual 164, 3) := by decide +kernel
theorem dX4_driftsIntoDrain_88 : decode cX4_driftsIntoDrain 88 = .ok (.istore 5, 2) := by decide +kernel
theorem dX4_driftsIntoDrain_90 : decode cX4_driftsIntoDrain 90 = .ok (.iload 4, 2) := by decide +kernel
theorem dX4_driftsIntoDrain_92 : decode cX4_driftsIntoDrain 92 = .ok (.iconst (-1), 1) := by decide +kernel
theorem dX4_driftsIntoDrain_93 : decode cX4_driftsIntoDrain 93 = .ok (.if_icmp .eq 16, 3) := by decide +kernel
theorem dX4_driftsIntoDrain_96 : decode cX4_driftsIntoDrain 96 = .ok (.aload_n 0, 1) := by decide +kernel
theorem dX4_driftsIntoDrain_97 : decode cX4_driftsIntoDrain 97 = .ok (.iload 4, 2) := by decide +kernel
theorem dX4_driftsIntoDrain_99 : decode cX4_driftsIntoDrain 99 = .ok (.iload 5, 2) := by decide +kernel
theorem dX4_driftsIntoDrain_101 : decode cX4_driftsIntoDrain 101 = .ok (.invokevirtual 167, 3) := by decide +kernel
theorem dX4_driftsIntoDrain_104 : decode cX4_driftsIntoDrain 104 = .ok (.ifCond .eq 5, 3) := by decide +kernel
theorem dX4_driftsIntoDrain_107 : decode cX4_driftsIntoDrain 107 = .ok (.iconst 0, 1) := by decide +kernel
theorem dX4_driftsIntoDrain_108 : decode cX4_driftsIntoDrain 108 = .ok (.ireturn, 1) := by decide +kernel
theorem dX4_driftsIntoDrain_109 : decode cX4_driftsIntoDrain 109 = .ok (.aload_n 0, 1) := by decide +kernel
theorem dX4_driftsIntoDrain_110 : decode cX4_driftsIntoDrain 110 = .ok (.getfield 20, 3) := by decide +kernel
theorem dX4_driftsIntoDrain_113 : decode cX4_driftsIntoDrain 113 = .ok (.iload_n 1, 1) := by decide +kernel
theorem dX4_driftsIntoDrain_114 : decode cX4_driftsIntoDrain 114 = .ok (.bipush 9, 2) := by decide +kernel
theorem dX4_driftsIntoDrain_116 : decode cX4_driftsIntoDrain 116 = .ok (.iconst 1, 1) := by decide +kernel
theorem dX4_driftsIntoDrain_117 : decode cX4_driftsIntoDrain 117 = .ok (.invokevirtual 142, 3) := by decide +kernel
theorem dX4_driftsIntoDrain_120 : decode cX4_driftsIntoDrain 120 = .ok (.aload_n 0, 1) := by decide +kernel
theorem dX4_driftsIntoDrain_121 : decode cX4_driftsIntoDrain 121 = .ok (.getfield 20, 3) := by decide +kernel
theorem dX4_driftsIntoDrain_124 : decode cX4_driftsIntoDrain 124 = .ok (.iload_n 1, 1) := by decide +kernel
theorem dX4_driftsIntoDrain_125 : decode cX4_driftsIntoDrain 125 = .ok (.iconst 4, 1) := by decide +kernel
theorem dX4_driftsIntoDrain_126 : decode cX4_driftsIntoDrain 126 = .ok (.iload 4, 2) := by decide +kernel
theorem dX4_driftsIntoDrain_128 : decode cX4_driftsIntoDrain 128 = .ok (.invokevirtual 37, 3) := by decide +kernel
theorem dX4_driftsIntoDrain_131 : decode cX4_driftsIntoDrain 131 = .ok (.aload_n 0, 1) := by decide +kernel
theorem dX4_driftsIntoDrain_132 : decode cX4_driftsIntoDrain 132 = .ok (.getfield 20, 3) := by decide +kernel
theorem dX4_driftsIntoDrain_135 : decode cX4_driftsIntoDrain 135 = .ok (.iload_n 1, 1) := by decide +kernel
theorem dX4_driftsIntoDrain_136 : decode cX4_driftsIntoDrain 136 = .ok (.iconst 5, 1) := by decide +kernel
theorem dX4_driftsIntoDrain_137 : decode cX4_driftsIntoDrain 137 = .ok (.iload 5, 2) := by decide +kernel
theorem dX4_driftsIntoDrain_139 : decode cX4_driftsIntoDrain 139 = .ok (.invokevirtual 37, 3) := by decide +kernel
theorem dX4_driftsIntoDrain_142 : decode cX4_driftsIntoDrain 142 = .ok (.iload 4, 2) := by decide +kernel
theorem dX4_driftsIntoDrain_144 : decode cX4_driftsIntoDrain 144 = .ok (.iconst (-1), 1) := by decide +kernel
theorem dX4_driftsIntoDrain_145 : decode cX4_driftsIntoDrain 145 = .ok (.if_icmp .ne 5, 3) := by decide +kernel
theorem dX4_driftsIntoDrain_148 : decode cX4_driftsIntoDrain 148 = .ok (.iconst 1, 1) := by decide +kernel
theorem dX4_driftsIntoDrain_149 : decode cX4_driftsIntoDrain 149 = .ok (.ireturn, 1) := by decide +kernel
theorem dX4_driftsIntoDrain_150 : decode cX4_driftsIntoDrain 150 = .ok (.iinc 3 1, 3) := by decide +kernel
theorem dX4_driftsIntoDrain_153 : decode cX4_driftsIntoDrain 153 = .ok (.goto (-116), 3) := by decide +kernel
theorem dX4_driftsIntoDrain_156 : decode cX4_driftsIntoDrain 156 = .ok (.iconst 0, 1) := by decide +kernel
theorem dX4_driftsIntoDrain_157 : decode cX4_driftsIntoDrain 157 = .ok (.ireturn, 1) := by decide +kernel
theorem dX4_nextGutter_0 : decode cX4_nextGutter 0 = .ok (.iload_n 2, 1) := by decide +kernel
theorem dX4_nextGutter_1 : decode cX4_nextGutter 1 = .ok (.iconst 1, 1) := by decide +kernel
theorem dX4_nextGutter_2 : decode cX4_nextGutter 2 = .ok (.iadd, 1) := by decide +kernel
theorem dX4_nextGutter_3 : decode cX4_nextGutter 3 = .ok (.aload_n 0, 1) := by decide +kernel
theorem dX4_nextGutter_4 : decode cX4_nextGutter 4 = .ok (.getfield 14, 3) := by decide +kernel
theorem dX4_nextGutter_7 : decode cX4_nextGutter 7 = .ok (.iload_n 1, 1) := by decide +kernel
theorem dX4_nextGutter_8 : decode cX4_nextGutter 8 = .ok (.iconst 0, 1) := by decide +kernel
theorem dX4_nextGutter_9 : decode cX4_nextGutter 9 = .ok (.invokevirtual 71, 3) := by decide +kernel
theorem dX4_nextGutter_12 : decode cX4_nextGutter 12 = .ok (.if_icmp .ge 7, 3) := by decide +kernel
theorem dX4_nextGutter_15 : decode cX4_nextGutter 15 = .ok (.iload_n 1, 1) := by decide +kernel
theorem dX4_nextGutter_16 : decode cX4_nextGutter 16 = .ok (.goto 12, 3) := by decide +kernel
theorem dX4_nextGutter_19 : decode cX4_nextGutter 19 = .ok (.aload_n 0, 1) := by decide +kernel
theorem dX4_nextGutter_20 : decode cX4_nextGutter 20 = .ok (.getfield 14, 3) := by decide +kernel
theorem dX4_nextGutter_23 : decode cX4_nextGutter 23 = .ok (.iload_n 1, 1) := by decide +kernel
theorem dX4_nextGutter_24 : decode cX4_nextGutter 24 = .ok (.iconst 2, 1) := by decide +kernel
theorem dX4_nextGutter_25 : decode cX4_nextGutter 25 = .ok (.invokevirtual 71, 3) := by decide +kernel
theorem dX4_nextGutter_28 : decode cX4_nextGutter 28 = .ok (.ireturn, 1) := by decide +kernel
theorem dX4_nextCell_0 : decode cX4_nextCell 0 = .ok (.iload_n 2, 1) := by decide +kernel
theorem dX4_nextCell_1 : decode cX4_nextCell 1 = .ok (.iconst 1, 1) := by decide +kernel
theorem dX4_nextCell_2 : decode cX4_nextCell 2 = .ok (.iadd, 1) := by decide +kernel
theorem dX4_nextCell_3 : decode cX4_nextCell 3 = .ok (.aload_n 0, 1) := by decide +kernel
theorem dX4_nextCell_4 : decode cX4_nextCell 4 = .ok (.getfield 14, 3) := by decide +kernel
theorem dX4_nextCell_7 : decode cX4_nextCell 7 = .ok (.iload_n 1, 1) := by decide +kernel
theorem dX4_nextCell_8 : decode cX4_nextCell 8 = .ok (.iconst 0, 1) := by decide +kernel
theorem dX4_nextCell_9 : decode cX4_nextCell 9 = .ok (.invokevirtual 71, 3) := by decide +kernel
theorem dX4_nextCell_12 : decode cX4_nextCell 12 = .ok (.if_icmp .ge 9, 3) := by decide +kernel
theorem dX4_nextCell_15 : decode cX4_nextCell 15 = .ok (.iload_n 2, 1) := by decide +kernel
theorem dX4_nextCell_16 : decode cX4_nextCell 16 = .ok (.iconst 1, 1) := by decide +kernel
theorem dX4_nextCell_17 : decode cX4_nextCell 17 = .ok (.iadd, 1) := by decide +kernel
theorem dX4_nextCell_18 : decode cX4_nextCell 18 = .ok (.goto 12, 3) := by decide +kernel
theorem dX4_nextCell_21 : decode cX4_nextCell 21 = .ok (.aload_n 0, 1) := by decide +kernel
theorem dX4_nextCell_22 : decode cX4_nextCell 22 = .ok (.getfield 14, 3) := by decide +kernel
theorem dX4_nextCell_25 : decode cX4_nextCell 25 = .ok (.iload_n 1, 1) := by decide +kernel
theorem dX4_nextCell_26 : decode cX4_nextCell 26 = .ok (.iconst 3, 1) := by decide +kernel
theorem dX4_nextCell_27 : decode cX4_nextCell 27 = .ok (.invokevirtual 71, 3) := by decide +kernel
theorem dX4_nextCell_30 : decode cX4_nextCell 30 = .ok (.ireturn, 1) := by decide +kernel
theorem dX4_hasWreck_0 : decode cX4_hasWreck 0 = .ok (.iconst 0, 1) := by decide +kernel
theorem dX4_hasWreck_1 : decode cX4_hasWreck 1 = .ok (.istore_n 3, 1) := by decide +kernel
theorem dX4_hasWreck_2 : decode cX4_hasWreck 2 = .ok (.iload_n 3, 1) := by decide +kernel
theorem dX4_hasWreck_3 : decode cX4_hasWreck 3 = .ok (.aload_n 0, 1) := by decide +kernel
theorem dX4_hasWreck_4 : decode cX4_hasWreck 4 = .ok (.getfield 20, 3) := by decide +kernel
theorem dX4_hasWreck_7 : decode cX4_hasWreck 7 = .ok (.getfield 29, 3) := by decide +kernel
theorem dX4_hasWreck_10 : decode cX4_hasWreck 10 = .ok (.if_icmp .ge 50, 3) := by decide +kernel
theorem dX4_hasWreck_13 : decode cX4_hasWreck 13 = .ok (.aload_n 0, 1) := by decide +kernel
theorem dX4_hasWreck_14 : decode cX4_hasWreck 14 = .ok (.getfield 20, 3) := by decide +kernel
theorem dX4_hasWreck_17 : decode cX4_hasWreck 17 = .ok (.iload_n 3, 1) := by decide +kernel
theorem dX4_hasWreck_18 : decode cX4_hasWreck 18 = .ok (.iconst 3, 1) := by decide +kernel
theorem dX4_hasWreck_19 : decode cX4_hasWreck 19 = .ok (.invokevirtual 71, 3) := by decide +kernel
theorem dX4_hasWreck_22 : decode cX4_hasWreck 22 = .ok (.iconst 3, 1) := by decide +kernel
theorem dX4_hasWreck_23 : decode cX4_hasWreck 23 = .ok (.if_icmp .ne 31, 3) := by decide +kernel
theorem dX4_hasWreck_26 : decode cX4_hasWreck 26 = .ok (.aload_n 0, 1) := by decide +kernel
theorem dX4_hasWreck_27 : decode cX4_hasWreck 27 = .ok (.getfield 20, 3) := by decide +kernel
theorem dX4_hasWreck_30 : decode cX4_hasWreck 30 = .ok (.iload_n 3, 1) := by decide +kernel
theorem dX4_hasWreck_31 : decode cX4_hasWreck 31 = .ok (.iconst 4, 1) := by decide +kernel
theorem dX4_hasWreck_32 : decode cX4_hasWreck 32 = .ok (.invokevirtual 71, 3) := by decide +kernel
theorem dX4_hasWreck_35 : decode cX4_hasWreck 35 = .ok (.iload_n 1, 1) := by decide +kernel
theorem dX4_hasWreck_36 : decode cX4_hasWreck 36 = .ok (.if_icmp .ne 18, 3) := by decide +kernel
theorem dX4_hasWreck_39 : decode cX4_hasWreck 39 = .ok (.aload_n 0, 1) := by decide +kernel
theorem dX4_hasWreck_40 : decode cX4_hasWreck 40 = .ok (.getfield 20, 3) := by decide +kernel
theorem dX4_hasWreck_43 : decode cX4_hasWreck 43 = .ok (.iload_n 3, 1) := by decide +kernel
theorem dX4_hasWreck_44 : decode cX4_hasWreck 44 = .ok (.iconst 5, 1) := by decide +kernel
theorem dX4_hasWreck_45 : decode cX4_hasWreck 45 = .ok (.invokevirtual 71, 3) := by decide +kernel
theorem dX4_hasWreck_48 : decode cX4_hasWreck 48 = .ok (.iload_n 2, 1) := by decide +kernel
theorem dX4_hasWreck_49 : decode cX4_hasWreck 49 = .ok (.if_icmp .ne 5, 3) := by decide +kernel
theorem dX4_hasWreck_52 : decode cX4_hasWreck 52 = .ok (.iconst 1, 1) := by decide +kernel
theorem dX4_hasWreck_53 : decode cX4_hasWreck 53 = .ok (.ireturn, 1) := by decide +kernel
theorem dX4_hasWreck_54 : decode cX4_hasWreck 54 = .ok (.iinc 3 1, 3) := by decide +kernel
theorem dX4_hasWreck_57 : decode cX4_hasWreck 57 = .ok (.goto (-55), 3) := by decide +kernel
theorem dX4_hasWreck_60 : decode cX4_hasWreck 60 = .ok (.iconst 0, 1) := by decide +kernel
theorem dX4_hasWreck_61 : decode cX4_hasWreck 61 = .ok (.ireturn, 1) := by decide +kernel
theorem dX4_arrive_0 : decode cX4_arrive 0 = .ok (.aload_n 0, 1) := by decide +kernel
theorem dX4_arrive_1 : decode cX4_arrive 1 = .ok (.getfield 20, 3) := by decide +kernel
theorem dX4_arrive_4 : decode cX4_arrive 4 = .ok (.iconst 3, 1) := by decide +kernel
theorem dX4_arrive_5 : decode cX4_arrive 5 = .ok (.iconst 2, 1) := by decide +kernel
theorem dX4_arrive_6 : decode cX4_arrive 6 = .ok (.invokevirtual 136, 3) := by decide +kernel
theorem dX4_arrive_9 : decode cX4_arrive 9 = .ok (.iconst 1, 1) := by decide +kernel
theorem dX4_arrive_10 : decode cX4_arrive 10 = .ok (.iadd, 1) := by decide +kernel
theorem dX4_arrive_11 : decode cX4_arrive 11 = .ok (.istore_n 2, 1) := by decide +kernel
theorem dX4_arrive_12 : decode cX4_arrive 12 = .ok (.aload_n 0, 1) := by decide +kernel
theorem dX4_arrive_13 : decode cX4_arrive 13 = .ok (.iload_n 1, 1) := by decide +kernel
theorem dX4_arrive_14 : decode cX4_arrive 14 = .ok (.iconst 2, 1) := by decide +kernel
theorem dX4_arrive_15 : decode cX4_arrive 15 = .ok (.invokevirtual 133, 3) := by decide +kernel
theorem dX4_arrive_18 : decode cX4_arrive 18 = .ok (.aload_n 0, 1) := by decide +kernel
theorem dX4_arrive_19 : decode cX4_arrive 19 = .ok (.getfield 20, 3) := by decide +kernel
theorem dX4_arrive_22 : decode cX4_arrive 22 = .ok (.iload_n 1, 1) := by decide +kernel
theorem dX4_arrive_23 : decode cX4_arrive 23 = .ok (.bipush 7, 2) := by decide +kernel
theorem dX4_arrive_25 : decode cX4_arrive 25 = .ok (.iload_n 2, 1) := by decide +kernel
theorem dX4_arrive_26 : decode cX4_arrive 26 = .ok (.invokevirtual 37, 3) := by decide +kernel
theorem dX4_arrive_29 : decode cX4_arrive 29 = .ok (.return_, 1) := by decide +kernel
theorem dX4_soakUp_0 : decode cX4_soakUp 0 = .ok (.aload_n 0, 1) := by decide +kernel
theorem dX4_soakUp_1 : decode cX4_soakUp 1 = .ok (.getfield 20, 3) := by decide +kernel
theorem dX4_soakUp_4 : decode cX4_soakUp 4 = .ok (.iload_n 1, 1) := by decide +kernel
theorem dX4_soakUp_5 : decode cX4_soakUp 5 = .ok (.bipush 6, 2) := by decide +kernel
theorem dX4_soakUp_7 : decode cX4_soakUp 7 = .ok (.iconst 1, 1) := by decide +kernel
theorem dX4_soakUp_8 : decode cX4_soakUp 8 = .ok (.aload_n 0, 1) := by decide +kernel
theorem dX4_soakUp_9 : decode cX4_soakUp 9 = .ok (.getfield 41, 3) := by decide +kernel
theorem dX4_soakUp_12 : decode cX4_soakUp 12 = .ok (.iadd, 1) := by decide +kernel
theorem dX4_soakUp_13 : decode cX4_soakUp 13 = .ok (.invokevirtual 142, 3) := by decide +kernel
theorem dX4_soakUp_16 : decode cX4_soakUp 16 = .ok (.aload_n 0, 1) := by decide +kernel
theorem dX4_soakUp_17 : decode cX4_soakUp 17 = .ok (.getfield 20, 3) := by decide +kernel
theorem dX4_soakUp_20 : decode cX4_soakUp 20 = .ok (.iload_n 1, 1) := by decide +kernel
theorem dX4_soakUp_21 : decode cX4_soakUp 21 = .ok (.bipush 6, 2) := by decide +kernel
theorem dX4_soakUp_23 : decode cX4_soakUp 23 = .ok (.invokevirtual 71, 3) := by decide +kernel
theorem dX4_soakUp_26 : decode cX4_soakUp 26 = .ok (.aload_n 0, 1) := by decide +kernel
theorem dX4_soakUp_27 : decode cX4_soakUp 27 = .ok (.iload_n 1, 1) := by decide +kernel
theorem dX4_soakUp_28 : decode cX4_soakUp 28 = .ok (.invokevirtual 170, 3) := by decide +kernel
theorem dX4_soakUp_31 : decode cX4_soakUp 31 = .ok (.if_icmp .le 13, 3) := by decide +kernel
theorem dX4_soakUp_34 : decode cX4_soakUp 34 = .ok (.aload_n 0, 1) := by decide +kernel
theorem dX4_soakUp_35 : decode cX4_soakUp 35 = .ok (.getfield 20, 3) := by decide +kernel
theorem dX4_soakUp_38 : decode cX4_soakUp 38 = .ok (.iload_n 1, 1) := by decide +kernel
theorem dX4_soakUp_39 : decode cX4_soakUp 39 = .ok (.iconst 3, 1) := by decide +kernel
theorem dX4_soakUp_40 : decode cX4_soakUp 40 = .ok (.iconst 3, 1) := by decide +kernel
theorem dX4_soakUp_41 : decode cX4_soakUp 41 = .ok (.invokevirtual 37, 3) := by decide +kernel
theorem dX4_soakUp_44 : decode cX4_soakUp 44 = .ok (.return_, 1) := by decide +kernel
theorem dX4_soakLimit_0 : decode cX4_soakLimit 0 = .ok (.aload_n 0, 1) := by decide +kernel
theorem dX4_soakLimit_1 : decode cX4_soakLimit 1 = .ok (.getfield 20, 3) := by decide +kernel
theorem dX4_soakLimit_4 : decode cX4_soakLimit 4 = .ok (.iload_n 1, 1) := by decide +kernel
theorem dX4_soakLimit_5 : decode cX4_soakLimit 5 = .ok (.iconst 0, 1) := by decide +kernel
theorem dX4_soakLimit_6 : decode cX4_soakLimit 6 = .ok (.invokevirtual 71, 3) := by decide +kernel
theorem dX4_soakLimit_9 : decode cX4_soakLimit 9 = .ok (.aload_n 0, 1) := by decide +kernel
theorem dX4_soakLimit_10 : decode cX4_soakLimit 10 = .ok (.getfield 44, 3) := by decide +kernel
theorem dX4_soakLimit_13 : decode cX4_soakLimit 13 = .ok (.imul, 1) := by decide +kernel
theorem dX4_soakLimit_14 : decode cX4_soakLimit 14 = .ok (.iconst 4, 1) := by decide +kernel
theorem dX4_soakLimit_15 : decode cX4_soakLimit 15 = .ok (.aload_n 0, 1) := by decide +kernel
theorem dX4_soakLimit_16 : decode cX4_soakLimit 16 = .ok (.getfield 20, 3) := by decide +kernel
theorem dX4_soakLimit_19 : decode cX4_soakLimit 19 = .ok (.iload_n 1, 1) := by decide +kernel
theorem dX4_soakLimit_20 : decode cX4_soakLimit 20 = .ok (.iconst 1, 1) := by decide +kernel
theorem dX4_soakLimit_21 : decode cX4_soakLimit 21 = .ok (.invokevirtual 71, 3) := by decide +kernel
theorem dX4_soakLimit_24 : decode cX4_soakLimit 24 = .ok (.imul, 1) := by decide +kernel
theorem dX4_soakLimit_25 : decode cX4_soakLimit 25 = .ok (.iadd, 1) := by decide +kernel
theorem dX4_soakLimit_26 : decode cX4_soakLimit 26 = .ok (.ireturn, 1) := by decide +kernel
theorem dX4_endHeat_0 : decode cX4_endHeat 0 = .ok (.aload_n 0, 1) := by decide +kernel
theorem dX4_endHeat_1 : decode cX4_endHeat 1 = .ok (.iconst 0, 1) := by decide +kernel
theorem dX4_endHeat_2 : decode cX4_endHeat 2 = .ok (.putfield 56, 3) := by decide +kernel
theorem dX4_endHeat_5 : decode cX4_endHeat 5 = .ok (.iconst 0, 1) := by decide +kernel
theorem dX4_endHeat_6 : decode cX4_endHeat 6 = .ok (.istore_n 1, 1) := by decide +kernel
theorem dX4_endHeat_7 : decode cX4_endHeat 7 = .ok (.iload_n 1, 1) := by decide +kernel
theorem dX4_endHeat_8 : decode cX4_endHeat 8 = .ok (.aload_n 0, 1) := by decide +kernel
theorem dX4_endHeat_9 : decode cX4_endHeat 9 = .ok (.getfield 20, 3) := by decide +kernel
theorem dX4_endHeat_12 : decode cX4_endHeat 12 = .ok (.getfield 29, 3) := by decide +kernel
theorem dX4_endHeat_15 : decode cX4_endHeat 15 = .ok (.if_icmp .ge 74, 3) := by decide +kernel
theorem dX4_endHeat_18 : decode cX4_endHeat 18 = .ok (.aload_n 0, 1) := by decide +kernel
theorem dX4_endHeat_19 : decode cX4_endHeat 19 = .ok (.getfield 20, 3) := by decide +kernel
theorem dX4_endHeat_22 : decode cX4_endHeat 22 = .ok (.iload_n 1, 1) := by decide +kernel
theorem dX4_endHeat_23 : decode cX4_endHeat 23 = .ok (.iconst 3, 1) := by decide +kernel
theorem dX4_endHeat_24 : decode cX4_endHeat 24 = .ok (.invokevirtual 71, 3) := by decide +kernel
theorem dX4_endHeat_27 : decode cX4_endHeat 27 = .ok (.iconst 2, 1) := by decide +kernel
theorem dX4_endHeat_28 : decode cX4_endHeat 28 = .ok (.if_icmp .eq 6, 3) := by decide +kernel
theorem dX4_endHeat_31 : decode cX4_endHeat 31 = .ok (.goto 52, 3) := by decide +kernel
theorem dX4_endHeat_34 : decode cX4_endHeat 34 = .ok (.aload_n 0, 1) := by decide +kernel
theorem dX4_endHeat_35 : decode cX4_endHeat 35 = .ok (.getfield 20, 3) := by decide +kernel
theorem dX4_endHeat_38 : decode cX4_endHeat 38 = .ok (.iload_n 1, 1) := by decide +kernel
theorem dX4_endHeat_39 : decode cX4_endHeat 39 = .ok (.bipush 7, 2) := by decide +kernel
theorem dX4_endHeat_41 : decode cX4_endHeat 41 = .ok (.invokevirtual 71, 3) := by decide +kernel
theorem dX4_endHeat_44 : decode cX4_endHeat 44 = .ok (.iconst 1, 1) := by decide +kernel
theorem dX4_endHeat_45 : decode cX4_endHeat 45 = .ok (.if_icmp .ne 32, 3) := by decide +kernel
theorem dX4_endHeat_48 : decode cX4_endHeat 48 = .ok (.aload_n 0, 1) := by decide +kernel
theorem dX4_endHeat_49 : decode cX4_endHeat 49 = .ok (.getfield 23, 3) := by decide +kernel
theorem dX4_endHeat_52 : decode cX4_endHeat 52 = .ok (.aload_n 0, 1) := by decide +kernel
theorem dX4_endHeat_53 : decode cX4_endHeat 53 = .ok (.getfield 20, 3) := by decide +kernel
theorem dX4_endHeat_56 : decode cX4_endHeat 56 = .ok (.iload_n 1, 1) := by decide +kernel
theorem dX4_endHeat_57 : decode cX4_endHeat 57 = .ok (.iconst 2, 1) := by decide +kernel
theorem dX4_endHeat_58 : decode cX4_endHeat 58 = .ok (.invokevirtual 71, 3) := by decide +kernel
theorem dX4_endHeat_61 : decode cX4_endHeat 61 = .ok (.iconst 0, 1) := by decide +kernel
theorem dX4_endHeat_62 : decode cX4_endHeat 62 = .ok (.iconst 3, 1) := by decide +kernel
theorem dX4_endHeat_63 : decode cX4_endHeat 63 = .ok (.invokevirtual 142, 3) := by decide +kernel
theorem dX4_endHeat_66 : decode cX4_endHeat 66 = .ok (.aload_n 0, 1) := by decide +kernel
theorem dX4_endHeat_67 : decode cX4_endHeat 67 = .ok (.getfield 20, 3) := by decide +kernel
theorem dX4_endHeat_70 : decode cX4_endHeat 70 = .ok (.iload_n 1, 1) := by decide +kernel
theorem dX4_endHeat_71 : decode cX4_endHeat 71 = .ok (.bipush 8, 2) := by decide +kernel
theorem dX4_endHeat_73 : decode cX4_endHeat 73 = .ok (.iconst 1, 1) := by decide +kernel
theorem dX4_endHeat_74 : decode cX4_endHeat 74 = .ok (.invokevirtual 142, 3) := by decide +kernel
theorem dX4_endHeat_77 : decode cX4_endHeat 77 = .ok (.aload_n 0, 1) := by decide +kernel
theorem dX4_endHeat_78 : decode cX4_endHeat 78 = .ok (.iload_n 1, 1) := by decide +kernel
theorem dX4_endHeat_79 : decode cX4_endHeat 79 = .ok (.iconst 0, 1) := by decide +kernel
theorem dX4_endHeat_80 : decode cX4_endHeat 80 = .ok (.invokevirtual 133, 3) := by decide +kernel
theorem dX4_endHeat_83 : decode cX4_endHeat 83 = .ok (.iinc 1 1, 3) := by decide +kernel
theorem dX4_endHeat_86 : decode cX4_endHeat 86 = .ok (.goto (-79), 3) := by decide +kernel
theorem dX4_endHeat_89 : decode cX4_endHeat 89 = .ok (.return_, 1) := by decide +kernel
theorem dX4_takeOut_0 : decode cX4_takeOut 0 = .ok (.aload_n 0, 1) := by decide +kernel
theorem dX4_takeOut_1 : decode cX4_takeOut 1 = .ok (.getfield 20, 3) := by decide +kernel
theorem dX4_takeOut_4 : decode cX4_takeOut 4 = .ok (.iload_n 1, 1) := by decide +kernel
theorem dX4_takeOut_5 : decode cX4_takeOut 5 = .ok (.iconst 3, 1) := by decide +kernel
theorem dX4_takeOut_6 : decode cX4_takeOut 6 = .ok (.iload_n 2, 1) := by decide +kernel
theorem dX4_takeOut_7 : decode cX4_takeOut 7 = .ok (.invokevirtual 37, 3) := by decide +kernel
theorem dX4_takeOut_10 : decode cX4_takeOut 10 = .ok (.aload_n 0, 1) := by decide +kernel
theorem dX4_takeOut_11 : decode cX4_takeOut 11 = .ok (.getfield 20, 3) := by decide +kernel
theorem dX4_takeOut_14 : decode cX4_takeOut 14 = .ok (.iload_n 1, 1) := by decide +kernel
theorem dX4_takeOut_15 : decode cX4_takeOut 15 = .ok (.iconst 4, 1) := by decide +kernel
theorem dX4_takeOut_16 : decode cX4_takeOut 16 = .ok (.iconst (-1), 1) := by decide +kernel
theorem dX4_takeOut_17 : decode cX4_takeOut 17 = .ok (.invokevirtual 37, 3) := by decide +kernel
theorem dX4_takeOut_20 : decode cX4_takeOut 20 = .ok (.aload_n 0, 1) := by decide +kernel
theorem dX4_takeOut_21 : decode cX4_takeOut 21 = .ok (.getfield 20, 3) := by decide +kernel
theorem dX4_takeOut_24 : decode cX4_takeOut 24 = .ok (.iload_n 1, 1) := by decide +kernel
theorem dX4_takeOut_25 : decode cX4_takeOut 25 = .ok (.iconst 5, 1) := by decide +kernel
theorem dX4_takeOut_26 : decode cX4_takeOut 26 = .ok (.iconst (-1), 1) := by decide +kernel
theorem dX4_takeOut_27 : decode cX4_takeOut 27 = .ok (.invokevirtual 37, 3) := by decide +kernel
theorem dX4_takeOut_30 : decode cX4_takeOut 30 = .ok (.aload_n 0, 1) := by decide +kernel
theorem dX4_takeOut_31 : decode cX4_takeOut 31 = .ok (.getfield 20, 3) := by decide +kernel
theorem dX4_takeOut_34 : decode cX4_takeOut 34 = .ok (.iload_n 1, 1) := by decide +kernel
theorem dX4_takeOut_35 : decode cX4_takeOut 35 = .ok (.bipush 7, 2) := by decide +kernel
theorem dX4_takeOut_37 : decode cX4_takeOut 37 = .ok (.iconst (-1), 1) := by decide +kernel
theorem dX4_takeOut_38 : decode cX4_takeOut 38 = .ok (.invokevirtual 37, 3) := by decide +kernel
theorem dX4_takeOut_41 : decode cX4_takeOut 41 = .ok (.return_, 1) := by decide +kernel
theorem dX4_minutesUntilEnd_0 : decode cX4_minutesUntilEnd 0 = .ok (.iconst 0, 1) := by decide +kernel
theorem dX4_minutesUntilEnd_1 : decode cX4_minutesUntilEnd 1 = .ok (.istore_n 2, 1) := by decide +kernel
theorem dX4_minutesUntilEnd_2 : decode cX4_minutesUntilEnd 2 = .ok (.iload_n 2, 1) := by decide +kernel
theorem dX4_minutesUntilEnd_3 : decode cX4_minutesUntilEnd 3 = .ok (.sipush 1000, 3) := by decide +kernel
theorem dX4_minutesUntilEnd_6 : decode cX4_minutesUntilEnd 6 = .ok (.if_icmp .ge 30, 3) := by decide +kernel
theorem dX4_minutesUntilEnd_9 : decode cX4_minutesUntilEnd 9 = .ok (.aload_n 0, 1) := by decide +kernel
theorem dX4_minutesUntilEnd_10 : decode cX4_minutesUntilEnd 10 = .ok (.getfield 20, 3) := by decide +kernel
theorem dX4_minutesUntilEnd_13 : decode cX4_minutesUntilEnd 13 = .ok (.iload_n 1, 1) := by decide +kernel
theorem dX4_minutesUntilEnd_14 : decode cX4_minutesUntilEnd 14 = .ok (.iconst 3, 1) := by decide +kernel
theorem dX4_minutesUntilEnd_15 : decode cX4_minutesUntilEnd 15 = .ok (.invokevirtual 71, 3) := by decide +kernel
theorem dX4_minutesUntilEnd_18 : decode cX4_minutesUntilEnd 18 = .ok (.iconst 1, 1) := by decide +kernel
theorem dX4_minutesUntilEnd_19 : decode cX4_minutesUntilEnd 19 = .ok (.if_icmp .eq 5, 3) := by decide +kernel
theorem dX4_minutesUntilEnd_22 : decode cX4_minutesUntilEnd 22 = .ok (.iload_n 2, 1) := by decide +kernel
theorem dX4_minutesUntilEnd_23 : decode cX4_minutesUntilEnd 23 = .ok (.ireturn, 1) := by decide +kernel
theorem dX4_minutesUntilEnd_24 : decode cX4_minutesUntilEnd 24 = .ok (.aload_n 0, 1) := by decide +kernel
theorem dX4_minutesUntilEnd_25 : decode cX4_minutesUntilEnd 25 = .ok (.iconst 1, 1) := by decide +kernel
theorem dX4_minutesUntilEnd_26 : decode cX4_minutesUntilEnd 26 = .ok (.invokevirtual 109, 3) := by decide +kernel
theorem dX4_minutesUntilEnd_29 : decode cX4_minutesUntilEnd 29 = .ok (.pop, 1) := by decide +kernel
theorem dX4_minutesUntilEnd_30 : decode cX4_minutesUntilEnd 30 = .ok (.iinc 2 1, 3) := by decide +kernel
theorem dX4_minutesUntilEnd_33 : decode cX4_minutesUntilEnd 33 = .ok (.goto (-31), 3) := by decide +kernel
theorem dX4_minutesUntilEnd_36 : decode cX4_minutesUntilEnd 36 = .ok (.iconst (-1), 1) := by decide +kernel
theorem dX4_minutesUntilEnd_37 : decode cX4_minutesUntilEnd 37 = .ok (.ireturn, 1) := by decide +kernel
theorem dX4_letHeatEnd_0 : decode cX4_letHeatEnd 0 = .ok (.iconst 0, 1) := by decide +kernel
theorem dX4_letHeatEnd_1 : decode cX4_letHeatEnd 1 = .ok (.istore_n 1, 1) := by decide +kernel
theorem dX4_letHeatEnd_2 : decode cX4_letHeatEnd 2 = .ok (.iload_n 1, 1) := by decide +kernel
theorem dX4_letHeatEnd_3 : decode cX4_letHeatEnd 3 = .ok (.sipush 1000, 3) := by decide +kernel
theorem dX4_letHeatEnd_6 : decode cX4_letHeatEnd 6 = .ok (.if_icmp .ge 22, 3) := by decide +kernel
theorem dX4_letHeatEnd_9 : decode cX4_letHeatEnd 9 = .ok (.aload_n 0, 1) := by decide +kernel
theorem dX4_letHeatEnd_10 : decode cX4_letHeatEnd 10 = .ok (.getfield 56, 3) := by decide +kernel
theorem dX4_letHeatEnd_13 : decode cX4_letHeatEnd 13 = .ok (.ifCond .eq 15, 3) := by decide +kernel
theorem dX4_letHeatEnd_16 : decode cX4_letHeatEnd 16 = .ok (.aload_n 0, 1) := by decide +kernel
theorem dX4_letHeatEnd_17 : decode cX4_letHeatEnd 17 = .ok (.iconst 1, 1) := by decide +kernel
theorem dX4_letHeatEnd_18 : decode cX4_letHeatEnd 18 = .ok (.invokevirtual 109, 3) := by decide +kernel
theorem dX4_letHeatEnd_21 : decode cX4_letHeatEnd 21 = .ok (.pop, 1) := by decide +kernel
theorem dX4_letHeatEnd_22 : decode cX4_letHeatEnd 22 = .ok (.iinc 1 1, 3) := by decide +kernel
theorem dX4_letHeatEnd_25 : decode cX4_letHeatEnd 25 = .ok (.goto (-23), 3) := by decide +kernel
theorem dX4_letHeatEnd_28 : decode cX4_letHeatEnd 28 = .ok (.return_, 1) := by decide +kernel
theorem dX4_wayByGutters_0 : decode cX4_wayByGutters 0 = .ok (.aload_n 0, 1) := by decide +kernel
theorem dX4_wayByGutters_1 : decode cX4_wayByGutters 1 = .ok (.getfield 14, 3) := by decide +kernel
theorem dX4_wayByGutters_4 : decode cX4_wayByGutters 4 = .ok (.iload_n 1, 1) := by decide +kernel
theorem dX4_wayByGutters_5 : decode cX4_wayByGutters 5 = .ok (.iconst 0, 1) := by decide +kernel
theorem dX4_wayByGutters_6 : decode cX4_wayByGutters 6 = .ok (.invokevirtual 71, 3) := by decide +kernel
theorem dX4_wayByGutters_9 : decode cX4_wayByGutters 9 = .ok (.iload_n 2, 1) := by decide +kernel
theorem dX4_wayByGutters_10 : decode cX4_wayByGutters 10 = .ok (.isub, 1) := by decide +kernel
theorem dX4_wayByGutters_11 : decode cX4_wayByGutters 11 = .ok (.istore_n 3, 1) := by decide +kernel
theorem dX4_wayByGutters_12 : decode cX4_wayByGutters 12 = .ok (.iload_n 1, 1) := by decide +kernel
theorem dX4_wayByGutters_13 : decode cX4_wayByGutters 13 = .ok (.istore 4, 2) := by decide +kernel
theorem dX4_wayByGutters_15 : decode cX4_wayByGutters 15 = .ok (.iconst 0, 1) := by decide +kernel
theorem dX4_wayByGutters_16 : decode cX4_wayByGutters 16 = .ok (.istore 5, 2) := by decide +kernel
theorem dX4_wayByGutters_18 : decode cX4_wayByGutters 18 = .ok (.iload 5, 2) := by decide +kernel
theorem dX4_wayByGutters_20 : decode cX4_wayByGutters 20 = .ok (.bipush 6, 2) := by decide +kernel
theorem dX4_wayByGutters_22 : decode cX4_wayByGutters 22 = .ok (.if_icmp .ge 63, 3) := by decide +kernel
theorem dX4_wayByGutters_25 : decode cX4_wayByGutters 25 = .ok (.aload_n 0, 1) := by decide +kernel
theorem dX4_wayByGutters_26 : decode cX4_wayByGutters 26 = .ok (.getfield 14, 3) := by decide +kernel
theorem dX4_wayByGutters_29 : decode cX4_wayByGutters 29 = .ok (.iload 4, 2) := by decide +kernel
theorem dX4_wayByGutters_31 : decode cX4_wayByGutters 31 = .ok (.iconst 2, 1) := by decide +kernel
theorem dX4_wayByGutters_32 : decode cX4_wayByGutters 32 = .ok (.invokevirtual 71, 3) := by decide +kernel
theorem dX4_wayByGutters_35 : decode cX4_wayByGutters 35 = .ok (.iconst (-1), 1) := by decide +kernel
theorem dX4_wayByGutters_36 : decode cX4_wayByGutters 36 = .ok (.if_icmp .eq 49, 3) := by decide +kernel
theorem dX4_wayByGutters_39 : decode cX4_wayByGutters 39 = .ok (.aload_n 0, 1) := by decide +kernel
theorem dX4_wayByGutters_40 : decode cX4_wayByGutters 40 = .ok (.getfield 14, 3) := by decide +kernel
theorem dX4_wayByGutters_43 : decode cX4_wayByGutters 43 = .ok (.iload 4, 2) := by decide +kernel
theorem dX4_wayByGutters_45 : decode cX4_wayByGutters 45 = .ok (.iconst 2, 1) := by decide +kernel
theorem dX4_wayByGutters_46 : decode cX4_wayByGutters 46 = .ok (.invokevirtual 71, 3) := by decide +kernel
theorem dX4_wayByGutters_49 : decode cX4_wayByGutters 49 = .ok (.istore 6, 2) := by decide +kernel
theorem dX4_wayByGutters_51 : decode cX4_wayByGutters 51 = .ok (.iload_n 3, 1) := by decide +kernel
theorem dX4_wayByGutters_52 : decode cX4_wayByGutters 52 = .ok (.aload_n 0, 1) := by decide +kernel
theorem dX4_wayByGutters_53 : decode cX4_wayByGutters 53 = .ok (.getfield 14, 3) := by decide +kernel
theorem dX4_wayByGutters_56 : decode cX4_wayByGutters 56 = .ok (.iload 6, 2) := by decide +kernel
theorem dX4_wayByGutters_58 : decode cX4_wayByGutters 58 = .ok (.iconst 0, 1) := by decide +kernel
theorem dX4_wayByGutters_59 : decode cX4_wayByGutters 59 = .ok (.invokevirtual 71, 3) := by decide +kernel
theorem dX4_wayByGutters_62 : decode cX4_wayByGutters 62 = .ok (.aload_n 0, 1) := by decide +kernel
theorem dX4_wayByGutters_63 : decode cX4_wayByGutters 63 = .ok (.getfield 14, 3) := by decide +kernel
theorem dX4_wayByGutters_66 : decode cX4_wayByGutters 66 = .ok (.iload 4, 2) := by decide +kernel
theorem dX4_wayByGutters_68 : decode cX4_wayByGutters 68 = .ok (.iconst 3, 1) := by decide +kernel
theorem dX4_wayByGutters_69 : decode cX4_wayByGutters 69 = .ok (.invokevirtual 71, 3) := by decide +kernel
theorem dX4_wayByGutters_72 : decode cX4_wayByGutters 72 = .ok (.isub, 1) := by decide +kernel
theorem dX4_wayByGutters_73 : decode cX4_wayByGutters 73 = .ok (.iadd, 1) := by decide +kernel
theorem dX4_wayByGutters_74 : decode cX4_wayByGutters 74 = .ok (.istore_n 3, 1) := by decide +kernel
theorem dX4_wayByGutters_75 : decode cX4_wayByGutters 75 = .ok (.iload 6, 2) := by decide +kernel
theorem dX4_wayByGutters_77 : decode cX4_wayByGutters 77 = .ok (.istore 4, 2) := by decide +kernel
theorem dX4_wayByGutters_79 : decode cX4_wayByGutters 79 = .ok (.iinc 5 1, 3) := by decide +kernel
theorem dX4_wayByGutters_82 : decode cX4_wayByGutters 82 = .ok (.goto (-64), 3) := by decide +kernel
theorem dX4_wayByGutters_85 : decode cX4_wayByGutters 85 = .ok (.iload_n 3, 1) := by decide +kernel
theorem dX4_wayByGutters_86 : decode cX4_wayByGutters 86 = .ok (.ireturn, 1) := by decide +kernel
theorem dX4_wayByCells_0 : decode cX4_wayByCells 0 = .ok (.iload_n 1, 1) := by decide +kernel
theorem dX4_wayByCells_1 : decode cX4_wayByCells 1 = .ok (.istore_n 3, 1) := by decide +kernel
theorem dX4_wayByCells_2 : decode cX4_wayByCells 2 = .ok (.iload_n 2, 1) := by decide +kernel
theorem dX4_wayByCells_3 : decode cX4_wayByCells 3 = .ok (.istore 4, 2) := by decide +kernel
theorem dX4_wayByCells_5 : decode cX4_wayByCells 5 = .ok (.iconst 0, 1) := by decide +kernel
theorem dX4_wayByCells_6 : decode cX4_wayByCells 6 = .ok (.istore 5, 2) := by decide +kernel
theorem dX4_wayByCells_8 : decode cX4_wayByCells 8 = .ok (.iload 5, 2) := by decide +kernel
theorem dX4_wayByCells_10 : decode cX4_wayByCells 10 = .ok (.sipush 1000, 3) := by decide +kernel
theorem dX4_wayByCells_13 : decode cX4_wayByCells 13 = .ok (.if_icmp .ge 38, 3) := by decide +kernel
theorem dX4_wayByCells_16 : decode cX4_wayByCells 16 = .ok (.iload_n 3, 1) := by decide +kernel
theorem dX4_wayByCells_17 : decode cX4_wayByCells 17 = .ok (.iconst (-1), 1) := by decide +kernel
theorem dX4_wayByCells_18 : decode cX4_wayByCells 18 = .ok (.if_icmp .ne 6, 3) := by decide +kernel
theorem dX4_wayByCells_21 : decode cX4_wayByCells 21 = .ok (.iload 5, 2) := by decide +kernel
theorem dX4_wayByCells_23 : decode cX4_wayByCells 23 = .ok (.ireturn, 1) := by decide +kernel
theorem dX4_wayByCells_24 : decode cX4_wayByCells 24 = .ok (.aload_n 0, 1) := by decide +kernel
theorem dX4_wayByCells_25 : decode cX4_wayByCells 25 = .ok (.iload_n 3, 1) := by decide +kernel
theorem dX4_wayByCells_26 : decode cX4_wayByCells 26 = .ok (.iload 4, 2) := by decide +kernel
theorem dX4_wayByCells_28 : decode cX4_wayByCells 28 = .ok (.invokevirtual 161, 3) := by decide +kernel
theorem dX4_wayByCells_31 : decode cX4_wayByCells 31 = .ok (.istore 6, 2) := by decide +kernel
theorem dX4_wayByCells_33 : decode cX4_wayByCells 33 = .ok (.aload_n 0, 1) := by decide +kernel
theorem dX4_wayByCells_34 : decode cX4_wayByCells 34 = .ok (.iload_n 3, 1) := by decide +kernel
theorem dX4_wayByCells_35 : decode cX4_wayByCells 35 = .ok (.iload 4, 2) := by decide +kernel
theorem dX4_wayByCells_37 : decode cX4_wayByCells 37 = .ok (.invokevirtual 164, 3) := by decide +kernel
theorem dX4_wayByCells_40 : decode cX4_wayByCells 40 = .ok (.istore 4, 2) := by decide +kernel
theorem dX4_wayByCells_42 : decode cX4_wayByCells 42 = .ok (.iload 6, 2) := by decide +kernel
theorem dX4_wayByCells_44 : decode cX4_wayByCells 44 = .ok (.istore_n 3, 1) := by decide +kernel
theorem dX4_wayByCells_45 : decode cX4_wayByCells 45 = .ok (.iinc 5 1, 3) := by decide +kernel
theorem dX4_wayByCells_48 : decode cX4_wayByCells 48 = .ok (.goto (-40), 3) := by decide +kernel
theorem dX4_wayByCells_51 : decode cX4_wayByCells 51 = .ok (.iconst (-1), 1) := by decide +kernel
theorem dX4_wayByCells_52 : decode cX4_wayByCells 52 = .ok (.ireturn, 1) := by decide +kernel
theorem dX4_reasonAgainst_0 : decode cX4_reasonAgainst 0 = .ok (.aload_n 0, 1) := by decide +kernel
theorem dX4_reasonAgainst_1 : decode cX4_reasonAgainst 1 = .ok (.getfield 20, 3) := by decide +kernel
theorem dX4_reasonAgainst_4 : decode cX4_reasonAgainst 4 = .ok (.iload_n 2, 1) := by decide +kernel
theorem dX4_reasonAgainst_5 : decode cX4_reasonAgainst 5 = .ok (.iconst 3, 1) := by decide +kernel
theorem dX4_reasonAgainst_6 : decode cX4_reasonAgainst 6 = .ok (.invokevirtual 71, 3) := by decide +kernel
theorem dX4_reasonAgainst_9 : decode cX4_reasonAgainst 9 = .ok (.iconst 3, 1) := by decide +kernel
theorem dX4_reasonAgainst_10 : decode cX4_reasonAgainst 10 = .ok (.if_icmp .eq 5, 3) := by decide +kernel
theorem dX4_reasonAgainst_13 : decode cX4_reasonAgainst 13 = .ok (.iconst 1, 1) := by decide +kernel
theorem dX4_reasonAgainst_14 : decode cX4_reasonAgainst 14 = .ok (.ireturn, 1) := by decide +kernel
theorem dX4_reasonAgainst_15 : decode cX4_reasonAgainst 15 = .ok (.aload_n 0, 1) := by decide +kernel
theorem dX4_reasonAgainst_16 : decode cX4_reasonAgainst 16 = .ok (.iload_n 1, 1) := by decide +kernel
theorem dX4_reasonAgainst_17 : decode cX4_reasonAgainst 17 = .ok (.iload_n 2, 1) := by decide +kernel
theorem dX4_reasonAgainst_18 : decode cX4_reasonAgainst 18 = .ok (.invokevirtual 173, 3) := by decide +kernel
theorem dX4_reasonAgainst_21 : decode cX4_reasonAgainst 21 = .ok (.istore_n 3, 1) := by decide +kernel
theorem dX4_reasonAgainst_22 : decode cX4_reasonAgainst 22 = .ok (.iload_n 3, 1) := by decide +kernel
theorem dX4_reasonAgainst_23 : decode cX4_reasonAgainst 23 = .ok (.iconst (-1), 1) := by decide +kernel
theorem dX4_reasonAgainst_24 : decode cX4_reasonAgainst 24 = .ok (.if_icmp .eq 11, 3) := by decide +kernel
theorem dX4_reasonAgainst_27 : decode cX4_reasonAgainst 27 = .ok (.iload_n 3, 1) := by decide +kernel
theorem dX4_reasonAgainst_28 : decode cX4_reasonAgainst 28 = .ok (.aload_n 0, 1) := by decide +kernel
theorem dX4_reasonAgainst_29 : decode cX4_reasonAgainst 29 = .ok (.getfield 47, 3) := by decide +kernel
theorem dX4_reasonAgainst_32 : decode cX4_reasonAgainst 32 = .ok (.if_icmp .le 5, 3) := by decide +kernel
theorem dX4_reasonAgainst_35 : decode cX4_reasonAgainst 35 = .ok (.iconst 2, 1) := by decide +kernel
theorem dX4_reasonAgainst_36 : decode cX4_reasonAgainst 36 = .ok (.ireturn, 1) := by decide +kernel
theorem dX4_reasonAgainst_37 : decode cX4_reasonAgainst 37 = .ok (.iconst 0, 1) := by decide +kernel
theorem dX4_reasonAgainst_38 : decode cX4_reasonAgainst 38 = .ok (.istore 4, 2) := by decide +kernel
theorem dX4_reasonAgainst_40 : decode cX4_reasonAgainst 40 = .ok (.iload 4, 2) := by decide +kernel
theorem dX4_reasonAgainst_42 : decode cX4_reasonAgainst 42 = .ok (.iconst 4, 1) := by decide +kernel
theorem dX4_reasonAgainst_43 : decode cX4_reasonAgainst 43 = .ok (.if_icmp .ge 32, 3) := by decide +kernel
theorem dX4_reasonAgainst_46 : decode cX4_reasonAgainst 46 = .ok (.aload_n 0, 1) := by decide +kernel
theorem dX4_reasonAgainst_47 : decode cX4_reasonAgainst 47 = .ok (.iload 4, 2) := by decide +kernel
theorem dX4_reasonAgainst_49 : decode cX4_reasonAgainst 49 = .ok (.iload_n 2, 1) := by decide +kernel
theorem dX4_reasonAgainst_50 : decode cX4_reasonAgainst 50 = .ok (.invokevirtual 173, 3) := by decide +kernel
theorem dX4_reasonAgainst_53 : decode cX4_reasonAgainst 53 = .ok (.istore 5, 2) := by decide +kernel
theorem dX4_reasonAgainst_55 : decode cX4_reasonAgainst 55 = .ok (.iload 5, 2) := by decide +kernel
theorem dX4_reasonAgainst_57 : decode cX4_reasonAgainst 57 = .ok (.iconst (-1), 1) := by decide +kernel
theorem dX4_reasonAgainst_58 : decode cX4_reasonAgainst 58 = .ok (.if_icmp .eq 11, 3) := by decide +kernel
theorem dX4_reasonAgainst_61 : decode cX4_reasonAgainst 61 = .ok (.iload 5, 2) := by decide +kernel
theorem dX4_reasonAgainst_63 : decode cX4_reasonAgainst 63 = .ok (.iload_n 3, 1) := by decide +kernel
theorem dX4_reasonAgainst_64 : decode cX4_reasonAgainst 64 = .ok (.if_icmp .ge 5, 3) := by decide +kernel
theorem dX4_reasonAgainst_67 : decode cX4_reasonAgainst 67 = .ok (.iconst 3, 1) := by decide +kernel
theorem dX4_reasonAgainst_68 : decode cX4_reasonAgainst 68 = .ok (.ireturn, 1) := by decide +kernel
theorem dX4_reasonAgainst_69 : decode cX4_reasonAgainst 69 = .ok (.iinc 4 1, 3) := by decide +kernel
theorem dX4_reasonAgainst_72 : decode cX4_reasonAgainst 72 = .ok (.goto (-32), 3) := by decide +kernel
theorem dX4_reasonAgainst_75 : decode cX4_reasonAgainst 75 = .ok (.iconst 0, 1) := by decide +kernel
theorem dX4_reasonAgainst_76 : decode cX4_reasonAgainst 76 = .ok (.ireturn, 1) := by decide +kernel
theorem dX4_hookDistance_0 : decode cX4_hookDistance 0 = .ok (.aload_n 0, 1) := by decide +kernel
theorem dX4_hookDistance_1 : decode cX4_hookDistance 1 = .ok (.getfield 23, 3) := by decide +kernel
theorem dX4_hookDistance_4 : decode cX4_hookDistance 4 = .ok (.iload_n 1, 1) := by decide +kernel
theorem dX4_hookDistance_5 : decode cX4_hookDistance 5 = .ok (.iconst 1, 1) := by decide +kernel
theorem dX4_hookDistance_6 : decode cX4_hookDistance 6 = .ok (.invokevirtual 71, 3) := by decide +kernel
theorem dX4_hookDistance_9 : decode cX4_hookDistance 9 = .ok (.aload_n 0, 1) := by decide +kernel
theorem dX4_hookDistance_10 : decode cX4_hookDistance 10 = .ok (.getfield 20, 3) := by decide +kernel
theorem dX4_hookDistance_13 : decode cX4_hookDistance 13 = .ok (.iload_n 2, 1) := by decide +kernel
theorem dX4_hookDistance_14 : decode cX4_hookDistance 14 = .ok (.iconst 4, 1) := by decide +kernel
theorem dX4_hookDistance_15 : decode cX4_hookDistance 15 = .ok (.invokevirtual 71, 3) := by decide +kernel
theorem dX4_hookDistance_18 : decode cX4_hookDistance 18 = .ok (.if_icmp .eq 5, 3) := by decide +kernel
theorem dX4_hookDistance_21 : decode cX4_hookDistance 21 = .ok (.iconst (-1), 1) := by decide +kernel
theorem dX4_hookDistance_22 : decode cX4_hookDistance 22 = .ok (.ireturn, 1) := by decide +kernel
theorem dX4_hookDistance_23 : decode cX4_hookDistance 23 = .ok (.aload_n 0, 1) := by decide +kernel
theorem dX4_hookDistance_24 : decode cX4_hookDistance 24 = .ok (.getfield 23, 3) := by decide +kernel
theorem dX4_hookDistance_27 : decode cX4_hookDistance 27 = .ok (.iload_n 1, 1) := by decide +kernel
theorem dX4_hookDistance_28 : decode cX4_hookDistance 28 = .ok (.iconst 2, 1) := by decide +kernel
theorem dX4_hookDistance_29 : decode cX4_hookDistance 29 = .ok (.invokevirtual 71, 3) := by decide +kernel
theorem dX4_hookDistance_32 : decode cX4_hookDistance 32 = .ok (.aload_n 0, 1) := by decide +kernel
theorem dX4_hookDistance_33 : decode cX4_hookDistance 33 = .ok (.getfield 20, 3) := by decide +kernel
theorem dX4_hookDistance_36 : decode cX4_hookDistance 36 = .ok (.iload_n 2, 1) := by decide +kernel
theorem dX4_hookDistance_37 : decode cX4_hookDistance 37 = .ok (.iconst 5, 1) := by decide +kernel
theorem dX4_hookDistance_38 : decode cX4_hookDistance 38 = .ok (.invokevirtual 71, 3) := by decide +kernel
theorem dX4_hookDistance_41 : decode cX4_hookDistance 41 = .ok (.isub, 1) := by decide +kernel
theorem dX4_hookDistance_42 : decode cX4_hookDistance 42 = .ok (.invokestatic 176, 3) := by decide +kernel
theorem dX4_hookDistance_45 : decode cX4_hookDistance 45 = .ok (.ireturn, 1) := by decide +kernel
theorem dX4_countClaimable_0 : decode cX4_countClaimable 0 = .ok (.iconst 0, 1) := by decide +kernel
theorem dX4_countClaimable_1 : decode cX4_countClaimable 1 = .ok (.istore_n 2, 1) := by decide +kernel
theorem dX4_countClaimable_2 : decode cX4_countClaimable 2 = .ok (.iconst 0, 1) := by decide +kernel
theorem dX4_countClaimable_3 : decode cX4_countClaimable 3 = .ok (.istore_n 3, 1) := by decide +kernel
theorem dX4_countClaimable_4 : decode cX4_countClaimable 4 = .ok (.iload_n 3, 1) := by decide +kernel
theorem dX4_countClaimable_5 : decode cX4_countClaimable 5 = .ok (.aload_n 0, 1) := by decide +kernel
theorem dX4_countClaimable_6 : decode cX4_countClaimable 6 = .ok (.getfield 20, 3) := by decide +kernel
theorem dX4_countClaimable_9 : decode cX4_countClaimable 9 = .ok (.getfield 29, 3) := by decide +kernel
theorem dX4_countClaimable_12 : decode cX4_countClaimable 12 = .ok (.if_icmp .ge 21, 3) := by decide +kernel
theorem dX4_countClaimable_15 : decode cX4_countClaimable 15 = .ok (.aload_n 0, 1) := by decide +kernel
theorem dX4_countClaimable_16 : decode cX4_countClaimable 16 = .ok (.iload_n 1, 1) := by decide +kernel
theorem dX4_countClaimable_17 : decode cX4_countClaimable 17 = .ok (.iload_n 3, 1) := by decide +kernel
theorem dX4_countClaimable_18 : decode cX4_countClaimable 18 = .ok (.invokevirtual 121, 3) := by decide +kernel
theorem dX4_countClaimable_21 : decode cX4_countClaimable 21 = .ok (.ifCond .ne 6, 3) := by decide +kernel
theorem dX4_countClaimable_24 : decode cX4_countClaimable 24 = .ok (.iinc 2 1, 3) := by decide +kernel
theorem dX4_countClaimable_27 : decode cX4_countClaimable 27 = .ok (.iinc 3 1, 3) := by decide +kernel
theorem dX4_countClaimable_30 : decode cX4_countClaimable 30 = .ok (.goto (-26), 3) := by decide +kernel
theorem dX4_countClaimable_33 : decode cX4_countClaimable 33 = .ok (.iload_n 2, 1) := by decide +kernel
theorem dX4_countClaimable_34 : decode cX4_countClaimable 34 = .ok (.ireturn, 1) := by decide +kernel
theorem dX4_number_0 : decode cX4_number 0 = .ok (.iload_n 1, 1) := by decide +kernel
theorem dX4_number_1 : decode cX4_number 1 = .ok (.tableswitch 144 0 13 #[71, 79, 144, 144, 144, 144, 144, 87, 92, 97, 110, 120, 125, 134], 71) := by decide +kernel
theorem dX4_number_72 : decode cX4_number 72 = .ok (.aload_n 0, 1) := by decide +kernel
theorem dX4_number_73 : decode cX4_number 73 = .ok (.getfield 14, 3) := by decide +kernel
theorem dX4_number_76 : decode cX4_number 76 = .ok (.getfield 29, 3) := by decide +kernel
theorem dX4_number_79 : decode cX4_number 79 = .ok (.ireturn, 1) := by decide +kernel
theorem dX4_number_80 : decode cX4_number 80 = .ok (.aload_n 0, 1) := by decide +kernel
theorem dX4_number_81 : decode cX4_number 81 = .ok (.getfield 20, 3) := by decide +kernel
theorem dX4_number_84 : decode cX4_number 84 = .ok (.getfield 29, 3) := by decide +kernel
theorem dX4_number_87 : decode cX4_number 87 = .ok (.ireturn, 1) := by decide +kernel
theorem dX4_number_88 : decode cX4_number 88 = .ok (.aload_n 0, 1) := by decide +kernel
theorem dX4_number_89 : decode cX4_number 89 = .ok (.getfield 50, 3) := by decide +kernel
theorem dX4_number_92 : decode cX4_number 92 = .ok (.ireturn, 1) := by decide +kernel
theorem dX4_number_93 : decode cX4_number 93 = .ok (.aload_n 0, 1) := by decide +kernel
theorem dX4_number_94 : decode cX4_number 94 = .ok (.getfield 53, 3) := by decide +kernel
theorem dX4_number_97 : decode cX4_number 97 = .ok (.ireturn, 1) := by decide +kernel
theorem dX4_number_98 : decode cX4_number 98 = .ok (.aload_n 0, 1) := by decide +kernel
theorem dX4_number_99 : decode cX4_number 99 = .ok (.getfield 56, 3) := by decide +kernel
theorem dX4_number_102 : decode cX4_number 102 = .ok (.ifCond .eq 7, 3) := by decide +kernel
theorem dX4_number_105 : decode cX4_number 105 = .ok (.iconst 1, 1) := by decide +kernel
theorem dX4_number_106 : decode cX4_number 106 = .ok (.goto 4, 3) := by decide +kernel
theorem dX4_number_109 : decode cX4_number 109 = .ok (.iconst 0, 1) := by decide +kernel
theorem dX4_number_110 : decode cX4_number 110 = .ok (.ireturn, 1) := by decide +kernel
theorem dX4_number_111 : decode cX4_number 111 = .ok (.aload_n 0, 1) := by decide +kernel
theorem dX4_number_112 : decode cX4_number 112 = .ok (.getfield 20, 3) := by decide +kernel
theorem dX4_number_115 : decode cX4_number 115 = .ok (.bipush 8, 2) := by decide +kernel
theorem dX4_number_117 : decode cX4_number 117 = .ok (.invokevirtual 181, 3) := by decide +kernel
theorem dX4_number_120 : decode cX4_number 120 = .ok (.ireturn, 1) := by decide +kernel
theorem dX4_number_121 : decode cX4_number 121 = .ok (.aload_n 0, 1) := by decide +kernel
theorem dX4_number_122 : decode cX4_number 122 = .ok (.getfield 60, 3) := by decide +kernel
theorem dX4_number_125 : decode cX4_number 125 = .ok (.ireturn, 1) := by decide +kernel
theorem dX4_number_126 : decode cX4_number 126 = .ok (.aload_n 0, 1) := by decide +kernel
theorem dX4_number_127 : decode cX4_number 127 = .ok (.getfield 23, 3) := by decide +kernel
theorem dX4_number_130 : decode cX4_number 130 = .ok (.iconst 0, 1) := by decide +kernel
theorem dX4_number_131 : decode cX4_number 131 = .ok (.invokevirtual 181, 3) := by decide +kernel
theorem dX4_number_134 : decode cX4_number 134 = .ok (.ireturn, 1) := by decide +kernel
theorem dX4_number_135 : decode cX4_number 135 = .ok (.aload_n 0, 1) := by decide +kernel
theorem dX4_number_136 : decode cX4_number 136 = .ok (.getfield 20, 3) := by decide +kernel
theorem dX4_number_139 : decode cX4_number 139 = .ok (.bipush 9, 2) := by decide +kernel
theorem dX4_number_141 : decode cX4_number 141 = .ok (.invokevirtual 181, 3) := by decide +kernel
theorem dX4_number_144 : decode cX4_number 144 = .ok (.ireturn, 1) := by decide +kernel
theorem dX4_number_145 : decode cX4_number 145 = .ok (.aload_n 0, 1) := by decide +kernel
theorem dX4_number_146 : decode cX4_number 146 = .ok (.getfield 20, 3) := by decide +kernel
theorem dX4_number_149 : decode cX4_number 149 = .ok (.iconst 3, 1) := by decide +kernel
theorem dX4_number_150 : decode cX4_number 150 = .ok (.iload_n 1, 1) := by decide +kernel
theorem dX4_number_151 : decode cX4_number 151 = .ok (.iconst 2, 1) := by decide +kernel
theorem dX4_number_152 : decode cX4_number 152 = .ok (.isub, 1) := by decide +kernel
theorem dX4_number_153 : decode cX4_number 153 = .ok (.invokevirtual 136, 3) := by decide +kernel
theorem dX4_number_156 : decode cX4_number 156 = .ok (.ireturn, 1) := by decide +kernel
theorem dX4_numberOfGutter_0 : decode cX4_numberOfGutter 0 = .ok (.iload_n 2, 1) := by decide +kernel
theorem dX4_numberOfGutter_1 : decode cX4_numberOfGutter 1 = .ok (.tableswitch 47 4 6 #[27, 34, 41], 27) := by decide +kernel
theorem dX4_numberOfGutter_28 : decode cX4_numberOfGutter 28 = .ok (.aload_n 0, 1) := by decide +kernel
theorem dX4_numberOfGutter_29 : decode cX4_numberOfGutter 29 = .ok (.iload_n 1, 1) := by decide +kernel
theorem dX4_numberOfGutter_30 : decode cX4_numberOfGutter 30 = .ok (.iconst 1, 1) := by decide +kernel
theorem dX4_numberOfGutter_31 : decode cX4_numberOfGutter 31 = .ok (.invokevirtual 184, 3) := by decide +kernel
theorem dX4_numberOfGutter_34 : decode cX4_numberOfGutter 34 = .ok (.ireturn, 1) := by decide +kernel
theorem dX4_numberOfGutter_35 : decode cX4_numberOfGutter 35 = .ok (.aload_n 0, 1) := by decide +kernel
theorem dX4_numberOfGutter_36 : decode cX4_numberOfGutter 36 = .ok (.iload_n 1, 1) := by decide +kernel
theorem dX4_numberOfGutter_37 : decode cX4_numberOfGutter 37 = .ok (.iconst 3, 1) := by decide +kernel
theorem dX4_numberOfGutter_38 : decode cX4_numberOfGutter 38 = .ok (.invokevirtual 184, 3) := by decide +kernel
theorem dX4_numberOfGutter_41 : decode cX4_numberOfGutter 41 = .ok (.ireturn, 1) := by decide +kernel
theorem dX4_numberOfGutter_42 : decode cX4_numberOfGutter 42 = .ok (.aload_n 0, 1) := by decide +kernel
theorem dX4_numberOfGutter_43 : decode cX4_numberOfGutter 43 = .ok (.iload_n 1, 1) := by decide +kernel
theorem dX4_numberOfGutter_44 : decode cX4_numberOfGutter 44 = .ok (.invokevirtual 187, 3) := by decide +kernel
theorem dX4_numberOfGutter_47 : decode cX4_numberOfGutter 47 = .ok (.ireturn, 1) := by decide +kernel
theorem dX4_numberOfGutter_48 : decode cX4_numberOfGutter 48 = .ok (.aload_n 0, 1) := by decide +kernel
theorem dX4_numberOfGutter_49 : decode cX4_numberOfGutter 49 = .ok (.getfield 14, 3) := by decide +kernel
theorem dX4_numberOfGutter_52 : decode cX4_numberOfGutter 52 = .ok (.iload_n 1, 1) := by decide +kernel
theorem dX4_numberOfGutter_53 : decode cX4_numberOfGutter 53 = .ok (.iload_n 2, 1) := by decide +kernel
theorem dX4_numberOfGutter_54 : decode cX4_numberOfGutter 54 = .ok (.invokevirtual 71, 3) := by decide +kernel
theorem dX4_numberOfGutter_57 : decode cX4_numberOfGutter 57 = .ok (.ireturn, 1) := by decide +kernel
theorem dX4_countInGutter_0 : decode cX4_countInGutter 0 = .ok (.iconst 0, 1) := by decide +kernel
theorem dX4_countInGutter_1 : decode cX4_countInGutter 1 = .ok (.istore_n 3, 1) := by decide +kernel
theorem dX4_countInGutter_2 : decode cX4_countInGutter 2 = .ok (.iconst 0, 1) := by decide +kernel
theorem dX4_countInGutter_3 : decode cX4_countInGutter 3 = .ok (.istore 4, 2) := by decide +kernel
theorem dX4_countInGutter_5 : decode cX4_countInGutter 5 = .ok (.iload 4, 2) := by decide +kernel
theorem dX4_countInGutter_7 : decode cX4_countInGutter 7 = .ok (.aload_n 0, 1) := by decide +kernel
theorem dX4_countInGutter_8 : decode cX4_countInGutter 8 = .ok (.getfield 20, 3) := by decide +kernel
theorem dX4_countInGutter_11 : decode cX4_countInGutter 11 = .ok (.getfield 29, 3) := by decide +kernel
theorem dX4_countInGutter_14 : decode cX4_countInGutter 14 = .ok (.if_icmp .ge 40, 3) := by decide +kernel
theorem dX4_countInGutter_17 : decode cX4_countInGutter 17 = .ok (.aload_n 0, 1) := by decide +kernel
theorem dX4_countInGutter_18 : decode cX4_countInGutter 18 = .ok (.getfield 20, 3) := by decide +kernel
theorem dX4_countInGutter_21 : decode cX4_countInGutter 21 = .ok (.iload 4, 2) := by decide +kernel
theorem dX4_countInGutter_23 : decode cX4_countInGutter 23 = .ok (.iconst 3, 1) := by decide +kernel
theorem dX4_countInGutter_24 : decode cX4_countInGutter 24 = .ok (.invokevirtual 71, 3) := by decide +kernel
theorem dX4_countInGutter_27 : decode cX4_countInGutter 27 = .ok (.iload_n 2, 1) := by decide +kernel
theorem dX4_countInGutter_28 : decode cX4_countInGutter 28 = .ok (.if_icmp .ne 20, 3) := by decide +kernel
theorem dX4_countInGutter_31 : decode cX4_countInGutter 31 = .ok (.aload_n 0, 1) := by decide +kernel
theorem dX4_countInGutter_32 : decode cX4_countInGutter 32 = .ok (.getfield 20, 3) := by decide +kernel
theorem dX4_countInGutter_35 : decode cX4_countInGutter 35 = .ok (.iload 4, 2) := by decide +kernel
theorem dX4_countInGutter_37 : decode cX4_countInGutter 37 = .ok (.iconst 4, 1) := by decide +kernel
theorem dX4_countInGutter_38 : decode cX4_countInGutter 38 = .ok (.invokevirtual 71, 3) := by decide +kernel
theorem dX4_countInGutter_41 : decode cX4_countInGutter 41 = .ok (.iload_n 1, 1) := by decide +kernel
theorem dX4_countInGutter_42 : decode cX4_countInGutter 42 = .ok (.if_icmp .ne 6, 3) := by decide +kernel
theorem dX4_countInGutter_45 : decode cX4_countInGutter 45 = .ok (.iinc 3 1, 3) := by decide +kernel
theorem dX4_countInGutter_48 : decode cX4_countInGutter 48 = .ok (.iinc 4 1, 3) := by decide +kernel
theorem dX4_countInGutter_51 : decode cX4_countInGutter 51 = .ok (.goto (-46), 3) := by decide +kernel
theorem dX4_countInGutter_54 : decode cX4_countInGutter 54 = .ok (.iload_n 3, 1) := by decide +kernel
theorem dX4_countInGutter_55 : decode cX4_countInGutter 55 = .ok (.ireturn, 1) := by decide +kernel
theorem dX4_lowestWreck_0 : decode cX4_lowestWreck 0 = .ok (.iconst 0, 1) := by decide +kernel
theorem dX4_lowestWreck_1 : decode cX4_lowestWreck 1 = .ok (.istore_n 2, 1) := by decide +kernel
theorem dX4_lowestWreck_2 : decode cX4_lowestWreck 2 = .ok (.iload_n 2, 1) := by decide +kernel
theorem dX4_lowestWreck_3 : decode cX4_lowestWreck 3 = .ok (.aload_n 0, 1) := by decide +kernel
theorem dX4_lowestWreck_4 : decode cX4_lowestWreck 4 = .ok (.getfield 14, 3) := by decide +kernel
theorem dX4_lowestWreck_7 : decode cX4_lowestWreck 7 = .ok (.iload_n 1, 1) := by decide +kernel
theorem dX4_lowestWreck_8 : decode cX4_lowestWreck 8 = .ok (.iconst 0, 1) := by decide +kernel
theorem dX4_lowestWreck_9 : decode cX4_lowestWreck 9 = .ok (.invokevirtual 71, 3) := by decide +kernel
theorem dX4_lowestWreck_12 : decode cX4_lowestWreck 12 = .ok (.if_icmp .ge 20, 3) := by decide +kernel
theorem dX4_lowestWreck_15 : decode cX4_lowestWreck 15 = .ok (.aload_n 0, 1) := by decide +kernel
theorem dX4_lowestWreck_16 : decode cX4_lowestWreck 16 = .ok (.iload_n 1, 1) := by decide +kernel
theorem dX4_lowestWreck_17 : decode cX4_lowestWreck 17 = .ok (.iload_n 2, 1) := by decide +kernel
theorem dX4_lowestWreck_18 : decode cX4_lowestWreck 18 = .ok (.invokevirtual 167, 3) := by decide +kernel
theorem dX4_lowestWreck_21 : decode cX4_lowestWreck 21 = .ok (.ifCond .eq 5, 3) := by decide +kernel
theorem dX4_lowestWreck_24 : decode cX4_lowestWreck 24 = .ok (.iload_n 2, 1) := by decide +kernel
theorem dX4_lowestWreck_25 : decode cX4_lowestWreck 25 = .ok (.ireturn, 1) := by decide +kernel
theorem dX4_lowestWreck_26 : decode cX4_lowestWreck 26 = .ok (.iinc 2 1, 3) := by decide +kernel
theorem dX4_lowestWreck_29 : decode cX4_lowestWreck 29 = .ok (.goto (-27), 3) := by decide +kernel
theorem dX4_lowestWreck_32 : decode cX4_lowestWreck 32 = .ok (.iconst (-1), 1) := by decide +kernel
theorem dX4_lowestWreck_33 : decode cX4_lowestWreck 33 = .ok (.ireturn, 1) := by decide +kernel
theorem dX4_numberOfOwner_0 : decode cX4_numberOfOwner 0 = .ok (.iload_n 2, 1) := by decide +kernel
theorem dX4_numberOfOwner_1 : decode cX4_numberOfOwner 1 = .ok (.tableswitch 71 0 3 #[31, 41, 51, 61], 31) := by decide +kernel
theorem dX4_numberOfOwner_32 : decode cX4_numberOfOwner 32 = .ok (.aload_n 0, 1) := by decide +kernel
theorem dX4_numberOfOwner_33 : decode cX4_numberOfOwner 33 = .ok (.getfield 23, 3) := by decide +kernel
theorem dX4_numberOfOwner_36 : decode cX4_numberOfOwner 36 = .ok (.iload_n 1, 1) := by decide +kernel
theorem dX4_numberOfOwner_37 : decode cX4_numberOfOwner 37 = .ok (.iconst 0, 1) := by decide +kernel
theorem dX4_numberOfOwner_38 : decode cX4_numberOfOwner 38 = .ok (.invokevirtual 71, 3) := by decide +kernel
theorem dX4_numberOfOwner_41 : decode cX4_numberOfOwner 41 = .ok (.ireturn, 1) := by decide +kernel
theorem dX4_numberOfOwner_42 : decode cX4_numberOfOwner 42 = .ok (.aload_n 0, 1) := by decide +kernel
theorem dX4_numberOfOwner_43 : decode cX4_numberOfOwner 43 = .ok (.getfield 20, 3) := by decide +kernel
theorem dX4_numberOfOwner_46 : decode cX4_numberOfOwner 46 = .ok (.iconst 2, 1) := by decide +kernel
theorem dX4_numberOfOwner_47 : decode cX4_numberOfOwner 47 = .ok (.iload_n 1, 1) := by decide +kernel
theorem dX4_numberOfOwner_48 : decode cX4_numberOfOwner 48 = .ok (.invokevirtual 136, 3) := by decide +kernel
theorem dX4_numberOfOwner_51 : decode cX4_numberOfOwner 51 = .ok (.ireturn, 1) := by decide +kernel
theorem dX4_numberOfOwner_52 : decode cX4_numberOfOwner 52 = .ok (.aload_n 0, 1) := by decide +kernel
theorem dX4_numberOfOwner_53 : decode cX4_numberOfOwner 53 = .ok (.getfield 23, 3) := by decide +kernel
theorem dX4_numberOfOwner_56 : decode cX4_numberOfOwner 56 = .ok (.iload_n 1, 1) := by decide +kernel
theorem dX4_numberOfOwner_57 : decode cX4_numberOfOwner 57 = .ok (.iconst 1, 1) := by decide +kernel
theorem dX4_numberOfOwner_58 : decode cX4_numberOfOwner 58 = .ok (.invokevirtual 71, 3) := by decide +kernel
theorem dX4_numberOfOwner_61 : decode cX4_numberOfOwner 61 = .ok (.ireturn, 1) := by decide +kernel
theorem dX4_numberOfOwner_62 : decode cX4_numberOfOwner 62 = .ok (.aload_n 0, 1) := by decide +kernel
theorem dX4_numberOfOwner_63 : decode cX4_numberOfOwner 63 = .ok (.getfield 23, 3) := by decide +kernel
theorem dX4_numberOfOwner_66 : decode cX4_numberOfOwner 66 = .ok (.iload_n 1, 1) := by decide +kernel
theorem dX4_numberOfOwner_67 : decode cX4_numberOfOwner 67 = .ok (.iconst 2, 1) := by decide +kernel
theorem dX4_numberOfOwner_68 : decode cX4_numberOfOwner 68 = .ok (.invokevirtual 71, 3) := by decide +kernel
theorem dX4_numberOfOwner_71 : decode cX4_numberOfOwner 71 = .ok (.ireturn, 1) := by decide +kernel
theorem dX4_numberOfOwner_72 : decode cX4_numberOfOwner 72 = .ok (.aload_n 0, 1) := by decide +kernel
theorem dX4_numberOfOwner_73 : decode cX4_numberOfOwner 73 = .ok (.iload_n 1, 1) := by decide +kernel
theorem dX4_numberOfOwner_74 : decode cX4_numberOfOwner 74 = .ok (.invokevirtual 190, 3) := by decide +kernel
theorem dX4_numberOfOwner_77 : decode cX4_numberOfOwner 77 = .ok (.ireturn, 1) := by decide +kernel
theorem dX5_init_0 : decode cX5_init 0 = .ok (.aload_n 0, 1) := by decide +kernel
theorem dX5_init_1 : decode cX5_init 1 = .ok (.invokespecial 1, 3) := by decide +kernel
theorem dX5_init_4 : decode cX5_init 4 = .ok (.aload_n 0, 1) := by decide +kernel
theorem dX5_init_5 : decode cX5_init 5 = .ok (.new 7, 3) := by decide +kernel
theorem dX5_init_8 : decode cX5_init 8 = .ok (.dup, 1) := by decide +kernel
theorem dX5_init_9 : decode cX5_init 9 = .ok (.invokespecial 9, 3) := by decide +kernel
theorem dX5_init_12 : decode cX5_init 12 = .ok (.putfield 10, 3) := by decide +kernel
theorem dX5_init_15 : decode cX5_init 15 = .ok (.aload_n 0, 1) := by decide +kernel
theorem dX5_init_16 : decode cX5_init 16 = .ok (.new 16, 3) := by decide +kernel
theorem dX5_init_19 : decode cX5_init 19 = .ok (.dup, 1) := by decide +kernel
theorem dX5_init_20 : decode cX5_init 20 = .ok (.invokespecial 18, 3) := by decide +kernel
theorem dX5_init_23 : decode cX5_init 23 = .ok (.putfield 19, 3) := by decide +kernel
theorem dX5_init_26 : decode cX5_init 26 = .ok (.aload_n 0, 1) := by decide +kernel
theorem dX5_init_27 : decode cX5_init 27 = .ok (.new 16, 3) := by decide +kernel
theorem dX5_init_30 : decode cX5_init 30 = .ok (.dup, 1) := by decide +kernel
theorem dX5_init_31 : decode cX5_init 31 = .ok (.invokespecial 18, 3) := by decide +kernel
theorem dX5_init_34 : decode cX5_init 34 = .ok (.putfield 23, 3) := by decide +kernel
theorem dX5_init_37 : decode cX5_init 37 = .ok (.aload_n 0, 1) := by decide +kernel
theorem dX5_init_38 : decode cX5_init 38 = .ok (.new 26, 3) := by decide +kernel
theorem dX5_init_41 : decode cX5_init 41 = .ok (.dup, 1) := by decide +kernel
theorem dX5_init_42 : decode cX5_init 42 = .ok (.invokespecial 28, 3) := by decide +kernel
theorem dX5_init_45 : decode cX5_init 45 = .ok (.putfield 29, 3) := by decide +kernel
theorem dX5_init_48 : decode cX5_init 48 = .ok (.aload_n 0, 1) := by decide +kernel
theorem dX5_init_49 : decode cX5_init 49 = .ok (.new 33, 3) := by decide +kernel
theorem dX5_init_52 : decode cX5_init 52 = .ok (.dup, 1) := by decide +kernel
theorem dX5_init_53 : decode cX5_init 53 = .ok (.iconst 2, 1) := by decide +kernel
theorem dX5_init_54 : decode cX5_init 54 = .ok (.invokespecial 35, 3) := by decide +kernel
theorem dX5_init_57 : decode cX5_init 57 = .ok (.putfield 38, 3) := by decide +kernel
theorem dX5_init_60 : decode cX5_init 60 = .ok (.return_, 1) := by decide +kernel
theorem dX5_append_0 : decode cX5_append 0 = .ok (.iload_n 1, 1) := by decide +kernel
theorem dX5_append_1 : decode cX5_append 1 = .ok (.ifCond .lt 10, 3) := by decide +kernel
theorem dX5_append_4 : decode cX5_append 4 = .ok (.iload_n 1, 1) := by decide +kernel
theorem dX5_append_5 : decode cX5_append 5 = .ok (.sipush 255, 3) := by decide +kernel
theorem dX5_append_8 : decode cX5_append 8 = .ok (.if_icmp .le 7, 3) := by decide +kernel
theorem dX5_append_11 : decode cX5_append 11 = .ok (.iconst 2, 1) := by decide +kernel
theorem dX5_append_12 : decode cX5_append 12 = .ok (.goto 4, 3) := by decide +kernel
theorem dX5_append_15 : decode cX5_append 15 = .ok (.iconst 0, 1) := by decide +kernel
theorem dX5_append_16 : decode cX5_append 16 = .ok (.invokestatic 42, 3) := by decide +kernel
theorem dX5_append_19 : decode cX5_append 19 = .ok (.aload_n 0, 1) := by decide +kernel
theorem dX5_append_20 : decode cX5_append 20 = .ok (.getfield 10, 3) := by decide +kernel
theorem dX5_append_23 : decode cX5_append 23 = .ok (.invokevirtual 45, 3) := by decide +kernel
theorem dX5_append_26 : decode cX5_append 26 = .ok (.ifCond .eq 7, 3) := by decide +kernel
theorem dX5_append_29 : decode cX5_append 29 = .ok (.iconst 3, 1) := by decide +kernel
theorem dX5_append_30 : decode cX5_append 30 = .ok (.goto 4, 3) := by decide +kernel
theorem dX5_append_33 : decode cX5_append 33 = .ok (.iconst 0, 1) := by decide +kernel
theorem dX5_append_34 : decode cX5_append 34 = .ok (.invokestatic 42, 3) := by decide +kernel
theorem dX5_append_37 : decode cX5_append 37 = .ok (.aload_n 0, 1) := by decide +kernel
theorem dX5_append_38 : decode cX5_append 38 = .ok (.getfield 10, 3) := by decide +kernel
theorem dX5_append_41 : decode cX5_append 41 = .ok (.iload_n 1, 1) := by decide +kernel
theorem dX5_append_42 : decode cX5_append 42 = .ok (.invokevirtual 49, 3) := by decide +kernel
theorem dX5_append_45 : decode cX5_append 45 = .ok (.ireturn, 1) := by decide +kernel
theorem dX5_clearText_0 : decode cX5_clearText 0 = .ok (.aload_n 0, 1) := by decide +kernel
theorem dX5_clearText_1 : decode cX5_clearText 1 = .ok (.getfield 10, 3) := by decide +kernel
theorem dX5_clearText_4 : decode cX5_clearText 4 = .ok (.invokevirtual 53, 3) := by decide +kernel
theorem dX5_clearText_7 : decode cX5_clearText 7 = .ok (.ireturn, 1) := by decide +kernel
theorem dX5_errorPosition_0 : decode cX5_errorPosition 0 = .ok (.aload_n 0, 1) := by decide +kernel
theorem dX5_errorPosition_1 : decode cX5_errorPosition 1 = .ok (.getfield 10, 3) := by decide +kernel
theorem dX5_errorPosition_4 : decode cX5_errorPosition 4 = .ok (.invokevirtual 57, 3) := by decide +kernel
theorem dX5_errorPosition_7 : decode cX5_errorPosition 7 = .ok (.ireturn, 1) := by decide +kernel
theorem dX5_load_0 : decode cX5_load 0 = .ok (.aload_n 0, 1) := by decide +kernel
theorem dX5_load_1 : decode cX5_load 1 = .ok (.getfield 10, 3) := by decide +kernel
theorem dX5_load_4 : decode cX5_load 4 = .ok (.invokevirtual 57, 3) := by decide +kernel
theorem dX5_load_7 : decode cX5_load 7 = .ok (.iconst (-1), 1) := by decide +kernel
theorem dX5_load_8 : decode cX5_load 8 = .ok (.if_icmp .eq 7, 3) := by decide +kernel
theorem dX5_load_11 : decode cX5_load 11 = .ok (.iconst 3, 1) := by decide +kernel
theorem dX5_load_12 : decode cX5_load 12 = .ok (.goto 4, 3) := by decide +kernel
theorem dX5_load_15 : decode cX5_load 15 = .ok (.iconst 0, 1) := by decide +kernel
theorem dX5_load_16 : decode cX5_load 16 = .ok (.invokestatic 42, 3) := by decide +kernel
theorem dX5_load_19 : decode cX5_load 19 = .ok (.aload_n 0, 1) := by decide +kernel
theorem dX5_load_20 : decode cX5_load 20 = .ok (.getfield 19, 3) := by decide +kernel
theorem dX5_load_23 : decode cX5_load 23 = .ok (.invokevirtual 60, 3) := by decide +kernel
theorem dX5_load_26 : decode cX5_load 26 = .ok (.aload_n 0, 1) := by decide +kernel
theorem dX5_load_27 : decode cX5_load 27 = .ok (.getfield 29, 3) := by decide +kernel
theorem dX5_load_30 : decode cX5_load 30 = .ok (.invokevirtual 63, 3) := by decide +kernel
theorem dX5_load_33 : decode cX5_load 33 = .ok (.aload_n 0, 1) := by decide +kernel
theorem dX5_load_34 : decode cX5_load 34 = .ok (.getfield 38, 3) := by decide +kernel
theorem dX5_load_37 : decode cX5_load 37 = .ok (.invokevirtual 66, 3) := by decide +kernel
theorem dX5_load_40 : decode cX5_load 40 = .ok (.aload_n 0, 1) := by decide +kernel
theorem dX5_load_41 : decode cX5_load 41 = .ok (.getfield 10, 3) := by decide +kernel
theorem dX5_load_44 : decode cX5_load 44 = .ok (.aload_n 0, 1) := by decide +kernel
theorem dX5_load_45 : decode cX5_load 45 = .ok (.getfield 19, 3) := by decide +kernel
theorem dX5_load_48 : decode cX5_load 48 = .ok (.invokevirtual 69, 3) := by decide +kernel
theorem dX5_load_51 : decode cX5_load 51 = .ok (.ireturn, 1) := by decide +kernel
theorem dX5_about_0 : decode cX5_about 0 = .ok (.iload_n 1, 1) := by decide +kernel
theorem dX5_about_1 : decode cX5_about 1 = .ok (.ifCond .lt 9, 3) := by decide +kernel
theorem dX5_about_4 : decode cX5_about 4 = .ok (.iload_n 1, 1) := by decide +kernel
theorem dX5_about_5 : decode cX5_about 5 = .ok (.bipush 13, 2) := by decide +kernel
theorem dX5_about_7 : decode cX5_about 7 = .ok (.if_icmp .le 7, 3) := by decide +kernel
theorem dX5_about_10 : decode cX5_about 10 = .ok (.iconst 2, 1) := by decide +kernel
theorem dX5_about_11 : decode cX5_about 11 = .ok (.goto 4, 3) := by decide +kernel
theorem dX5_about_14 : decode cX5_about 14 = .ok (.iconst 0, 1) := by decide +kernel
theorem dX5_about_15 : decode cX5_about 15 = .ok (.invokestatic 42, 3) := by decide +kernel
theorem dX5_about_18 : decode cX5_about 18 = .ok (.aload_n 0, 1) := by decide +kernel
theorem dX5_about_19 : decode cX5_about 19 = .ok (.getfield 19, 3) := by decide +kernel
theorem dX5_about_22 : decode cX5_about 22 = .ok (.iload_n 1, 1) := by decide +kernel
theorem dX5_about_23 : decode cX5_about 23 = .ok (.invokevirtual 73, 3) := by decide +kernel
theorem dX5_about_26 : decode cX5_about 26 = .ok (.ireturn, 1) := by decide +kernel
theorem dX5_gutterOf_0 : decode cX5_gutterOf 0 = .ok (.aload_n 0, 1) := by decide +kernel
theorem dX5_gutterOf_1 : decode cX5_gutterOf 1 = .ok (.getfield 19, 3) := by decide +kernel
theorem dX5_gutterOf_4 : decode cX5_gutterOf 4 = .ok (.iload_n 1, 1) := by decide +kernel
theorem dX5_gutterOf_5 : decode cX5_gutterOf 5 = .ok (.invokevirtual 76, 3) := by decide +kernel
theorem dX5_gutterOf_8 : decode cX5_gutterOf 8 = .ok (.ifCond .eq 7, 3) := by decide +kernel
theorem dX5_gutterOf_11 : decode cX5_gutterOf 11 = .ok (.iconst 0, 1) := by decide +kernel
theorem dX5_gutterOf_12 : decode cX5_gutterOf 12 = .ok (.goto 4, 3) := by decide +kernel
theorem dX5_gutterOf_15 : decode cX5_gutterOf 15 = .ok (.iconst 1, 1) := by decide +kernel
theorem dX5_gutterOf_16 : decode cX5_gutterOf 16 = .ok (.invokestatic 42, 3) := by decide +kernel
theorem dX5_gutterOf_19 : decode cX5_gutterOf 19 = .ok (.iload_n 2, 1) := by decide +kernel
theorem dX5_gutterOf_20 : decode cX5_gutterOf 20 = .ok (.ifCond .lt 9, 3) := by decide +kernel
theorem dX5_gutterOf_23 : decode cX5_gutterOf 23 = .ok (.iload_n 2, 1) := by decide +kernel
theorem dX5_gutterOf_24 : decode cX5_gutterOf 24 = .ok (.bipush 6, 2) := by decide +kernel
theorem dX5_gutterOf_26 : decode cX5_gutterOf 26 = .ok (.if_icmp .le 7, 3) := by decide +kernel
theorem dX5_gutterOf_29 : decode cX5_gutterOf 29 = .ok (.iconst 2, 1) := by decide +kernel
theorem dX5_gutterOf_30 : decode cX5_gutterOf 30 = .ok (.goto 4, 3) := by decide +kernel
theorem dX5_gutterOf_33 : decode cX5_gutterOf 33 = .ok (.iconst 0, 1) := by decide +kernel
theorem dX5_gutterOf_34 : decode cX5_gutterOf 34 = .ok (.invokestatic 42, 3) := by decide +kernel
theorem dX5_gutterOf_37 : decode cX5_gutterOf 37 = .ok (.aload_n 0, 1) := by decide +kernel
theorem dX5_gutterOf_38 : decode cX5_gutterOf 38 = .ok (.getfield 19, 3) := by decide +kernel
theorem dX5_gutterOf_41 : decode cX5_gutterOf 41 = .ok (.iload_n 1, 1) := by decide +kernel
theorem dX5_gutterOf_42 : decode cX5_gutterOf 42 = .ok (.iload_n 2, 1) := by decide +kernel
theorem dX5_gutterOf_43 : decode cX5_gutterOf 43 = .ok (.invokevirtual 80, 3) := by decide +kernel
theorem dX5_gutterOf_46 : decode cX5_gutterOf 46 = .ok (.ireturn, 1) := by decide +kernel
theorem dX5_boatOf_0 : decode cX5_boatOf 0 = .ok (.aload_n 0, 1) := by decide +kernel
theorem dX5_boatOf_1 : decode cX5_boatOf 1 = .ok (.getfield 19, 3) := by decide +kernel
theorem dX5_boatOf_4 : decode cX5_boatOf 4 = .ok (.iload_n 1, 1) := by decide +kernel
theorem dX5_boatOf_5 : decode cX5_boatOf 5 = .ok (.invokevirtual 84, 3) := by decide +kernel
theorem dX5_boatOf_8 : decode cX5_boatOf 8 = .ok (.ifCond .eq 7, 3) := by decide +kernel
theorem dX5_boatOf_11 : decode cX5_boatOf 11 = .ok (.iconst 0, 1) := by decide +kernel
theorem dX5_boatOf_12 : decode cX5_boatOf 12 = .ok (.goto 4, 3) := by decide +kernel
theorem dX5_boatOf_15 : decode cX5_boatOf 15 = .ok (.iconst 1, 1) := by decide +kernel
theorem dX5_boatOf_16 : decode cX5_boatOf 16 = .ok (.invokestatic 42, 3) := by decide +kernel
theorem dX5_boatOf_19 : decode cX5_boatOf 19 = .ok (.iload_n 2, 1) := by decide +kernel
theorem dX5_boatOf_20 : decode cX5_boatOf 20 = .ok (.ifCond .lt 9, 3) := by decide +kernel
theorem dX5_boatOf_23 : decode cX5_boatOf 23 = .ok (.iload_n 2, 1) := by decide +kernel
theorem dX5_boatOf_24 : decode cX5_boatOf 24 = .ok (.bipush 10, 2) := by decide +kernel
theorem dX5_boatOf_26 : decode cX5_boatOf 26 = .ok (.if_icmp .le 7, 3) := by decide +kernel
theorem dX5_boatOf_29 : decode cX5_boatOf 29 = .ok (.iconst 2, 1) := by decide +kernel
theorem dX5_boatOf_30 : decode cX5_boatOf 30 = .ok (.goto 4, 3) := by decide +kernel
theorem dX5_boatOf_33 : decode cX5_boatOf 33 = .ok (.iconst 0, 1) := by decide +kernel
theorem dX5_boatOf_34 : decode cX5_boatOf 34 = .ok (.invokestatic 42, 3) := by decide +kernel
theorem dX5_boatOf_37 : decode cX5_boatOf 37 = .ok (.iload_n 2, 1) := by decide +kernel
theorem dX5_boatOf_38 : decode cX5_boatOf 38 = .ok (.bipush 10, 2) := by decide +kernel
theorem dX5_boatOf_40 : decode cX5_boatOf 40 = .ok (.if_icmp .ne 14, 3) := by decide +kernel
theorem dX5_boatOf_43 : decode cX5_boatOf 43 = .ok (.aload_n 0, 1) := by decide +kernel
theorem dX5_boatOf_44 : decode cX5_boatOf 44 = .ok (.getfield 19, 3) := by decide +kernel
theorem dX5_boatOf_47 : decode cX5_boatOf 47 = .ok (.iload_n 1, 1) := by decide +kernel
theorem dX5_boatOf_48 : decode cX5_boatOf 48 = .ok (.invokevirtual 87, 3) := by decide +kernel
theorem dX5_boatOf_51 : decode cX5_boatOf 51 = .ok (.goto 15, 3) := by decide +kernel
theorem dX5_boatOf_54 : decode cX5_boatOf 54 = .ok (.aload_n 0, 1) := by decide +kernel
theorem dX5_boatOf_55 : decode cX5_boatOf 55 = .ok (.getfield 19, 3) := by decide +kernel
theorem dX5_boatOf_58 : decode cX5_boatOf 58 = .ok (.getfield 90, 3) := by decide +kernel
theorem dX5_boatOf_61 : decode cX5_boatOf 61 = .ok (.iload_n 1, 1) := by decide +kernel
theorem dX5_boatOf_62 : decode cX5_boatOf 62 = .ok (.iload_n 2, 1) := by decide +kernel
theorem dX5_boatOf_63 : decode cX5_boatOf 63 = .ok (.invokevirtual 94, 3) := by decide +kernel
theorem dX5_boatOf_66 : decode cX5_boatOf 66 = .ok (.ireturn, 1) := by decide +kernel
theorem dX5_ownerOf_0 : decode cX5_ownerOf 0 = .ok (.aload_n 0, 1) := by decide +kernel
theorem dX5_ownerOf_1 : decode cX5_ownerOf 1 = .ok (.getfield 19, 3) := by decide +kernel
theorem dX5_ownerOf_4 : decode cX5_ownerOf 4 = .ok (.iload_n 1, 1) := by decide +kernel
theorem dX5_ownerOf_5 : decode cX5_ownerOf 5 = .ok (.invokevirtual 99, 3) := by decide +kernel
theorem dX5_ownerOf_8 : decode cX5_ownerOf 8 = .ok (.ifCond .eq 7, 3) := by decide +kernel
theorem dX5_ownerOf_11 : decode cX5_ownerOf 11 = .ok (.iconst 0, 1) := by decide +kernel
theorem dX5_ownerOf_12 : decode cX5_ownerOf 12 = .ok (.goto 4, 3) := by decide +kernel
theorem dX5_ownerOf_15 : decode cX5_ownerOf 15 = .ok (.iconst 1, 1) := by decide +kernel
theorem dX5_ownerOf_16 : decode cX5_ownerOf 16 = .ok (.invokestatic 42, 3) := by decide +kernel
theorem dX5_ownerOf_19 : decode cX5_ownerOf 19 = .ok (.iload_n 2, 1) := by decide +kernel
theorem dX5_ownerOf_20 : decode cX5_ownerOf 20 = .ok (.ifCond .lt 8, 3) := by decide +kernel
theorem dX5_ownerOf_23 : decode cX5_ownerOf 23 = .ok (.iload_n 2, 1) := by decide +kernel
theorem dX5_ownerOf_24 : decode cX5_ownerOf 24 = .ok (.iconst 4, 1) := by decide +kernel
theorem dX5_ownerOf_25 : decode cX5_ownerOf 25 = .ok (.if_icmp .le 7, 3) := by decide +kernel
theorem dX5_ownerOf_28 : decode cX5_ownerOf 28 = .ok (.iconst 2, 1) := by decide +kernel
theorem dX5_ownerOf_29 : decode cX5_ownerOf 29 = .ok (.goto 4, 3) := by decide +kernel
theorem dX5_ownerOf_32 : decode cX5_ownerOf 32 = .ok (.iconst 0, 1) := by decide +kernel
theorem dX5_ownerOf_33 : decode cX5_ownerOf 33 = .ok (.invokestatic 42, 3) := by decide +kernel
theorem dX5_ownerOf_36 : decode cX5_ownerOf 36 = .ok (.aload_n 0, 1) := by decide +kernel
theorem dX5_ownerOf_37 : decode cX5_ownerOf 37 = .ok (.getfield 19, 3) := by decide +kernel
theorem dX5_ownerOf_40 : decode cX5_ownerOf 40 = .ok (.iload_n 1, 1) := by decide +kernel
theorem dX5_ownerOf_41 : decode cX5_ownerOf 41 = .ok (.iload_n 2, 1) := by decide +kernel
theorem dX5_ownerOf_42 : decode cX5_ownerOf 42 = .ok (.invokevirtual 102, 3) := by decide +kernel
theorem dX5_ownerOf_45 : decode cX5_ownerOf 45 = .ok (.ireturn, 1) := by decide +kernel
theorem dX5_way_0 : decode cX5_way 0 = .ok (.aload_n 0, 1) := by decide +kernel
theorem dX5_way_1 : decode cX5_way 1 = .ok (.getfield 19, 3) := by decide +kernel
theorem dX5_way_4 : decode cX5_way 4 = .ok (.iload_n 1, 1) := by decide +kernel
theorem dX5_way_5 : decode cX5_way 5 = .ok (.iload_n 2, 1) := by decide +kernel
theorem dX5_way_6 : decode cX5_way 6 = .ok (.invokevirtual 105, 3) := by decide +kernel
theorem dX5_way_9 : decode cX5_way 9 = .ok (.ifCond .eq 7, 3) := by decide +kernel
theorem dX5_way_12 : decode cX5_way 12 = .ok (.iconst 0, 1) := by decide +kernel
theorem dX5_way_13 : decode cX5_way 13 = .ok (.goto 4, 3) := by decide +kernel
theorem dX5_way_16 : decode cX5_way 16 = .ok (.iconst 1, 1) := by decide +kernel
theorem dX5_way_17 : decode cX5_way 17 = .ok (.invokestatic 42, 3) := by decide +kernel
theorem dX5_way_20 : decode cX5_way 20 = .ok (.iload_n 3, 1) := by decide +kernel
theorem dX5_way_21 : decode cX5_way 21 = .ok (.ifCond .eq 12, 3) := by decide +kernel
theorem dX5_way_24 : decode cX5_way 24 = .ok (.iload_n 3, 1) := by decide +kernel
theorem dX5_way_25 : decode cX5_way 25 = .ok (.iconst 1, 1) := by decide +kernel
theorem dX5_way_26 : decode cX5_way 26 = .ok (.if_icmp .eq 7, 3) := by decide +kernel
theorem dX5_way_29 : decode cX5_way 29 = .ok (.iconst 2, 1) := by decide +kernel
theorem dX5_way_30 : decode cX5_way 30 = .ok (.goto 4, 3) := by decide +kernel
theorem dX5_way_33 : decode cX5_way 33 = .ok (.iconst 0, 1) := by decide +kernel
theorem dX5_way_34 : decode cX5_way 34 = .ok (.invokestatic 42, 3) := by decide +kernel
theorem dX5_way_37 : decode cX5_way 37 = .ok (.iload_n 3, 1) := by decide +kernel
theorem dX5_way_38 : decode cX5_way 38 = .ok (.ifCond .ne 15, 3) := by decide +kernel
theorem dX5_way_41 : decode cX5_way 41 = .ok (.aload_n 0, 1) := by decide +kernel
theorem dX5_way_42 : decode cX5_way 42 = .ok (.getfield 19, 3) := by decide +kernel
theorem dX5_way_45 : decode cX5_way 45 = .ok (.iload_n 1, 1) := by decide +kernel
theorem dX5_way_46 : decode cX5_way 46 = .ok (.iload_n 2, 1) := by decide +kernel
theorem dX5_way_47 : decode cX5_way 47 = .ok (.invokevirtual 109, 3) := by decide +kernel
theorem dX5_way_50 : decode cX5_way 50 = .ok (.goto 12, 3) := by decide +kernel
theorem dX5_way_53 : decode cX5_way 53 = .ok (.aload_n 0, 1) := by decide +kernel
theorem dX5_way_54 : decode cX5_way 54 = .ok (.getfield 19, 3) := by decide +kernel
theorem dX5_way_57 : decode cX5_way 57 = .ok (.iload_n 1, 1) := by decide +kernel
theorem dX5_way_58 : decode cX5_way 58 = .ok (.iload_n 2, 1) := by decide +kernel
theorem dX5_way_59 : decode cX5_way 59 = .ok (.invokevirtual 112, 3) := by decide +kernel
theorem dX5_way_62 : decode cX5_way 62 = .ok (.ireturn, 1) := by decide +kernel
theorem dX5_setting_0 : decode cX5_setting 0 = .ok (.iload_n 1, 1) := by decide +kernel
theorem dX5_setting_1 : decode cX5_setting 1 = .ok (.ifCond .lt 8, 3) := by decide +kernel
theorem dX5_setting_4 : decode cX5_setting 4 = .ok (.iload_n 1, 1) := by decide +kernel
theorem dX5_setting_5 : decode cX5_setting 5 = .ok (.iconst 2, 1) := by decide +kernel
theorem dX5_setting_6 : decode cX5_setting 6 = .ok (.if_icmp .le 7, 3) := by decide +kernel
theorem dX5_setting_9 : decode cX5_setting 9 = .ok (.iconst 2, 1) := by decide +kernel
theorem dX5_setting_10 : decode cX5_setting 10 = .ok (.goto 4, 3) := by decide +kernel
theorem dX5_setting_13 : decode cX5_setting 13 = .ok (.iconst 0, 1) := by decide +kernel
theorem dX5_setting_14 : decode cX5_setting 14 = .ok (.invokestatic 42, 3) := by decide +kernel
theorem dX5_setting_17 : decode cX5_setting 17 = .ok (.aload_n 0, 1) := by decide +kernel
theorem dX5_setting_18 : decode cX5_setting 18 = .ok (.getfield 19, 3) := by decide +kernel
theorem dX5_setting_21 : decode cX5_setting 21 = .ok (.iload_n 1, 1) := by decide +kernel
theorem dX5_setting_22 : decode cX5_setting 22 = .ok (.invokevirtual 115, 3) := by decide +kernel
theorem dX5_setting_25 : decode cX5_setting 25 = .ok (.ireturn, 1) := by decide +kernel
theorem dX5_gutter_0 : decode cX5_gutter 0 = .ok (.aload_n 0, 1) := by decide +kernel
theorem dX5_gutter_1 : decode cX5_gutter 1 = .ok (.getfield 19, 3) := by decide +kernel
theorem dX5_gutter_4 : decode cX5_gutter 4 = .ok (.iload_n 1, 1) := by decide +kernel
theorem dX5_gutter_5 : decode cX5_gutter 5 = .ok (.iload_n 2, 1) := by decide +kernel
theorem dX5_gutter_6 : decode cX5_gutter 6 = .ok (.iload_n 3, 1) := by decide +kernel
theorem dX5_gutter_7 : decode cX5_gutter 7 = .ok (.iload 4, 2) := by decide +kernel
theorem dX5_gutter_9 : decode cX5_gutter 9 = .ok (.invokevirtual 118, 3) := by decide +kernel
theorem dX5_gutter_12 : decode cX5_gutter 12 = .ok (.invokestatic 42, 3) := by decide +kernel
theorem dX5_gutter_15 : decode cX5_gutter 15 = .ok (.aload_n 0, 1) := by decide +kernel
theorem dX5_gutter_16 : decode cX5_gutter 16 = .ok (.getfield 29, 3) := by decide +kernel
theorem dX5_gutter_19 : decode cX5_gutter 19 = .ok (.aload_n 0, 1) := by decide +kernel
theorem dX5_gutter_20 : decode cX5_gutter 20 = .ok (.getfield 19, 3) := by decide +kernel
theorem dX5_gutter_23 : decode cX5_gutter 23 = .ok (.invokevirtual 122, 3) := by decide +kernel
theorem dX5_gutter_26 : decode cX5_gutter 26 = .ok (.aload_n 0, 1) := by decide +kernel
theorem dX5_gutter_27 : decode cX5_gutter 27 = .ok (.getfield 19, 3) := by decide +kernel
theorem dX5_gutter_30 : decode cX5_gutter 30 = .ok (.iload_n 1, 1) := by decide +kernel
theorem dX5_gutter_31 : decode cX5_gutter 31 = .ok (.iload_n 2, 1) := by decide +kernel
theorem dX5_gutter_32 : decode cX5_gutter 32 = .ok (.iload_n 3, 1) := by decide +kernel
theorem dX5_gutter_33 : decode cX5_gutter 33 = .ok (.iload 4, 2) := by decide +kernel
theorem dX5_gutter_35 : decode cX5_gutter 35 = .ok (.invokevirtual 126, 3) := by decide +kernel
theorem dX5_gutter_38 : decode cX5_gutter 38 = .ok (.ireturn, 1) := by decide +kernel
theorem dX5_boat_0 : decode cX5_boat 0 = .ok (.aload_n 0, 1) := by decide +kernel
theorem dX5_boat_1 : decode cX5_boat 1 = .ok (.getfield 19, 3) := by decide +kernel
theorem dX5_boat_4 : decode cX5_boat 4 = .ok (.iload_n 1, 1) := by decide +kernel
theorem dX5_boat_5 : decode cX5_boat 5 = .ok (.iload_n 2, 1) := by decide +kernel
theorem dX5_boat_6 : decode cX5_boat 6 = .ok (.iload_n 3, 1) := by decide +kernel
theorem dX5_boat_7 : decode cX5_boat 7 = .ok (.invokevirtual 129, 3) := by decide +kernel
theorem dX5_boat_10 : decode cX5_boat 10 = .ok (.invokestatic 42, 3) := by decide +kernel
theorem dX5_boat_13 : decode cX5_boat 13 = .ok (.aload_n 0, 1) := by decide +kernel
theorem dX5_boat_14 : decode cX5_boat 14 = .ok (.getfield 29, 3) := by decide +kernel
theorem dX5_boat_17 : decode cX5_boat 17 = .ok (.aload_n 0, 1) := by decide +kernel
theorem dX5_boat_18 : decode cX5_boat 18 = .ok (.getfield 19, 3) := by decide +kernel
theorem dX5_boat_21 : decode cX5_boat 21 = .ok (.invokevirtual 122, 3) := by decide +kernel
theorem dX5_boat_24 : decode cX5_boat 24 = .ok (.aload_n 0, 1) := by decide +kernel
theorem dX5_boat_25 : decode cX5_boat 25 = .ok (.getfield 19, 3) := by decide +kernel
theorem dX5_boat_28 : decode cX5_boat 28 = .ok (.iload_n 1, 1) := by decide +kernel
theorem dX5_boat_29 : decode cX5_boat 29 = .ok (.iload_n 2, 1) := by decide +kernel
theorem dX5_boat_30 : decode cX5_boat 30 = .ok (.iload_n 3, 1) := by decide +kernel
theorem dX5_boat_31 : decode cX5_boat 31 = .ok (.invokevirtual 133, 3) := by decide +kernel
theorem dX5_boat_34 : decode cX5_boat 34 = .ok (.ireturn, 1) := by decide +kernel
theorem dX5_launch_0 : decode cX5_launch 0 = .ok (.aload_n 0, 1) := by decide +kernel
theorem dX5_launch_1 : decode cX5_launch 1 = .ok (.getfield 19, 3) := by decide +kernel
theorem dX5_launch_4 : decode cX5_launch 4 = .ok (.iload_n 1, 1) := by decide +kernel
theorem dX5_launch_5 : decode cX5_launch 5 = .ok (.iload_n 2, 1) := by decide +kernel
theorem dX5_launch_6 : decode cX5_launch 6 = .ok (.invokevirtual 136, 3) := by decide +kernel
theorem dX5_launch_9 : decode cX5_launch 9 = .ok (.invokestatic 42, 3) := by decide +kernel
theorem dX5_launch_12 : decode cX5_launch 12 = .ok (.aload_n 0, 1) := by decide +kernel
theorem dX5_launch_13 : decode cX5_launch 13 = .ok (.getfield 29, 3) := by decide +kernel
theorem dX5_launch_16 : decode cX5_launch 16 = .ok (.aload_n 0, 1) := by decide +kernel
theorem dX5_launch_17 : decode cX5_launch 17 = .ok (.getfield 19, 3) := by decide +kernel
theorem dX5_launch_20 : decode cX5_launch 20 = .ok (.invokevirtual 122, 3) := by decide +kernel
theorem dX5_launch_23 : decode cX5_launch 23 = .ok (.aload_n 0, 1) := by decide +kernel
theorem dX5_launch_24 : decode cX5_launch 24 = .ok (.getfield 19, 3) := by decide +kernel
theorem dX5_launch_27 : decode cX5_launch 27 = .ok (.iload_n 1, 1) := by decide +kernel
theorem dX5_launch_28 : decode cX5_launch 28 = .ok (.iload_n 2, 1) := by decide +kernel
theorem dX5_launch_29 : decode cX5_launch 29 = .ok (.invokevirtual 139, 3) := by decide +kernel
theorem dX5_launch_32 : decode cX5_launch 32 = .ok (.ireturn, 1) := by decide +kernel
theorem dX5_hook_0 : decode cX5_hook 0 = .ok (.aload_n 0, 1) := by decide +kernel
theorem dX5_hook_1 : decode cX5_hook 1 = .ok (.getfield 19, 3) := by decide +kernel
theorem dX5_hook_4 : decode cX5_hook 4 = .ok (.iload_n 1, 1) := by decide +kernel
theorem dX5_hook_5 : decode cX5_hook 5 = .ok (.iload_n 2, 1) := by decide +kernel
theorem dX5_hook_6 : decode cX5_hook 6 = .ok (.iload_n 3, 1) := by decide +kernel
theorem dX5_hook_7 : decode cX5_hook 7 = .ok (.invokevirtual 142, 3) := by decide +kernel
theorem dX5_hook_10 : decode cX5_hook 10 = .ok (.invokestatic 42, 3) := by decide +kernel
theorem dX5_hook_13 : decode cX5_hook 13 = .ok (.aload_n 0, 1) := by decide +kernel
theorem dX5_hook_14 : decode cX5_hook 14 = .ok (.getfield 29, 3) := by decide +kernel
theorem dX5_hook_17 : decode cX5_hook 17 = .ok (.aload_n 0, 1) := by decide +kernel
theorem dX5_hook_18 : decode cX5_hook 18 = .ok (.getfield 19, 3) := by decide +kernel
theorem dX5_hook_21 : decode cX5_hook 21 = .ok (.invokevirtual 122, 3) := by decide +kernel
theorem dX5_hook_24 : decode cX5_hook 24 = .ok (.aload_n 0, 1) := by decide +kernel
theorem dX5_hook_25 : decode cX5_hook 25 = .ok (.getfield 19, 3) := by decide +kernel
theorem dX5_hook_28 : decode cX5_hook 28 = .ok (.iload_n 1, 1) := by decide +kernel
theorem dX5_hook_29 : decode cX5_hook 29 = .ok (.iload_n 2, 1) := by decide +kernel
theorem dX5_hook_30 : decode cX5_hook 30 = .ok (.iload_n 3, 1) := by decide +kernel
theorem dX5_hook_31 : decode cX5_hook 31 = .ok (.invokevirtual 145, 3) := by decide +kernel
theorem dX5_hook_34 : decode cX5_hook 34 = .ok (.aload_n 0, 1) := by decide +kernel
theorem dX5_hook_35 : decode cX5_hook 35 = .ok (.getfield 19, 3) := by decide +kernel
theorem dX5_hook_38 : decode cX5_hook 38 = .ok (.iload_n 1, 1) := by decide +kernel
theorem dX5_hook_39 : decode cX5_hook 39 = .ok (.invokevirtual 149, 3) := by decide +kernel
theorem dX5_hook_42 : decode cX5_hook 42 = .ok (.ireturn, 1) := by decide +kernel
theorem dX5_claim_0 : decode cX5_claim 0 = .ok (.aload_n 0, 1) := by decide +kernel
theorem dX5_claim_1 : decode cX5_claim 1 = .ok (.getfield 19, 3) := by decide +kernel
theorem dX5_claim_4 : decode cX5_claim 4 = .ok (.iload_n 1, 1) := by decide +kernel
theorem dX5_claim_5 : decode cX5_claim 5 = .ok (.iload_n 2, 1) := by decide +kernel
theorem dX5_claim_6 : decode cX5_claim 6 = .ok (.invokevirtual 152, 3) := by decide +kernel
theorem dX5_claim_9 : decode cX5_claim 9 = .ok (.invokestatic 42, 3) := by decide +kernel
theorem dX5_claim_12 : decode cX5_claim 12 = .ok (.aload_n 0, 1) := by decide +kernel
theorem dX5_claim_13 : decode cX5_claim 13 = .ok (.getfield 29, 3) := by decide +kernel
theorem dX5_claim_16 : decode cX5_claim 16 = .ok (.aload_n 0, 1) := by decide +kernel
theorem dX5_claim_17 : decode cX5_claim 17 = .ok (.getfield 19, 3) := by decide +kernel
theorem dX5_claim_20 : decode cX5_claim 20 = .ok (.invokevirtual 122, 3) := by decide +kernel
theorem dX5_claim_23 : decode cX5_claim 23 = .ok (.aload_n 0, 1) := by decide +kernel
theorem dX5_claim_24 : decode cX5_claim 24 = .ok (.getfield 19, 3) := by decide +kernel
theorem dX5_claim_27 : decode cX5_claim 27 = .ok (.iload_n 1, 1) := by decide +kernel
theorem dX5_claim_28 : decode cX5_claim 28 = .ok (.iload_n 2, 1) := by decide +kernel
theorem dX5_claim_29 : decode cX5_claim 29 = .ok (.invokevirtual 155, 3) := by decide +kernel
theorem dX5_claim_32 : decode cX5_claim 32 = .ok (.istore_n 3, 1) := by decide +kernel
theorem dX5_claim_33 : decode cX5_claim 33 = .ok (.iload_n 3, 1) := by decide +kernel
theorem dX5_claim_34 : decode cX5_claim 34 = .ok (.ifCond .ne 16, 3) := by decide +kernel
theorem dX5_claim_37 : decode cX5_claim 37 = .ok (.aload_n 0, 1) := by decide +kernel
theorem dX5_claim_38 : decode cX5_claim 38 = .ok (.getfield 19, 3) := by decide +kernel
theorem dX5_claim_41 : decode cX5_claim 41 = .ok (.iload_n 1, 1) := by decide +kernel
theorem dX5_claim_42 : decode cX5_claim 42 = .ok (.iload_n 2, 1) := by decide +kernel
theorem dX5_claim_43 : decode cX5_claim 43 = .ok (.invokevirtual 158, 3) := by decide +kernel
theorem dX5_claim_46 : decode cX5_claim 46 = .ok (.pop, 1) := by decide +kernel
theorem dX5_claim_47 : decode cX5_claim 47 = .ok (.goto 16, 3) := by decide +kernel
theorem dX5_claim_50 : decode cX5_claim 50 = .ok (.aload_n 0, 1) := by decide +kernel
theorem dX5_claim_51 : decode cX5_claim 51 = .ok (.getfield 19, 3) := by decide +kernel
theorem dX5_claim_54 : decode cX5_claim 54 = .ok (.dup, 1) := by decide +kernel
theorem dX5_claim_55 : decode cX5_claim 55 = .ok (.getfield 161, 3) := by decide +kernel
theorem dX5_claim_58 : decode cX5_claim 58 = .ok (.iconst 1, 1) := by decide +kernel
theorem dX5_claim_59 : decode cX5_claim 59 = .ok (.iadd, 1) := by decide +kernel
theorem dX5_claim_60 : decode cX5_claim 60 = .ok (.putfield 161, 3) := by decide +kernel
theorem dX5_claim_63 : decode cX5_claim 63 = .ok (.iload_n 3, 1) := by decide +kernel
theorem dX5_claim_64 : decode cX5_claim 64 = .ok (.ireturn, 1) := by decide +kernel
theorem dX5_minutes_0 : decode cX5_minutes 0 = .ok (.aload_n 0, 1) := by decide +kernel
theorem dX5_minutes_1 : decode cX5_minutes 1 = .ok (.getfield 19, 3) := by decide +kernel
theorem dX5_minutes_4 : decode cX5_minutes 4 = .ok (.iload_n 1, 1) := by decide +kernel
theorem dX5_minutes_5 : decode cX5_minutes 5 = .ok (.invokevirtual 165, 3) := by decide +kernel
theorem dX5_minutes_8 : decode cX5_minutes 8 = .ok (.invokestatic 42, 3) := by decide +kernel
theorem dX5_minutes_11 : decode cX5_minutes 11 = .ok (.aload_n 0, 1) := by decide +kernel
theorem dX5_minutes_12 : decode cX5_minutes 12 = .ok (.getfield 29, 3) := by decide +kernel
theorem dX5_minutes_15 : decode cX5_minutes 15 = .ok (.aload_n 0, 1) := by decide +kernel
theorem dX5_minutes_16 : decode cX5_minutes 16 = .ok (.getfield 19, 3) := by decide +kernel
theorem dX5_minutes_19 : decode cX5_minutes 19 = .ok (.invokevirtual 122, 3) := by decide +kernel
theorem dX5_minutes_22 : decode cX5_minutes 22 = .ok (.aload_n 0, 1) := by decide +kernel
theorem dX5_minutes_23 : decode cX5_minutes 23 = .ok (.getfield 19, 3) := by decide +kernel
theorem dX5_minutes_26 : decode cX5_minutes 26 = .ok (.iload_n 1, 1) := by decide +kernel
theorem dX5_minutes_27 : decode cX5_minutes 27 = .ok (.invokevirtual 168, 3) := by decide +kernel
theorem dX5_minutes_30 : decode cX5_minutes 30 = .ok (.ireturn, 1) := by decide +kernel
theorem dX5_set_0 : decode cX5_set 0 = .ok (.aload_n 0, 1) := by decide +kernel
theorem dX5_set_1 : decode cX5_set 1 = .ok (.getfield 19, 3) := by decide +kernel
theorem dX5_set_4 : decode cX5_set 4 = .ok (.iload_n 1, 1) := by decide +kernel
theorem dX5_set_5 : decode cX5_set 5 = .ok (.iload_n 2, 1) := by decide +kernel
theorem dX5_set_6 : decode cX5_set 6 = .ok (.invokevirtual 171, 3) := by decide +kernel
theorem dX5_set_9 : decode cX5_set 9 = .ok (.invokestatic 42, 3) := by decide +kernel
theorem dX5_set_12 : decode cX5_set 12 = .ok (.aload_n 0, 1) := by decide +kernel
theorem dX5_set_13 : decode cX5_set 13 = .ok (.getfield 29, 3) := by decide +kernel
theorem dX5_set_16 : decode cX5_set 16 = .ok (.aload_n 0, 1) := by decide +kernel
theorem dX5_set_17 : decode cX5_set 17 = .ok (.getfield 19, 3) := by decide +kernel
theorem dX5_set_20 : decode cX5_set 20 = .ok (.invokevirtual 122, 3) := by decide +kernel
theorem dX5_set_23 : decode cX5_set 23 = .ok (.aload_n 0, 1) := by decide +kernel
theorem dX5_set_24 : decode cX5_set 24 = .ok (.getfield 19, 3) := by decide +kernel
theorem dX5_set_27 : decode cX5_set 27 = .ok (.iload_n 1, 1) := by decide +kernel
theorem dX5_set_28 : decode cX5_set 28 = .ok (.iload_n 2, 1) := by decide +kernel
theorem dX5_set_29 : decode cX5_set 29 = .ok (.invokevirtual 174, 3) := by decide +kernel
theorem dX5_set_32 : decode cX5_set 32 = .ok (.ireturn, 1) := by decide +kernel
theorem dX5_undo_0 : decode cX5_undo 0 = .ok (.aload_n 0, 1) := by decide +kernel
theorem dX5_undo_1 : decode cX5_undo 1 = .ok (.getfield 29, 3) := by decide +kernel
theorem dX5_undo_4 : decode cX5_undo 4 = .ok (.getfield 177, 3) := by decide +kernel
theorem dX5_undo_7 : decode cX5_undo 7 = .ok (.ifCond .ne 7, 3) := by decide +kernel
theorem dX5_undo_10 : decode cX5_undo 10 = .ok (.iconst 3, 1) := by decide +kernel
theorem dX5_undo_11 : decode cX5_undo 11 = .ok (.goto 4, 3) := by decide +kernel
theorem dX5_undo_14 : decode cX5_undo 14 = .ok (.iconst 0, 1) := by decide +kernel
theorem dX5_undo_15 : decode cX5_undo 15 = .ok (.invokestatic 42, 3) := by decide +kernel
theorem dX5_undo_18 : decode cX5_undo 18 = .ok (.aload_n 0, 1) := by decide +kernel
theorem dX5_undo_19 : decode cX5_undo 19 = .ok (.getfield 29, 3) := by decide +kernel
theorem dX5_undo_22 : decode cX5_undo 22 = .ok (.aload_n 0, 1) := by decide +kernel
theorem dX5_undo_23 : decode cX5_undo 23 = .ok (.getfield 19, 3) := by decide +kernel
theorem dX5_undo_26 : decode cX5_undo 26 = .ok (.invokevirtual 180, 3) := by decide +kernel
theorem dX5_undo_29 : decode cX5_undo 29 = .ok (.ireturn, 1) := by decide +kernel
theorem dX5_why_0 : decode cX5_why 0 = .ok (.aload_n 0, 1) := by decide +kernel
theorem dX5_why_1 : decode cX5_why 1 = .ok (.getfield 19, 3) := by decide +kernel
theorem dX5_why_4 : decode cX5_why 4 = .ok (.iload_n 1, 1) := by decide +kernel
theorem dX5_why_5 : decode cX5_why 5 = .ok (.iload_n 2, 1) := by decide +kernel
theorem dX5_why_6 : decode cX5_why 6 = .ok (.invokevirtual 152, 3) := by decide +kernel
theorem dX5_why_9 : decode cX5_why 9 = .ok (.invokestatic 42, 3) := by decide +kernel
theorem dX5_why_12 : decode cX5_why 12 = .ok (.aload_n 0, 1) := by decide +kernel
theorem dX5_why_13 : decode cX5_why 13 = .ok (.getfield 19, 3) := by decide +kernel
theorem dX5_why_16 : decode cX5_why 16 = .ok (.iload_n 1, 1) := by decide +kernel
theorem dX5_why_17 : decode cX5_why 17 = .ok (.iload_n 2, 1) := by decide +kernel
theorem dX5_why_18 : decode cX5_why 18 = .ok (.invokevirtual 155, 3) := by decide +kernel
theorem dX5_why_21 : decode cX5_why 21 = .ok (.ireturn, 1) := by decide +kernel
theorem dX5_endsIn_0 : decode cX5_endsIn 0 = .ok (.aload_n 0, 1) := by decide +kernel
theorem dX5_endsIn_1 : decode cX5_endsIn 1 = .ok (.getfield 19, 3) := by decide +kernel
theorem dX5_endsIn_4 : decode cX5_endsIn 4 = .ok (.iload_n 1, 1) := by decide +kernel
theorem dX5_endsIn_5 : decode cX5_endsIn 5 = .ok (.invokevirtual 84, 3) := by decide +kernel
theorem dX5_endsIn_8 : decode cX5_endsIn 8 = .ok (.ifCond .eq 7, 3) := by decide +kernel
theorem dX5_endsIn_11 : decode cX5_endsIn 11 = .ok (.iconst 0, 1) := by decide +kernel
theorem dX5_endsIn_12 : decode cX5_endsIn 12 = .ok (.goto 4, 3) := by decide +kernel
theorem dX5_endsIn_15 : decode cX5_endsIn 15 = .ok (.iconst 1, 1) := by decide +kernel
theorem dX5_endsIn_16 : decode cX5_endsIn 16 = .ok (.invokestatic 42, 3) := by decide +kernel
theorem dX5_endsIn_19 : decode cX5_endsIn 19 = .ok (.iload_n 2, 1) := by decide +kernel
theorem dX5_endsIn_20 : decode cX5_endsIn 20 = .ok (.ifCond .eq 12, 3) := by decide +kernel
theorem dX5_endsIn_23 : decode cX5_endsIn 23 = .ok (.iload_n 2, 1) := by decide +kernel
theorem dX5_endsIn_24 : decode cX5_endsIn 24 = .ok (.iconst 1, 1) := by decide +kernel
theorem dX5_endsIn_25 : decode cX5_endsIn 25 = .ok (.if_icmp .eq 7, 3) := by decide +kernel
theorem dX5_endsIn_28 : decode cX5_endsIn 28 = .ok (.iconst 2, 1) := by decide +kernel
theorem dX5_endsIn_29 : decode cX5_endsIn 29 = .ok (.goto 4, 3) := by decide +kernel
theorem dX5_endsIn_32 : decode cX5_endsIn 32 = .ok (.iconst 0, 1) := by decide +kernel
theorem dX5_endsIn_33 : decode cX5_endsIn 33 = .ok (.invokestatic 42, 3) := by decide +kernel
theorem dX5_endsIn_36 : decode cX5_endsIn 36 = .ok (.aload_n 0, 1) := by decide +kernel
theorem dX5_endsIn_37 : decode cX5_endsIn 37 = .ok (.getfield 19, 3) := by decide +kernel
theorem dX5_endsIn_40 : decode cX5_endsIn 40 = .ok (.getfield 90, 3) := by decide +kernel
theorem dX5_endsIn_43 : decode cX5_endsIn 43 = .ok (.iload_n 1, 1) := by decide +kernel
theorem dX5_endsIn_44 : decode cX5_endsIn 44 = .ok (.iconst 3, 1) := by decide +kernel
theorem dX5_endsIn_45 : decode cX5_endsIn 45 = .ok (.invokevirtual 94, 3) := by decide +kernel
theorem dX5_endsIn_48 : decode cX5_endsIn 48 = .ok (.iconst 1, 1) := by decide +kernel
theorem dX5_endsIn_49 : decode cX5_endsIn 49 = .ok (.if_icmp .eq 7, 3) := by decide +kernel
theorem dX5_endsIn_52 : decode cX5_endsIn 52 = .ok (.iconst 3, 1) := by decide +kernel
theorem dX5_endsIn_53 : decode cX5_endsIn 53 = .ok (.goto 4, 3) := by decide +kernel
theorem dX5_endsIn_56 : decode cX5_endsIn 56 = .ok (.iconst 0, 1) := by decide +kernel
theorem dX5_endsIn_57 : decode cX5_endsIn 57 = .ok (.invokestatic 42, 3) := by decide +kernel
theorem dX5_endsIn_60 : decode cX5_endsIn 60 = .ok (.aload_n 0, 1) := by decide +kernel
theorem dX5_endsIn_61 : decode cX5_endsIn 61 = .ok (.getfield 23, 3) := by decide +kernel
theorem dX5_endsIn_64 : decode cX5_endsIn 64 = .ok (.aload_n 0, 1) := by decide +kernel
theorem dX5_endsIn_65 : decode cX5_endsIn 65 = .ok (.getfield 19, 3) := by decide +kernel
theorem dX5_endsIn_68 : decode cX5_endsIn 68 = .ok (.invokevirtual 183, 3) := by decide +kernel
theorem dX5_endsIn_71 : decode cX5_endsIn 71 = .ok (.aload_n 0, 1) := by decide +kernel
theorem dX5_endsIn_72 : decode cX5_endsIn 72 = .ok (.getfield 23, 3) := by decide +kernel
theorem dX5_endsIn_75 : decode cX5_endsIn 75 = .ok (.iload_n 1, 1) := by decide +kernel
theorem dX5_endsIn_76 : decode cX5_endsIn 76 = .ok (.invokevirtual 186, 3) := by decide +kernel
theorem dX5_endsIn_79 : decode cX5_endsIn 79 = .ok (.istore_n 3, 1) := by decide +kernel
theorem dX5_endsIn_80 : decode cX5_endsIn 80 = .ok (.aload_n 0, 1) := by decide +kernel
theorem dX5_endsIn_81 : decode cX5_endsIn 81 = .ok (.getfield 23, 3) := by decide +kernel
theorem dX5_endsIn_84 : decode cX5_endsIn 84 = .ok (.getfield 90, 3) := by decide +kernel
theorem dX5_endsIn_87 : decode cX5_endsIn 87 = .ok (.iload_n 1, 1) := by decide +kernel
theorem dX5_endsIn_88 : decode cX5_endsIn 88 = .ok (.iconst 3, 1) := by decide +kernel
theorem dX5_endsIn_89 : decode cX5_endsIn 89 = .ok (.invokevirtual 94, 3) := by decide +kernel
theorem dX5_endsIn_92 : decode cX5_endsIn 92 = .ok (.iconst 3, 1) := by decide +kernel
theorem dX5_endsIn_93 : decode cX5_endsIn 93 = .ok (.if_icmp .ne 7, 3) := by decide +kernel
theorem dX5_endsIn_96 : decode cX5_endsIn 96 = .ok (.iconst 1, 1) := by decide +kernel
theorem dX5_endsIn_97 : decode cX5_endsIn 97 = .ok (.goto 4, 3) := by decide +kernel
theorem dX5_endsIn_100 : decode cX5_endsIn 100 = .ok (.iconst 0, 1) := by decide +kernel
theorem dX5_endsIn_101 : decode cX5_endsIn 101 = .ok (.istore 4, 2) := by decide +kernel
theorem dX5_endsIn_103 : decode cX5_endsIn 103 = .ok (.iload 4, 2) := by decide +kernel
theorem dX5_endsIn_105 : decode cX5_endsIn 105 = .ok (.iload_n 2, 1) := by decide +kernel
theorem dX5_endsIn_106 : decode cX5_endsIn 106 = .ok (.iconst 1, 1) := by decide +kernel
theorem dX5_endsIn_107 : decode cX5_endsIn 107 = .ok (.if_icmp .ne 7, 3) := by decide +kernel
theorem dX5_endsIn_110 : decode cX5_endsIn 110 = .ok (.iconst 1, 1) := by decide +kernel
theorem dX5_endsIn_111 : decode cX5_endsIn 111 = .ok (.goto 4, 3) := by decide +kernel
theorem dX5_endsIn_114 : decode cX5_endsIn 114 = .ok (.iconst 0, 1) := by decide +kernel
theorem dX5_endsIn_115 : decode cX5_endsIn 115 = .ok (.if_icmp .ne 7, 3) := by decide +kernel
theorem dX5_endsIn_118 : decode cX5_endsIn 118 = .ok (.iload_n 3, 1) := by decide +kernel
theorem dX5_endsIn_119 : decode cX5_endsIn 119 = .ok (.goto 4, 3) := by decide +kernel
theorem dX5_endsIn_122 : decode cX5_endsIn 122 = .ok (.iconst (-1), 1) := by decide +kernel
theorem dX5_endsIn_123 : decode cX5_endsIn 123 = .ok (.ireturn, 1) := by decide +kernel
theorem dX5_winner_0 : decode cX5_winner 0 = .ok (.aload_n 0, 1) := by decide +kernel
theorem dX5_winner_1 : decode cX5_winner 1 = .ok (.getfield 23, 3) := by decide +kernel
theorem dX5_winner_4 : decode cX5_winner 4 = .ok (.aload_n 0, 1) := by decide +kernel
theorem dX5_winner_5 : decode cX5_winner 5 = .ok (.getfield 19, 3) := by decide +kernel
theorem dX5_winner_8 : decode cX5_winner 8 = .ok (.invokevirtual 183, 3) := by decide +kernel
theorem dX5_winner_11 : decode cX5_winner 11 = .ok (.aload_n 0, 1) := by decide +kernel
theorem dX5_winner_12 : decode cX5_winner 12 = .ok (.getfield 23, 3) := by decide +kernel
theorem dX5_winner_15 : decode cX5_winner 15 = .ok (.invokevirtual 189, 3) := by decide +kernel
theorem dX5_winner_18 : decode cX5_winner 18 = .ok (.iconst 0, 1) := by decide +kernel
theorem dX5_winner_19 : decode cX5_winner 19 = .ok (.istore_n 1, 1) := by decide +kernel
theorem dX5_winner_20 : decode cX5_winner 20 = .ok (.iload_n 1, 1) := by decide +kernel
theorem dX5_winner_21 : decode cX5_winner 21 = .ok (.aload_n 0, 1) := by decide +kernel
theorem dX5_winner_22 : decode cX5_winner 22 = .ok (.getfield 19, 3) := by decide +kernel
theorem dX5_winner_25 : decode cX5_winner 25 = .ok (.getfield 90, 3) := by decide +kernel
theorem dX5_winner_28 : decode cX5_winner 28 = .ok (.getfield 192, 3) := by decide +kernel
theorem dX5_winner_31 : decode cX5_winner 31 = .ok (.if_icmp .ge 40, 3) := by decide +kernel
theorem dX5_winner_34 : decode cX5_winner 34 = .ok (.aload_n 0, 1) := by decide +kernel
theorem dX5_winner_35 : decode cX5_winner 35 = .ok (.getfield 23, 3) := by decide +kernel
theorem dX5_winner_38 : decode cX5_winner 38 = .ok (.getfield 90, 3) := by decide +kernel
theorem dX5_winner_41 : decode cX5_winner 41 = .ok (.iload_n 1, 1) := by decide +kernel
theorem dX5_winner_42 : decode cX5_winner 42 = .ok (.bipush 8, 2) := by decide +kernel
theorem dX5_winner_44 : decode cX5_winner 44 = .ok (.invokevirtual 94, 3) := by decide +kernel
theorem dX5_winner_47 : decode cX5_winner 47 = .ok (.aload_n 0, 1) := by decide +kernel
theorem dX5_winner_48 : decode cX5_winner 48 = .ok (.getfield 19, 3) := by decide +kernel
theorem dX5_winner_51 : decode cX5_winner 51 = .ok (.getfield 90, 3) := by decide +kernel
theorem dX5_winner_54 : decode cX5_winner 54 = .ok (.iload_n 1, 1) := by decide +kernel
theorem dX5_winner_55 : decode cX5_winner 55 = .ok (.bipush 8, 2) := by decide +kernel
theorem dX5_winner_57 : decode cX5_winner 57 = .ok (.invokevirtual 94, 3) := by decide +kernel
theorem dX5_winner_60 : decode cX5_winner 60 = .ok (.if_icmp .le 5, 3) := by decide +kernel
theorem dX5_winner_63 : decode cX5_winner 63 = .ok (.iload_n 1, 1) := by decide +kernel
theorem dX5_winner_64 : decode cX5_winner 64 = .ok (.ireturn, 1) := by decide +kernel
theorem dX5_winner_65 : decode cX5_winner 65 = .ok (.iinc 1 1, 3) := by decide +kernel
theorem dX5_winner_68 : decode cX5_winner 68 = .ok (.goto (-48), 3) := by decide +kernel
theorem dX5_winner_71 : decode cX5_winner 71 = .ok (.iconst (-1), 1) := by decide +kernel
theorem dX5_winner_72 : decode cX5_winner 72 = .ok (.ireturn, 1) := by decide +kernel
theorem dX5_leastFolds_0 : decode cX5_leastFolds 0 = .ok (.aload_n 0, 1) := by decide +kernel
theorem dX5_leastFolds_1 : decode cX5_leastFolds 1 = .ok (.getfield 19, 3) := by decide +kernel
theorem dX5_leastFolds_4 : decode cX5_leastFolds 4 = .ok (.iload_n 1, 1) := by decide +kernel
theorem dX5_leastFolds_5 : decode cX5_leastFolds 5 = .ok (.invokevirtual 76, 3) := by decide +kernel
theorem dX5_leastFolds_8 : decode cX5_leastFolds 8 = .ok (.ifCond .eq 7, 3) := by decide +kernel
theorem dX5_leastFolds_11 : decode cX5_leastFolds 11 = .ok (.iconst 0, 1) := by decide +kernel
theorem dX5_leastFolds_12 : decode cX5_leastFolds 12 = .ok (.goto 4, 3) := by decide +kernel
theorem dX5_leastFolds_15 : decode cX5_leastFolds 15 = .ok (.iconst 1, 1) := by decide +kernel
theorem dX5_leastFolds_16 : decode cX5_leastFolds 16 = .ok (.invokestatic 42, 3) := by decide +kernel
theorem dX5_leastFolds_19 : decode cX5_leastFolds 19 = .ok (.iload_n 2, 1) := by decide +kernel
theorem dX5_leastFolds_20 : decode cX5_leastFolds 20 = .ok (.ifCond .lt 8, 3) := by decide +kernel
theorem dX5_leastFolds_23 : decode cX5_leastFolds 23 = .ok (.iload_n 2, 1) := by decide +kernel
theorem dX5_leastFolds_24 : decode cX5_leastFolds 24 = .ok (.iconst 3, 1) := by decide +kernel
theorem dX5_leastFolds_25 : decode cX5_leastFolds 25 = .ok (.if_icmp .le 7, 3) := by decide +kernel
theorem dX5_leastFolds_28 : decode cX5_leastFolds 28 = .ok (.iconst 2, 1) := by decide +kernel
theorem dX5_leastFolds_29 : decode cX5_leastFolds 29 = .ok (.goto 4, 3) := by decide +kernel
theorem dX5_leastFolds_32 : decode cX5_leastFolds 32 = .ok (.iconst 0, 1) := by decide +kernel
theorem dX5_leastFolds_33 : decode cX5_leastFolds 33 = .ok (.invokestatic 42, 3) := by decide +kernel
theorem dX5_leastFolds_36 : decode cX5_leastFolds 36 = .ok (.iconst 1, 1) := by decide +kernel
theorem dX5_leastFolds_37 : decode cX5_leastFolds 37 = .ok (.istore_n 3, 1) := by decide +kernel
theorem dX5_leastFolds_38 : decode cX5_leastFolds 38 = .ok (.iload_n 3, 1) := by decide +kernel
theorem dX5_leastFolds_39 : decode cX5_leastFolds 39 = .ok (.bipush 9, 2) := by decide +kernel
theorem dX5_leastFolds_41 : decode cX5_leastFolds 41 = .ok (.if_icmp .gt 72, 3) := by decide +kernel
theorem dX5_leastFolds_44 : decode cX5_leastFolds 44 = .ok (.aload_n 0, 1) := by decide +kernel
theorem dX5_leastFolds_45 : decode cX5_leastFolds 45 = .ok (.getfield 23, 3) := by decide +kernel
theorem dX5_leastFolds_48 : decode cX5_leastFolds 48 = .ok (.aload_n 0, 1) := by decide +kernel
theorem dX5_leastFolds_49 : decode cX5_leastFolds 49 = .ok (.getfield 19, 3) := by decide +kernel
theorem dX5_leastFolds_52 : decode cX5_leastFolds 52 = .ok (.invokevirtual 183, 3) := by decide +kernel
theorem dX5_leastFolds_55 : decode cX5_leastFolds 55 = .ok (.aload_n 0, 1) := by decide +kernel
theorem dX5_leastFolds_56 : decode cX5_leastFolds 56 = .ok (.getfield 23, 3) := by decide +kernel
theorem dX5_leastFolds_59 : decode cX5_leastFolds 59 = .ok (.iload_n 3, 1) := by decide +kernel
theorem dX5_leastFolds_60 : decode cX5_leastFolds 60 = .ok (.iload_n 2, 1) := by decide +kernel
theorem dX5_leastFolds_61 : decode cX5_leastFolds 61 = .ok (.iconst 0, 1) := by decide +kernel
theorem dX5_leastFolds_62 : decode cX5_leastFolds 62 = .ok (.invokevirtual 133, 3) := by decide +kernel
theorem dX5_leastFolds_65 : decode cX5_leastFolds 65 = .ok (.istore 4, 2) := by decide +kernel
theorem dX5_leastFolds_67 : decode cX5_leastFolds 67 = .ok (.aload_n 0, 1) := by decide +kernel
theorem dX5_leastFolds_68 : decode cX5_leastFolds 68 = .ok (.getfield 23, 3) := by decide +kernel
theorem dX5_leastFolds_71 : decode cX5_leastFolds 71 = .ok (.iload 4, 2) := by decide +kernel
theorem dX5_leastFolds_73 : decode cX5_leastFolds 73 = .ok (.iload_n 1, 1) := by decide +kernel
theorem dX5_leastFolds_74 : decode cX5_leastFolds 74 = .ok (.invokevirtual 139, 3) := by decide +kernel
theorem dX5_leastFolds_77 : decode cX5_leastFolds 77 = .ok (.pop, 1) := by decide +kernel
theorem dX5_leastFolds_78 : decode cX5_leastFolds 78 = .ok (.aload_n 0, 1) := by decide +kernel
theorem dX5_leastFolds_79 : decode cX5_leastFolds 79 = .ok (.getfield 23, 3) := by decide +kernel
theorem dX5_leastFolds_82 : decode cX5_leastFolds 82 = .ok (.iload 4, 2) := by decide +kernel
theorem dX5_leastFolds_84 : decode cX5_leastFolds 84 = .ok (.invokevirtual 186, 3) := by decide +kernel
theorem dX5_leastFolds_87 : decode cX5_leastFolds 87 = .ok (.pop, 1) := by decide +kernel
theorem dX5_leastFolds_88 : decode cX5_leastFolds 88 = .ok (.aload_n 0, 1) := by decide +kernel
theorem dX5_leastFolds_89 : decode cX5_leastFolds 89 = .ok (.getfield 23, 3) := by decide +kernel
theorem dX5_leastFolds_92 : decode cX5_leastFolds 92 = .ok (.getfield 90, 3) := by decide +kernel
theorem dX5_leastFolds_95 : decode cX5_leastFolds 95 = .ok (.iload 4, 2) := by decide +kernel
theorem dX5_leastFolds_97 : decode cX5_leastFolds 97 = .ok (.iconst 3, 1) := by decide +kernel
theorem dX5_leastFolds_98 : decode cX5_leastFolds 98 = .ok (.invokevirtual 94, 3) := by decide +kernel
theorem dX5_leastFolds_101 : decode cX5_leastFolds 101 = .ok (.iconst 3, 1) := by decide +kernel
theorem dX5_leastFolds_102 : decode cX5_leastFolds 102 = .ok (.if_icmp .eq 5, 3) := by decide +kernel
theorem dX5_leastFolds_105 : decode cX5_leastFolds 105 = .ok (.iload_n 3, 1) := by decide +kernel
theorem dX5_leastFolds_106 : decode cX5_leastFolds 106 = .ok (.ireturn, 1) := by decide +kernel
theorem dX5_leastFolds_107 : decode cX5_leastFolds 107 = .ok (.iinc 3 1, 3) := by decide +kernel
theorem dX5_leastFolds_110 : decode cX5_leastFolds 110 = .ok (.goto (-72), 3) := by decide +kernel
theorem dX5_leastFolds_113 : decode cX5_leastFolds 113 = .ok (.iconst (-1), 1) := by decide +kernel
theorem dX5_leastFolds_114 : decode cX5_leastFolds 114 = .ok (.ireturn, 1) := by decide +kernel
theorem dX5_runScript_0 : decode cX5_runScript 0 = .ok (.iload_n 1, 1) := by decide +kernel
theorem dX5_runScript_1 : decode cX5_runScript 1 = .ok (.iconst 1, 1) := by decide +kernel
theorem dX5_runScript_2 : decode cX5_runScript 2 = .ok (.if_icmp .lt 8, 3) := by decide +kernel
theorem dX5_runScript_5 : decode cX5_runScript 5 = .ok (.iload_n 1, 1) := by decide +kernel
theorem dX5_runScript_6 : decode cX5_runScript 6 = .ok (.iconst 3, 1) := by decide +kernel
theorem dX5_runScript_7 : decode cX5_runScript 7 = .ok (.if_icmp .le 7, 3) := by decide +kernel
theorem dX5_runScript_10 : decode cX5_runScript 10 = .ok (.iconst 2, 1) := by decide +kernel
theorem dX5_runScript_11 : decode cX5_runScript 11 = .ok (.goto 4, 3) := by decide +kernel
theorem dX5_runScript_14 : decode cX5_runScript 14 = .ok (.iconst 0, 1) := by decide +kernel
theorem dX5_runScript_15 : decode cX5_runScript 15 = .ok (.invokestatic 42, 3) := by decide +kernel
theorem dX5_runScript_18 : decode cX5_runScript 18 = .ok (.lload_n 2, 1) := by decide +kernel
theorem dX5_runScript_19 : decode cX5_runScript 19 = .ok (.lconst 0, 1) := by decide +kernel
theorem dX5_runScript_20 : decode cX5_runScript 20 = .ok (.lcmp, 1) := by decide +kernel
theorem dX5_runScript_21 : decode cX5_runScript 21 = .ok (.ifCond .lt 13, 3) := by decide +kernel
theorem dX5_runScript_24 : decode cX5_runScript 24 = .ok (.lload_n 2, 1) := by decide +kernel
theorem dX5_runScript_25 : decode cX5_runScript 25 = .ok (.iload_n 1, 1) := by decide +kernel
theorem dX5_runScript_26 : decode cX5_runScript 26 = .ok (.invokestatic 195, 3) := by decide +kernel
theorem dX5_runScript_29 : decode cX5_runScript 29 = .ok (.lconst 0, 1) := by decide +kernel
theorem dX5_runScript_30 : decode cX5_runScript 30 = .ok (.lcmp, 1) := by decide +kernel
theorem dX5_runScript_31 : decode cX5_runScript 31 = .ok (.ifCond .eq 7, 3) := by decide +kernel
theorem dX5_runScript_34 : decode cX5_runScript 34 = .ok (.iconst 2, 1) := by decide +kernel
theorem dX5_runScript_35 : decode cX5_runScript 35 = .ok (.goto 4, 3) := by decide +kernel
theorem dX5_runScript_38 : decode cX5_runScript 38 = .ok (.iconst 0, 1) := by decide +kernel
theorem dX5_runScript_39 : decode cX5_runScript 39 = .ok (.invokestatic 42, 3) := by decide +kernel
theorem dX5_runScript_42 : decode cX5_runScript 42 = .ok (.aload_n 0, 1) := by decide +kernel
theorem dX5_runScript_43 : decode cX5_runScript 43 = .ok (.getfield 23, 3) := by decide +kernel
theorem dX5_runScript_46 : decode cX5_runScript 46 = .ok (.aload_n 0, 1) := by decide +kernel
theorem dX5_runScript_47 : decode cX5_runScript 47 = .ok (.getfield 19, 3) := by decide +kernel
theorem dX5_runScript_50 : decode cX5_runScript 50 = .ok (.invokevirtual 183, 3) := by decide +kernel
theorem dX5_runScript_53 : decode cX5_runScript 53 = .ok (.iconst 0, 1) := by decide +kernel
theorem dX5_runScript_54 : decode cX5_runScript 54 = .ok (.istore 4, 2) := by decide +kernel
theorem dX5_runScript_56 : decode cX5_runScript 56 = .ok (.iload 4, 2) := by decide +kernel
theorem dX5_runScript_58 : decode cX5_runScript 58 = .ok (.iload_n 1, 1) := by decide +kernel
theorem dX5_runScript_59 : decode cX5_runScript 59 = .ok (.if_icmp .ge 34, 3) := by decide +kernel
theorem dX5_runScript_62 : decode cX5_runScript 62 = .ok (.aload_n 0, 1) := by decide +kernel
theorem dX5_runScript_63 : decode cX5_runScript 63 = .ok (.lload_n 2, 1) := by decide +kernel
theorem dX5_runScript_64 : decode cX5_runScript 64 = .ok (.iload_n 1, 1) := by decide +kernel
theorem dX5_runScript_65 : decode cX5_runScript 65 = .ok (.iconst 1, 1) := by decide +kernel
theorem dX5_runScript_66 : decode cX5_runScript 66 = .ok (.isub, 1) := by decide +kernel
theorem dX5_runScript_67 : decode cX5_runScript 67 = .ok (.iload 4, 2) := by decide +kernel
theorem dX5_runScript_69 : decode cX5_runScript 69 = .ok (.isub, 1) := by decide +kernel
theorem dX5_runScript_70 : decode cX5_runScript 70 = .ok (.invokestatic 195, 3) := by decide +kernel
theorem dX5_runScript_73 : decode cX5_runScript 73 = .ok (.ldc2_w 199, 3) := by decide +kernel
theorem dX5_runScript_76 : decode cX5_runScript 76 = .ok (.lrem, 1) := by decide +kernel
theorem dX5_runScript_77 : decode cX5_runScript 77 = .ok (.l2i, 1) := by decide +kernel
theorem dX5_runScript_78 : decode cX5_runScript 78 = .ok (.invokevirtual 201, 3) := by decide +kernel
theorem dX5_runScript_81 : decode cX5_runScript 81 = .ok (.ifCond .ne 6, 3) := by decide +kernel
theorem dX5_runScript_84 : decode cX5_runScript 84 = .ok (.iload 4, 2) := by decide +kernel
theorem dX5_runScript_86 : decode cX5_runScript 86 = .ok (.ireturn, 1) := by decide +kernel
theorem dX5_runScript_87 : decode cX5_runScript 87 = .ok (.iinc 4 1, 3) := by decide +kernel
theorem dX5_runScript_90 : decode cX5_runScript 90 = .ok (.goto (-34), 3) := by decide +kernel
theorem dX5_runScript_93 : decode cX5_runScript 93 = .ok (.iconst (-1), 1) := by decide +kernel
theorem dX5_runScript_94 : decode cX5_runScript 94 = .ok (.ireturn, 1) := by decide +kernel
theorem dX5_simulate_0 : decode cX5_simulate 0 = .ok (.iload_n 3, 1) := by decide +kernel
theorem dX5_simulate_1 : decode cX5_simulate 1 = .ok (.iconst 1, 1) := by decide +kernel
theorem dX5_simulate_2 : decode cX5_simulate 2 = .ok (.if_icmp .lt 9, 3) := by decide +kernel
theorem dX5_simulate_5 : decode cX5_simulate 5 = .ok (.iload_n 3, 1) := by decide +kernel
theorem dX5_simulate_6 : decode cX5_simulate 6 = .ok (.bipush 60, 2) := by decide +kernel
theorem dX5_simulate_8 : decode cX5_simulate 8 = .ok (.if_icmp .le 7, 3) := by decide +kernel
theorem dX5_simulate_11 : decode cX5_simulate 11 = .ok (.iconst 2, 1) := by decide +kernel
theorem dX5_simulate_12 : decode cX5_simulate 12 = .ok (.goto 4, 3) := by decide +kernel
theorem dX5_simulate_15 : decode cX5_simulate 15 = .ok (.iconst 0, 1) := by decide +kernel
theorem dX5_simulate_16 : decode cX5_simulate 16 = .ok (.invokestatic 42, 3) := by decide +kernel
theorem dX5_simulate_19 : decode cX5_simulate 19 = .ok (.aload_n 0, 1) := by decide +kernel
theorem dX5_simulate_20 : decode cX5_simulate 20 = .ok (.getfield 23, 3) := by decide +kernel
theorem dX5_simulate_23 : decode cX5_simulate 23 = .ok (.aload_n 0, 1) := by decide +kernel
theorem dX5_simulate_24 : decode cX5_simulate 24 = .ok (.getfield 19, 3) := by decide +kernel
theorem dX5_simulate_27 : decode cX5_simulate 27 = .ok (.invokevirtual 183, 3) := by decide +kernel
theorem dX5_simulate_30 : decode cX5_simulate 30 = .ok (.lload_n 1, 1) := by decide +kernel
theorem dX5_simulate_31 : decode cX5_simulate 31 = .ok (.lstore 4, 2) := by decide +kernel
theorem dX5_simulate_33 : decode cX5_simulate 33 = .ok (.iconst 0, 1) := by decide +kernel
theorem dX5_simulate_34 : decode cX5_simulate 34 = .ok (.istore 6, 2) := by decide +kernel
theorem dX5_simulate_36 : decode cX5_simulate 36 = .ok (.iload 6, 2) := by decide +kernel
theorem dX5_simulate_38 : decode cX5_simulate 38 = .ok (.iload_n 3, 1) := by decide +kernel
theorem dX5_simulate_39 : decode cX5_simulate 39 = .ok (.if_icmp .ge 31, 3) := by decide +kernel
theorem dX5_simulate_42 : decode cX5_simulate 42 = .ok (.lload 4, 2) := by decide +kernel
theorem dX5_simulate_44 : decode cX5_simulate 44 = .ok (.ldc2_w 204, 3) := by decide +kernel
theorem dX5_simulate_47 : decode cX5_simulate 47 = .ok (.lmul, 1) := by decide +kernel
theorem dX5_simulate_48 : decode cX5_simulate 48 = .ok (.ldc2_w 206, 3) := by decide +kernel
theorem dX5_simulate_51 : decode cX5_simulate 51 = .ok (.ladd, 1) := by decide +kernel
theorem dX5_simulate_52 : decode cX5_simulate 52 = .ok (.lstore 4, 2) := by decide +kernel
theorem dX5_simulate_54 : decode cX5_simulate 54 = .ok (.aload_n 0, 1) := by decide +kernel
theorem dX5_simulate_55 : decode cX5_simulate 55 = .ok (.lload 4, 2) := by decide +kernel
theorem dX5_simulate_57 : decode cX5_simulate 57 = .ok (.bipush 33, 2) := by decide +kernel
theorem dX5_simulate_59 : decode cX5_simulate 59 = .ok (.lushr, 1) := by decide +kernel
theorem dX5_simulate_60 : decode cX5_simulate 60 = .ok (.l2i, 1) := by decide +kernel
theorem dX5_simulate_61 : decode cX5_simulate 61 = .ok (.invokevirtual 208, 3) := by decide +kernel
theorem dX5_simulate_64 : decode cX5_simulate 64 = .ok (.iinc 6 1, 3) := by decide +kernel
theorem dX5_simulate_67 : decode cX5_simulate 67 = .ok (.goto (-31), 3) := by decide +kernel
theorem dX5_simulate_70 : decode cX5_simulate 70 = .ok (.sipush 10000, 3) := by decide +kernel
theorem dX5_simulate_73 : decode cX5_simulate 73 = .ok (.aload_n 0, 1) := by decide +kernel
theorem dX5_simulate_74 : decode cX5_simulate 74 = .ok (.getfield 23, 3) := by decide +kernel
theorem dX5_simulate_77 : decode cX5_simulate 77 = .ok (.getfield 211, 3) := by decide +kernel
theorem dX5_simulate_80 : decode cX5_simulate 80 = .ok (.aload_n 0, 1) := by decide +kernel
theorem dX5_simulate_81 : decode cX5_simulate 81 = .ok (.getfield 19, 3) := by decide +kernel
theorem dX5_simulate_84 : decode cX5_simulate 84 = .ok (.getfield 211, 3) := by decide +kernel
theorem dX5_simulate_87 : decode cX5_simulate 87 = .ok (.isub, 1) := by decide +kernel
theorem dX5_simulate_88 : decode cX5_simulate 88 = .ok (.imul, 1) := by decide +kernel
theorem dX5_simulate_89 : decode cX5_simulate 89 = .ok (.bipush 100, 2) := by decide +kernel
theorem dX5_simulate_91 : decode cX5_simulate 91 = .ok (.aload_n 0, 1) := by decide +kernel
theorem dX5_simulate_92 : decode cX5_simulate 92 = .ok (.getfield 23, 3) := by decide +kernel
theorem dX5_simulate_95 : decode cX5_simulate 95 = .ok (.getfield 214, 3) := by decide +kernel
theorem dX5_simulate_98 : decode cX5_simulate 98 = .ok (.iconst 0, 1) := by decide +kernel
theorem dX5_simulate_99 : decode cX5_simulate 99 = .ok (.invokevirtual 217, 3) := by decide +kernel
theorem dX5_simulate_102 : decode cX5_simulate 102 = .ok (.bipush 100, 2) := by decide +kernel
theorem dX5_simulate_104 : decode cX5_simulate 104 = .ok (.irem, 1) := by decide +kernel
theorem dX5_simulate_105 : decode cX5_simulate 105 = .ok (.imul, 1) := by decide +kernel
theorem dX5_simulate_106 : decode cX5_simulate 106 = .ok (.iadd, 1) := by decide +kernel
theorem dX5_simulate_107 : decode cX5_simulate 107 = .ok (.aload_n 0, 1) := by decide +kernel
theorem dX5_simulate_108 : decode cX5_simulate 108 = .ok (.getfield 23, 3) := by decide +kernel
theorem dX5_simulate_111 : decode cX5_simulate 111 = .ok (.getfield 90, 3) := by decide +kernel
theorem dX5_simulate_114 : decode cX5_simulate 114 = .ok (.iconst 3, 1) := by decide +kernel
theorem dX5_simulate_115 : decode cX5_simulate 115 = .ok (.iconst 3, 1) := by decide +kernel
theorem dX5_simulate_116 : decode cX5_simulate 116 = .ok (.invokevirtual 220, 3) := by decide +kernel
theorem dX5_simulate_119 : decode cX5_simulate 119 = .ok (.iadd, 1) := by decide +kernel
theorem dX5_simulate_120 : decode cX5_simulate 120 = .ok (.ireturn, 1) := by decide +kernel
theorem dX5_save_0 : decode cX5_save 0 = .ok (.iload_n 1, 1) := by decide +kernel
theorem dX5_save_1 : decode cX5_save 1 = .ok (.ifCond .lt 8, 3) := by decide +kernel
theorem dX5_save_4 : decode cX5_save 4 = .ok (.iload_n 1, 1) := by decide +kernel
theorem dX5_save_5 : decode cX5_save 5 = .ok (.iconst 2, 1) := by decide +kernel
theorem dX5_save_6 : decode cX5_save 6 = .ok (.if_icmp .lt 7, 3) := by decide +kernel
theorem dX5_save_9 : decode cX5_save 9 = .ok (.iconst 1, 1) := by decide +kernel
theorem dX5_save_10 : decode cX5_save 10 = .ok (.goto 4, 3) := by decide +kernel
theorem dX5_save_13 : decode cX5_save 13 = .ok (.iconst 0, 1) := by decide +kernel
theorem dX5_save_14 : decode cX5_save 14 = .ok (.invokestatic 42, 3) := by decide +kernel
theorem dX5_save_17 : decode cX5_save 17 = .ok (.aload_n 0, 1) := by decide +kernel
theorem dX5_save_18 : decode cX5_save 18 = .ok (.getfield 38, 3) := by decide +kernel
theorem dX5_save_21 : decode cX5_save 21 = .ok (.iload_n 1, 1) := by decide +kernel
theorem dX5_save_22 : decode cX5_save 22 = .ok (.aload_n 0, 1) := by decide +kernel
theorem dX5_save_23 : decode cX5_save 23 = .ok (.getfield 19, 3) := by decide +kernel
theorem dX5_save_26 : decode cX5_save 26 = .ok (.invokevirtual 222, 3) := by decide +kernel
theorem dX5_save_29 : decode cX5_save 29 = .ok (.aload_n 0, 1) := by decide +kernel
theorem dX5_save_30 : decode cX5_save 30 = .ok (.getfield 19, 3) := by decide +kernel
theorem dX5_save_33 : decode cX5_save 33 = .ok (.getfield 226, 3) := by decide +kernel
theorem dX5_save_36 : decode cX5_save 36 = .ok (.ireturn, 1) := by decide +kernel
theorem dX5_restore_0 : decode cX5_restore 0 = .ok (.iload_n 1, 1) := by decide +kernel
theorem dX5_restore_1 : decode cX5_restore 1 = .ok (.ifCond .lt 8, 3) := by decide +kernel
theorem dX5_restore_4 : decode cX5_restore 4 = .ok (.iload_n 1, 1) := by decide +kernel
theorem dX5_restore_5 : decode cX5_restore 5 = .ok (.iconst 2, 1) := by decide +kernel
theorem dX5_restore_6 : decode cX5_restore 6 = .ok (.if_icmp .lt 7, 3) := by decide +kernel
theorem dX5_restore_9 : decode cX5_restore 9 = .ok (.iconst 1, 1) := by decide +kernel
theorem dX5_restore_10 : decode cX5_restore 10 = .ok (.goto 4, 3) := by decide +kernel
theorem dX5_restore_13 : decode cX5_restore 13 = .ok (.iconst 0, 1) := by decide +kernel
theorem dX5_restore_14 : decode cX5_restore 14 = .ok (.invokestatic 42, 3) := by decide +kernel
theorem dX5_restore_17 : decode cX5_restore 17 = .ok (.aload_n 0, 1) := by decide +kernel
theorem dX5_restore_18 : decode cX5_restore 18 = .ok (.getfield 38, 3) := by decide +kernel
theorem dX5_restore_21 : decode cX5_restore 21 = .ok (.iload_n 1, 1) := by decide +kernel
theorem dX5_restore_22 : decode cX5_restore 22 = .ok (.invokevirtual 229, 3) := by decide +kernel
theorem dX5_restore_25 : decode cX5_restore 25 = .ok (.ifCond .eq 7, 3) := by decide +kernel
theorem dX5_restore_28 : decode cX5_restore 28 = .ok (.iconst 0, 1) := by decide +kernel
theorem dX5_restore_29 : decode cX5_restore 29 = .ok (.goto 4, 3) := by decide +kernel
theorem dX5_restore_32 : decode cX5_restore 32 = .ok (.iconst 3, 1) := by decide +kernel
theorem dX5_restore_33 : decode cX5_restore 33 = .ok (.invokestatic 42, 3) := by decide +kernel
theorem dX5_restore_36 : decode cX5_restore 36 = .ok (.aload_n 0, 1) := by decide +kernel
theorem dX5_restore_37 : decode cX5_restore 37 = .ok (.getfield 38, 3) := by decide +kernel
theorem dX5_restore_40 : decode cX5_restore 40 = .ok (.iload_n 1, 1) := by decide +kernel
theorem dX5_restore_41 : decode cX5_restore 41 = .ok (.aload_n 0, 1) := by decide +kernel
theorem dX5_restore_42 : decode cX5_restore 42 = .ok (.getfield 19, 3) := by decide +kernel
theorem dX5_restore_45 : decode cX5_restore 45 = .ok (.invokevirtual 232, 3) := by decide +kernel
theorem dX5_restore_48 : decode cX5_restore 48 = .ok (.aload_n 0, 1) := by decide +kernel
theorem dX5_restore_49 : decode cX5_restore 49 = .ok (.getfield 29, 3) := by decide +kernel
theorem dX5_restore_52 : decode cX5_restore 52 = .ok (.invokevirtual 63, 3) := by decide +kernel
theorem dX5_restore_55 : decode cX5_restore 55 = .ok (.aload_n 0, 1) := by decide +kernel
theorem dX5_restore_56 : decode cX5_restore 56 = .ok (.getfield 19, 3) := by decide +kernel
theorem dX5_restore_59 : decode cX5_restore 59 = .ok (.getfield 226, 3) := by decide +kernel
theorem dX5_restore_62 : decode cX5_restore 62 = .ok (.ireturn, 1) := by decide +kernel
theorem dX5_throwFor_0 : decode cX5_throwFor 0 = .ok (.iload_n 0, 1) := by decide +kernel
theorem dX5_throwFor_1 : decode cX5_throwFor 1 = .ok (.iconst 1, 1) := by decide +kernel
theorem dX5_throwFor_2 : decode cX5_throwFor 2 = .ok (.if_icmp .ne 13, 3) := by decide +kernel
theorem dX5_throwFor_5 : decode cX5_throwFor 5 = .ok (.new 235, 3) := by decide +kernel
theorem dX5_throwFor_8 : decode cX5_throwFor 8 = .ok (.dup, 1) := by decide +kernel
theorem dX5_throwFor_9 : decode cX5_throwFor 9 = .ok (.ldc 237, 2) := by decide +kernel
theorem dX5_throwFor_11 : decode cX5_throwFor 11 = .ok (.invokespecial 239, 3) := by decide +kernel
theorem dX5_throwFor_14 : decode cX5_throwFor 14 = .ok (.athrow, 1) := by decide +kernel
theorem dX5_throwFor_15 : decode cX5_throwFor 15 = .ok (.iload_n 0, 1) := by decide +kernel
theorem dX5_throwFor_16 : decode cX5_throwFor 16 = .ok (.iconst 2, 1) := by decide +kernel
theorem dX5_throwFor_17 : decode cX5_throwFor 17 = .ok (.if_icmp .ne 13, 3) := by decide +kernel
theorem dX5_throwFor_20 : decode cX5_throwFor 20 = .ok (.new 242, 3) := by decide +kernel
theorem dX5_throwFor_23 : decode cX5_throwFor 23 = .ok (.dup, 1) := by decide +kernel
theorem dX5_throwFor_24 : decode cX5_throwFor 24 = .ok (.ldc 244, 2) := by decide +kernel
theorem dX5_throwFor_26 : decode cX5_throwFor 26 = .ok (.invokespecial 246, 3) := by decide +kernel
theorem dX5_throwFor_29 : decode cX5_throwFor 29 = .ok (.athrow, 1) := by decide +kernel
theorem dX5_throwFor_30 : decode cX5_throwFor 30 = .ok (.iload_n 0, 1) := by decide +kernel
theorem dX5_throwFor_31 : decode cX5_throwFor 31 = .ok (.iconst 3, 1) := by decide +kernel
theorem dX5_throwFor_32 : decode cX5_throwFor 32 = .ok (.if_icmp .ne 13, 3) := by decide +kernel
theorem dX5_throwFor_35 : decode cX5_throwFor 35 = .ok (.new 247, 3) := by decide +kernel
theorem dX5_throwFor_38 : decode cX5_throwFor 38 = .ok (.dup, 1) := by decide +kernel
theorem dX5_throwFor_39 : decode cX5_throwFor 39 = .ok (.ldc 249, 2) := by decide +kernel
theorem dX5_throwFor_41 : decode cX5_throwFor 41 = .ok (.invokespecial 251, 3) := by decide +kernel
theorem dX5_throwFor_44 : decode cX5_throwFor 44 = .ok (.athrow, 1) := by decide +kernel
theorem dX5_throwFor_45 : decode cX5_throwFor 45 = .ok (.return_, 1) := by decide +kernel
theorem dX5_withoutLowest_0 : decode cX5_withoutLowest 0 = .ok (.lload_n 0, 1) := by decide +kernel
theorem dX5_withoutLowest_1 : decode cX5_withoutLowest 1 = .ok (.lstore_n 3, 1) := by decide +kernel
theorem dX5_withoutLowest_2 : decode cX5_withoutLowest 2 = .ok (.iconst 0, 1) := by decide +kernel
theorem dX5_withoutLowest_3 : decode cX5_withoutLowest 3 = .ok (.istore 5, 2) := by decide +kernel
theorem dX5_withoutLowest_5 : decode cX5_withoutLowest 5 = .ok (.iload 5, 2) := by decide +kernel
theorem dX5_withoutLowest_7 : decode cX5_withoutLowest 7 = .ok (.iload_n 2, 1) := by decide +kernel
theorem dX5_withoutLowest_8 : decode cX5_withoutLowest 8 = .ok (.if_icmp .ge 15, 3) := by decide +kernel
theorem dX5_withoutLowest_11 : decode cX5_withoutLowest 11 = .ok (.lload_n 3, 1) := by decide +kernel
theorem dX5_withoutLowest_12 : decode cX5_withoutLowest 12 = .ok (.ldc2_w 199, 3) := by decide +kernel
theorem dX5_withoutLowest_15 : decode cX5_withoutLowest 15 = .ok (.ldiv, 1) := by decide +kernel
theorem dX5_withoutLowest_16 : decode cX5_withoutLowest 16 = .ok (.lstore_n 3, 1) := by decide +kernel
theorem dX5_withoutLowest_17 : decode cX5_withoutLowest 17 = .ok (.iinc 5 1, 3) := by decide +kernel
theorem dX5_withoutLowest_20 : decode cX5_withoutLowest 20 = .ok (.goto (-15), 3) := by decide +kernel
theorem dX5_withoutLowest_23 : decode cX5_withoutLowest 23 = .ok (.lload_n 3, 1) := by decide +kernel
theorem dX5_withoutLowest_24 : decode cX5_withoutLowest 24 = .ok (.lreturn, 1) := by decide +kernel
theorem dX5_succeeds_0 : decode cX5_succeeds 0 = .ok (.iload_n 1, 1) := by decide +kernel
theorem dX5_succeeds_1 : decode cX5_succeeds 1 = .ok (.sipush 1000, 3) := by decide +kernel
theorem dX5_succeeds_4 : decode cX5_succeeds 4 = .ok (.idiv, 1) := by decide +kernel
theorem dX5_succeeds_5 : decode cX5_succeeds 5 = .ok (.bipush 10, 2) := by decide +kernel
theorem dX5_succeeds_7 : decode cX5_succeeds 7 = .ok (.irem, 1) := by decide +kernel
theorem dX5_succeeds_8 : decode cX5_succeeds 8 = .ok (.istore_n 2, 1) := by decide +kernel
theorem dX5_succeeds_9 : decode cX5_succeeds 9 = .ok (.iload_n 1, 1) := by decide +kernel
theorem dX5_succeeds_10 : decode cX5_succeeds 10 = .ok (.bipush 100, 2) := by decide +kernel
theorem dX5_succeeds_12 : decode cX5_succeeds 12 = .ok (.idiv, 1) := by decide +kernel
theorem dX5_succeeds_13 : decode cX5_succeeds 13 = .ok (.bipush 10, 2) := by decide +kernel
theorem dX5_succeeds_15 : decode cX5_succeeds 15 = .ok (.irem, 1) := by decide +kernel
theorem dX5_succeeds_16 : decode cX5_succeeds 16 = .ok (.istore_n 3, 1) := by decide +kernel
theorem dX5_succeeds_17 : decode cX5_succeeds 17 = .ok (.iload_n 1, 1) := by decide +kernel
theorem dX5_succeeds_18 : decode cX5_succeeds 18 = .ok (.bipush 10, 2) := by decide +kernel
theorem dX5_succeeds_20 : decode cX5_succeeds 20 = .ok (.idiv, 1) := by decide +kernel
theorem dX5_succeeds_21 : decode cX5_succeeds 21 = .ok (.bipush 10, 2) := by decide +kernel
theorem dX5_succeeds_23 : decode cX5_succeeds 23 = .ok (.irem, 1) := by decide +kernel
theorem dX5_succeeds_24 : decode cX5_succeeds 24 = .ok (.istore 4, 2) := by decide +kernel
theorem dX5_succeeds_26 : decode cX5_succeeds 26 = .ok (.iload_n 1, 1) := by decide +kernel
theorem dX5_succeeds_27 : decode cX5_succeeds 27 = .ok (.bipush 10, 2) := by decide +kernel
theorem dX5_succeeds_29 : decode cX5_succeeds 29 = .ok (.irem, 1) := by decide +kernel
theorem dX5_succeeds_30 : decode cX5_succeeds 30 = .ok (.istore 5, 2) := by decide +kernel
theorem dX5_succeeds_32 : decode cX5_succeeds 32 = .ok (.bipush 10, 2) := by decide +kernel
theorem dX5_succeeds_34 : decode cX5_succeeds 34 = .ok (.iload 4, 2) := by decide +kernel
theorem dX5_succeeds_36 : decode cX5_succeeds 36 = .ok (.imul, 1) := by decide +kernel
theorem dX5_succeeds_37 : decode cX5_succeeds 37 = .ok (.iload 5, 2) := by decide +kernel
theorem dX5_succeeds_39 : decode cX5_succeeds 39 = .ok (.iadd, 1) := by decide +kernel
theorem dX5_succeeds_40 : decode cX5_succeeds 40 = .ok (.istore 6, 2) := by decide +kernel
theorem dX5_succeeds_42 : decode cX5_succeeds 42 = .ok (.iload_n 1, 1) := by decide +kernel
theorem dX5_succeeds_43 : decode cX5_succeeds 43 = .ok (.sipush 10000, 3) := by decide +kernel
theorem dX5_succeeds_46 : decode cX5_succeeds 46 = .ok (.idiv, 1) := by decide +kernel
theorem dX5_succeeds_47 : decode cX5_succeeds 47 = .ok (.tableswitch 329 1 9 #[49, 76, 107, 122, 149, 181, 209, 252, 290], 49) := by decide +kernel
theorem dX5_succeeds_96 : decode cX5_succeeds 96 = .ok (.iload 6, 2) := by decide +kernel
theorem dX5_succeeds_98 : decode cX5_succeeds 98 = .ok (.ifCond .ne 23, 3) := by decide +kernel
theorem dX5_succeeds_101 : decode cX5_succeeds 101 = .ok (.aload_n 0, 1) := by decide +kernel
theorem dX5_succeeds_102 : decode cX5_succeeds 102 = .ok (.getfield 23, 3) := by decide +kernel
theorem dX5_succeeds_105 : decode cX5_succeeds 105 = .ok (.bipush 108, 2) := by decide +kernel
theorem dX5_succeeds_107 : decode cX5_succeeds 107 = .ok (.iload_n 2, 1) := by decide +kernel
theorem dX5_succeeds_108 : decode cX5_succeeds 108 = .ok (.iload_n 3, 1) := by decide +kernel
theorem dX5_succeeds_109 : decode cX5_succeeds 109 = .ok (.iconst 0, 1) := by decide +kernel
theorem dX5_succeeds_110 : decode cX5_succeeds 110 = .ok (.iconst 0, 1) := by decide +kernel
theorem dX5_succeeds_111 : decode cX5_succeeds 111 = .ok (.invokevirtual 252, 3) := by decide +kernel
theorem dX5_succeeds_114 : decode cX5_succeeds 114 = .ok (.ifCond .eq 7, 3) := by decide +kernel
theorem dX5_succeeds_117 : decode cX5_succeeds 117 = .ok (.iconst 1, 1) := by decide +kernel
theorem dX5_succeeds_118 : decode cX5_succeeds 118 = .ok (.goto 4, 3) := by decide +kernel
theorem dX5_succeeds_121 : decode cX5_succeeds 121 = .ok (.iconst 0, 1) := by decide +kernel
theorem dX5_succeeds_122 : decode cX5_succeeds 122 = .ok (.ireturn, 1) := by decide +kernel
theorem dX5_succeeds_123 : decode cX5_succeeds 123 = .ok (.iload_n 2, 1) := by decide +kernel
theorem dX5_succeeds_124 : decode cX5_succeeds 124 = .ok (.ifCond .ne 28, 3) := by decide +kernel
theorem dX5_succeeds_127 : decode cX5_succeeds 127 = .ok (.iload_n 3, 1) := by decide +kernel
theorem dX5_succeeds_128 : decode cX5_succeeds 128 = .ok (.ifCond .ne 24, 3) := by decide +kernel
theorem dX5_succeeds_131 : decode cX5_succeeds 131 = .ok (.aload_n 0, 1) := by decide +kernel
theorem dX5_succeeds_132 : decode cX5_succeeds 132 = .ok (.getfield 23, 3) := by decide +kernel
theorem dX5_succeeds_135 : decode cX5_succeeds 135 = .ok (.bipush 109, 2) := by decide +kernel
theorem dX5_succeeds_137 : decode cX5_succeeds 137 = .ok (.iload 6, 2) := by decide +kernel
theorem dX5_succeeds_139 : decode cX5_succeeds 139 = .ok (.iconst 0, 1) := by decide +kernel
theorem dX5_succeeds_140 : decode cX5_succeeds 140 = .ok (.iconst 0, 1) := by decide +kernel
theorem dX5_succeeds_141 : decode cX5_succeeds 141 = .ok (.iconst 0, 1) := by decide +kernel
theorem dX5_succeeds_142 : decode cX5_succeeds 142 = .ok (.invokevirtual 252, 3) := by decide +kernel
theorem dX5_succeeds_145 : decode cX5_succeeds 145 = .ok (.ifCond .eq 7, 3) := by decide +kernel
theorem dX5_succeeds_148 : decode cX5_succeeds 148 = .ok (.iconst 1, 1) := by decide +kernel
theorem dX5_succeeds_149 : decode cX5_succeeds 149 = .ok (.goto 4, 3) := by decide +kernel
theorem dX5_succeeds_152 : decode cX5_succeeds 152 = .ok (.iconst 0, 1) := by decide +kernel
theorem dX5_succeeds_153 : decode cX5_succeeds 153 = .ok (.ireturn, 1) := by decide +kernel
theorem dX5_succeeds_154 : decode cX5_succeeds 154 = .ok (.aload_n 0, 1) := by decide +kernel
theorem dX5_succeeds_155 : decode cX5_succeeds 155 = .ok (.getfield 23, 3) := by decide +kernel
theorem dX5_succeeds_158 : decode cX5_succeeds 158 = .ok (.bipush 104, 2) := by decide +kernel
theorem dX5_succeeds_160 : decode cX5_succeeds 160 = .ok (.iload_n 2, 1) := by decide +kernel
theorem dX5_succeeds_161 : decode cX5_succeeds 161 = .ok (.iload_n 3, 1) := by decide +kernel
theorem dX5_succeeds_162 : decode cX5_succeeds 162 = .ok (.iload 6, 2) := by decide +kernel
theorem dX5_succeeds_164 : decode cX5_succeeds 164 = .ok (.iconst 0, 1) := by decide +kernel
theorem dX5_succeeds_165 : decode cX5_succeeds 165 = .ok (.invokevirtual 252, 3) := by decide +kernel
theorem dX5_succeeds_168 : decode cX5_succeeds 168 = .ok (.ireturn, 1) := by decide +kernel
theorem dX5_succeeds_169 : decode cX5_succeeds 169 = .ok (.iload 6, 2) := by decide +kernel
theorem dX5_succeeds_171 : decode cX5_succeeds 171 = .ok (.ifCond .ne 23, 3) := by decide +kernel
theorem dX5_succeeds_174 : decode cX5_succeeds 174 = .ok (.aload_n 0, 1) := by decide +kernel
theorem dX5_succeeds_175 : decode cX5_succeeds 175 = .ok (.getfield 23, 3) := by decide +kernel
theorem dX5_succeeds_178 : decode cX5_succeeds 178 = .ok (.bipush 99, 2) := by decide +kernel
theorem dX5_succeeds_180 : decode cX5_succeeds 180 = .ok (.iload_n 2, 1) := by decide +kernel
theorem dX5_succeeds_181 : decode cX5_succeeds 181 = .ok (.iload_n 3, 1) := by decide +kernel
theorem dX5_succeeds_182 : decode cX5_succeeds 182 = .ok (.iconst 0, 1) := by decide +kernel
theorem dX5_succeeds_183 : decode cX5_succeeds 183 = .ok (.iconst 0, 1) := by decide +kernel
theorem dX5_succeeds_184 : decode cX5_succeeds 184 = .ok (.invokevirtual 252, 3) := by decide +kernel
theorem dX5_succeeds_187 : decode cX5_succeeds 187 = .ok (.ifCond .eq 7, 3) := by decide +kernel
theorem dX5_succeeds_190 : decode cX5_succeeds 190 = .ok (.iconst 1, 1) := by decide +kernel
theorem dX5_succeeds_191 : decode cX5_succeeds 191 = .ok (.goto 4, 3) := by decide +kernel
theorem dX5_succeeds_194 : decode cX5_succeeds 194 = .ok (.iconst 0, 1) := by decide +kernel
theorem dX5_succeeds_195 : decode cX5_succeeds 195 = .ok (.ireturn, 1) := by decide +kernel
theorem dX5_succeeds_196 : decode cX5_succeeds 196 = .ok (.iload_n 3, 1) := by decide +kernel
theorem dX5_succeeds_197 : decode cX5_succeeds 197 = .ok (.ifCond .ne 29, 3) := by decide +kernel
theorem dX5_succeeds_200 : decode cX5_succeeds 200 = .ok (.iload 4, 2) := by decide +kernel
theorem dX5_succeeds_202 : decode cX5_succeeds 202 = .ok (.ifCond .ne 24, 3) := by decide +kernel
theorem dX5_succeeds_205 : decode cX5_succeeds 205 = .ok (.aload_n 0, 1) := by decide +kernel
theorem dX5_succeeds_206 : decode cX5_succeeds 206 = .ok (.getfield 23, 3) := by decide +kernel
theorem dX5_succeeds_209 : decode cX5_succeeds 209 = .ok (.bipush 115, 2) := by decide +kernel
theorem dX5_succeeds_211 : decode cX5_succeeds 211 = .ok (.iload_n 2, 1) := by decide +kernel
theorem dX5_succeeds_212 : decode cX5_succeeds 212 = .ok (.iload 5, 2) := by decide +kernel
theorem dX5_succeeds_214 : decode cX5_succeeds 214 = .ok (.iconst 0, 1) := by decide +kernel
theorem dX5_succeeds_215 : decode cX5_succeeds 215 = .ok (.iconst 0, 1) := by decide +kernel
theorem dX5_succeeds_216 : decode cX5_succeeds 216 = .ok (.invokevirtual 252, 3) := by decide +kernel
theorem dX5_succeeds_219 : decode cX5_succeeds 219 = .ok (.ifCond .eq 7, 3) := by decide +kernel
theorem dX5_succeeds_222 : decode cX5_succeeds 222 = .ok (.iconst 1, 1) := by decide +kernel
theorem dX5_succeeds_223 : decode cX5_succeeds 223 = .ok (.goto 4, 3) := by decide +kernel
theorem dX5_succeeds_226 : decode cX5_succeeds 226 = .ok (.iconst 0, 1) := by decide +kernel
theorem dX5_succeeds_227 : decode cX5_succeeds 227 = .ok (.ireturn, 1) := by decide +kernel
theorem dX5_succeeds_228 : decode cX5_succeeds 228 = .ok (.iload 5, 2) := by decide +kernel
theorem dX5_succeeds_230 : decode cX5_succeeds 230 = .ok (.ifCond .ne 24, 3) := by decide +kernel
theorem dX5_succeeds_233 : decode cX5_succeeds 233 = .ok (.aload_n 0, 1) := by decide +kernel
theorem dX5_succeeds_234 : decode cX5_succeeds 234 = .ok (.getfield 23, 3) := by decide +kernel
theorem dX5_succeeds_237 : decode cX5_succeeds 237 = .ok (.bipush 98, 2) := by decide +kernel
theorem dX5_succeeds_239 : decode cX5_succeeds 239 = .ok (.iload_n 2, 1) := by decide +kernel
theorem dX5_succeeds_240 : decode cX5_succeeds 240 = .ok (.iload_n 3, 1) := by decide +kernel
theorem dX5_succeeds_241 : decode cX5_succeeds 241 = .ok (.iload 4, 2) := by decide +kernel
theorem dX5_succeeds_243 : decode cX5_succeeds 243 = .ok (.iconst 0, 1) := by decide +kernel
theorem dX5_succeeds_244 : decode cX5_succeeds 244 = .ok (.invokevirtual 252, 3) := by decide +kernel
theorem dX5_succeeds_247 : decode cX5_succeeds 247 = .ok (.ifCond .eq 7, 3) := by decide +kernel
theorem dX5_succeeds_250 : decode cX5_succeeds 250 = .ok (.iconst 1, 1) := by decide +kernel
theorem dX5_succeeds_251 : decode cX5_succeeds 251 = .ok (.goto 4, 3) := by decide +kernel
theorem dX5_succeeds_254 : decode cX5_succeeds 254 = .ok (.iconst 0, 1) := by decide +kernel
theorem dX5_succeeds_255 : decode cX5_succeeds 255 = .ok (.ireturn, 1) := by decide +kernel
theorem dX5_succeeds_256 : decode cX5_succeeds 256 = .ok (.iload_n 3, 1) := by decide +kernel
theorem dX5_succeeds_257 : decode cX5_succeeds 257 = .ok (.ifCond .ne 40, 3) := by decide +kernel
theorem dX5_succeeds_260 : decode cX5_succeeds 260 = .ok (.iload 4, 2) := by decide +kernel
theorem dX5_succeeds_262 : decode cX5_succeeds 262 = .ok (.ifCond .ne 35, 3) := by decide +kernel
theorem dX5_succeeds_265 : decode cX5_succeeds 265 = .ok (.aload_n 0, 1) := by decide +kernel
theorem dX5_succeeds_266 : decode cX5_succeeds 266 = .ok (.getfield 23, 3) := by decide +kernel
theorem dX5_succeeds_269 : decode cX5_succeeds 269 = .ok (.iload_n 2, 1) := by decide +kernel
theorem dX5_succeeds_270 : decode cX5_succeeds 270 = .ok (.invokevirtual 84, 3) := by decide +kernel
theorem dX5_succeeds_273 : decode cX5_succeeds 273 = .ok (.ifCond .eq 24, 3) := by decide +kernel
theorem dX5_succeeds_276 : decode cX5_succeeds 276 = .ok (.aload_n 0, 1) := by decide +kernel
theorem dX5_succeeds_277 : decode cX5_succeeds 277 = .ok (.getfield 23, 3) := by decide +kernel
theorem dX5_succeeds_280 : decode cX5_succeeds 280 = .ok (.getfield 90, 3) := by decide +kernel
theorem dX5_succeeds_283 : decode cX5_succeeds 283 = .ok (.iload_n 2, 1) := by decide +kernel
theorem dX5_succeeds_284 : decode cX5_succeeds 284 = .ok (.iconst 3, 1) := by decide +kernel
theorem dX5_succeeds_285 : decode cX5_succeeds 285 = .ok (.invokevirtual 94, 3) := by decide +kernel
theorem dX5_succeeds_288 : decode cX5_succeeds 288 = .ok (.iload 5, 2) := by decide +kernel
theorem dX5_succeeds_290 : decode cX5_succeeds 290 = .ok (.if_icmp .ne 7, 3) := by decide +kernel
theorem dX5_succeeds_293 : decode cX5_succeeds 293 = .ok (.iconst 1, 1) := by decide +kernel
theorem dX5_succeeds_294 : decode cX5_succeeds 294 = .ok (.goto 4, 3) := by decide +kernel
theorem dX5_succeeds_297 : decode cX5_succeeds 297 = .ok (.iconst 0, 1) := by decide +kernel
theorem dX5_succeeds_298 : decode cX5_succeeds 298 = .ok (.ireturn, 1) := by decide +kernel
theorem dX5_succeeds_299 : decode cX5_succeeds 299 = .ok (.iload_n 3, 1) := by decide +kernel
theorem dX5_succeeds_300 : decode cX5_succeeds 300 = .ok (.ifCond .ne 35, 3) := by decide +kernel
theorem dX5_succeeds_303 : decode cX5_succeeds 303 = .ok (.aload_n 0, 1) := by decide +kernel
theorem dX5_succeeds_304 : decode cX5_succeeds 304 = .ok (.getfield 23, 3) := by decide +kernel
theorem dX5_succeeds_307 : decode cX5_succeeds 307 = .ok (.iload_n 2, 1) := by decide +kernel
theorem dX5_succeeds_308 : decode cX5_succeeds 308 = .ok (.invokevirtual 99, 3) := by decide +kernel
theorem dX5_succeeds_311 : decode cX5_succeeds 311 = .ok (.ifCond .eq 24, 3) := by decide +kernel
theorem dX5_succeeds_314 : decode cX5_succeeds 314 = .ok (.aload_n 0, 1) := by decide +kernel
theorem dX5_succeeds_315 : decode cX5_succeeds 315 = .ok (.getfield 23, 3) := by decide +kernel
theorem dX5_succeeds_318 : decode cX5_succeeds 318 = .ok (.getfield 214, 3) := by decide +kernel
theorem dX5_succeeds_321 : decode cX5_succeeds 321 = .ok (.iload_n 2, 1) := by decide +kernel
theorem dX5_succeeds_322 : decode cX5_succeeds 322 = .ok (.iconst 0, 1) := by decide +kernel
theorem dX5_succeeds_323 : decode cX5_succeeds 323 = .ok (.invokevirtual 94, 3) := by decide +kernel
theorem dX5_succeeds_326 : decode cX5_succeeds 326 = .ok (.iload 6, 2) := by decide +kernel
theorem dX5_succeeds_328 : decode cX5_succeeds 328 = .ok (.if_icmp .lt 7, 3) := by decide +kernel
theorem dX5_succeeds_331 : decode cX5_succeeds 331 = .ok (.iconst 1, 1) := by decide +kernel
theorem dX5_succeeds_332 : decode cX5_succeeds 332 = .ok (.goto 4, 3) := by decide +kernel
theorem dX5_succeeds_335 : decode cX5_succeeds 335 = .ok (.iconst 0, 1) := by decide +kernel
theorem dX5_succeeds_336 : decode cX5_succeeds 336 = .ok (.ireturn, 1) := by decide +kernel
theorem dX5_succeeds_337 : decode cX5_succeeds 337 = .ok (.iload_n 3, 1) := by decide +kernel
theorem dX5_succeeds_338 : decode cX5_succeeds 338 = .ok (.ifCond .ne 36, 3) := by decide +kernel
theorem dX5_succeeds_341 : decode cX5_succeeds 341 = .ok (.aload_n 0, 1) := by decide +kernel
theorem dX5_succeeds_342 : decode cX5_succeeds 342 = .ok (.getfield 23, 3) := by decide +kernel
theorem dX5_succeeds_345 : decode cX5_succeeds 345 = .ok (.iload_n 2, 1) := by decide +kernel
theorem dX5_succeeds_346 : decode cX5_succeeds 346 = .ok (.invokevirtual 84, 3) := by decide +kernel
theorem dX5_succeeds_349 : decode cX5_succeeds 349 = .ok (.ifCond .eq 25, 3) := by decide +kernel
theorem dX5_succeeds_352 : decode cX5_succeeds 352 = .ok (.aload_n 0, 1) := by decide +kernel
theorem dX5_succeeds_353 : decode cX5_succeeds 353 = .ok (.getfield 23, 3) := by decide +kernel
theorem dX5_succeeds_356 : decode cX5_succeeds 356 = .ok (.getfield 90, 3) := by decide +kernel
theorem dX5_succeeds_359 : decode cX5_succeeds 359 = .ok (.iload_n 2, 1) := by decide +kernel
theorem dX5_succeeds_360 : decode cX5_succeeds 360 = .ok (.bipush 6, 2) := by decide +kernel
theorem dX5_succeeds_362 : decode cX5_succeeds 362 = .ok (.invokevirtual 94, 3) := by decide +kernel
theorem dX5_succeeds_365 : decode cX5_succeeds 365 = .ok (.iload 6, 2) := by decide +kernel
theorem dX5_succeeds_367 : decode cX5_succeeds 367 = .ok (.if_icmp .gt 7, 3) := by decide +kernel
theorem dX5_succeeds_370 : decode cX5_succeeds 370 = .ok (.iconst 1, 1) := by decide +kernel
theorem dX5_succeeds_371 : decode cX5_succeeds 371 = .ok (.goto 4, 3) := by decide +kernel
theorem dX5_succeeds_374 : decode cX5_succeeds 374 = .ok (.iconst 0, 1) := by decide +kernel
theorem dX5_succeeds_375 : decode cX5_succeeds 375 = .ok (.ireturn, 1) := by decide +kernel
theorem dX5_succeeds_376 : decode cX5_succeeds 376 = .ok (.iconst 0, 1) := by decide +kernel
theorem dX5_succeeds_377 : decode cX5_succeeds 377 = .ok (.ireturn, 1) := by decide +kernel
theorem dX5_takeTurn_0 : decode cX5_takeTurn 0 = .ok (.iload_n 1, 1) := by decide +kernel
theorem dX5_takeTurn_1 : decode cX5_takeTurn 1 = .ok (.bipush 16, 2) := by decide +kernel
theorem dX5_takeTurn_3 : decode cX5_takeTurn 3 = .ok (.idiv, 1) := by decide +kernel
theorem dX5_takeTurn_4 : decode cX5_takeTurn 4 = .ok (.istore_n 2, 1) := by decide +kernel
theorem dX5_takeTurn_5 : decode cX5_takeTurn 5 = .ok (.iload_n 1, 1) := by decide +kernel
theorem dX5_takeTurn_6 : decode cX5_takeTurn 6 = .ok (.bipush 16, 2) := by decide +kernel
theorem dX5_takeTurn_8 : decode cX5_takeTurn 8 = .ok (.irem, 1) := by decide +kernel
theorem dX5_takeTurn_9 : decode cX5_takeTurn 9 = .ok (.tableswitch 236 0 10 #[59, 101, 101, 133, 133, 133, 133, 159, 189, 189, 213], 59) := by decide +kernel
theorem dX5_takeTurn_68 : decode cX5_takeTurn 68 = .ok (.aload_n 0, 1) := by decide +kernel
theorem dX5_takeTurn_69 : decode cX5_takeTurn 69 = .ok (.getfield 23, 3) := by decide +kernel
theorem dX5_takeTurn_72 : decode cX5_takeTurn 72 = .ok (.bipush 103, 2) := by decide +kernel
theorem dX5_takeTurn_74 : decode cX5_takeTurn 74 = .ok (.iconst 4, 1) := by decide +kernel
theorem dX5_takeTurn_75 : decode cX5_takeTurn 75 = .ok (.iload_n 2, 1) := by decide +kernel
theorem dX5_takeTurn_76 : decode cX5_takeTurn 76 = .ok (.bipush 20, 2) := by decide +kernel
theorem dX5_takeTurn_78 : decode cX5_takeTurn 78 = .ok (.irem, 1) := by decide +kernel
theorem dX5_takeTurn_79 : decode cX5_takeTurn 79 = .ok (.iadd, 1) := by decide +kernel
theorem dX5_takeTurn_80 : decode cX5_takeTurn 80 = .ok (.iload_n 2, 1) := by decide +kernel
theorem dX5_takeTurn_81 : decode cX5_takeTurn 81 = .ok (.bipush 32, 2) := by decide +kernel
theorem dX5_takeTurn_83 : decode cX5_takeTurn 83 = .ok (.idiv, 1) := by decide +kernel
theorem dX5_takeTurn_84 : decode cX5_takeTurn 84 = .ok (.bipush 6, 2) := by decide +kernel
theorem dX5_takeTurn_86 : decode cX5_takeTurn 86 = .ok (.irem, 1) := by decide +kernel
theorem dX5_takeTurn_87 : decode cX5_takeTurn 87 = .ok (.iload_n 2, 1) := by decide +kernel
theorem dX5_takeTurn_88 : decode cX5_takeTurn 88 = .ok (.sipush 256, 3) := by decide +kernel
theorem dX5_takeTurn_91 : decode cX5_takeTurn 91 = .ok (.idiv, 1) := by decide +kernel
theorem dX5_takeTurn_92 : decode cX5_takeTurn 92 = .ok (.bipush 6, 2) := by decide +kernel
theorem dX5_takeTurn_94 : decode cX5_takeTurn 94 = .ok (.irem, 1) := by decide +kernel
theorem dX5_takeTurn_95 : decode cX5_takeTurn 95 = .ok (.iload_n 2, 1) := by decide +kernel
theorem dX5_takeTurn_96 : decode cX5_takeTurn 96 = .ok (.sipush 2048, 3) := by decide +kernel
theorem dX5_takeTurn_99 : decode cX5_takeTurn 99 = .ok (.idiv, 1) := by decide +kernel
theorem dX5_takeTurn_100 : decode cX5_takeTurn 100 = .ok (.bipush 20, 2) := by decide +kernel
theorem dX5_takeTurn_102 : decode cX5_takeTurn 102 = .ok (.irem, 1) := by decide +kernel
theorem dX5_takeTurn_103 : decode cX5_takeTurn 103 = .ok (.invokevirtual 252, 3) := by decide +kernel
theorem dX5_takeTurn_106 : decode cX5_takeTurn 106 = .ok (.pop, 1) := by decide +kernel
theorem dX5_takeTurn_107 : decode cX5_takeTurn 107 = .ok (.goto 156, 3) := by decide +kernel
theorem dX5_takeTurn_110 : decode cX5_takeTurn 110 = .ok (.aload_n 0, 1) := by decide +kernel
theorem dX5_takeTurn_111 : decode cX5_takeTurn 111 = .ok (.getfield 23, 3) := by decide +kernel
theorem dX5_takeTurn_114 : decode cX5_takeTurn 114 = .ok (.bipush 98, 2) := by decide +kernel
theorem dX5_takeTurn_116 : decode cX5_takeTurn 116 = .ok (.iconst 1, 1) := by decide +kernel
theorem dX5_takeTurn_117 : decode cX5_takeTurn 117 = .ok (.iload_n 2, 1) := by decide +kernel
theorem dX5_takeTurn_118 : decode cX5_takeTurn 118 = .ok (.bipush 9, 2) := by decide +kernel
theorem dX5_takeTurn_120 : decode cX5_takeTurn 120 = .ok (.irem, 1) := by decide +kernel
theorem dX5_takeTurn_121 : decode cX5_takeTurn 121 = .ok (.iadd, 1) := by decide +kernel
theorem dX5_takeTurn_122 : decode cX5_takeTurn 122 = .ok (.iload_n 2, 1) := by decide +kernel
theorem dX5_takeTurn_123 : decode cX5_takeTurn 123 = .ok (.bipush 16, 2) := by decide +kernel
theorem dX5_takeTurn_125 : decode cX5_takeTurn 125 = .ok (.idiv, 1) := by decide +kernel
theorem dX5_takeTurn_126 : decode cX5_takeTurn 126 = .ok (.iconst 4, 1) := by decide +kernel
theorem dX5_takeTurn_127 : decode cX5_takeTurn 127 = .ok (.irem, 1) := by decide +kernel
theorem dX5_takeTurn_128 : decode cX5_takeTurn 128 = .ok (.iload_n 2, 1) := by decide +kernel
theorem dX5_takeTurn_129 : decode cX5_takeTurn 129 = .ok (.bipush 64, 2) := by decide +kernel
theorem dX5_takeTurn_131 : decode cX5_takeTurn 131 = .ok (.idiv, 1) := by decide +kernel
theorem dX5_takeTurn_132 : decode cX5_takeTurn 132 = .ok (.iconst 4, 1) := by decide +kernel
theorem dX5_takeTurn_133 : decode cX5_takeTurn 133 = .ok (.irem, 1) := by decide +kernel
theorem dX5_takeTurn_134 : decode cX5_takeTurn 134 = .ok (.iconst 0, 1) := by decide +kernel
theorem dX5_takeTurn_135 : decode cX5_takeTurn 135 = .ok (.invokevirtual 252, 3) := by decide +kernel
theorem dX5_takeTurn_138 : decode cX5_takeTurn 138 = .ok (.pop, 1) := by decide +kernel
theorem dX5_takeTurn_139 : decode cX5_takeTurn 139 = .ok (.goto 124, 3) := by decide +kernel
theorem dX5_takeTurn_142 : decode cX5_takeTurn 142 = .ok (.aload_n 0, 1) := by decide +kernel
theorem dX5_takeTurn_143 : decode cX5_takeTurn 143 = .ok (.getfield 23, 3) := by decide +kernel
theorem dX5_takeTurn_146 : decode cX5_takeTurn 146 = .ok (.bipush 108, 2) := by decide +kernel
theorem dX5_takeTurn_148 : decode cX5_takeTurn 148 = .ok (.iload_n 2, 1) := by decide +kernel
theorem dX5_takeTurn_149 : decode cX5_takeTurn 149 = .ok (.bipush 10, 2) := by decide +kernel
theorem dX5_takeTurn_151 : decode cX5_takeTurn 151 = .ok (.irem, 1) := by decide +kernel
theorem dX5_takeTurn_152 : decode cX5_takeTurn 152 = .ok (.iload_n 2, 1) := by decide +kernel
theorem dX5_takeTurn_153 : decode cX5_takeTurn 153 = .ok (.bipush 16, 2) := by decide +kernel
theorem dX5_takeTurn_155 : decode cX5_takeTurn 155 = .ok (.idiv, 1) := by decide +kernel
theorem dX5_takeTurn_156 : decode cX5_takeTurn 156 = .ok (.bipush 6, 2) := by decide +kernel
theorem dX5_takeTurn_158 : decode cX5_takeTurn 158 = .ok (.irem, 1) := by decide +kernel
theorem dX5_takeTurn_159 : decode cX5_takeTurn 159 = .ok (.iconst 0, 1) := by decide +kernel
theorem dX5_takeTurn_160 : decode cX5_takeTurn 160 = .ok (.iconst 0, 1) := by decide +kernel
theorem dX5_takeTurn_161 : decode cX5_takeTurn 161 = .ok (.invokevirtual 252, 3) := by decide +kernel
theorem dX5_takeTurn_164 : decode cX5_takeTurn 164 = .ok (.pop, 1) := by decide +kernel
theorem dX5_takeTurn_165 : decode cX5_takeTurn 165 = .ok (.goto 98, 3) := by decide +kernel
theorem dX5_takeTurn_168 : decode cX5_takeTurn 168 = .ok (.aload_n 0, 1) := by decide +kernel
theorem dX5_takeTurn_169 : decode cX5_takeTurn 169 = .ok (.getfield 23, 3) := by decide +kernel
theorem dX5_takeTurn_172 : decode cX5_takeTurn 172 = .ok (.bipush 104, 2) := by decide +kernel
theorem dX5_takeTurn_174 : decode cX5_takeTurn 174 = .ok (.iload_n 2, 1) := by decide +kernel
theorem dX5_takeTurn_175 : decode cX5_takeTurn 175 = .ok (.iconst 4, 1) := by decide +kernel
theorem dX5_takeTurn_176 : decode cX5_takeTurn 176 = .ok (.irem, 1) := by decide +kernel
theorem dX5_takeTurn_177 : decode cX5_takeTurn 177 = .ok (.iload_n 2, 1) := by decide +kernel
theorem dX5_takeTurn_178 : decode cX5_takeTurn 178 = .ok (.iconst 4, 1) := by decide +kernel
theorem dX5_takeTurn_179 : decode cX5_takeTurn 179 = .ok (.idiv, 1) := by decide +kernel
theorem dX5_takeTurn_180 : decode cX5_takeTurn 180 = .ok (.bipush 6, 2) := by decide +kernel
theorem dX5_takeTurn_182 : decode cX5_takeTurn 182 = .ok (.irem, 1) := by decide +kernel
theorem dX5_takeTurn_183 : decode cX5_takeTurn 183 = .ok (.iload_n 2, 1) := by decide +kernel
theorem dX5_takeTurn_184 : decode cX5_takeTurn 184 = .ok (.bipush 32, 2) := by decide +kernel
theorem dX5_takeTurn_186 : decode cX5_takeTurn 186 = .ok (.idiv, 1) := by decide +kernel
theorem dX5_takeTurn_187 : decode cX5_takeTurn 187 = .ok (.bipush 20, 2) := by decide +kernel
theorem dX5_takeTurn_189 : decode cX5_takeTurn 189 = .ok (.irem, 1) := by decide +kernel
theorem dX5_takeTurn_190 : decode cX5_takeTurn 190 = .ok (.iconst 0, 1) := by decide +kernel
theorem dX5_takeTurn_191 : decode cX5_takeTurn 191 = .ok (.invokevirtual 252, 3) := by decide +kernel
theorem dX5_takeTurn_194 : decode cX5_takeTurn 194 = .ok (.pop, 1) := by decide +kernel
theorem dX5_takeTurn_195 : decode cX5_takeTurn 195 = .ok (.goto 68, 3) := by decide +kernel
theorem dX5_takeTurn_198 : decode cX5_takeTurn 198 = .ok (.aload_n 0, 1) := by decide +kernel
theorem dX5_takeTurn_199 : decode cX5_takeTurn 199 = .ok (.getfield 23, 3) := by decide +kernel
theorem dX5_takeTurn_202 : decode cX5_takeTurn 202 = .ok (.bipush 99, 2) := by decide +kernel
theorem dX5_takeTurn_204 : decode cX5_takeTurn 204 = .ok (.iload_n 2, 1) := by decide +kernel
theorem dX5_takeTurn_205 : decode cX5_takeTurn 205 = .ok (.iconst 4, 1) := by decide +kernel
theorem dX5_takeTurn_206 : decode cX5_takeTurn 206 = .ok (.irem, 1) := by decide +kernel
theorem dX5_takeTurn_207 : decode cX5_takeTurn 207 = .ok (.iload_n 2, 1) := by decide +kernel
theorem dX5_takeTurn_208 : decode cX5_takeTurn 208 = .ok (.iconst 4, 1) := by decide +kernel
theorem dX5_takeTurn_209 : decode cX5_takeTurn 209 = .ok (.idiv, 1) := by decide +kernel
theorem dX5_takeTurn_210 : decode cX5_takeTurn 210 = .ok (.bipush 10, 2) := by decide +kernel
theorem dX5_takeTurn_212 : decode cX5_takeTurn 212 = .ok (.irem, 1) := by decide +kernel
theorem dX5_takeTurn_213 : decode cX5_takeTurn 213 = .ok (.iconst 0, 1) := by decide +kernel
theorem dX5_takeTurn_214 : decode cX5_takeTurn 214 = .ok (.iconst 0, 1) := by decide +kernel
theorem dX5_takeTurn_215 : decode cX5_takeTurn 215 = .ok (.invokevirtual 252, 3) := by decide +kernel
theorem dX5_takeTurn_218 : decode cX5_takeTurn 218 = .ok (.pop, 1) := by decide +kernel
theorem dX5_takeTurn_219 : decode cX5_takeTurn 219 = .ok (.goto 44, 3) := by decide +kernel
theorem dX5_takeTurn_222 : decode cX5_takeTurn 222 = .ok (.aload_n 0, 1) := by decide +kernel
theorem dX5_takeTurn_223 : decode cX5_takeTurn 223 = .ok (.getfield 23, 3) := by decide +kernel
theorem dX5_takeTurn_226 : decode cX5_takeTurn 226 = .ok (.bipush 115, 2) := by decide +kernel
theorem dX5_takeTurn_228 : decode cX5_takeTurn 228 = .ok (.iload_n 2, 1) := by decide +kernel
theorem dX5_takeTurn_229 : decode cX5_takeTurn 229 = .ok (.iconst 3, 1) := by decide +kernel
theorem dX5_takeTurn_230 : decode cX5_takeTurn 230 = .ok (.irem, 1) := by decide +kernel
theorem dX5_takeTurn_231 : decode cX5_takeTurn 231 = .ok (.iload_n 2, 1) := by decide +kernel
theorem dX5_takeTurn_232 : decode cX5_takeTurn 232 = .ok (.iconst 4, 1) := by decide +kernel
theorem dX5_takeTurn_233 : decode cX5_takeTurn 233 = .ok (.idiv, 1) := by decide +kernel
theorem dX5_takeTurn_234 : decode cX5_takeTurn 234 = .ok (.iconst 5, 1) := by decide +kernel
theorem dX5_takeTurn_235 : decode cX5_takeTurn 235 = .ok (.irem, 1) := by decide +kernel
theorem dX5_takeTurn_236 : decode cX5_takeTurn 236 = .ok (.iconst 0, 1) := by decide +kernel
theorem dX5_takeTurn_237 : decode cX5_takeTurn 237 = .ok (.iconst 0, 1) := by decide +kernel
theorem dX5_takeTurn_238 : decode cX5_takeTurn 238 = .ok (.invokevirtual 252, 3) := by decide +kernel
theorem dX5_takeTurn_241 : decode cX5_takeTurn 241 = .ok (.pop, 1) := by decide +kernel
theorem dX5_takeTurn_242 : decode cX5_takeTurn 242 = .ok (.goto 21, 3) := by decide +kernel
theorem dX5_takeTurn_245 : decode cX5_takeTurn 245 = .ok (.aload_n 0, 1) := by decide +kernel
theorem dX5_takeTurn_246 : decode cX5_takeTurn 246 = .ok (.getfield 23, 3) := by decide +kernel
theorem dX5_takeTurn_249 : decode cX5_takeTurn 249 = .ok (.bipush 109, 2) := by decide +kernel
theorem dX5_takeTurn_251 : decode cX5_takeTurn 251 = .ok (.iconst 1, 1) := by decide +kernel
theorem dX5_takeTurn_252 : decode cX5_takeTurn 252 = .ok (.iload_n 2, 1) := by decide +kernel
theorem dX5_takeTurn_253 : decode cX5_takeTurn 253 = .ok (.iconst 4, 1) := by decide +kernel
theorem dX5_takeTurn_254 : decode cX5_takeTurn 254 = .ok (.irem, 1) := by decide +kernel
theorem dX5_takeTurn_255 : decode cX5_takeTurn 255 = .ok (.iadd, 1) := by decide +kernel
theorem dX5_takeTurn_256 : decode cX5_takeTurn 256 = .ok (.iconst 0, 1) := by decide +kernel
theorem dX5_takeTurn_257 : decode cX5_takeTurn 257 = .ok (.iconst 0, 1) := by decide +kernel
theorem dX5_takeTurn_258 : decode cX5_takeTurn 258 = .ok (.iconst 0, 1) := by decide +kernel
theorem dX5_takeTurn_259 : decode cX5_takeTurn 259 = .ok (.invokevirtual 252, 3) := by decide +kernel
theorem dX5_takeTurn_262 : decode cX5_takeTurn 262 = .ok (.pop, 1) := by decide +kernel
theorem dX5_takeTurn_263 : decode cX5_takeTurn 263 = .ok (.return_, 1) := by decide +kernel

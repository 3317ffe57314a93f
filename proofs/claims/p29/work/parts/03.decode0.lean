theorem dX0_init_0 : decode cX0_init 0 = .ok (.aload_n 0, 1) := by decide +kernel
theorem dX0_init_1 : decode cX0_init 1 = .ok (.invokespecial 3, 3) := by decide +kernel
theorem dX0_init_4 : decode cX0_init 4 = .ok (.aload_n 0, 1) := by decide +kernel
theorem dX0_init_5 : decode cX0_init 5 = .ok (.sipush 9999, 3) := by decide +kernel
theorem dX0_init_8 : decode cX0_init 8 = .ok (.putfield 9, 3) := by decide +kernel
theorem dX0_init_11 : decode cX0_init 11 = .ok (.return_, 1) := by decide +kernel
theorem dX0_failIfWorn_0 : decode cX0_failIfWorn 0 = .ok (.aload_n 0, 1) := by decide +kernel
theorem dX0_failIfWorn_1 : decode cX0_failIfWorn 1 = .ok (.getfield 15, 3) := by decide +kernel
theorem dX0_failIfWorn_4 : decode cX0_failIfWorn 4 = .ok (.aload_n 0, 1) := by decide +kernel
theorem dX0_failIfWorn_5 : decode cX0_failIfWorn 5 = .ok (.getfield 9, 3) := by decide +kernel
theorem dX0_failIfWorn_8 : decode cX0_failIfWorn 8 = .ok (.if_icmp .lt 8, 3) := by decide +kernel
theorem dX0_failIfWorn_11 : decode cX0_failIfWorn 11 = .ok (.aload_n 0, 1) := by decide +kernel
theorem dX0_failIfWorn_12 : decode cX0_failIfWorn 12 = .ok (.iconst 1, 1) := by decide +kernel
theorem dX0_failIfWorn_13 : decode cX0_failIfWorn 13 = .ok (.putfield 18, 3) := by decide +kernel
theorem dX0_failIfWorn_16 : decode cX0_failIfWorn 16 = .ok (.return_, 1) := by decide +kernel
theorem dX1_init_0 : decode cX1_init 0 = .ok (.aload_n 0, 1) := by decide +kernel
theorem dX1_init_1 : decode cX1_init 1 = .ok (.invokespecial 3, 3) := by decide +kernel
theorem dX1_init_4 : decode cX1_init 4 = .ok (.aload_n 0, 1) := by decide +kernel
theorem dX1_init_5 : decode cX1_init 5 = .ok (.iconst 3, 1) := by decide +kernel
theorem dX1_init_6 : decode cX1_init 6 = .ok (.anewarray 9, 3) := by decide +kernel
theorem dX1_init_9 : decode cX1_init 9 = .ok (.putfield 11, 3) := by decide +kernel
theorem dX1_init_12 : decode cX1_init 12 = .ok (.return_, 1) := by decide +kernel
theorem dX1_isFull_0 : decode cX1_isFull 0 = .ok (.aload_n 0, 1) := by decide +kernel
theorem dX1_isFull_1 : decode cX1_isFull 1 = .ok (.getfield 17, 3) := by decide +kernel
theorem dX1_isFull_4 : decode cX1_isFull 4 = .ok (.aload_n 0, 1) := by decide +kernel
theorem dX1_isFull_5 : decode cX1_isFull 5 = .ok (.getfield 11, 3) := by decide +kernel
theorem dX1_isFull_8 : decode cX1_isFull 8 = .ok (.arraylength, 1) := by decide +kernel
theorem dX1_isFull_9 : decode cX1_isFull 9 = .ok (.if_icmp .lt 7, 3) := by decide +kernel
theorem dX1_isFull_12 : decode cX1_isFull 12 = .ok (.iconst 1, 1) := by decide +kernel
theorem dX1_isFull_13 : decode cX1_isFull 13 = .ok (.goto 4, 3) := by decide +kernel
theorem dX1_isFull_16 : decode cX1_isFull 16 = .ok (.iconst 0, 1) := by decide +kernel
theorem dX1_isFull_17 : decode cX1_isFull 17 = .ok (.ireturn, 1) := by decide +kernel
theorem dX1_find_0 : decode cX1_find 0 = .ok (.iload_n 1, 1) := by decide +kernel
theorem dX1_find_1 : decode cX1_find 1 = .ok (.ifCond .lt 12, 3) := by decide +kernel
theorem dX1_find_4 : decode cX1_find 4 = .ok (.iload_n 1, 1) := by decide +kernel
theorem dX1_find_5 : decode cX1_find 5 = .ok (.aload_n 0, 1) := by decide +kernel
theorem dX1_find_6 : decode cX1_find 6 = .ok (.getfield 11, 3) := by decide +kernel
theorem dX1_find_9 : decode cX1_find 9 = .ok (.arraylength, 1) := by decide +kernel
theorem dX1_find_10 : decode cX1_find 10 = .ok (.if_icmp .lt 7, 3) := by decide +kernel
theorem dX1_find_13 : decode cX1_find 13 = .ok (.aconst_null, 1) := by decide +kernel
theorem dX1_find_14 : decode cX1_find 14 = .ok (.goto 9, 3) := by decide +kernel
theorem dX1_find_17 : decode cX1_find 17 = .ok (.aload_n 0, 1) := by decide +kernel
theorem dX1_find_18 : decode cX1_find 18 = .ok (.getfield 11, 3) := by decide +kernel
theorem dX1_find_21 : decode cX1_find 21 = .ok (.iload_n 1, 1) := by decide +kernel
theorem dX1_find_22 : decode cX1_find 22 = .ok (.aaload, 1) := by decide +kernel
theorem dX1_find_23 : decode cX1_find 23 = .ok (.areturn, 1) := by decide +kernel
theorem dX1_put_0 : decode cX1_put 0 = .ok (.aload_n 0, 1) := by decide +kernel
theorem dX1_put_1 : decode cX1_put 1 = .ok (.getfield 17, 3) := by decide +kernel
theorem dX1_put_4 : decode cX1_put 4 = .ok (.ifCond .lt 35, 3) := by decide +kernel
theorem dX1_put_7 : decode cX1_put 7 = .ok (.aload_n 0, 1) := by decide +kernel
theorem dX1_put_8 : decode cX1_put 8 = .ok (.getfield 17, 3) := by decide +kernel
theorem dX1_put_11 : decode cX1_put 11 = .ok (.aload_n 0, 1) := by decide +kernel
theorem dX1_put_12 : decode cX1_put 12 = .ok (.getfield 11, 3) := by decide +kernel
theorem dX1_put_15 : decode cX1_put 15 = .ok (.arraylength, 1) := by decide +kernel
theorem dX1_put_16 : decode cX1_put 16 = .ok (.if_icmp .ge 23, 3) := by decide +kernel
theorem dX1_put_19 : decode cX1_put 19 = .ok (.aload_n 0, 1) := by decide +kernel
theorem dX1_put_20 : decode cX1_put 20 = .ok (.getfield 11, 3) := by decide +kernel
theorem dX1_put_23 : decode cX1_put 23 = .ok (.aload_n 0, 1) := by decide +kernel
theorem dX1_put_24 : decode cX1_put 24 = .ok (.getfield 17, 3) := by decide +kernel
theorem dX1_put_27 : decode cX1_put 27 = .ok (.aload_n 1, 1) := by decide +kernel
theorem dX1_put_28 : decode cX1_put 28 = .ok (.aastore, 1) := by decide +kernel
theorem dX1_put_29 : decode cX1_put 29 = .ok (.aload_n 0, 1) := by decide +kernel
theorem dX1_put_30 : decode cX1_put 30 = .ok (.dup, 1) := by decide +kernel
theorem dX1_put_31 : decode cX1_put 31 = .ok (.getfield 17, 3) := by decide +kernel
theorem dX1_put_34 : decode cX1_put 34 = .ok (.iconst 1, 1) := by decide +kernel
theorem dX1_put_35 : decode cX1_put 35 = .ok (.iadd, 1) := by decide +kernel
theorem dX1_put_36 : decode cX1_put 36 = .ok (.putfield 17, 3) := by decide +kernel
theorem dX1_put_39 : decode cX1_put 39 = .ok (.return_, 1) := by decide +kernel
theorem dX1_takeOut_0 : decode cX1_takeOut 0 = .ok (.aload_n 0, 1) := by decide +kernel
theorem dX1_takeOut_1 : decode cX1_takeOut 1 = .ok (.getfield 11, 3) := by decide +kernel
theorem dX1_takeOut_4 : decode cX1_takeOut 4 = .ok (.arraylength, 1) := by decide +kernel
theorem dX1_takeOut_5 : decode cX1_takeOut 5 = .ok (.iconst 1, 1) := by decide +kernel
theorem dX1_takeOut_6 : decode cX1_takeOut 6 = .ok (.isub, 1) := by decide +kernel
theorem dX1_takeOut_7 : decode cX1_takeOut 7 = .ok (.istore_n 2, 1) := by decide +kernel
theorem dX1_takeOut_8 : decode cX1_takeOut 8 = .ok (.iload_n 1, 1) := by decide +kernel
theorem dX1_takeOut_9 : decode cX1_takeOut 9 = .ok (.ifCond .lt 8, 3) := by decide +kernel
theorem dX1_takeOut_12 : decode cX1_takeOut 12 = .ok (.iload_n 1, 1) := by decide +kernel
theorem dX1_takeOut_13 : decode cX1_takeOut 13 = .ok (.iload_n 2, 1) := by decide +kernel
theorem dX1_takeOut_14 : decode cX1_takeOut 14 = .ok (.if_icmp .le 4, 3) := by decide +kernel
theorem dX1_takeOut_17 : decode cX1_takeOut 17 = .ok (.return_, 1) := by decide +kernel
theorem dX1_takeOut_18 : decode cX1_takeOut 18 = .ok (.iload_n 1, 1) := by decide +kernel
theorem dX1_takeOut_19 : decode cX1_takeOut 19 = .ok (.istore_n 3, 1) := by decide +kernel
theorem dX1_takeOut_20 : decode cX1_takeOut 20 = .ok (.iload_n 3, 1) := by decide +kernel
theorem dX1_takeOut_21 : decode cX1_takeOut 21 = .ok (.iload_n 2, 1) := by decide +kernel
theorem dX1_takeOut_22 : decode cX1_takeOut 22 = .ok (.if_icmp .ge 23, 3) := by decide +kernel
theorem dX1_takeOut_25 : decode cX1_takeOut 25 = .ok (.aload_n 0, 1) := by decide +kernel
theorem dX1_takeOut_26 : decode cX1_takeOut 26 = .ok (.getfield 11, 3) := by decide +kernel
theorem dX1_takeOut_29 : decode cX1_takeOut 29 = .ok (.iload_n 3, 1) := by decide +kernel
theorem dX1_takeOut_30 : decode cX1_takeOut 30 = .ok (.aload_n 0, 1) := by decide +kernel
theorem dX1_takeOut_31 : decode cX1_takeOut 31 = .ok (.getfield 11, 3) := by decide +kernel
theorem dX1_takeOut_34 : decode cX1_takeOut 34 = .ok (.iload_n 3, 1) := by decide +kernel
theorem dX1_takeOut_35 : decode cX1_takeOut 35 = .ok (.iconst 1, 1) := by decide +kernel
theorem dX1_takeOut_36 : decode cX1_takeOut 36 = .ok (.iadd, 1) := by decide +kernel
theorem dX1_takeOut_37 : decode cX1_takeOut 37 = .ok (.aaload, 1) := by decide +kernel
theorem dX1_takeOut_38 : decode cX1_takeOut 38 = .ok (.aastore, 1) := by decide +kernel
theorem dX1_takeOut_39 : decode cX1_takeOut 39 = .ok (.iinc 3 1, 3) := by decide +kernel
theorem dX1_takeOut_42 : decode cX1_takeOut 42 = .ok (.goto (-22), 3) := by decide +kernel
theorem dX1_takeOut_45 : decode cX1_takeOut 45 = .ok (.aload_n 0, 1) := by decide +kernel
theorem dX1_takeOut_46 : decode cX1_takeOut 46 = .ok (.getfield 11, 3) := by decide +kernel
theorem dX1_takeOut_49 : decode cX1_takeOut 49 = .ok (.iload_n 2, 1) := by decide +kernel
theorem dX1_takeOut_50 : decode cX1_takeOut 50 = .ok (.aconst_null, 1) := by decide +kernel
theorem dX1_takeOut_51 : decode cX1_takeOut 51 = .ok (.aastore, 1) := by decide +kernel
theorem dX1_takeOut_52 : decode cX1_takeOut 52 = .ok (.aload_n 0, 1) := by decide +kernel
theorem dX1_takeOut_53 : decode cX1_takeOut 53 = .ok (.dup, 1) := by decide +kernel
theorem dX1_takeOut_54 : decode cX1_takeOut 54 = .ok (.getfield 17, 3) := by decide +kernel
theorem dX1_takeOut_57 : decode cX1_takeOut 57 = .ok (.iconst 1, 1) := by decide +kernel
theorem dX1_takeOut_58 : decode cX1_takeOut 58 = .ok (.isub, 1) := by decide +kernel
theorem dX1_takeOut_59 : decode cX1_takeOut 59 = .ok (.putfield 17, 3) := by decide +kernel
theorem dX1_takeOut_62 : decode cX1_takeOut 62 = .ok (.return_, 1) := by decide +kernel
theorem dX1_dryGrams_0 : decode cX1_dryGrams 0 = .ok (.iconst 0, 1) := by decide +kernel
theorem dX1_dryGrams_1 : decode cX1_dryGrams 1 = .ok (.istore_n 2, 1) := by decide +kernel
theorem dX1_dryGrams_2 : decode cX1_dryGrams 2 = .ok (.iconst 0, 1) := by decide +kernel
theorem dX1_dryGrams_3 : decode cX1_dryGrams 3 = .ok (.istore_n 3, 1) := by decide +kernel
theorem dX1_dryGrams_4 : decode cX1_dryGrams 4 = .ok (.iload_n 3, 1) := by decide +kernel
theorem dX1_dryGrams_5 : decode cX1_dryGrams 5 = .ok (.aload_n 0, 1) := by decide +kernel
theorem dX1_dryGrams_6 : decode cX1_dryGrams 6 = .ok (.getfield 11, 3) := by decide +kernel
theorem dX1_dryGrams_9 : decode cX1_dryGrams 9 = .ok (.arraylength, 1) := by decide +kernel
theorem dX1_dryGrams_10 : decode cX1_dryGrams 10 = .ok (.if_icmp .ge 39, 3) := by decide +kernel
theorem dX1_dryGrams_13 : decode cX1_dryGrams 13 = .ok (.aload_n 0, 1) := by decide +kernel
theorem dX1_dryGrams_14 : decode cX1_dryGrams 14 = .ok (.getfield 11, 3) := by decide +kernel
theorem dX1_dryGrams_17 : decode cX1_dryGrams 17 = .ok (.iload_n 3, 1) := by decide +kernel
theorem dX1_dryGrams_18 : decode cX1_dryGrams 18 = .ok (.aaload, 1) := by decide +kernel
theorem dX1_dryGrams_19 : decode cX1_dryGrams 19 = .ok (.astore 4, 2) := by decide +kernel
theorem dX1_dryGrams_21 : decode cX1_dryGrams 21 = .ok (.aload 4, 2) := by decide +kernel
theorem dX1_dryGrams_23 : decode cX1_dryGrams 23 = .ok (.ifnull 20, 3) := by decide +kernel
theorem dX1_dryGrams_26 : decode cX1_dryGrams 26 = .ok (.aload 4, 2) := by decide +kernel
theorem dX1_dryGrams_28 : decode cX1_dryGrams 28 = .ok (.aload_n 1, 1) := by decide +kernel
theorem dX1_dryGrams_29 : decode cX1_dryGrams 29 = .ok (.invokevirtual 21, 3) := by decide +kernel
theorem dX1_dryGrams_32 : decode cX1_dryGrams 32 = .ok (.ifCond .eq 11, 3) := by decide +kernel
theorem dX1_dryGrams_35 : decode cX1_dryGrams 35 = .ok (.iload_n 2, 1) := by decide +kernel
theorem dX1_dryGrams_36 : decode cX1_dryGrams 36 = .ok (.aload 4, 2) := by decide +kernel
theorem dX1_dryGrams_38 : decode cX1_dryGrams 38 = .ok (.getfield 25, 3) := by decide +kernel
theorem dX1_dryGrams_41 : decode cX1_dryGrams 41 = .ok (.iadd, 1) := by decide +kernel
theorem dX1_dryGrams_42 : decode cX1_dryGrams 42 = .ok (.istore_n 2, 1) := by decide +kernel
theorem dX1_dryGrams_43 : decode cX1_dryGrams 43 = .ok (.iinc 3 1, 3) := by decide +kernel
theorem dX1_dryGrams_46 : decode cX1_dryGrams 46 = .ok (.goto (-42), 3) := by decide +kernel
theorem dX1_dryGrams_49 : decode cX1_dryGrams 49 = .ok (.iload_n 2, 1) := by decide +kernel
theorem dX1_dryGrams_50 : decode cX1_dryGrams 50 = .ok (.ireturn, 1) := by decide +kernel
theorem dX1_draw_0 : decode cX1_draw 0 = .ok (.iload_n 2, 1) := by decide +kernel
theorem dX1_draw_1 : decode cX1_draw 1 = .ok (.istore_n 3, 1) := by decide +kernel
theorem dX1_draw_2 : decode cX1_draw 2 = .ok (.iconst 0, 1) := by decide +kernel
theorem dX1_draw_3 : decode cX1_draw 3 = .ok (.istore 4, 2) := by decide +kernel
theorem dX1_draw_5 : decode cX1_draw 5 = .ok (.iload 4, 2) := by decide +kernel
theorem dX1_draw_7 : decode cX1_draw 7 = .ok (.aload_n 0, 1) := by decide +kernel
theorem dX1_draw_8 : decode cX1_draw 8 = .ok (.getfield 11, 3) := by decide +kernel
theorem dX1_draw_11 : decode cX1_draw 11 = .ok (.arraylength, 1) := by decide +kernel
theorem dX1_draw_12 : decode cX1_draw 12 = .ok (.if_icmp .ge 60, 3) := by decide +kernel
theorem dX1_draw_15 : decode cX1_draw 15 = .ok (.aload_n 0, 1) := by decide +kernel
theorem dX1_draw_16 : decode cX1_draw 16 = .ok (.getfield 11, 3) := by decide +kernel
theorem dX1_draw_19 : decode cX1_draw 19 = .ok (.iload 4, 2) := by decide +kernel
theorem dX1_draw_21 : decode cX1_draw 21 = .ok (.aaload, 1) := by decide +kernel
theorem dX1_draw_22 : decode cX1_draw 22 = .ok (.astore 5, 2) := by decide +kernel
theorem dX1_draw_24 : decode cX1_draw 24 = .ok (.aload 5, 2) := by decide +kernel
theorem dX1_draw_26 : decode cX1_draw 26 = .ok (.ifnull 40, 3) := by decide +kernel
theorem dX1_draw_29 : decode cX1_draw 29 = .ok (.aload 5, 2) := by decide +kernel
theorem dX1_draw_31 : decode cX1_draw 31 = .ok (.aload_n 1, 1) := by decide +kernel
theorem dX1_draw_32 : decode cX1_draw 32 = .ok (.invokevirtual 21, 3) := by decide +kernel
theorem dX1_draw_35 : decode cX1_draw 35 = .ok (.ifCond .eq 31, 3) := by decide +kernel
theorem dX1_draw_38 : decode cX1_draw 38 = .ok (.iload_n 3, 1) := by decide +kernel
theorem dX1_draw_39 : decode cX1_draw 39 = .ok (.aload 5, 2) := by decide +kernel
theorem dX1_draw_41 : decode cX1_draw 41 = .ok (.getfield 25, 3) := by decide +kernel
theorem dX1_draw_44 : decode cX1_draw 44 = .ok (.invokestatic 28, 3) := by decide +kernel
theorem dX1_draw_47 : decode cX1_draw 47 = .ok (.istore 6, 2) := by decide +kernel
theorem dX1_draw_49 : decode cX1_draw 49 = .ok (.aload 5, 2) := by decide +kernel
theorem dX1_draw_51 : decode cX1_draw 51 = .ok (.dup, 1) := by decide +kernel
theorem dX1_draw_52 : decode cX1_draw 52 = .ok (.getfield 25, 3) := by decide +kernel
theorem dX1_draw_55 : decode cX1_draw 55 = .ok (.iload 6, 2) := by decide +kernel
theorem dX1_draw_57 : decode cX1_draw 57 = .ok (.isub, 1) := by decide +kernel
theorem dX1_draw_58 : decode cX1_draw 58 = .ok (.putfield 25, 3) := by decide +kernel
theorem dX1_draw_61 : decode cX1_draw 61 = .ok (.iload_n 3, 1) := by decide +kernel
theorem dX1_draw_62 : decode cX1_draw 62 = .ok (.iload 6, 2) := by decide +kernel
theorem dX1_draw_64 : decode cX1_draw 64 = .ok (.isub, 1) := by decide +kernel
theorem dX1_draw_65 : decode cX1_draw 65 = .ok (.istore_n 3, 1) := by decide +kernel
theorem dX1_draw_66 : decode cX1_draw 66 = .ok (.iinc 4 1, 3) := by decide +kernel
theorem dX1_draw_69 : decode cX1_draw 69 = .ok (.goto (-64), 3) := by decide +kernel
theorem dX1_draw_72 : decode cX1_draw 72 = .ok (.return_, 1) := by decide +kernel
theorem dX1_dryOneHour_0 : decode cX1_dryOneHour 0 = .ok (.aload_n 0, 1) := by decide +kernel
theorem dX1_dryOneHour_1 : decode cX1_dryOneHour 1 = .ok (.getfield 11, 3) := by decide +kernel
theorem dX1_dryOneHour_4 : decode cX1_dryOneHour 4 = .ok (.arraylength, 1) := by decide +kernel
theorem dX1_dryOneHour_5 : decode cX1_dryOneHour 5 = .ok (.iconst 1, 1) := by decide +kernel
theorem dX1_dryOneHour_6 : decode cX1_dryOneHour 6 = .ok (.isub, 1) := by decide +kernel
theorem dX1_dryOneHour_7 : decode cX1_dryOneHour 7 = .ok (.istore_n 1, 1) := by decide +kernel
theorem dX1_dryOneHour_8 : decode cX1_dryOneHour 8 = .ok (.iload_n 1, 1) := by decide +kernel
theorem dX1_dryOneHour_9 : decode cX1_dryOneHour 9 = .ok (.ifCond .lt 43, 3) := by decide +kernel
theorem dX1_dryOneHour_12 : decode cX1_dryOneHour 12 = .ok (.aload_n 0, 1) := by decide +kernel
theorem dX1_dryOneHour_13 : decode cX1_dryOneHour 13 = .ok (.getfield 11, 3) := by decide +kernel
theorem dX1_dryOneHour_16 : decode cX1_dryOneHour 16 = .ok (.iload_n 1, 1) := by decide +kernel
theorem dX1_dryOneHour_17 : decode cX1_dryOneHour 17 = .ok (.aaload, 1) := by decide +kernel
theorem dX1_dryOneHour_18 : decode cX1_dryOneHour 18 = .ok (.astore_n 2, 1) := by decide +kernel
theorem dX1_dryOneHour_19 : decode cX1_dryOneHour 19 = .ok (.aload_n 2, 1) := by decide +kernel
theorem dX1_dryOneHour_20 : decode cX1_dryOneHour 20 = .ok (.ifnull 26, 3) := by decide +kernel
theorem dX1_dryOneHour_23 : decode cX1_dryOneHour 23 = .ok (.aload_n 2, 1) := by decide +kernel
theorem dX1_dryOneHour_24 : decode cX1_dryOneHour 24 = .ok (.dup, 1) := by decide +kernel
theorem dX1_dryOneHour_25 : decode cX1_dryOneHour 25 = .ok (.getfield 34, 3) := by decide +kernel
theorem dX1_dryOneHour_28 : decode cX1_dryOneHour 28 = .ok (.iconst 1, 1) := by decide +kernel
theorem dX1_dryOneHour_29 : decode cX1_dryOneHour 29 = .ok (.iadd, 1) := by decide +kernel
theorem dX1_dryOneHour_30 : decode cX1_dryOneHour 30 = .ok (.putfield 34, 3) := by decide +kernel
theorem dX1_dryOneHour_33 : decode cX1_dryOneHour 33 = .ok (.aload_n 2, 1) := by decide +kernel
theorem dX1_dryOneHour_34 : decode cX1_dryOneHour 34 = .ok (.getfield 25, 3) := by decide +kernel
theorem dX1_dryOneHour_37 : decode cX1_dryOneHour 37 = .ok (.iconst 1, 1) := by decide +kernel
theorem dX1_dryOneHour_38 : decode cX1_dryOneHour 38 = .ok (.if_icmp .ge 8, 3) := by decide +kernel
theorem dX1_dryOneHour_41 : decode cX1_dryOneHour 41 = .ok (.aload_n 0, 1) := by decide +kernel
theorem dX1_dryOneHour_42 : decode cX1_dryOneHour 42 = .ok (.iload_n 1, 1) := by decide +kernel
theorem dX1_dryOneHour_43 : decode cX1_dryOneHour 43 = .ok (.invokevirtual 37, 3) := by decide +kernel
theorem dX1_dryOneHour_46 : decode cX1_dryOneHour 46 = .ok (.iinc 1 (-1), 3) := by decide +kernel
theorem dX1_dryOneHour_49 : decode cX1_dryOneHour 49 = .ok (.goto (-41), 3) := by decide +kernel
theorem dX1_dryOneHour_52 : decode cX1_dryOneHour 52 = .ok (.return_, 1) := by decide +kernel
theorem dX2_init_0 : decode cX2_init 0 = .ok (.aload_n 0, 1) := by decide +kernel
theorem dX2_init_1 : decode cX2_init 1 = .ok (.invokespecial 1, 3) := by decide +kernel
theorem dX2_init_4 : decode cX2_init 4 = .ok (.aload_n 0, 1) := by decide +kernel
theorem dX2_init_5 : decode cX2_init 5 = .ok (.aload_n 1, 1) := by decide +kernel
theorem dX2_init_6 : decode cX2_init 6 = .ok (.putfield 7, 3) := by decide +kernel
theorem dX2_init_9 : decode cX2_init 9 = .ok (.aload_n 0, 1) := by decide +kernel
theorem dX2_init_10 : decode cX2_init 10 = .ok (.iload_n 2, 1) := by decide +kernel
theorem dX2_init_11 : decode cX2_init 11 = .ok (.putfield 13, 3) := by decide +kernel
theorem dX2_init_14 : decode cX2_init 14 = .ok (.return_, 1) := by decide +kernel
theorem dX2_hoursLeft_0 : decode cX2_hoursLeft 0 = .ok (.aload_n 0, 1) := by decide +kernel
theorem dX2_hoursLeft_1 : decode cX2_hoursLeft 1 = .ok (.getfield 7, 3) := by decide +kernel
theorem dX2_hoursLeft_4 : decode cX2_hoursLeft 4 = .ok (.getfield 17, 3) := by decide +kernel
theorem dX2_hoursLeft_7 : decode cX2_hoursLeft 7 = .ok (.aload_n 0, 1) := by decide +kernel
theorem dX2_hoursLeft_8 : decode cX2_hoursLeft 8 = .ok (.getfield 22, 3) := by decide +kernel
theorem dX2_hoursLeft_11 : decode cX2_hoursLeft 11 = .ok (.isub, 1) := by decide +kernel
theorem dX2_hoursLeft_12 : decode cX2_hoursLeft 12 = .ok (.iconst 0, 1) := by decide +kernel
theorem dX2_hoursLeft_13 : decode cX2_hoursLeft 13 = .ok (.invokestatic 25, 3) := by decide +kernel
theorem dX2_hoursLeft_16 : decode cX2_hoursLeft 16 = .ok (.ireturn, 1) := by decide +kernel
theorem dX2_isDryOf_0 : decode cX2_isDryOf 0 = .ok (.aload_n 0, 1) := by decide +kernel
theorem dX2_isDryOf_1 : decode cX2_isDryOf 1 = .ok (.getfield 7, 3) := by decide +kernel
theorem dX2_isDryOf_4 : decode cX2_isDryOf 4 = .ok (.aload_n 1, 1) := by decide +kernel
theorem dX2_isDryOf_5 : decode cX2_isDryOf 5 = .ok (.if_acmp .ne 14, 3) := by decide +kernel
theorem dX2_isDryOf_8 : decode cX2_isDryOf 8 = .ok (.aload_n 0, 1) := by decide +kernel
theorem dX2_isDryOf_9 : decode cX2_isDryOf 9 = .ok (.invokevirtual 31, 3) := by decide +kernel
theorem dX2_isDryOf_12 : decode cX2_isDryOf 12 = .ok (.ifCond .ne 7, 3) := by decide +kernel
theorem dX2_isDryOf_15 : decode cX2_isDryOf 15 = .ok (.iconst 1, 1) := by decide +kernel
theorem dX2_isDryOf_16 : decode cX2_isDryOf 16 = .ok (.goto 4, 3) := by decide +kernel
theorem dX2_isDryOf_19 : decode cX2_isDryOf 19 = .ok (.iconst 0, 1) := by decide +kernel
theorem dX2_isDryOf_20 : decode cX2_isDryOf 20 = .ok (.ireturn, 1) := by decide +kernel
theorem dX3_init_0 : decode cX3_init 0 = .ok (.aload_n 0, 1) := by decide +kernel
theorem dX3_init_1 : decode cX3_init 1 = .ok (.invokespecial 1, 3) := by decide +kernel
theorem dX3_init_4 : decode cX3_init 4 = .ok (.aload_n 0, 1) := by decide +kernel
theorem dX3_init_5 : decode cX3_init 5 = .ok (.iload_n 1, 1) := by decide +kernel
theorem dX3_init_6 : decode cX3_init 6 = .ok (.putfield 7, 3) := by decide +kernel
theorem dX3_init_9 : decode cX3_init 9 = .ok (.return_, 1) := by decide +kernel
theorem dX4_init_0 : decode cX4_init 0 = .ok (.aload_n 0, 1) := by decide +kernel
theorem dX4_init_1 : decode cX4_init 1 = .ok (.invokespecial 3, 3) := by decide +kernel
theorem dX4_init_4 : decode cX4_init 4 = .ok (.aload_n 0, 1) := by decide +kernel
theorem dX4_init_5 : decode cX4_init 5 = .ok (.iload_n 1, 1) := by decide +kernel
theorem dX4_init_6 : decode cX4_init 6 = .ok (.putfield 9, 3) := by decide +kernel
theorem dX4_init_9 : decode cX4_init 9 = .ok (.aload_n 0, 1) := by decide +kernel
theorem dX4_init_10 : decode cX4_init 10 = .ok (.iload_n 3, 1) := by decide +kernel
theorem dX4_init_11 : decode cX4_init 11 = .ok (.putfield 15, 3) := by decide +kernel
theorem dX4_init_14 : decode cX4_init 14 = .ok (.aload_n 0, 1) := by decide +kernel
theorem dX4_init_15 : decode cX4_init 15 = .ok (.iload 4, 2) := by decide +kernel
theorem dX4_init_17 : decode cX4_init 17 = .ok (.putfield 18, 3) := by decide +kernel
theorem dX4_init_20 : decode cX4_init 20 = .ok (.aload_n 0, 1) := by decide +kernel
theorem dX4_init_21 : decode cX4_init 21 = .ok (.iload 5, 2) := by decide +kernel
theorem dX4_init_23 : decode cX4_init 23 = .ok (.putfield 21, 3) := by decide +kernel
theorem dX4_init_26 : decode cX4_init 26 = .ok (.aload_n 0, 1) := by decide +kernel
theorem dX4_init_27 : decode cX4_init 27 = .ok (.iload 6, 2) := by decide +kernel
theorem dX4_init_29 : decode cX4_init 29 = .ok (.putfield 24, 3) := by decide +kernel
theorem dX4_init_32 : decode cX4_init 32 = .ok (.aload_n 0, 1) := by decide +kernel
theorem dX4_init_33 : decode cX4_init 33 = .ok (.iload_n 2, 1) := by decide +kernel
theorem dX4_init_34 : decode cX4_init 34 = .ok (.iconst 0, 1) := by decide +kernel
theorem dX4_init_35 : decode cX4_init 35 = .ok (.invokestatic 27, 3) := by decide +kernel
theorem dX4_init_38 : decode cX4_init 38 = .ok (.anewarray 33, 3) := by decide +kernel
theorem dX4_init_41 : decode cX4_init 41 = .ok (.putfield 35, 3) := by decide +kernel
theorem dX4_init_44 : decode cX4_init 44 = .ok (.iconst 0, 1) := by decide +kernel
theorem dX4_init_45 : decode cX4_init 45 = .ok (.istore 7, 2) := by decide +kernel
theorem dX4_init_47 : decode cX4_init 47 = .ok (.iload 7, 2) := by decide +kernel
theorem dX4_init_49 : decode cX4_init 49 = .ok (.aload_n 0, 1) := by decide +kernel
theorem dX4_init_50 : decode cX4_init 50 = .ok (.getfield 35, 3) := by decide +kernel
theorem dX4_init_53 : decode cX4_init 53 = .ok (.arraylength, 1) := by decide +kernel
theorem dX4_init_54 : decode cX4_init 54 = .ok (.if_icmp .ge 23, 3) := by decide +kernel
theorem dX4_init_57 : decode cX4_init 57 = .ok (.aload_n 0, 1) := by decide +kernel
theorem dX4_init_58 : decode cX4_init 58 = .ok (.getfield 35, 3) := by decide +kernel
theorem dX4_init_61 : decode cX4_init 61 = .ok (.iload 7, 2) := by decide +kernel
theorem dX4_init_63 : decode cX4_init 63 = .ok (.new 33, 3) := by decide +kernel
theorem dX4_init_66 : decode cX4_init 66 = .ok (.dup, 1) := by decide +kernel
theorem dX4_init_67 : decode cX4_init 67 = .ok (.invokespecial 39, 3) := by decide +kernel
theorem dX4_init_70 : decode cX4_init 70 = .ok (.aastore, 1) := by decide +kernel
theorem dX4_init_71 : decode cX4_init 71 = .ok (.iinc 7 1, 3) := by decide +kernel
theorem dX4_init_74 : decode cX4_init 74 = .ok (.goto (-27), 3) := by decide +kernel
theorem dX4_init_77 : decode cX4_init 77 = .ok (.return_, 1) := by decide +kernel
theorem dX4_openCavities_0 : decode cX4_openCavities 0 = .ok (.iconst 0, 1) := by decide +kernel
theorem dX4_openCavities_1 : decode cX4_openCavities 1 = .ok (.istore_n 1, 1) := by decide +kernel
theorem dX4_openCavities_2 : decode cX4_openCavities 2 = .ok (.iconst 0, 1) := by decide +kernel
theorem dX4_openCavities_3 : decode cX4_openCavities 3 = .ok (.istore_n 2, 1) := by decide +kernel
theorem dX4_openCavities_4 : decode cX4_openCavities 4 = .ok (.iload_n 2, 1) := by decide +kernel
theorem dX4_openCavities_5 : decode cX4_openCavities 5 = .ok (.aload_n 0, 1) := by decide +kernel
theorem dX4_openCavities_6 : decode cX4_openCavities 6 = .ok (.getfield 35, 3) := by decide +kernel
theorem dX4_openCavities_9 : decode cX4_openCavities 9 = .ok (.arraylength, 1) := by decide +kernel
theorem dX4_openCavities_10 : decode cX4_openCavities 10 = .ok (.if_icmp .ge 30, 3) := by decide +kernel
theorem dX4_openCavities_13 : decode cX4_openCavities 13 = .ok (.aload_n 0, 1) := by decide +kernel
theorem dX4_openCavities_14 : decode cX4_openCavities 14 = .ok (.getfield 35, 3) := by decide +kernel
theorem dX4_openCavities_17 : decode cX4_openCavities 17 = .ok (.iload_n 2, 1) := by decide +kernel
theorem dX4_openCavities_18 : decode cX4_openCavities 18 = .ok (.aaload, 1) := by decide +kernel
theorem dX4_openCavities_19 : decode cX4_openCavities 19 = .ok (.astore_n 3, 1) := by decide +kernel
theorem dX4_openCavities_20 : decode cX4_openCavities 20 = .ok (.aload_n 3, 1) := by decide +kernel
theorem dX4_openCavities_21 : decode cX4_openCavities 21 = .ok (.ifnull 13, 3) := by decide +kernel
theorem dX4_openCavities_24 : decode cX4_openCavities 24 = .ok (.aload_n 3, 1) := by decide +kernel
theorem dX4_openCavities_25 : decode cX4_openCavities 25 = .ok (.getfield 40, 3) := by decide +kernel
theorem dX4_openCavities_28 : decode cX4_openCavities 28 = .ok (.ifCond .ne 6, 3) := by decide +kernel
theorem dX4_openCavities_31 : decode cX4_openCavities 31 = .ok (.iinc 1 1, 3) := by decide +kernel
theorem dX4_openCavities_34 : decode cX4_openCavities 34 = .ok (.iinc 2 1, 3) := by decide +kernel
theorem dX4_openCavities_37 : decode cX4_openCavities 37 = .ok (.goto (-33), 3) := by decide +kernel
theorem dX4_openCavities_40 : decode cX4_openCavities 40 = .ok (.iload_n 1, 1) := by decide +kernel
theorem dX4_openCavities_41 : decode cX4_openCavities 41 = .ok (.ireturn, 1) := by decide +kernel
theorem dX4_makeParts_0 : decode cX4_makeParts 0 = .ok (.iconst 0, 1) := by decide +kernel
theorem dX4_makeParts_1 : decode cX4_makeParts 1 = .ok (.istore_n 1, 1) := by decide +kernel
theorem dX4_makeParts_2 : decode cX4_makeParts 2 = .ok (.iload_n 1, 1) := by decide +kernel
theorem dX4_makeParts_3 : decode cX4_makeParts 3 = .ok (.aload_n 0, 1) := by decide +kernel
theorem dX4_makeParts_4 : decode cX4_makeParts 4 = .ok (.getfield 35, 3) := by decide +kernel
theorem dX4_makeParts_7 : decode cX4_makeParts 7 = .ok (.arraylength, 1) := by decide +kernel
theorem dX4_makeParts_8 : decode cX4_makeParts 8 = .ok (.if_icmp .ge 41, 3) := by decide +kernel
theorem dX4_makeParts_11 : decode cX4_makeParts 11 = .ok (.aload_n 0, 1) := by decide +kernel
theorem dX4_makeParts_12 : decode cX4_makeParts 12 = .ok (.getfield 35, 3) := by decide +kernel
theorem dX4_makeParts_15 : decode cX4_makeParts 15 = .ok (.iload_n 1, 1) := by decide +kernel
theorem dX4_makeParts_16 : decode cX4_makeParts 16 = .ok (.aaload, 1) := by decide +kernel
theorem dX4_makeParts_17 : decode cX4_makeParts 17 = .ok (.astore_n 2, 1) := by decide +kernel
theorem dX4_makeParts_18 : decode cX4_makeParts 18 = .ok (.aload_n 2, 1) := by decide +kernel
theorem dX4_makeParts_19 : decode cX4_makeParts 19 = .ok (.ifnull 24, 3) := by decide +kernel
theorem dX4_makeParts_22 : decode cX4_makeParts 22 = .ok (.aload_n 2, 1) := by decide +kernel
theorem dX4_makeParts_23 : decode cX4_makeParts 23 = .ok (.getfield 40, 3) := by decide +kernel
theorem dX4_makeParts_26 : decode cX4_makeParts 26 = .ok (.ifCond .ne 17, 3) := by decide +kernel
theorem dX4_makeParts_29 : decode cX4_makeParts 29 = .ok (.aload_n 2, 1) := by decide +kernel
theorem dX4_makeParts_30 : decode cX4_makeParts 30 = .ok (.dup, 1) := by decide +kernel
theorem dX4_makeParts_31 : decode cX4_makeParts 31 = .ok (.getfield 44, 3) := by decide +kernel
theorem dX4_makeParts_34 : decode cX4_makeParts 34 = .ok (.iconst 1, 1) := by decide +kernel
theorem dX4_makeParts_35 : decode cX4_makeParts 35 = .ok (.iadd, 1) := by decide +kernel
theorem dX4_makeParts_36 : decode cX4_makeParts 36 = .ok (.putfield 44, 3) := by decide +kernel
theorem dX4_makeParts_39 : decode cX4_makeParts 39 = .ok (.aload_n 2, 1) := by decide +kernel
theorem dX4_makeParts_40 : decode cX4_makeParts 40 = .ok (.invokevirtual 47, 3) := by decide +kernel
theorem dX4_makeParts_43 : decode cX4_makeParts 43 = .ok (.iinc 1 1, 3) := by decide +kernel
theorem dX4_makeParts_46 : decode cX4_makeParts 46 = .ok (.goto (-44), 3) := by decide +kernel
theorem dX4_makeParts_49 : decode cX4_makeParts 49 = .ok (.return_, 1) := by decide +kernel
theorem dX4_shotsOfHour_0 : decode cX4_shotsOfHour 0 = .ok (.aload_n 0, 1) := by decide +kernel
theorem dX4_shotsOfHour_1 : decode cX4_shotsOfHour 1 = .ok (.getfield 24, 3) := by decide +kernel
theorem dX4_shotsOfHour_4 : decode cX4_shotsOfHour 4 = .ok (.iconst 1, 1) := by decide +kernel
theorem dX4_shotsOfHour_5 : decode cX4_shotsOfHour 5 = .ok (.if_icmp .ge 7, 3) := by decide +kernel
theorem dX4_shotsOfHour_8 : decode cX4_shotsOfHour 8 = .ok (.iconst 0, 1) := by decide +kernel
theorem dX4_shotsOfHour_9 : decode cX4_shotsOfHour 9 = .ok (.goto 11, 3) := by decide +kernel
theorem dX4_shotsOfHour_12 : decode cX4_shotsOfHour 12 = .ok (.sipush 3600, 3) := by decide +kernel
theorem dX4_shotsOfHour_15 : decode cX4_shotsOfHour 15 = .ok (.aload_n 0, 1) := by decide +kernel
theorem dX4_shotsOfHour_16 : decode cX4_shotsOfHour 16 = .ok (.getfield 24, 3) := by decide +kernel
theorem dX4_shotsOfHour_19 : decode cX4_shotsOfHour 19 = .ok (.idiv, 1) := by decide +kernel
theorem dX4_shotsOfHour_20 : decode cX4_shotsOfHour 20 = .ok (.ireturn, 1) := by decide +kernel
theorem dX5_init_0 : decode cX5_init 0 = .ok (.aload_n 0, 1) := by decide +kernel
theorem dX5_init_1 : decode cX5_init 1 = .ok (.invokespecial 3, 3) := by decide +kernel
theorem dX5_init_4 : decode cX5_init 4 = .ok (.aload_n 0, 1) := by decide +kernel
theorem dX5_init_5 : decode cX5_init 5 = .ok (.aload_n 1, 1) := by decide +kernel
theorem dX5_init_6 : decode cX5_init 6 = .ok (.putfield 9, 3) := by decide +kernel
theorem dX5_init_9 : decode cX5_init 9 = .ok (.aload_n 0, 1) := by decide +kernel
theorem dX5_init_10 : decode cX5_init 10 = .ok (.aload_n 2, 1) := by decide +kernel
theorem dX5_init_11 : decode cX5_init 11 = .ok (.putfield 15, 3) := by decide +kernel
theorem dX5_init_14 : decode cX5_init 14 = .ok (.aload_n 0, 1) := by decide +kernel
theorem dX5_init_15 : decode cX5_init 15 = .ok (.iload 4, 2) := by decide +kernel
theorem dX5_init_17 : decode cX5_init 17 = .ok (.putfield 19, 3) := by decide +kernel
theorem dX5_init_20 : decode cX5_init 20 = .ok (.aload_n 0, 1) := by decide +kernel
theorem dX5_init_21 : decode cX5_init 21 = .ok (.iload_n 3, 1) := by decide +kernel
theorem dX5_init_22 : decode cX5_init 22 = .ok (.putfield 23, 3) := by decide +kernel
theorem dX5_init_25 : decode cX5_init 25 = .ok (.aload_n 0, 1) := by decide +kernel
theorem dX5_init_26 : decode cX5_init 26 = .ok (.iload_n 3, 1) := by decide +kernel
theorem dX5_init_27 : decode cX5_init 27 = .ok (.iconst 0, 1) := by decide +kernel
theorem dX5_init_28 : decode cX5_init 28 = .ok (.invokestatic 26, 3) := by decide +kernel
theorem dX5_init_31 : decode cX5_init 31 = .ok (.newarray .int, 2) := by decide +kernel
theorem dX5_init_33 : decode cX5_init 33 = .ok (.putfield 32, 3) := by decide +kernel
theorem dX5_init_36 : decode cX5_init 36 = .ok (.return_, 1) := by decide +kernel
theorem dX5_isOpen_0 : decode cX5_isOpen 0 = .ok (.aload_n 0, 1) := by decide +kernel
theorem dX5_isOpen_1 : decode cX5_isOpen 1 = .ok (.getfield 23, 3) := by decide +kernel
theorem dX5_isOpen_4 : decode cX5_isOpen 4 = .ok (.ifCond .le 7, 3) := by decide +kernel
theorem dX5_isOpen_7 : decode cX5_isOpen 7 = .ok (.iconst 1, 1) := by decide +kernel
theorem dX5_isOpen_8 : decode cX5_isOpen 8 = .ok (.goto 4, 3) := by decide +kernel
theorem dX5_isOpen_11 : decode cX5_isOpen 11 = .ok (.iconst 0, 1) := by decide +kernel
theorem dX5_isOpen_12 : decode cX5_isOpen 12 = .ok (.ireturn, 1) := by decide +kernel
theorem dX5_keepShot_0 : decode cX5_keepShot 0 = .ok (.aload_n 0, 1) := by decide +kernel
theorem dX5_keepShot_1 : decode cX5_keepShot 1 = .ok (.dup, 1) := by decide +kernel
theorem dX5_keepShot_2 : decode cX5_keepShot 2 = .ok (.getfield 23, 3) := by decide +kernel
theorem dX5_keepShot_5 : decode cX5_keepShot 5 = .ok (.iload_n 1, 1) := by decide +kernel
theorem dX5_keepShot_6 : decode cX5_keepShot 6 = .ok (.isub, 1) := by decide +kernel
theorem dX5_keepShot_7 : decode cX5_keepShot 7 = .ok (.putfield 23, 3) := by decide +kernel
theorem dX5_keepShot_10 : decode cX5_keepShot 10 = .ok (.aload_n 0, 1) := by decide +kernel
theorem dX5_keepShot_11 : decode cX5_keepShot 11 = .ok (.getfield 36, 3) := by decide +kernel
theorem dX5_keepShot_14 : decode cX5_keepShot 14 = .ok (.ifCond .lt 35, 3) := by decide +kernel
theorem dX5_keepShot_17 : decode cX5_keepShot 17 = .ok (.aload_n 0, 1) := by decide +kernel
theorem dX5_keepShot_18 : decode cX5_keepShot 18 = .ok (.getfield 36, 3) := by decide +kernel
theorem dX5_keepShot_21 : decode cX5_keepShot 21 = .ok (.aload_n 0, 1) := by decide +kernel
theorem dX5_keepShot_22 : decode cX5_keepShot 22 = .ok (.getfield 32, 3) := by decide +kernel
theorem dX5_keepShot_25 : decode cX5_keepShot 25 = .ok (.arraylength, 1) := by decide +kernel
theorem dX5_keepShot_26 : decode cX5_keepShot 26 = .ok (.if_icmp .ge 23, 3) := by decide +kernel
theorem dX5_keepShot_29 : decode cX5_keepShot 29 = .ok (.aload_n 0, 1) := by decide +kernel
theorem dX5_keepShot_30 : decode cX5_keepShot 30 = .ok (.getfield 32, 3) := by decide +kernel
theorem dX5_keepShot_33 : decode cX5_keepShot 33 = .ok (.aload_n 0, 1) := by decide +kernel
theorem dX5_keepShot_34 : decode cX5_keepShot 34 = .ok (.getfield 36, 3) := by decide +kernel
theorem dX5_keepShot_37 : decode cX5_keepShot 37 = .ok (.iload_n 2, 1) := by decide +kernel
theorem dX5_keepShot_38 : decode cX5_keepShot 38 = .ok (.iastore, 1) := by decide +kernel
theorem dX5_keepShot_39 : decode cX5_keepShot 39 = .ok (.aload_n 0, 1) := by decide +kernel
theorem dX5_keepShot_40 : decode cX5_keepShot 40 = .ok (.dup, 1) := by decide +kernel
theorem dX5_keepShot_41 : decode cX5_keepShot 41 = .ok (.getfield 36, 3) := by decide +kernel
theorem dX5_keepShot_44 : decode cX5_keepShot 44 = .ok (.iconst 1, 1) := by decide +kernel
theorem dX5_keepShot_45 : decode cX5_keepShot 45 = .ok (.iadd, 1) := by decide +kernel
theorem dX5_keepShot_46 : decode cX5_keepShot 46 = .ok (.putfield 36, 3) := by decide +kernel
theorem dX5_keepShot_49 : decode cX5_keepShot 49 = .ok (.aload_n 0, 1) := by decide +kernel
theorem dX5_keepShot_50 : decode cX5_keepShot 50 = .ok (.dup, 1) := by decide +kernel
theorem dX5_keepShot_51 : decode cX5_keepShot 51 = .ok (.getfield 39, 3) := by decide +kernel
theorem dX5_keepShot_54 : decode cX5_keepShot 54 = .ok (.iload_n 2, 1) := by decide +kernel
theorem dX5_keepShot_55 : decode cX5_keepShot 55 = .ok (.i2l, 1) := by decide +kernel
theorem dX5_keepShot_56 : decode cX5_keepShot 56 = .ok (.ladd, 1) := by decide +kernel
theorem dX5_keepShot_57 : decode cX5_keepShot 57 = .ok (.putfield 39, 3) := by decide +kernel
theorem dX5_keepShot_60 : decode cX5_keepShot 60 = .ok (.iload_n 3, 1) := by decide +kernel
theorem dX5_keepShot_61 : decode cX5_keepShot 61 = .ok (.ifCond .le 20, 3) := by decide +kernel
theorem dX5_keepShot_64 : decode cX5_keepShot 64 = .ok (.aload_n 0, 1) := by decide +kernel
theorem dX5_keepShot_65 : decode cX5_keepShot 65 = .ok (.aload_n 0, 1) := by decide +kernel
theorem dX5_keepShot_66 : decode cX5_keepShot 66 = .ok (.getfield 43, 3) := by decide +kernel
theorem dX5_keepShot_69 : decode cX5_keepShot 69 = .ok (.iload_n 2, 1) := by decide +kernel
theorem dX5_keepShot_70 : decode cX5_keepShot 70 = .ok (.bipush 100, 2) := by decide +kernel
theorem dX5_keepShot_72 : decode cX5_keepShot 72 = .ok (.imul, 1) := by decide +kernel
theorem dX5_keepShot_73 : decode cX5_keepShot 73 = .ok (.iload_n 3, 1) := by decide +kernel
theorem dX5_keepShot_74 : decode cX5_keepShot 74 = .ok (.idiv, 1) := by decide +kernel
theorem dX5_keepShot_75 : decode cX5_keepShot 75 = .ok (.invokestatic 26, 3) := by decide +kernel
theorem dX5_keepShot_78 : decode cX5_keepShot 78 = .ok (.putfield 43, 3) := by decide +kernel
theorem dX5_keepShot_81 : decode cX5_keepShot 81 = .ok (.return_, 1) := by decide +kernel
theorem dX5_regrindAdded_0 : decode cX5_regrindAdded 0 = .ok (.lconst 0, 1) := by decide +kernel
theorem dX5_regrindAdded_1 : decode cX5_regrindAdded 1 = .ok (.lstore_n 1, 1) := by decide +kernel
theorem dX5_regrindAdded_2 : decode cX5_regrindAdded 2 = .ok (.aload_n 0, 1) := by decide +kernel
theorem dX5_regrindAdded_3 : decode cX5_regrindAdded 3 = .ok (.getfield 36, 3) := by decide +kernel
theorem dX5_regrindAdded_6 : decode cX5_regrindAdded 6 = .ok (.aload_n 0, 1) := by decide +kernel
theorem dX5_regrindAdded_7 : decode cX5_regrindAdded 7 = .ok (.getfield 32, 3) := by decide +kernel
theorem dX5_regrindAdded_10 : decode cX5_regrindAdded 10 = .ok (.arraylength, 1) := by decide +kernel
theorem dX5_regrindAdded_11 : decode cX5_regrindAdded 11 = .ok (.invokestatic 46, 3) := by decide +kernel
theorem dX5_regrindAdded_14 : decode cX5_regrindAdded 14 = .ok (.istore_n 3, 1) := by decide +kernel
theorem dX5_regrindAdded_15 : decode cX5_regrindAdded 15 = .ok (.iconst 0, 1) := by decide +kernel
theorem dX5_regrindAdded_16 : decode cX5_regrindAdded 16 = .ok (.istore 4, 2) := by decide +kernel
theorem dX5_regrindAdded_18 : decode cX5_regrindAdded 18 = .ok (.iload 4, 2) := by decide +kernel
theorem dX5_regrindAdded_20 : decode cX5_regrindAdded 20 = .ok (.iload_n 3, 1) := by decide +kernel
theorem dX5_regrindAdded_21 : decode cX5_regrindAdded 21 = .ok (.if_icmp .ge 20, 3) := by decide +kernel
theorem dX5_regrindAdded_24 : decode cX5_regrindAdded 24 = .ok (.lload_n 1, 1) := by decide +kernel
theorem dX5_regrindAdded_25 : decode cX5_regrindAdded 25 = .ok (.aload_n 0, 1) := by decide +kernel
theorem dX5_regrindAdded_26 : decode cX5_regrindAdded 26 = .ok (.getfield 32, 3) := by decide +kernel
theorem dX5_regrindAdded_29 : decode cX5_regrindAdded 29 = .ok (.iload 4, 2) := by decide +kernel
theorem dX5_regrindAdded_31 : decode cX5_regrindAdded 31 = .ok (.iaload, 1) := by decide +kernel
theorem dX5_regrindAdded_32 : decode cX5_regrindAdded 32 = .ok (.i2l, 1) := by decide +kernel
theorem dX5_regrindAdded_33 : decode cX5_regrindAdded 33 = .ok (.ladd, 1) := by decide +kernel
theorem dX5_regrindAdded_34 : decode cX5_regrindAdded 34 = .ok (.lstore_n 1, 1) := by decide +kernel
theorem dX5_regrindAdded_35 : decode cX5_regrindAdded 35 = .ok (.iinc 4 1, 3) := by decide +kernel
theorem dX5_regrindAdded_38 : decode cX5_regrindAdded 38 = .ok (.goto (-20), 3) := by decide +kernel
theorem dX5_regrindAdded_41 : decode cX5_regrindAdded 41 = .ok (.lload_n 1, 1) := by decide +kernel
theorem dX5_regrindAdded_42 : decode cX5_regrindAdded 42 = .ok (.lreturn, 1) := by decide +kernel
theorem dX6_init_0 : decode cX6_init 0 = .ok (.aload_n 0, 1) := by decide +kernel
theorem dX6_init_1 : decode cX6_init 1 = .ok (.invokespecial 1, 3) := by decide +kernel
theorem dX6_init_4 : decode cX6_init 4 = .ok (.aload_n 0, 1) := by decide +kernel
theorem dX6_init_5 : decode cX6_init 5 = .ok (.iload_n 1, 1) := by decide +kernel
theorem dX6_init_6 : decode cX6_init 6 = .ok (.putfield 7, 3) := by decide +kernel
theorem dX6_init_9 : decode cX6_init 9 = .ok (.return_, 1) := by decide +kernel

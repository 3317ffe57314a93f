theorem dL_at_0 : decode cL_at 0 = .ok (.iload_n 1, 1) := by decide +kernel
theorem dL_at_1 : decode cL_at 1 = .ok (.aload_n 0, 1) := by decide +kernel
theorem dL_at_2 : decode cL_at 2 = .ok (.arraylength, 1) := by decide +kernel
theorem dL_at_3 : decode cL_at 3 = .ok (.if_icmp .ge 9, 3) := by decide +kernel
theorem dL_at_6 : decode cL_at 6 = .ok (.aload_n 0, 1) := by decide +kernel
theorem dL_at_7 : decode cL_at 7 = .ok (.iload_n 1, 1) := by decide +kernel
theorem dL_at_8 : decode cL_at 8 = .ok (.iaload, 1) := by decide +kernel
theorem dL_at_9 : decode cL_at 9 = .ok (.goto 4, 3) := by decide +kernel
theorem dL_at_12 : decode cL_at 12 = .ok (.iconst 0, 1) := by decide +kernel
theorem dL_at_13 : decode cL_at 13 = .ok (.ireturn, 1) := by decide +kernel
theorem dL_some_0 : decode cL_some 0 = .ok (.iload_n 0, 1) := by decide +kernel
theorem dL_some_1 : decode cL_some 1 = .ok (.iload_n 1, 1) := by decide +kernel
theorem dL_some_2 : decode cL_some 2 = .ok (.irem, 1) := by decide +kernel
theorem dL_some_3 : decode cL_some 3 = .ok (.istore_n 2, 1) := by decide +kernel
theorem dL_some_4 : decode cL_some 4 = .ok (.iload_n 2, 1) := by decide +kernel
theorem dL_some_5 : decode cL_some 5 = .ok (.ifCond .ge 9, 3) := by decide +kernel
theorem dL_some_8 : decode cL_some 8 = .ok (.iload_n 2, 1) := by decide +kernel
theorem dL_some_9 : decode cL_some 9 = .ok (.iload_n 1, 1) := by decide +kernel
theorem dL_some_10 : decode cL_some 10 = .ok (.iadd, 1) := by decide +kernel
theorem dL_some_11 : decode cL_some 11 = .ok (.goto 4, 3) := by decide +kernel
theorem dL_some_14 : decode cL_some 14 = .ok (.iload_n 2, 1) := by decide +kernel
theorem dL_some_15 : decode cL_some 15 = .ok (.ireturn, 1) := by decide +kernel
theorem dL_resin_0 : decode cL_resin 0 = .ok (.aload_n 0, 1) := by decide +kernel
theorem dL_resin_1 : decode cL_resin 1 = .ok (.iload_n 1, 1) := by decide +kernel
theorem dL_resin_2 : decode cL_resin 2 = .ok (.invokevirtual 7, 3) := by decide +kernel
theorem dL_resin_5 : decode cL_resin 5 = .ok (.ireturn, 1) := by decide +kernel
theorem dL_resin_6 : decode cL_resin 6 = .ok (.astore_n 2, 1) := by decide +kernel
theorem dL_resin_7 : decode cL_resin 7 = .ok (.sipush (-1001), 3) := by decide +kernel
theorem dL_resin_10 : decode cL_resin 10 = .ok (.ireturn, 1) := by decide +kernel
theorem dL_resin_11 : decode cL_resin 11 = .ok (.astore_n 2, 1) := by decide +kernel
theorem dL_resin_12 : decode cL_resin 12 = .ok (.sipush (-1002), 3) := by decide +kernel
theorem dL_resin_15 : decode cL_resin 15 = .ok (.ireturn, 1) := by decide +kernel
theorem dL_fill_0 : decode cL_fill 0 = .ok (.aload_n 0, 1) := by decide +kernel
theorem dL_fill_1 : decode cL_fill 1 = .ok (.iload_n 1, 1) := by decide +kernel
theorem dL_fill_2 : decode cL_fill 2 = .ok (.iload_n 2, 1) := by decide +kernel
theorem dL_fill_3 : decode cL_fill 3 = .ok (.invokevirtual 17, 3) := by decide +kernel
theorem dL_fill_6 : decode cL_fill 6 = .ok (.ireturn, 1) := by decide +kernel
theorem dL_fill_7 : decode cL_fill 7 = .ok (.astore_n 3, 1) := by decide +kernel
theorem dL_fill_8 : decode cL_fill 8 = .ok (.sipush (-1001), 3) := by decide +kernel
theorem dL_fill_11 : decode cL_fill 11 = .ok (.ireturn, 1) := by decide +kernel
theorem dL_fill_12 : decode cL_fill 12 = .ok (.astore_n 3, 1) := by decide +kernel
theorem dL_fill_13 : decode cL_fill 13 = .ok (.sipush (-1002), 3) := by decide +kernel
theorem dL_fill_16 : decode cL_fill 16 = .ok (.ireturn, 1) := by decide +kernel
theorem dL_fill_17 : decode cL_fill 17 = .ok (.astore_n 3, 1) := by decide +kernel
theorem dL_fill_18 : decode cL_fill 18 = .ok (.sipush (-1003), 3) := by decide +kernel
theorem dL_fill_21 : decode cL_fill 21 = .ok (.ireturn, 1) := by decide +kernel
theorem dL_lot_0 : decode cL_lot 0 = .ok (.iload_n 2, 1) := by decide +kernel
theorem dL_lot_1 : decode cL_lot 1 = .ok (.ifCond .ne 11, 3) := by decide +kernel
theorem dL_lot_4 : decode cL_lot 4 = .ok (.aload_n 0, 1) := by decide +kernel
theorem dL_lot_5 : decode cL_lot 5 = .ok (.iload_n 1, 1) := by decide +kernel
theorem dL_lot_6 : decode cL_lot 6 = .ok (.invokevirtual 23, 3) := by decide +kernel
theorem dL_lot_9 : decode cL_lot 9 = .ok (.goto 34, 3) := by decide +kernel
theorem dL_lot_12 : decode cL_lot 12 = .ok (.iload_n 2, 1) := by decide +kernel
theorem dL_lot_13 : decode cL_lot 13 = .ok (.iconst 1, 1) := by decide +kernel
theorem dL_lot_14 : decode cL_lot 14 = .ok (.if_icmp .ne 11, 3) := by decide +kernel
theorem dL_lot_17 : decode cL_lot 17 = .ok (.aload_n 0, 1) := by decide +kernel
theorem dL_lot_18 : decode cL_lot 18 = .ok (.iload_n 1, 1) := by decide +kernel
theorem dL_lot_19 : decode cL_lot 19 = .ok (.invokevirtual 26, 3) := by decide +kernel
theorem dL_lot_22 : decode cL_lot 22 = .ok (.goto 21, 3) := by decide +kernel
theorem dL_lot_25 : decode cL_lot 25 = .ok (.iload_n 2, 1) := by decide +kernel
theorem dL_lot_26 : decode cL_lot 26 = .ok (.iconst 2, 1) := by decide +kernel
theorem dL_lot_27 : decode cL_lot 27 = .ok (.if_icmp .ne 11, 3) := by decide +kernel
theorem dL_lot_30 : decode cL_lot 30 = .ok (.aload_n 0, 1) := by decide +kernel
theorem dL_lot_31 : decode cL_lot 31 = .ok (.iload_n 1, 1) := by decide +kernel
theorem dL_lot_32 : decode cL_lot 32 = .ok (.invokevirtual 29, 3) := by decide +kernel
theorem dL_lot_35 : decode cL_lot 35 = .ok (.goto 8, 3) := by decide +kernel
theorem dL_lot_38 : decode cL_lot 38 = .ok (.aload_n 0, 1) := by decide +kernel
theorem dL_lot_39 : decode cL_lot 39 = .ok (.iload_n 1, 1) := by decide +kernel
theorem dL_lot_40 : decode cL_lot 40 = .ok (.invokevirtual 32, 3) := by decide +kernel
theorem dL_lot_43 : decode cL_lot 43 = .ok (.ireturn, 1) := by decide +kernel
theorem dL_lot_44 : decode cL_lot 44 = .ok (.astore_n 3, 1) := by decide +kernel
theorem dL_lot_45 : decode cL_lot 45 = .ok (.sipush (-1001), 3) := by decide +kernel
theorem dL_lot_48 : decode cL_lot 48 = .ok (.ireturn, 1) := by decide +kernel
theorem dL_mould_0 : decode cL_mould 0 = .ok (.aload_n 0, 1) := by decide +kernel
theorem dL_mould_1 : decode cL_mould 1 = .ok (.aload_n 1, 1) := by decide +kernel
theorem dL_mould_2 : decode cL_mould 2 = .ok (.iconst 0, 1) := by decide +kernel
theorem dL_mould_3 : decode cL_mould 3 = .ok (.iaload, 1) := by decide +kernel
theorem dL_mould_4 : decode cL_mould 4 = .ok (.aload_n 1, 1) := by decide +kernel
theorem dL_mould_5 : decode cL_mould 5 = .ok (.iconst 1, 1) := by decide +kernel
theorem dL_mould_6 : decode cL_mould 6 = .ok (.iaload, 1) := by decide +kernel
theorem dL_mould_7 : decode cL_mould 7 = .ok (.aload_n 1, 1) := by decide +kernel
theorem dL_mould_8 : decode cL_mould 8 = .ok (.iconst 2, 1) := by decide +kernel
theorem dL_mould_9 : decode cL_mould 9 = .ok (.iaload, 1) := by decide +kernel
theorem dL_mould_10 : decode cL_mould 10 = .ok (.aload_n 1, 1) := by decide +kernel
theorem dL_mould_11 : decode cL_mould 11 = .ok (.iconst 3, 1) := by decide +kernel
theorem dL_mould_12 : decode cL_mould 12 = .ok (.iaload, 1) := by decide +kernel
theorem dL_mould_13 : decode cL_mould 13 = .ok (.aload_n 1, 1) := by decide +kernel
theorem dL_mould_14 : decode cL_mould 14 = .ok (.iconst 4, 1) := by decide +kernel
theorem dL_mould_15 : decode cL_mould 15 = .ok (.iaload, 1) := by decide +kernel
theorem dL_mould_16 : decode cL_mould 16 = .ok (.invokevirtual 35, 3) := by decide +kernel
theorem dL_mould_19 : decode cL_mould 19 = .ok (.ireturn, 1) := by decide +kernel
theorem dL_mould_20 : decode cL_mould 20 = .ok (.astore_n 2, 1) := by decide +kernel
theorem dL_mould_21 : decode cL_mould 21 = .ok (.sipush (-1001), 3) := by decide +kernel
theorem dL_mould_24 : decode cL_mould 24 = .ok (.ireturn, 1) := by decide +kernel
theorem dL_mould_25 : decode cL_mould 25 = .ok (.astore_n 2, 1) := by decide +kernel
theorem dL_mould_26 : decode cL_mould 26 = .ok (.sipush (-1002), 3) := by decide +kernel
theorem dL_mould_29 : decode cL_mould 29 = .ok (.ireturn, 1) := by decide +kernel
theorem dL_life_0 : decode cL_life 0 = .ok (.aload_n 0, 1) := by decide +kernel
theorem dL_life_1 : decode cL_life 1 = .ok (.iload_n 1, 1) := by decide +kernel
theorem dL_life_2 : decode cL_life 2 = .ok (.iload_n 2, 1) := by decide +kernel
theorem dL_life_3 : decode cL_life 3 = .ok (.iload_n 3, 1) := by decide +kernel
theorem dL_life_4 : decode cL_life 4 = .ok (.invokevirtual 39, 3) := by decide +kernel
theorem dL_life_7 : decode cL_life 7 = .ok (.ireturn, 1) := by decide +kernel
theorem dL_life_8 : decode cL_life 8 = .ok (.astore 4, 2) := by decide +kernel
theorem dL_life_10 : decode cL_life 10 = .ok (.sipush (-1001), 3) := by decide +kernel
theorem dL_life_13 : decode cL_life 13 = .ok (.ireturn, 1) := by decide +kernel
theorem dL_life_14 : decode cL_life 14 = .ok (.astore 4, 2) := by decide +kernel
theorem dL_life_16 : decode cL_life 16 = .ok (.sipush (-1002), 3) := by decide +kernel
theorem dL_life_19 : decode cL_life 19 = .ok (.ireturn, 1) := by decide +kernel
theorem dL_cavity_0 : decode cL_cavity 0 = .ok (.iload_n 3, 1) := by decide +kernel
theorem dL_cavity_1 : decode cL_cavity 1 = .ok (.ifCond .ne 12, 3) := by decide +kernel
theorem dL_cavity_4 : decode cL_cavity 4 = .ok (.aload_n 0, 1) := by decide +kernel
theorem dL_cavity_5 : decode cL_cavity 5 = .ok (.iload_n 1, 1) := by decide +kernel
theorem dL_cavity_6 : decode cL_cavity 6 = .ok (.iload_n 2, 1) := by decide +kernel
theorem dL_cavity_7 : decode cL_cavity 7 = .ok (.invokevirtual 43, 3) := by decide +kernel
theorem dL_cavity_10 : decode cL_cavity 10 = .ok (.goto 23, 3) := by decide +kernel
theorem dL_cavity_13 : decode cL_cavity 13 = .ok (.iload_n 3, 1) := by decide +kernel
theorem dL_cavity_14 : decode cL_cavity 14 = .ok (.iconst 1, 1) := by decide +kernel
theorem dL_cavity_15 : decode cL_cavity 15 = .ok (.if_icmp .ne 12, 3) := by decide +kernel
theorem dL_cavity_18 : decode cL_cavity 18 = .ok (.aload_n 0, 1) := by decide +kernel
theorem dL_cavity_19 : decode cL_cavity 19 = .ok (.iload_n 1, 1) := by decide +kernel
theorem dL_cavity_20 : decode cL_cavity 20 = .ok (.iload_n 2, 1) := by decide +kernel
theorem dL_cavity_21 : decode cL_cavity 21 = .ok (.invokevirtual 46, 3) := by decide +kernel
theorem dL_cavity_24 : decode cL_cavity 24 = .ok (.goto 9, 3) := by decide +kernel
theorem dL_cavity_27 : decode cL_cavity 27 = .ok (.aload_n 0, 1) := by decide +kernel
theorem dL_cavity_28 : decode cL_cavity 28 = .ok (.iload_n 1, 1) := by decide +kernel
theorem dL_cavity_29 : decode cL_cavity 29 = .ok (.iload_n 2, 1) := by decide +kernel
theorem dL_cavity_30 : decode cL_cavity 30 = .ok (.invokevirtual 49, 3) := by decide +kernel
theorem dL_cavity_33 : decode cL_cavity 33 = .ok (.ireturn, 1) := by decide +kernel
theorem dL_cavity_34 : decode cL_cavity 34 = .ok (.astore 4, 2) := by decide +kernel
theorem dL_cavity_36 : decode cL_cavity 36 = .ok (.sipush (-1001), 3) := by decide +kernel
theorem dL_cavity_39 : decode cL_cavity 39 = .ok (.ireturn, 1) := by decide +kernel
theorem dL_cavity_40 : decode cL_cavity 40 = .ok (.astore 4, 2) := by decide +kernel
theorem dL_cavity_42 : decode cL_cavity 42 = .ok (.sipush (-1002), 3) := by decide +kernel
theorem dL_cavity_45 : decode cL_cavity 45 = .ok (.ireturn, 1) := by decide +kernel
theorem dL_cavity_46 : decode cL_cavity 46 = .ok (.astore 4, 2) := by decide +kernel
theorem dL_cavity_48 : decode cL_cavity 48 = .ok (.sipush (-1002), 3) := by decide +kernel
theorem dL_cavity_51 : decode cL_cavity 51 = .ok (.ireturn, 1) := by decide +kernel
theorem dL_machine_0 : decode cL_machine 0 = .ok (.aload_n 0, 1) := by decide +kernel
theorem dL_machine_1 : decode cL_machine 1 = .ok (.iload_n 1, 1) := by decide +kernel
theorem dL_machine_2 : decode cL_machine 2 = .ok (.invokevirtual 54, 3) := by decide +kernel
theorem dL_machine_5 : decode cL_machine 5 = .ok (.ireturn, 1) := by decide +kernel
theorem dL_machine_6 : decode cL_machine 6 = .ok (.astore_n 2, 1) := by decide +kernel
theorem dL_machine_7 : decode cL_machine 7 = .ok (.sipush (-1001), 3) := by decide +kernel
theorem dL_machine_10 : decode cL_machine 10 = .ok (.ireturn, 1) := by decide +kernel
theorem dL_machine_11 : decode cL_machine 11 = .ok (.astore_n 2, 1) := by decide +kernel
theorem dL_machine_12 : decode cL_machine 12 = .ok (.sipush (-1002), 3) := by decide +kernel
theorem dL_machine_15 : decode cL_machine 15 = .ok (.ireturn, 1) := by decide +kernel
theorem dL_puts_0 : decode cL_puts 0 = .ok (.iload_n 1, 1) := by decide +kernel
theorem dL_puts_1 : decode cL_puts 1 = .ok (.bipush 109, 2) := by decide +kernel
theorem dL_puts_3 : decode cL_puts 3 = .ok (.if_icmp .ne 12, 3) := by decide +kernel
theorem dL_puts_6 : decode cL_puts 6 = .ok (.aload_n 0, 1) := by decide +kernel
theorem dL_puts_7 : decode cL_puts 7 = .ok (.iload_n 2, 1) := by decide +kernel
theorem dL_puts_8 : decode cL_puts 8 = .ok (.iload_n 3, 1) := by decide +kernel
theorem dL_puts_9 : decode cL_puts 9 = .ok (.invokevirtual 57, 3) := by decide +kernel
theorem dL_puts_12 : decode cL_puts 12 = .ok (.goto 9, 3) := by decide +kernel
theorem dL_puts_15 : decode cL_puts 15 = .ok (.aload_n 0, 1) := by decide +kernel
theorem dL_puts_16 : decode cL_puts 16 = .ok (.iload_n 2, 1) := by decide +kernel
theorem dL_puts_17 : decode cL_puts 17 = .ok (.iload_n 3, 1) := by decide +kernel
theorem dL_puts_18 : decode cL_puts 18 = .ok (.invokevirtual 60, 3) := by decide +kernel
theorem dL_puts_21 : decode cL_puts 21 = .ok (.ireturn, 1) := by decide +kernel
theorem dL_puts_22 : decode cL_puts 22 = .ok (.astore 4, 2) := by decide +kernel
theorem dL_puts_24 : decode cL_puts 24 = .ok (.sipush (-1001), 3) := by decide +kernel
theorem dL_puts_27 : decode cL_puts 27 = .ok (.ireturn, 1) := by decide +kernel
theorem dL_puts_28 : decode cL_puts 28 = .ok (.astore 4, 2) := by decide +kernel
theorem dL_puts_30 : decode cL_puts 30 = .ok (.sipush (-1002), 3) := by decide +kernel
theorem dL_puts_33 : decode cL_puts 33 = .ok (.ireturn, 1) := by decide +kernel
theorem dL_puts_34 : decode cL_puts 34 = .ok (.astore 4, 2) := by decide +kernel
theorem dL_puts_36 : decode cL_puts 36 = .ok (.sipush (-1003), 3) := by decide +kernel
theorem dL_puts_39 : decode cL_puts 39 = .ok (.ireturn, 1) := by decide +kernel
theorem dL_order_0 : decode cL_order 0 = .ok (.aload_n 0, 1) := by decide +kernel
theorem dL_order_1 : decode cL_order 1 = .ok (.iload_n 1, 1) := by decide +kernel
theorem dL_order_2 : decode cL_order 2 = .ok (.iload_n 2, 1) := by decide +kernel
theorem dL_order_3 : decode cL_order 3 = .ok (.iload_n 3, 1) := by decide +kernel
theorem dL_order_4 : decode cL_order 4 = .ok (.iload 4, 2) := by decide +kernel
theorem dL_order_6 : decode cL_order 6 = .ok (.invokevirtual 65, 3) := by decide +kernel
theorem dL_order_9 : decode cL_order 9 = .ok (.ireturn, 1) := by decide +kernel
theorem dL_order_10 : decode cL_order 10 = .ok (.astore 5, 2) := by decide +kernel
theorem dL_order_12 : decode cL_order 12 = .ok (.sipush (-1001), 3) := by decide +kernel
theorem dL_order_15 : decode cL_order 15 = .ok (.ireturn, 1) := by decide +kernel
theorem dL_order_16 : decode cL_order 16 = .ok (.astore 5, 2) := by decide +kernel
theorem dL_order_18 : decode cL_order 18 = .ok (.sipush (-1002), 3) := by decide +kernel
theorem dL_order_21 : decode cL_order 21 = .ok (.ireturn, 1) := by decide +kernel
theorem dL_order_22 : decode cL_order 22 = .ok (.astore 5, 2) := by decide +kernel
theorem dL_order_24 : decode cL_order 24 = .ok (.sipush (-1003), 3) := by decide +kernel
theorem dL_order_27 : decode cL_order 27 = .ok (.ireturn, 1) := by decide +kernel
theorem dL_of_0 : decode cL_of 0 = .ok (.iload_n 2, 1) := by decide +kernel
theorem dL_of_1 : decode cL_of 1 = .ok (.tableswitch 68 0 4 #[35, 42, 49, 56, 62], 35) := by decide +kernel
theorem dL_of_36 : decode cL_of 36 = .ok (.aload_n 0, 1) := by decide +kernel
theorem dL_of_37 : decode cL_of 37 = .ok (.iload_n 1, 1) := by decide +kernel
theorem dL_of_38 : decode cL_of 38 = .ok (.invokevirtual 69, 3) := by decide +kernel
theorem dL_of_41 : decode cL_of 41 = .ok (.i2l, 1) := by decide +kernel
theorem dL_of_42 : decode cL_of 42 = .ok (.lreturn, 1) := by decide +kernel
theorem dL_of_43 : decode cL_of 43 = .ok (.aload_n 0, 1) := by decide +kernel
theorem dL_of_44 : decode cL_of 44 = .ok (.iload_n 1, 1) := by decide +kernel
theorem dL_of_45 : decode cL_of 45 = .ok (.invokevirtual 72, 3) := by decide +kernel
theorem dL_of_48 : decode cL_of 48 = .ok (.i2l, 1) := by decide +kernel
theorem dL_of_49 : decode cL_of 49 = .ok (.lreturn, 1) := by decide +kernel
theorem dL_of_50 : decode cL_of 50 = .ok (.aload_n 0, 1) := by decide +kernel
theorem dL_of_51 : decode cL_of 51 = .ok (.iload_n 1, 1) := by decide +kernel
theorem dL_of_52 : decode cL_of 52 = .ok (.invokevirtual 75, 3) := by decide +kernel
theorem dL_of_55 : decode cL_of 55 = .ok (.i2l, 1) := by decide +kernel
theorem dL_of_56 : decode cL_of 56 = .ok (.lreturn, 1) := by decide +kernel
theorem dL_of_57 : decode cL_of 57 = .ok (.aload_n 0, 1) := by decide +kernel
theorem dL_of_58 : decode cL_of 58 = .ok (.iload_n 1, 1) := by decide +kernel
theorem dL_of_59 : decode cL_of 59 = .ok (.invokevirtual 78, 3) := by decide +kernel
theorem dL_of_62 : decode cL_of 62 = .ok (.lreturn, 1) := by decide +kernel
theorem dL_of_63 : decode cL_of 63 = .ok (.aload_n 0, 1) := by decide +kernel
theorem dL_of_64 : decode cL_of 64 = .ok (.iload_n 1, 1) := by decide +kernel
theorem dL_of_65 : decode cL_of 65 = .ok (.invokevirtual 82, 3) := by decide +kernel
theorem dL_of_68 : decode cL_of 68 = .ok (.lreturn, 1) := by decide +kernel
theorem dL_of_69 : decode cL_of 69 = .ok (.aload_n 0, 1) := by decide +kernel
theorem dL_of_70 : decode cL_of 70 = .ok (.iload_n 1, 1) := by decide +kernel
theorem dL_of_71 : decode cL_of 71 = .ok (.invokevirtual 85, 3) := by decide +kernel
theorem dL_of_74 : decode cL_of 74 = .ok (.i2l, 1) := by decide +kernel
theorem dL_of_75 : decode cL_of 75 = .ok (.lreturn, 1) := by decide +kernel
theorem dL_of_76 : decode cL_of 76 = .ok (.astore_n 3, 1) := by decide +kernel
theorem dL_of_77 : decode cL_of 77 = .ok (.ldc2_w 88, 3) := by decide +kernel
theorem dL_of_80 : decode cL_of 80 = .ok (.lreturn, 1) := by decide +kernel
theorem dL_of_81 : decode cL_of 81 = .ok (.astore_n 3, 1) := by decide +kernel
theorem dL_of_82 : decode cL_of 82 = .ok (.ldc2_w 90, 3) := by decide +kernel
theorem dL_of_85 : decode cL_of 85 = .ok (.lreturn, 1) := by decide +kernel
theorem dL_pass_0 : decode cL_pass 0 = .ok (.aload_n 0, 1) := by decide +kernel
theorem dL_pass_1 : decode cL_pass 1 = .ok (.iload_n 1, 1) := by decide +kernel
theorem dL_pass_2 : decode cL_pass 2 = .ok (.invokevirtual 92, 3) := by decide +kernel
theorem dL_pass_5 : decode cL_pass 5 = .ok (.ireturn, 1) := by decide +kernel
theorem dL_pass_6 : decode cL_pass 6 = .ok (.astore_n 2, 1) := by decide +kernel
theorem dL_pass_7 : decode cL_pass 7 = .ok (.sipush (-1001), 3) := by decide +kernel
theorem dL_pass_10 : decode cL_pass 10 = .ok (.ireturn, 1) := by decide +kernel
theorem dL_pass_11 : decode cL_pass 11 = .ok (.astore_n 2, 1) := by decide +kernel
theorem dL_pass_12 : decode cL_pass 12 = .ok (.sipush (-1002), 3) := by decide +kernel
theorem dL_pass_15 : decode cL_pass 15 = .ok (.ireturn, 1) := by decide +kernel
theorem dL_share_0 : decode cL_share 0 = .ok (.aload_n 0, 1) := by decide +kernel
theorem dL_share_1 : decode cL_share 1 = .ok (.invokevirtual 95, 3) := by decide +kernel
theorem dL_share_4 : decode cL_share 4 = .ok (.freturn, 1) := by decide +kernel
theorem dL_share_5 : decode cL_share 5 = .ok (.astore_n 1, 1) := by decide +kernel
theorem dL_share_6 : decode cL_share 6 = .ok (.ldc 101, 2) := by decide +kernel
theorem dL_share_8 : decode cL_share 8 = .ok (.freturn, 1) := by decide +kernel
theorem dL_mean_0 : decode cL_mean 0 = .ok (.aload_n 0, 1) := by decide +kernel
theorem dL_mean_1 : decode cL_mean 1 = .ok (.invokevirtual 102, 3) := by decide +kernel
theorem dL_mean_4 : decode cL_mean 4 = .ok (.dreturn, 1) := by decide +kernel
theorem dL_mean_5 : decode cL_mean 5 = .ok (.astore_n 1, 1) := by decide +kernel
theorem dL_mean_6 : decode cL_mean 6 = .ok (.ldc2_w 106, 3) := by decide +kernel
theorem dL_mean_9 : decode cL_mean 9 = .ok (.dreturn, 1) := by decide +kernel
theorem dL_orders_0 : decode cL_orders 0 = .ok (.iconst 0, 1) := by decide +kernel
theorem dL_orders_1 : decode cL_orders 1 = .ok (.istore_n 1, 1) := by decide +kernel
theorem dL_orders_2 : decode cL_orders 2 = .ok (.iload_n 1, 1) := by decide +kernel
theorem dL_orders_3 : decode cL_orders 3 = .ok (.bipush 8, 2) := by decide +kernel
theorem dL_orders_5 : decode cL_orders 5 = .ok (.if_icmp .ge 20, 3) := by decide +kernel
theorem dL_orders_8 : decode cL_orders 8 = .ok (.aload_n 0, 1) := by decide +kernel
theorem dL_orders_9 : decode cL_orders 9 = .ok (.iload_n 1, 1) := by decide +kernel
theorem dL_orders_10 : decode cL_orders 10 = .ok (.iconst 0, 1) := by decide +kernel
theorem dL_orders_11 : decode cL_orders 11 = .ok (.invokestatic 108, 3) := by decide +kernel
theorem dL_orders_14 : decode cL_orders 14 = .ok (.lconst 0, 1) := by decide +kernel
theorem dL_orders_15 : decode cL_orders 15 = .ok (.lcmp, 1) := by decide +kernel
theorem dL_orders_16 : decode cL_orders 16 = .ok (.ifCond .lt 9, 3) := by decide +kernel
theorem dL_orders_19 : decode cL_orders 19 = .ok (.iinc 1 1, 3) := by decide +kernel
theorem dL_orders_22 : decode cL_orders 22 = .ok (.goto (-20), 3) := by decide +kernel
theorem dL_orders_25 : decode cL_orders 25 = .ok (.iload_n 1, 1) := by decide +kernel
theorem dL_orders_26 : decode cL_orders 26 = .ok (.ireturn, 1) := by decide +kernel
theorem dL_resins_0 : decode cL_resins 0 = .ok (.iconst 0, 1) := by decide +kernel
theorem dL_resins_1 : decode cL_resins 1 = .ok (.istore_n 1, 1) := by decide +kernel
theorem dL_resins_2 : decode cL_resins 2 = .ok (.iload_n 1, 1) := by decide +kernel
theorem dL_resins_3 : decode cL_resins 3 = .ok (.iconst 4, 1) := by decide +kernel
theorem dL_resins_4 : decode cL_resins 4 = .ok (.if_icmp .ge 18, 3) := by decide +kernel
theorem dL_resins_7 : decode cL_resins 7 = .ok (.aload_n 0, 1) := by decide +kernel
theorem dL_resins_8 : decode cL_resins 8 = .ok (.iload_n 1, 1) := by decide +kernel
theorem dL_resins_9 : decode cL_resins 9 = .ok (.iconst 3, 1) := by decide +kernel
theorem dL_resins_10 : decode cL_resins 10 = .ok (.invokestatic 114, 3) := by decide +kernel
theorem dL_resins_13 : decode cL_resins 13 = .ok (.ifCond .lt 9, 3) := by decide +kernel
theorem dL_resins_16 : decode cL_resins 16 = .ok (.iinc 1 1, 3) := by decide +kernel
theorem dL_resins_19 : decode cL_resins 19 = .ok (.goto (-17), 3) := by decide +kernel
theorem dL_resins_22 : decode cL_resins 22 = .ok (.iload_n 1, 1) := by decide +kernel
theorem dL_resins_23 : decode cL_resins 23 = .ok (.ireturn, 1) := by decide +kernel
theorem dL_sum_0 : decode cL_sum 0 = .ok (.aload_n 0, 1) := by decide +kernel
theorem dL_sum_1 : decode cL_sum 1 = .ok (.invokevirtual 118, 3) := by decide +kernel
theorem dL_sum_4 : decode cL_sum 4 = .ok (.i2l, 1) := by decide +kernel
theorem dL_sum_5 : decode cL_sum 5 = .ok (.ldc2_w 122, 3) := by decide +kernel
theorem dL_sum_8 : decode cL_sum 8 = .ok (.aload_n 0, 1) := by decide +kernel
theorem dL_sum_9 : decode cL_sum 9 = .ok (.invokevirtual 124, 3) := by decide +kernel
theorem dL_sum_12 : decode cL_sum 12 = .ok (.i2l, 1) := by decide +kernel
theorem dL_sum_13 : decode cL_sum 13 = .ok (.lmul, 1) := by decide +kernel
theorem dL_sum_14 : decode cL_sum 14 = .ok (.ladd, 1) := by decide +kernel
theorem dL_sum_15 : decode cL_sum 15 = .ok (.lstore_n 1, 1) := by decide +kernel
theorem dL_sum_16 : decode cL_sum 16 = .ok (.iconst 0, 1) := by decide +kernel
theorem dL_sum_17 : decode cL_sum 17 = .ok (.istore_n 3, 1) := by decide +kernel
theorem dL_sum_18 : decode cL_sum 18 = .ok (.iload_n 3, 1) := by decide +kernel
theorem dL_sum_19 : decode cL_sum 19 = .ok (.bipush 8, 2) := by decide +kernel
theorem dL_sum_21 : decode cL_sum 21 = .ok (.if_icmp .ge 55, 3) := by decide +kernel
theorem dL_sum_24 : decode cL_sum 24 = .ok (.ldc2_w 122, 3) := by decide +kernel
theorem dL_sum_27 : decode cL_sum 27 = .ok (.lload_n 1, 1) := by decide +kernel
theorem dL_sum_28 : decode cL_sum 28 = .ok (.lmul, 1) := by decide +kernel
theorem dL_sum_29 : decode cL_sum 29 = .ok (.aload_n 0, 1) := by decide +kernel
theorem dL_sum_30 : decode cL_sum 30 = .ok (.iload_n 3, 1) := by decide +kernel
theorem dL_sum_31 : decode cL_sum 31 = .ok (.iconst 0, 1) := by decide +kernel
theorem dL_sum_32 : decode cL_sum 32 = .ok (.invokestatic 108, 3) := by decide +kernel
theorem dL_sum_35 : decode cL_sum 35 = .ok (.ladd, 1) := by decide +kernel
theorem dL_sum_36 : decode cL_sum 36 = .ok (.ldc2_w 127, 3) := by decide +kernel
theorem dL_sum_39 : decode cL_sum 39 = .ok (.aload_n 0, 1) := by decide +kernel
theorem dL_sum_40 : decode cL_sum 40 = .ok (.iload_n 3, 1) := by decide +kernel
theorem dL_sum_41 : decode cL_sum 41 = .ok (.iconst 1, 1) := by decide +kernel
theorem dL_sum_42 : decode cL_sum 42 = .ok (.invokestatic 108, 3) := by decide +kernel
theorem dL_sum_45 : decode cL_sum 45 = .ok (.lmul, 1) := by decide +kernel
theorem dL_sum_46 : decode cL_sum 46 = .ok (.ladd, 1) := by decide +kernel
theorem dL_sum_47 : decode cL_sum 47 = .ok (.ldc2_w 129, 3) := by decide +kernel
theorem dL_sum_50 : decode cL_sum 50 = .ok (.aload_n 0, 1) := by decide +kernel
theorem dL_sum_51 : decode cL_sum 51 = .ok (.iload_n 3, 1) := by decide +kernel
theorem dL_sum_52 : decode cL_sum 52 = .ok (.iconst 2, 1) := by decide +kernel
theorem dL_sum_53 : decode cL_sum 53 = .ok (.invokestatic 108, 3) := by decide +kernel
theorem dL_sum_56 : decode cL_sum 56 = .ok (.lmul, 1) := by decide +kernel
theorem dL_sum_57 : decode cL_sum 57 = .ok (.ladd, 1) := by decide +kernel
theorem dL_sum_58 : decode cL_sum 58 = .ok (.ldc2_w 131, 3) := by decide +kernel
theorem dL_sum_61 : decode cL_sum 61 = .ok (.aload_n 0, 1) := by decide +kernel
theorem dL_sum_62 : decode cL_sum 62 = .ok (.iload_n 3, 1) := by decide +kernel
theorem dL_sum_63 : decode cL_sum 63 = .ok (.iconst 3, 1) := by decide +kernel
theorem dL_sum_64 : decode cL_sum 64 = .ok (.invokestatic 108, 3) := by decide +kernel
theorem dL_sum_67 : decode cL_sum 67 = .ok (.lmul, 1) := by decide +kernel
theorem dL_sum_68 : decode cL_sum 68 = .ok (.ladd, 1) := by decide +kernel
theorem dL_sum_69 : decode cL_sum 69 = .ok (.lstore_n 1, 1) := by decide +kernel
theorem dL_sum_70 : decode cL_sum 70 = .ok (.iinc 3 1, 3) := by decide +kernel
theorem dL_sum_73 : decode cL_sum 73 = .ok (.goto (-55), 3) := by decide +kernel
theorem dL_sum_76 : decode cL_sum 76 = .ok (.iconst 0, 1) := by decide +kernel
theorem dL_sum_77 : decode cL_sum 77 = .ok (.istore_n 3, 1) := by decide +kernel
theorem dL_sum_78 : decode cL_sum 78 = .ok (.iload_n 3, 1) := by decide +kernel
theorem dL_sum_79 : decode cL_sum 79 = .ok (.iconst 4, 1) := by decide +kernel
theorem dL_sum_80 : decode cL_sum 80 = .ok (.if_icmp .ge 47, 3) := by decide +kernel
theorem dL_sum_83 : decode cL_sum 83 = .ok (.ldc2_w 122, 3) := by decide +kernel
theorem dL_sum_86 : decode cL_sum 86 = .ok (.lload_n 1, 1) := by decide +kernel
theorem dL_sum_87 : decode cL_sum 87 = .ok (.lmul, 1) := by decide +kernel
theorem dL_sum_88 : decode cL_sum 88 = .ok (.aload_n 0, 1) := by decide +kernel
theorem dL_sum_89 : decode cL_sum 89 = .ok (.iload_n 3, 1) := by decide +kernel
theorem dL_sum_90 : decode cL_sum 90 = .ok (.iconst 1, 1) := by decide +kernel
theorem dL_sum_91 : decode cL_sum 91 = .ok (.invokestatic 114, 3) := by decide +kernel
theorem dL_sum_94 : decode cL_sum 94 = .ok (.i2l, 1) := by decide +kernel
theorem dL_sum_95 : decode cL_sum 95 = .ok (.ladd, 1) := by decide +kernel
theorem dL_sum_96 : decode cL_sum 96 = .ok (.ldc2_w 127, 3) := by decide +kernel
theorem dL_sum_99 : decode cL_sum 99 = .ok (.aload_n 0, 1) := by decide +kernel
theorem dL_sum_100 : decode cL_sum 100 = .ok (.iload_n 3, 1) := by decide +kernel
theorem dL_sum_101 : decode cL_sum 101 = .ok (.iconst 2, 1) := by decide +kernel
theorem dL_sum_102 : decode cL_sum 102 = .ok (.invokestatic 114, 3) := by decide +kernel
theorem dL_sum_105 : decode cL_sum 105 = .ok (.i2l, 1) := by decide +kernel
theorem dL_sum_106 : decode cL_sum 106 = .ok (.lmul, 1) := by decide +kernel
theorem dL_sum_107 : decode cL_sum 107 = .ok (.ladd, 1) := by decide +kernel
theorem dL_sum_108 : decode cL_sum 108 = .ok (.ldc2_w 129, 3) := by decide +kernel
theorem dL_sum_111 : decode cL_sum 111 = .ok (.aload_n 0, 1) := by decide +kernel
theorem dL_sum_112 : decode cL_sum 112 = .ok (.iload_n 3, 1) := by decide +kernel
theorem dL_sum_113 : decode cL_sum 113 = .ok (.iconst 3, 1) := by decide +kernel
theorem dL_sum_114 : decode cL_sum 114 = .ok (.invokestatic 114, 3) := by decide +kernel
theorem dL_sum_117 : decode cL_sum 117 = .ok (.i2l, 1) := by decide +kernel
theorem dL_sum_118 : decode cL_sum 118 = .ok (.lmul, 1) := by decide +kernel
theorem dL_sum_119 : decode cL_sum 119 = .ok (.ladd, 1) := by decide +kernel
theorem dL_sum_120 : decode cL_sum 120 = .ok (.lstore_n 1, 1) := by decide +kernel
theorem dL_sum_121 : decode cL_sum 121 = .ok (.iinc 3 1, 3) := by decide +kernel
theorem dL_sum_124 : decode cL_sum 124 = .ok (.goto (-46), 3) := by decide +kernel
theorem dL_sum_127 : decode cL_sum 127 = .ok (.iconst 0, 1) := by decide +kernel
theorem dL_sum_128 : decode cL_sum 128 = .ok (.istore_n 3, 1) := by decide +kernel
theorem dL_sum_129 : decode cL_sum 129 = .ok (.iload_n 3, 1) := by decide +kernel
theorem dL_sum_130 : decode cL_sum 130 = .ok (.iconst 5, 1) := by decide +kernel
theorem dL_sum_131 : decode cL_sum 131 = .ok (.if_icmp .ge 41, 3) := by decide +kernel
theorem dL_sum_134 : decode cL_sum 134 = .ok (.iconst 0, 1) := by decide +kernel
theorem dL_sum_135 : decode cL_sum 135 = .ok (.istore 4, 2) := by decide +kernel
theorem dL_sum_137 : decode cL_sum 137 = .ok (.iload 4, 2) := by decide +kernel
theorem dL_sum_139 : decode cL_sum 139 = .ok (.bipush 8, 2) := by decide +kernel
theorem dL_sum_141 : decode cL_sum 141 = .ok (.if_icmp .ge 25, 3) := by decide +kernel
theorem dL_sum_144 : decode cL_sum 144 = .ok (.ldc2_w 122, 3) := by decide +kernel
theorem dL_sum_147 : decode cL_sum 147 = .ok (.lload_n 1, 1) := by decide +kernel
theorem dL_sum_148 : decode cL_sum 148 = .ok (.lmul, 1) := by decide +kernel
theorem dL_sum_149 : decode cL_sum 149 = .ok (.aload_n 0, 1) := by decide +kernel
theorem dL_sum_150 : decode cL_sum 150 = .ok (.iload_n 3, 1) := by decide +kernel
theorem dL_sum_151 : decode cL_sum 151 = .ok (.iload 4, 2) := by decide +kernel
theorem dL_sum_153 : decode cL_sum 153 = .ok (.iconst 2, 1) := by decide +kernel
theorem dL_sum_154 : decode cL_sum 154 = .ok (.invokestatic 133, 3) := by decide +kernel
theorem dL_sum_157 : decode cL_sum 157 = .ok (.i2l, 1) := by decide +kernel
theorem dL_sum_158 : decode cL_sum 158 = .ok (.ladd, 1) := by decide +kernel
theorem dL_sum_159 : decode cL_sum 159 = .ok (.lstore_n 1, 1) := by decide +kernel
theorem dL_sum_160 : decode cL_sum 160 = .ok (.iinc 4 1, 3) := by decide +kernel
theorem dL_sum_163 : decode cL_sum 163 = .ok (.goto (-26), 3) := by decide +kernel
theorem dL_sum_166 : decode cL_sum 166 = .ok (.iinc 3 1, 3) := by decide +kernel
theorem dL_sum_169 : decode cL_sum 169 = .ok (.goto (-40), 3) := by decide +kernel
theorem dL_sum_172 : decode cL_sum 172 = .ok (.lload_n 1, 1) := by decide +kernel
theorem dL_sum_173 : decode cL_sum 173 = .ok (.lreturn, 1) := by decide +kernel
theorem dL_isSound_0 : decode cL_isSound 0 = .ok (.aload_n 0, 1) := by decide +kernel
theorem dL_isSound_1 : decode cL_isSound 1 = .ok (.invokestatic 137, 3) := by decide +kernel
theorem dL_isSound_4 : decode cL_isSound 4 = .ok (.istore_n 3, 1) := by decide +kernel
theorem dL_isSound_5 : decode cL_isSound 5 = .ok (.iconst 0, 1) := by decide +kernel
theorem dL_isSound_6 : decode cL_isSound 6 = .ok (.istore 4, 2) := by decide +kernel
theorem dL_isSound_8 : decode cL_isSound 8 = .ok (.iconst 0, 1) := by decide +kernel
theorem dL_isSound_9 : decode cL_isSound 9 = .ok (.istore 5, 2) := by decide +kernel
theorem dL_isSound_11 : decode cL_isSound 11 = .ok (.iconst 0, 1) := by decide +kernel
theorem dL_isSound_12 : decode cL_isSound 12 = .ok (.istore 6, 2) := by decide +kernel
theorem dL_isSound_14 : decode cL_isSound 14 = .ok (.iload 6, 2) := by decide +kernel
theorem dL_isSound_16 : decode cL_isSound 16 = .ok (.iload_n 3, 1) := by decide +kernel
theorem dL_isSound_17 : decode cL_isSound 17 = .ok (.if_icmp .ge 180, 3) := by decide +kernel
theorem dL_isSound_20 : decode cL_isSound 20 = .ok (.aload_n 0, 1) := by decide +kernel
theorem dL_isSound_21 : decode cL_isSound 21 = .ok (.iload 6, 2) := by decide +kernel
theorem dL_isSound_23 : decode cL_isSound 23 = .ok (.iconst 0, 1) := by decide +kernel
theorem dL_isSound_24 : decode cL_isSound 24 = .ok (.invokestatic 108, 3) := by decide +kernel
theorem dL_isSound_27 : decode cL_isSound 27 = .ok (.lstore 7, 2) := by decide +kernel
theorem dL_isSound_29 : decode cL_isSound 29 = .ok (.aload_n 0, 1) := by decide +kernel
theorem dL_isSound_30 : decode cL_isSound 30 = .ok (.iload 6, 2) := by decide +kernel
theorem dL_isSound_32 : decode cL_isSound 32 = .ok (.iconst 3, 1) := by decide +kernel
theorem dL_isSound_33 : decode cL_isSound 33 = .ok (.invokestatic 108, 3) := by decide +kernel
theorem dL_isSound_36 : decode cL_isSound 36 = .ok (.lstore 9, 2) := by decide +kernel
theorem dL_isSound_38 : decode cL_isSound 38 = .ok (.iload 4, 2) := by decide +kernel
theorem dL_isSound_40 : decode cL_isSound 40 = .ok (.aload_n 0, 1) := by decide +kernel
theorem dL_isSound_41 : decode cL_isSound 41 = .ok (.iload 6, 2) := by decide +kernel
theorem dL_isSound_43 : decode cL_isSound 43 = .ok (.iconst 2, 1) := by decide +kernel
theorem dL_isSound_44 : decode cL_isSound 44 = .ok (.invokestatic 108, 3) := by decide +kernel
theorem dL_isSound_47 : decode cL_isSound 47 = .ok (.l2i, 1) := by decide +kernel
theorem dL_isSound_48 : decode cL_isSound 48 = .ok (.iadd, 1) := by decide +kernel
theorem dL_isSound_49 : decode cL_isSound 49 = .ok (.istore 4, 2) := by decide +kernel
theorem dL_isSound_51 : decode cL_isSound 51 = .ok (.iload 5, 2) := by decide +kernel
theorem dL_isSound_53 : decode cL_isSound 53 = .ok (.aload_n 2, 1) := by decide +kernel
theorem dL_isSound_54 : decode cL_isSound 54 = .ok (.iload 6, 2) := by decide +kernel
theorem dL_isSound_56 : decode cL_isSound 56 = .ok (.iaload, 1) := by decide +kernel
theorem dL_isSound_57 : decode cL_isSound 57 = .ok (.lload 7, 2) := by decide +kernel
theorem dL_isSound_59 : decode cL_isSound 59 = .ok (.l2i, 1) := by decide +kernel
theorem dL_isSound_60 : decode cL_isSound 60 = .ok (.isub, 1) := by decide +kernel
theorem dL_isSound_61 : decode cL_isSound 61 = .ok (.iadd, 1) := by decide +kernel
theorem dL_isSound_62 : decode cL_isSound 62 = .ok (.istore 5, 2) := by decide +kernel
theorem dL_isSound_64 : decode cL_isSound 64 = .ok (.lload 9, 2) := by decide +kernel
theorem dL_isSound_66 : decode cL_isSound 66 = .ok (.aload_n 0, 1) := by decide +kernel
theorem dL_isSound_67 : decode cL_isSound 67 = .ok (.iload 6, 2) := by decide +kernel
theorem dL_isSound_69 : decode cL_isSound 69 = .ok (.iconst 4, 1) := by decide +kernel
theorem dL_isSound_70 : decode cL_isSound 70 = .ok (.invokestatic 108, 3) := by decide +kernel
theorem dL_isSound_73 : decode cL_isSound 73 = .ok (.lcmp, 1) := by decide +kernel
theorem dL_isSound_74 : decode cL_isSound 74 = .ok (.ifCond .ne 115, 3) := by decide +kernel
theorem dL_isSound_77 : decode cL_isSound 77 = .ok (.lload 7, 2) := by decide +kernel
theorem dL_isSound_79 : decode cL_isSound 79 = .ok (.aload_n 2, 1) := by decide +kernel
theorem dL_isSound_80 : decode cL_isSound 80 = .ok (.iload 6, 2) := by decide +kernel
theorem dL_isSound_82 : decode cL_isSound 82 = .ok (.iaload, 1) := by decide +kernel
theorem dL_isSound_83 : decode cL_isSound 83 = .ok (.i2l, 1) := by decide +kernel
theorem dL_isSound_84 : decode cL_isSound 84 = .ok (.lcmp, 1) := by decide +kernel
theorem dL_isSound_85 : decode cL_isSound 85 = .ok (.ifCond .gt 104, 3) := by decide +kernel
theorem dL_isSound_88 : decode cL_isSound 88 = .ok (.aload_n 0, 1) := by decide +kernel
theorem dL_isSound_89 : decode cL_isSound 89 = .ok (.iload 6, 2) := by decide +kernel
theorem dL_isSound_91 : decode cL_isSound 91 = .ok (.iconst 5, 1) := by decide +kernel
theorem dL_isSound_92 : decode cL_isSound 92 = .ok (.invokestatic 108, 3) := by decide +kernel
theorem dL_isSound_95 : decode cL_isSound 95 = .ok (.aload_n 1, 1) := by decide +kernel
theorem dL_isSound_96 : decode cL_isSound 96 = .ok (.iload 6, 2) := by decide +kernel
theorem dL_isSound_98 : decode cL_isSound 98 = .ok (.iaload, 1) := by decide +kernel
theorem dL_isSound_99 : decode cL_isSound 99 = .ok (.i2l, 1) := by decide +kernel
theorem dL_isSound_100 : decode cL_isSound 100 = .ok (.lcmp, 1) := by decide +kernel
theorem dL_isSound_101 : decode cL_isSound 101 = .ok (.ifCond .gt 88, 3) := by decide +kernel
theorem dL_isSound_104 : decode cL_isSound 104 = .ok (.aload_n 0, 1) := by decide +kernel
theorem dL_isSound_105 : decode cL_isSound 105 = .ok (.iload 6, 2) := by decide +kernel
theorem dL_isSound_107 : decode cL_isSound 107 = .ok (.iconst 5, 1) := by decide +kernel
theorem dL_isSound_108 : decode cL_isSound 108 = .ok (.invokestatic 108, 3) := by decide +kernel
theorem dL_isSound_111 : decode cL_isSound 111 = .ok (.ldc2_w 90, 3) := by decide +kernel
theorem dL_isSound_114 : decode cL_isSound 114 = .ok (.lcmp, 1) := by decide +kernel
theorem dL_isSound_115 : decode cL_isSound 115 = .ok (.ifCond .ne 7, 3) := by decide +kernel
theorem dL_isSound_118 : decode cL_isSound 118 = .ok (.iconst 1, 1) := by decide +kernel
theorem dL_isSound_119 : decode cL_isSound 119 = .ok (.goto 4, 3) := by decide +kernel
theorem dL_isSound_122 : decode cL_isSound 122 = .ok (.iconst 0, 1) := by decide +kernel
theorem dL_isSound_123 : decode cL_isSound 123 = .ok (.aload_n 0, 1) := by decide +kernel
theorem dL_isSound_124 : decode cL_isSound 124 = .ok (.iload 6, 2) := by decide +kernel
theorem dL_isSound_126 : decode cL_isSound 126 = .ok (.iconst 2, 1) := by decide +kernel
theorem dL_isSound_127 : decode cL_isSound 127 = .ok (.invokestatic 108, 3) := by decide +kernel
theorem dL_isSound_130 : decode cL_isSound 130 = .ok (.lconst 0, 1) := by decide +kernel
theorem dL_isSound_131 : decode cL_isSound 131 = .ok (.lcmp, 1) := by decide +kernel
theorem dL_isSound_132 : decode cL_isSound 132 = .ok (.ifCond .ne 7, 3) := by decide +kernel
theorem dL_isSound_135 : decode cL_isSound 135 = .ok (.iconst 1, 1) := by decide +kernel
theorem dL_isSound_136 : decode cL_isSound 136 = .ok (.goto 4, 3) := by decide +kernel
theorem dL_isSound_139 : decode cL_isSound 139 = .ok (.iconst 0, 1) := by decide +kernel
theorem dL_isSound_140 : decode cL_isSound 140 = .ok (.if_icmp .ne 49, 3) := by decide +kernel
theorem dL_isSound_143 : decode cL_isSound 143 = .ok (.lload 7, 2) := by decide +kernel
theorem dL_isSound_145 : decode cL_isSound 145 = .ok (.lconst 0, 1) := by decide +kernel
theorem dL_isSound_146 : decode cL_isSound 146 = .ok (.lcmp, 1) := by decide +kernel
theorem dL_isSound_147 : decode cL_isSound 147 = .ok (.ifCond .ne 7, 3) := by decide +kernel
theorem dL_isSound_150 : decode cL_isSound 150 = .ok (.iconst 1, 1) := by decide +kernel
theorem dL_isSound_151 : decode cL_isSound 151 = .ok (.goto 4, 3) := by decide +kernel
theorem dL_isSound_154 : decode cL_isSound 154 = .ok (.iconst 0, 1) := by decide +kernel
theorem dL_isSound_155 : decode cL_isSound 155 = .ok (.aload_n 0, 1) := by decide +kernel
theorem dL_isSound_156 : decode cL_isSound 156 = .ok (.iload 6, 2) := by decide +kernel
theorem dL_isSound_158 : decode cL_isSound 158 = .ok (.iconst 1, 1) := by decide +kernel
theorem dL_isSound_159 : decode cL_isSound 159 = .ok (.invokestatic 108, 3) := by decide +kernel
theorem dL_isSound_162 : decode cL_isSound 162 = .ok (.lconst 0, 1) := by decide +kernel
theorem dL_isSound_163 : decode cL_isSound 163 = .ok (.lcmp, 1) := by decide +kernel
theorem dL_isSound_164 : decode cL_isSound 164 = .ok (.ifCond .ne 7, 3) := by decide +kernel
theorem dL_isSound_167 : decode cL_isSound 167 = .ok (.iconst 1, 1) := by decide +kernel
theorem dL_isSound_168 : decode cL_isSound 168 = .ok (.goto 4, 3) := by decide +kernel
theorem dL_isSound_171 : decode cL_isSound 171 = .ok (.iconst 0, 1) := by decide +kernel
theorem dL_isSound_172 : decode cL_isSound 172 = .ok (.if_icmp .ne 17, 3) := by decide +kernel
theorem dL_isSound_175 : decode cL_isSound 175 = .ok (.lload 9, 2) := by decide +kernel
theorem dL_isSound_177 : decode cL_isSound 177 = .ok (.lconst 0, 1) := by decide +kernel
theorem dL_isSound_178 : decode cL_isSound 178 = .ok (.lcmp, 1) := by decide +kernel
theorem dL_isSound_179 : decode cL_isSound 179 = .ok (.ifCond .le 12, 3) := by decide +kernel
theorem dL_isSound_182 : decode cL_isSound 182 = .ok (.aload_n 1, 1) := by decide +kernel
theorem dL_isSound_183 : decode cL_isSound 183 = .ok (.iload 6, 2) := by decide +kernel
theorem dL_isSound_185 : decode cL_isSound 185 = .ok (.iaload, 1) := by decide +kernel
theorem dL_isSound_186 : decode cL_isSound 186 = .ok (.ifCond .ne 5, 3) := by decide +kernel
theorem dL_isSound_189 : decode cL_isSound 189 = .ok (.iconst 0, 1) := by decide +kernel
theorem dL_isSound_190 : decode cL_isSound 190 = .ok (.ireturn, 1) := by decide +kernel
theorem dL_isSound_191 : decode cL_isSound 191 = .ok (.iinc 6 1, 3) := by decide +kernel
theorem dL_isSound_194 : decode cL_isSound 194 = .ok (.goto (-180), 3) := by decide +kernel
theorem dL_isSound_197 : decode cL_isSound 197 = .ok (.iload 4, 2) := by decide +kernel
theorem dL_isSound_199 : decode cL_isSound 199 = .ok (.ifCond .le 7, 3) := by decide +kernel
theorem dL_isSound_202 : decode cL_isSound 202 = .ok (.iconst 1, 1) := by decide +kernel
theorem dL_isSound_203 : decode cL_isSound 203 = .ok (.goto 4, 3) := by decide +kernel
theorem dL_isSound_206 : decode cL_isSound 206 = .ok (.iconst 0, 1) := by decide +kernel
theorem dL_isSound_207 : decode cL_isSound 207 = .ok (.istore 6, 2) := by decide +kernel
theorem dL_isSound_209 : decode cL_isSound 209 = .ok (.aload_n 0, 1) := by decide +kernel
theorem dL_isSound_210 : decode cL_isSound 210 = .ok (.invokestatic 141, 3) := by decide +kernel
theorem dL_isSound_213 : decode cL_isSound 213 = .ok (.ldc 101, 2) := by decide +kernel
theorem dL_isSound_215 : decode cL_isSound 215 = .ok (.fcmp .l, 1) := by decide +kernel
theorem dL_isSound_216 : decode cL_isSound 216 = .ok (.ifCond .ne 7, 3) := by decide +kernel
theorem dL_isSound_219 : decode cL_isSound 219 = .ok (.iconst 1, 1) := by decide +kernel
theorem dL_isSound_220 : decode cL_isSound 220 = .ok (.goto 4, 3) := by decide +kernel
theorem dL_isSound_223 : decode cL_isSound 223 = .ok (.iconst 0, 1) := by decide +kernel
theorem dL_isSound_224 : decode cL_isSound 224 = .ok (.iload 6, 2) := by decide +kernel
theorem dL_isSound_226 : decode cL_isSound 226 = .ok (.if_icmp .eq 75, 3) := by decide +kernel
theorem dL_isSound_229 : decode cL_isSound 229 = .ok (.aload_n 0, 1) := by decide +kernel
theorem dL_isSound_230 : decode cL_isSound 230 = .ok (.invokestatic 145, 3) := by decide +kernel
theorem dL_isSound_233 : decode cL_isSound 233 = .ok (.ldc2_w 106, 3) := by decide +kernel
theorem dL_isSound_236 : decode cL_isSound 236 = .ok (.dcmp .l, 1) := by decide +kernel
theorem dL_isSound_237 : decode cL_isSound 237 = .ok (.ifCond .ne 7, 3) := by decide +kernel
theorem dL_isSound_240 : decode cL_isSound 240 = .ok (.iconst 1, 1) := by decide +kernel
theorem dL_isSound_241 : decode cL_isSound 241 = .ok (.goto 4, 3) := by decide +kernel
theorem dL_isSound_244 : decode cL_isSound 244 = .ok (.iconst 0, 1) := by decide +kernel
theorem dL_isSound_245 : decode cL_isSound 245 = .ok (.iload 6, 2) := by decide +kernel
theorem dL_isSound_247 : decode cL_isSound 247 = .ok (.if_icmp .eq 54, 3) := by decide +kernel
theorem dL_isSound_250 : decode cL_isSound 250 = .ok (.iload 6, 2) := by decide +kernel
theorem dL_isSound_252 : decode cL_isSound 252 = .ok (.ifCond .eq 37, 3) := by decide +kernel
theorem dL_isSound_255 : decode cL_isSound 255 = .ok (.aload_n 0, 1) := by decide +kernel
theorem dL_isSound_256 : decode cL_isSound 256 = .ok (.invokestatic 141, 3) := by decide +kernel
theorem dL_isSound_259 : decode cL_isSound 259 = .ok (.fconst 0, 1) := by decide +kernel
theorem dL_isSound_260 : decode cL_isSound 260 = .ok (.fcmp .l, 1) := by decide +kernel
theorem dL_isSound_261 : decode cL_isSound 261 = .ok (.ifCond .lt 40, 3) := by decide +kernel
theorem dL_isSound_264 : decode cL_isSound 264 = .ok (.aload_n 0, 1) := by decide +kernel
theorem dL_isSound_265 : decode cL_isSound 265 = .ok (.invokestatic 141, 3) := by decide +kernel
theorem dL_isSound_268 : decode cL_isSound 268 = .ok (.ldc 149, 2) := by decide +kernel
theorem dL_isSound_270 : decode cL_isSound 270 = .ok (.fcmp .g, 1) := by decide +kernel
theorem dL_isSound_271 : decode cL_isSound 271 = .ok (.ifCond .gt 30, 3) := by decide +kernel
theorem dL_isSound_274 : decode cL_isSound 274 = .ok (.aload_n 0, 1) := by decide +kernel
theorem dL_isSound_275 : decode cL_isSound 275 = .ok (.invokestatic 145, 3) := by decide +kernel
theorem dL_isSound_278 : decode cL_isSound 278 = .ok (.iload 5, 2) := by decide +kernel
theorem dL_isSound_280 : decode cL_isSound 280 = .ok (.i2d, 1) := by decide +kernel
theorem dL_isSound_281 : decode cL_isSound 281 = .ok (.iload 4, 2) := by decide +kernel
theorem dL_isSound_283 : decode cL_isSound 283 = .ok (.i2d, 1) := by decide +kernel
theorem dL_isSound_284 : decode cL_isSound 284 = .ok (.ddiv, 1) := by decide +kernel
theorem dL_isSound_285 : decode cL_isSound 285 = .ok (.dcmp .l, 1) := by decide +kernel
theorem dL_isSound_286 : decode cL_isSound 286 = .ok (.ifCond .ne 15, 3) := by decide +kernel
theorem dL_isSound_289 : decode cL_isSound 289 = .ok (.aload_n 0, 1) := by decide +kernel
theorem dL_isSound_290 : decode cL_isSound 290 = .ok (.invokevirtual 124, 3) := by decide +kernel
theorem dL_isSound_293 : decode cL_isSound 293 = .ok (.iconst 3, 1) := by decide +kernel
theorem dL_isSound_294 : decode cL_isSound 294 = .ok (.if_icmp .gt 7, 3) := by decide +kernel
theorem dL_isSound_297 : decode cL_isSound 297 = .ok (.iconst 1, 1) := by decide +kernel
theorem dL_isSound_298 : decode cL_isSound 298 = .ok (.goto 4, 3) := by decide +kernel
theorem dL_isSound_301 : decode cL_isSound 301 = .ok (.iconst 0, 1) := by decide +kernel
theorem dL_isSound_302 : decode cL_isSound 302 = .ok (.ireturn, 1) := by decide +kernel
theorem dL_law_0 : decode cL_law 0 = .ok (.new 8, 3) := by decide +kernel
theorem dL_law_3 : decode cL_law 3 = .ok (.dup, 1) := by decide +kernel
theorem dL_law_4 : decode cL_law 4 = .ok (.invokespecial 150, 3) := by decide +kernel
theorem dL_law_7 : decode cL_law 7 = .ok (.astore_n 1, 1) := by decide +kernel
theorem dL_law_8 : decode cL_law 8 = .ok (.bipush 8, 2) := by decide +kernel
theorem dL_law_10 : decode cL_law 10 = .ok (.newarray .int, 2) := by decide +kernel
theorem dL_law_12 : decode cL_law 12 = .ok (.astore_n 2, 1) := by decide +kernel
theorem dL_law_13 : decode cL_law 13 = .ok (.bipush 8, 2) := by decide +kernel
theorem dL_law_15 : decode cL_law 15 = .ok (.newarray .int, 2) := by decide +kernel
theorem dL_law_17 : decode cL_law 17 = .ok (.astore_n 3, 1) := by decide +kernel
theorem dL_law_18 : decode cL_law 18 = .ok (.iconst 0, 1) := by decide +kernel
theorem dL_law_19 : decode cL_law 19 = .ok (.istore 4, 2) := by decide +kernel
theorem dL_law_21 : decode cL_law 21 = .ok (.iconst 0, 1) := by decide +kernel
theorem dL_law_22 : decode cL_law 22 = .ok (.istore 5, 2) := by decide +kernel
theorem dL_law_24 : decode cL_law 24 = .ok (.aload_n 0, 1) := by decide +kernel
theorem dL_law_25 : decode cL_law 25 = .ok (.iconst 0, 1) := by decide +kernel
theorem dL_law_26 : decode cL_law 26 = .ok (.invokestatic 151, 3) := by decide +kernel
theorem dL_law_29 : decode cL_law 29 = .ok (.bipush 58, 2) := by decide +kernel
theorem dL_law_31 : decode cL_law 31 = .ok (.invokestatic 155, 3) := by decide +kernel
theorem dL_law_34 : decode cL_law 34 = .ok (.istore 6, 2) := by decide +kernel
theorem dL_law_36 : decode cL_law 36 = .ok (.iconst 0, 1) := by decide +kernel
theorem dL_law_37 : decode cL_law 37 = .ok (.istore 7, 2) := by decide +kernel
theorem dL_law_39 : decode cL_law 39 = .ok (.iload 7, 2) := by decide +kernel
theorem dL_law_41 : decode cL_law 41 = .ok (.iload 6, 2) := by decide +kernel
theorem dL_law_43 : decode cL_law 43 = .ok (.if_icmp .ge 841, 3) := by decide +kernel
theorem dL_law_46 : decode cL_law 46 = .ok (.aload_n 0, 1) := by decide +kernel
theorem dL_law_47 : decode cL_law 47 = .ok (.iconst 1, 1) := by decide +kernel
theorem dL_law_48 : decode cL_law 48 = .ok (.iload 7, 2) := by decide +kernel
theorem dL_law_50 : decode cL_law 50 = .ok (.iadd, 1) := by decide +kernel
theorem dL_law_51 : decode cL_law 51 = .ok (.invokestatic 151, 3) := by decide +kernel
theorem dL_law_54 : decode cL_law 54 = .ok (.ldc 158, 2) := by decide +kernel
theorem dL_law_56 : decode cL_law 56 = .ok (.invokestatic 155, 3) := by decide +kernel
theorem dL_law_59 : decode cL_law 59 = .ok (.istore 8, 2) := by decide +kernel
theorem dL_law_61 : decode cL_law 61 = .ok (.iload 8, 2) := by decide +kernel
theorem dL_law_63 : decode cL_law 63 = .ok (.bipush 24, 2) := by decide +kernel
theorem dL_law_65 : decode cL_law 65 = .ok (.idiv, 1) := by decide +kernel
theorem dL_law_66 : decode cL_law 66 = .ok (.istore 9, 2) := by decide +kernel
theorem dL_law_68 : decode cL_law 68 = .ok (.iload 9, 2) := by decide +kernel
theorem dL_law_70 : decode cL_law 70 = .ok (.iconst 1, 1) := by decide +kernel
theorem dL_law_71 : decode cL_law 71 = .ok (.iload 4, 2) := by decide +kernel
theorem dL_law_73 : decode cL_law 73 = .ok (.invokestatic 159, 3) := by decide +kernel
theorem dL_law_76 : decode cL_law 76 = .ok (.irem, 1) := by decide +kernel
theorem dL_law_77 : decode cL_law 77 = .ok (.istore 10, 2) := by decide +kernel
theorem dL_law_79 : decode cL_law 79 = .ok (.iload 9, 2) := by decide +kernel
theorem dL_law_81 : decode cL_law 81 = .ok (.iconst 5, 1) := by decide +kernel
theorem dL_law_82 : decode cL_law 82 = .ok (.idiv, 1) := by decide +kernel
theorem dL_law_83 : decode cL_law 83 = .ok (.iconst 1, 1) := by decide +kernel
theorem dL_law_84 : decode cL_law 84 = .ok (.aload_n 1, 1) := by decide +kernel
theorem dL_law_85 : decode cL_law 85 = .ok (.invokestatic 164, 3) := by decide +kernel
theorem dL_law_88 : decode cL_law 88 = .ok (.invokestatic 159, 3) := by decide +kernel
theorem dL_law_91 : decode cL_law 91 = .ok (.irem, 1) := by decide +kernel
theorem dL_law_92 : decode cL_law 92 = .ok (.istore 11, 2) := by decide +kernel
theorem dL_law_94 : decode cL_law 94 = .ok (.iload 7, 2) := by decide +kernel
theorem dL_law_96 : decode cL_law 96 = .ok (.iconst 2, 1) := by decide +kernel
theorem dL_law_97 : decode cL_law 97 = .ok (.irem, 1) := by decide +kernel
theorem dL_law_98 : decode cL_law 98 = .ok (.ifCond .ne 7, 3) := by decide +kernel
theorem dL_law_101 : decode cL_law 101 = .ok (.iconst 1, 1) := by decide +kernel
theorem dL_law_102 : decode cL_law 102 = .ok (.goto 4, 3) := by decide +kernel
theorem dL_law_105 : decode cL_law 105 = .ok (.iconst 0, 1) := by decide +kernel
theorem dL_law_106 : decode cL_law 106 = .ok (.istore 12, 2) := by decide +kernel
theorem dL_law_108 : decode cL_law 108 = .ok (.iload 12, 2) := by decide +kernel
theorem dL_law_110 : decode cL_law 110 = .ok (.ifCond .eq 10, 3) := by decide +kernel
theorem dL_law_113 : decode cL_law 113 = .ok (.aload_n 1, 1) := by decide +kernel
theorem dL_law_114 : decode cL_law 114 = .ok (.invokestatic 167, 3) := by decide +kernel
theorem dL_law_117 : decode cL_law 117 = .ok (.goto 4, 3) := by decide +kernel
theorem dL_law_120 : decode cL_law 120 = .ok (.lconst 0, 1) := by decide +kernel
theorem dL_law_121 : decode cL_law 121 = .ok (.lstore 13, 2) := by decide +kernel
theorem dL_law_123 : decode cL_law 123 = .ok (.iconst 0, 1) := by decide +kernel
theorem dL_law_124 : decode cL_law 124 = .ok (.istore 15, 2) := by decide +kernel
theorem dL_law_126 : decode cL_law 126 = .ok (.iload 7, 2) := by decide +kernel
theorem dL_law_128 : decode cL_law 128 = .ok (.iconst 1, 1) := by decide +kernel
theorem dL_law_129 : decode cL_law 129 = .ok (.if_icmp .ge 7, 3) := by decide +kernel
theorem dL_law_132 : decode cL_law 132 = .ok (.iconst 0, 1) := by decide +kernel
theorem dL_law_133 : decode cL_law 133 = .ok (.goto 52, 3) := by decide +kernel
theorem dL_law_136 : decode cL_law 136 = .ok (.iload 7, 2) := by decide +kernel
theorem dL_law_138 : decode cL_law 138 = .ok (.iconst 3, 1) := by decide +kernel
theorem dL_law_139 : decode cL_law 139 = .ok (.if_icmp .ge 7, 3) := by decide +kernel
theorem dL_law_142 : decode cL_law 142 = .ok (.iconst 5, 1) := by decide +kernel
theorem dL_law_143 : decode cL_law 143 = .ok (.goto 42, 3) := by decide +kernel
theorem dL_law_146 : decode cL_law 146 = .ok (.iload 7, 2) := by decide +kernel
theorem dL_law_148 : decode cL_law 148 = .ok (.iconst 4, 1) := by decide +kernel
theorem dL_law_149 : decode cL_law 149 = .ok (.if_icmp .ge 8, 3) := by decide +kernel
theorem dL_law_152 : decode cL_law 152 = .ok (.bipush 7, 2) := by decide +kernel
theorem dL_law_154 : decode cL_law 154 = .ok (.goto 31, 3) := by decide +kernel
theorem dL_law_157 : decode cL_law 157 = .ok (.iload 7, 2) := by decide +kernel
theorem dL_law_159 : decode cL_law 159 = .ok (.bipush 6, 2) := by decide +kernel
theorem dL_law_161 : decode cL_law 161 = .ok (.if_icmp .ge 8, 3) := by decide +kernel
theorem dL_law_164 : decode cL_law 164 = .ok (.bipush 13, 2) := by decide +kernel
theorem dL_law_166 : decode cL_law 166 = .ok (.goto 19, 3) := by decide +kernel
theorem dL_law_169 : decode cL_law 169 = .ok (.iload 7, 2) := by decide +kernel
theorem dL_law_171 : decode cL_law 171 = .ok (.bipush 7, 2) := by decide +kernel
theorem dL_law_173 : decode cL_law 173 = .ok (.if_icmp .ge 7, 3) := by decide +kernel
theorem dL_law_176 : decode cL_law 176 = .ok (.iconst 2, 1) := by decide +kernel
theorem dL_law_177 : decode cL_law 177 = .ok (.goto 8, 3) := by decide +kernel
theorem dL_law_180 : decode cL_law 180 = .ok (.iload 8, 2) := by decide +kernel
theorem dL_law_182 : decode cL_law 182 = .ok (.bipush 24, 2) := by decide +kernel
theorem dL_law_184 : decode cL_law 184 = .ok (.irem, 1) := by decide +kernel
theorem dL_law_185 : decode cL_law 185 = .ok (.istore 16, 2) := by decide +kernel
theorem dL_law_187 : decode cL_law 187 = .ok (.iload 16, 2) := by decide +kernel
theorem dL_law_189 : decode cL_law 189 = .ok (.iconst 1, 1) := by decide +kernel
theorem dL_law_190 : decode cL_law 190 = .ok (.if_icmp .ge 16, 3) := by decide +kernel
theorem dL_law_193 : decode cL_law 193 = .ok (.aload_n 1, 1) := by decide +kernel
theorem dL_law_194 : decode cL_law 194 = .ok (.iload 9, 2) := by decide +kernel
theorem dL_law_196 : decode cL_law 196 = .ok (.iconst 5, 1) := by decide +kernel
theorem dL_law_197 : decode cL_law 197 = .ok (.irem, 1) := by decide +kernel
theorem dL_law_198 : decode cL_law 198 = .ok (.invokestatic 171, 3) := by decide +kernel
theorem dL_law_201 : decode cL_law 201 = .ok (.istore 15, 2) := by decide +kernel
theorem dL_law_203 : decode cL_law 203 = .ok (.goto 631, 3) := by decide +kernel
theorem dL_law_206 : decode cL_law 206 = .ok (.iload 16, 2) := by decide +kernel
theorem dL_law_208 : decode cL_law 208 = .ok (.iconst 4, 1) := by decide +kernel
theorem dL_law_209 : decode cL_law 209 = .ok (.if_icmp .ge 24, 3) := by decide +kernel
theorem dL_law_212 : decode cL_law 212 = .ok (.aload_n 1, 1) := by decide +kernel
theorem dL_law_213 : decode cL_law 213 = .ok (.iload 11, 2) := by decide +kernel
theorem dL_law_215 : decode cL_law 215 = .ok (.iconst 1, 1) := by decide +kernel
theorem dL_law_216 : decode cL_law 216 = .ok (.iload 9, 2) := by decide +kernel
theorem dL_law_218 : decode cL_law 218 = .ok (.bipush 20, 2) := by decide +kernel
theorem dL_law_220 : decode cL_law 220 = .ok (.idiv, 1) := by decide +kernel
theorem dL_law_221 : decode cL_law 221 = .ok (.ldc 175, 2) := by decide +kernel
theorem dL_law_223 : decode cL_law 223 = .ok (.irem, 1) := by decide +kernel
theorem dL_law_224 : decode cL_law 224 = .ok (.iadd, 1) := by decide +kernel
theorem dL_law_225 : decode cL_law 225 = .ok (.invokestatic 176, 3) := by decide +kernel
theorem dL_law_228 : decode cL_law 228 = .ok (.istore 15, 2) := by decide +kernel
theorem dL_law_230 : decode cL_law 230 = .ok (.goto 604, 3) := by decide +kernel
theorem dL_law_233 : decode cL_law 233 = .ok (.iload 16, 2) := by decide +kernel
theorem dL_law_235 : decode cL_law 235 = .ok (.iconst 5, 1) := by decide +kernel
theorem dL_law_236 : decode cL_law 236 = .ok (.if_icmp .ge 41, 3) := by decide +kernel
theorem dL_law_239 : decode cL_law 239 = .ok (.aload_n 1, 1) := by decide +kernel
theorem dL_law_240 : decode cL_law 240 = .ok (.invokevirtual 124, 3) := by decide +kernel
theorem dL_law_243 : decode cL_law 243 = .ok (.istore 17, 2) := by decide +kernel
theorem dL_law_245 : decode cL_law 245 = .ok (.aload_n 1, 1) := by decide +kernel
theorem dL_law_246 : decode cL_law 246 = .ok (.iload 9, 2) := by decide +kernel
theorem dL_law_248 : decode cL_law 248 = .ok (.iconst 3, 1) := by decide +kernel
theorem dL_law_249 : decode cL_law 249 = .ok (.irem, 1) := by decide +kernel
theorem dL_law_250 : decode cL_law 250 = .ok (.iconst 0, 1) := by decide +kernel
theorem dL_law_251 : decode cL_law 251 = .ok (.invokestatic 114, 3) := by decide +kernel
theorem dL_law_254 : decode cL_law 254 = .ok (.istore 15, 2) := by decide +kernel
theorem dL_law_256 : decode cL_law 256 = .ok (.iload 15, 2) := by decide +kernel
theorem dL_law_258 : decode cL_law 258 = .ok (.ifCond .lt 16, 3) := by decide +kernel
theorem dL_law_261 : decode cL_law 261 = .ok (.aload_n 1, 1) := by decide +kernel
theorem dL_law_262 : decode cL_law 262 = .ok (.invokevirtual 124, 3) := by decide +kernel
theorem dL_law_265 : decode cL_law 265 = .ok (.iload 17, 2) := by decide +kernel
theorem dL_law_267 : decode cL_law 267 = .ok (.iconst 1, 1) := by decide +kernel
theorem dL_law_268 : decode cL_law 268 = .ok (.isub, 1) := by decide +kernel
theorem dL_law_269 : decode cL_law 269 = .ok (.if_icmp .eq 5, 3) := by decide +kernel
theorem dL_law_272 : decode cL_law 272 = .ok (.iconst 0, 1) := by decide +kernel
theorem dL_law_273 : decode cL_law 273 = .ok (.ireturn, 1) := by decide +kernel
theorem dL_law_274 : decode cL_law 274 = .ok (.goto 560, 3) := by decide +kernel
theorem dL_law_277 : decode cL_law 277 = .ok (.iload 16, 2) := by decide +kernel
theorem dL_law_279 : decode cL_law 279 = .ok (.bipush 7, 2) := by decide +kernel
theorem dL_law_281 : decode cL_law 281 = .ok (.if_icmp .ge 98, 3) := by decide +kernel
theorem dL_law_284 : decode cL_law 284 = .ok (.iconst 5, 1) := by decide +kernel
theorem dL_law_285 : decode cL_law 285 = .ok (.newarray .int, 2) := by decide +kernel
theorem dL_law_287 : decode cL_law 287 = .ok (.dup, 1) := by decide +kernel
theorem dL_law_288 : decode cL_law 288 = .ok (.iconst 0, 1) := by decide +kernel
theorem dL_law_289 : decode cL_law 289 = .ok (.iconst 1, 1) := by decide +kernel
theorem dL_law_290 : decode cL_law 290 = .ok (.iload 9, 2) := by decide +kernel
theorem dL_law_292 : decode cL_law 292 = .ok (.bipush 8, 2) := by decide +kernel
theorem dL_law_294 : decode cL_law 294 = .ok (.irem, 1) := by decide +kernel
theorem dL_law_295 : decode cL_law 295 = .ok (.iadd, 1) := by decide +kernel
theorem dL_law_296 : decode cL_law 296 = .ok (.iastore, 1) := by decide +kernel
theorem dL_law_297 : decode cL_law 297 = .ok (.dup, 1) := by decide +kernel
theorem dL_law_298 : decode cL_law 298 = .ok (.iconst 1, 1) := by decide +kernel
theorem dL_law_299 : decode cL_law 299 = .ok (.iconst 1, 1) := by decide +kernel
theorem dL_law_300 : decode cL_law 300 = .ok (.iload 9, 2) := by decide +kernel
theorem dL_law_302 : decode cL_law 302 = .ok (.bipush 8, 2) := by decide +kernel
theorem dL_law_304 : decode cL_law 304 = .ok (.idiv, 1) := by decide +kernel
theorem dL_law_305 : decode cL_law 305 = .ok (.bipush 50, 2) := by decide +kernel
theorem dL_law_307 : decode cL_law 307 = .ok (.irem, 1) := by decide +kernel
theorem dL_law_308 : decode cL_law 308 = .ok (.iadd, 1) := by decide +kernel
theorem dL_law_309 : decode cL_law 309 = .ok (.iastore, 1) := by decide +kernel
theorem dL_law_310 : decode cL_law 310 = .ok (.dup, 1) := by decide +kernel
theorem dL_law_311 : decode cL_law 311 = .ok (.iconst 2, 1) := by decide +kernel
theorem dL_law_312 : decode cL_law 312 = .ok (.iload 9, 2) := by decide +kernel
theorem dL_law_314 : decode cL_law 314 = .ok (.sipush 400, 3) := by decide +kernel
theorem dL_law_317 : decode cL_law 317 = .ok (.idiv, 1) := by decide +kernel
theorem dL_law_318 : decode cL_law 318 = .ok (.bipush 60, 2) := by decide +kernel
theorem dL_law_320 : decode cL_law 320 = .ok (.irem, 1) := by decide +kernel
theorem dL_law_321 : decode cL_law 321 = .ok (.iastore, 1) := by decide +kernel
theorem dL_law_322 : decode cL_law 322 = .ok (.dup, 1) := by decide +kernel
theorem dL_law_323 : decode cL_law 323 = .ok (.iconst 3, 1) := by decide +kernel
theorem dL_law_324 : decode cL_law 324 = .ok (.iconst 1, 1) := by decide +kernel
theorem dL_law_325 : decode cL_law 325 = .ok (.iload 9, 2) := by decide +kernel
theorem dL_law_327 : decode cL_law 327 = .ok (.sipush 24000, 3) := by decide +kernel
theorem dL_law_330 : decode cL_law 330 = .ok (.idiv, 1) := by decide +kernel
theorem dL_law_331 : decode cL_law 331 = .ok (.bipush 50, 2) := by decide +kernel
theorem dL_law_333 : decode cL_law 333 = .ok (.irem, 1) := by decide +kernel
theorem dL_law_334 : decode cL_law 334 = .ok (.iadd, 1) := by decide +kernel
theorem dL_law_335 : decode cL_law 335 = .ok (.iastore, 1) := by decide +kernel
theorem dL_law_336 : decode cL_law 336 = .ok (.dup, 1) := by decide +kernel
theorem dL_law_337 : decode cL_law 337 = .ok (.iconst 4, 1) := by decide +kernel
theorem dL_law_338 : decode cL_law 338 = .ok (.bipush 60, 2) := by decide +kernel
theorem dL_law_340 : decode cL_law 340 = .ok (.iload 9, 2) := by decide +kernel
theorem dL_law_342 : decode cL_law 342 = .ok (.bipush 7, 2) := by decide +kernel
theorem dL_law_344 : decode cL_law 344 = .ok (.idiv, 1) := by decide +kernel
theorem dL_law_345 : decode cL_law 345 = .ok (.sipush 1800, 3) := by decide +kernel
theorem dL_law_348 : decode cL_law 348 = .ok (.irem, 1) := by decide +kernel
theorem dL_law_349 : decode cL_law 349 = .ok (.iadd, 1) := by decide +kernel
theorem dL_law_350 : decode cL_law 350 = .ok (.iastore, 1) := by decide +kernel
theorem dL_law_351 : decode cL_law 351 = .ok (.astore 17, 2) := by decide +kernel
theorem dL_law_353 : decode cL_law 353 = .ok (.aload_n 1, 1) := by decide +kernel
theorem dL_law_354 : decode cL_law 354 = .ok (.aload 17, 2) := by decide +kernel
theorem dL_law_356 : decode cL_law 356 = .ok (.invokestatic 178, 3) := by decide +kernel
theorem dL_law_359 : decode cL_law 359 = .ok (.istore 15, 2) := by decide +kernel
theorem dL_law_361 : decode cL_law 361 = .ok (.iload 4, 2) := by decide +kernel
theorem dL_law_363 : decode cL_law 363 = .ok (.iload 15, 2) := by decide +kernel
theorem dL_law_365 : decode cL_law 365 = .ok (.ifCond .lt 7, 3) := by decide +kernel
theorem dL_law_368 : decode cL_law 368 = .ok (.iconst 1, 1) := by decide +kernel
theorem dL_law_369 : decode cL_law 369 = .ok (.goto 4, 3) := by decide +kernel
theorem dL_law_372 : decode cL_law 372 = .ok (.iconst 0, 1) := by decide +kernel
theorem dL_law_373 : decode cL_law 373 = .ok (.iadd, 1) := by decide +kernel
theorem dL_law_374 : decode cL_law 374 = .ok (.istore 4, 2) := by decide +kernel
theorem dL_law_376 : decode cL_law 376 = .ok (.goto 458, 3) := by decide +kernel
theorem dL_law_379 : decode cL_law 379 = .ok (.iload 16, 2) := by decide +kernel
theorem dL_law_381 : decode cL_law 381 = .ok (.bipush 8, 2) := by decide +kernel
theorem dL_law_383 : decode cL_law 383 = .ok (.if_icmp .ge 35, 3) := by decide +kernel
theorem dL_law_386 : decode cL_law 386 = .ok (.aload_n 1, 1) := by decide +kernel
theorem dL_law_387 : decode cL_law 387 = .ok (.bipush 20, 2) := by decide +kernel
theorem dL_law_389 : decode cL_law 389 = .ok (.iload 9, 2) := by decide +kernel
theorem dL_law_391 : decode cL_law 391 = .ok (.bipush 80, 2) := by decide +kernel
theorem dL_law_393 : decode cL_law 393 = .ok (.irem, 1) := by decide +kernel
theorem dL_law_394 : decode cL_law 394 = .ok (.iadd, 1) := by decide +kernel
theorem dL_law_395 : decode cL_law 395 = .ok (.invokestatic 182, 3) := by decide +kernel
theorem dL_law_398 : decode cL_law 398 = .ok (.istore 15, 2) := by decide +kernel
theorem dL_law_400 : decode cL_law 400 = .ok (.iload 5, 2) := by decide +kernel
theorem dL_law_402 : decode cL_law 402 = .ok (.iload 15, 2) := by decide +kernel
theorem dL_law_404 : decode cL_law 404 = .ok (.ifCond .lt 7, 3) := by decide +kernel
theorem dL_law_407 : decode cL_law 407 = .ok (.iconst 1, 1) := by decide +kernel
theorem dL_law_408 : decode cL_law 408 = .ok (.goto 4, 3) := by decide +kernel
theorem dL_law_411 : decode cL_law 411 = .ok (.iconst 0, 1) := by decide +kernel
theorem dL_law_412 : decode cL_law 412 = .ok (.iadd, 1) := by decide +kernel
theorem dL_law_413 : decode cL_law 413 = .ok (.istore 5, 2) := by decide +kernel
theorem dL_law_415 : decode cL_law 415 = .ok (.goto 419, 3) := by decide +kernel
theorem dL_law_418 : decode cL_law 418 = .ok (.iload 16, 2) := by decide +kernel
theorem dL_law_420 : decode cL_law 420 = .ok (.bipush 9, 2) := by decide +kernel
theorem dL_law_422 : decode cL_law 422 = .ok (.if_icmp .ge 32, 3) := by decide +kernel
theorem dL_law_425 : decode cL_law 425 = .ok (.aload_n 1, 1) := by decide +kernel
theorem dL_law_426 : decode cL_law 426 = .ok (.iload 10, 2) := by decide +kernel
theorem dL_law_428 : decode cL_law 428 = .ok (.iload 9, 2) := by decide +kernel
theorem dL_law_430 : decode cL_law 430 = .ok (.iconst 5, 1) := by decide +kernel
theorem dL_law_431 : decode cL_law 431 = .ok (.idiv, 1) := by decide +kernel
theorem dL_law_432 : decode cL_law 432 = .ok (.bipush 8, 2) := by decide +kernel
theorem dL_law_434 : decode cL_law 434 = .ok (.irem, 1) := by decide +kernel
theorem dL_law_435 : decode cL_law 435 = .ok (.iconst 1, 1) := by decide +kernel
theorem dL_law_436 : decode cL_law 436 = .ok (.iload 9, 2) := by decide +kernel
theorem dL_law_438 : decode cL_law 438 = .ok (.bipush 40, 2) := by decide +kernel
theorem dL_law_440 : decode cL_law 440 = .ok (.idiv, 1) := by decide +kernel
theorem dL_law_441 : decode cL_law 441 = .ok (.sipush 200, 3) := by decide +kernel
theorem dL_law_444 : decode cL_law 444 = .ok (.irem, 1) := by decide +kernel
theorem dL_law_445 : decode cL_law 445 = .ok (.iadd, 1) := by decide +kernel
theorem dL_law_446 : decode cL_law 446 = .ok (.invokestatic 185, 3) := by decide +kernel
theorem dL_law_449 : decode cL_law 449 = .ok (.istore 15, 2) := by decide +kernel
theorem dL_law_451 : decode cL_law 451 = .ok (.goto 383, 3) := by decide +kernel
theorem dL_law_454 : decode cL_law 454 = .ok (.iload 16, 2) := by decide +kernel
theorem dL_law_456 : decode cL_law 456 = .ok (.bipush 11, 2) := by decide +kernel
theorem dL_law_458 : decode cL_law 458 = .ok (.if_icmp .ge 74, 3) := by decide +kernel
theorem dL_law_461 : decode cL_law 461 = .ok (.aload_n 1, 1) := by decide +kernel
theorem dL_law_462 : decode cL_law 462 = .ok (.iload 10, 2) := by decide +kernel
theorem dL_law_464 : decode cL_law 464 = .ok (.iload 9, 2) := by decide +kernel
theorem dL_law_466 : decode cL_law 466 = .ok (.iconst 5, 1) := by decide +kernel
theorem dL_law_467 : decode cL_law 467 = .ok (.idiv, 1) := by decide +kernel
theorem dL_law_468 : decode cL_law 468 = .ok (.bipush 8, 2) := by decide +kernel
theorem dL_law_470 : decode cL_law 470 = .ok (.irem, 1) := by decide +kernel
theorem dL_law_471 : decode cL_law 471 = .ok (.iload 16, 2) := by decide +kernel
theorem dL_law_473 : decode cL_law 473 = .ok (.bipush 9, 2) := by decide +kernel
theorem dL_law_475 : decode cL_law 475 = .ok (.isub, 1) := by decide +kernel
theorem dL_law_476 : decode cL_law 476 = .ok (.invokestatic 133, 3) := by decide +kernel
theorem dL_law_479 : decode cL_law 479 = .ok (.istore 15, 2) := by decide +kernel
theorem dL_law_481 : decode cL_law 481 = .ok (.iload 15, 2) := by decide +kernel
theorem dL_law_483 : decode cL_law 483 = .ok (.ifCond .lt 351, 3) := by decide +kernel
theorem dL_law_486 : decode cL_law 486 = .ok (.aload_n 1, 1) := by decide +kernel
theorem dL_law_487 : decode cL_law 487 = .ok (.iload 10, 2) := by decide +kernel
theorem dL_law_489 : decode cL_law 489 = .ok (.iload 9, 2) := by decide +kernel
theorem dL_law_491 : decode cL_law 491 = .ok (.iconst 5, 1) := by decide +kernel
theorem dL_law_492 : decode cL_law 492 = .ok (.idiv, 1) := by decide +kernel
theorem dL_law_493 : decode cL_law 493 = .ok (.bipush 8, 2) := by decide +kernel
theorem dL_law_495 : decode cL_law 495 = .ok (.irem, 1) := by decide +kernel
theorem dL_law_496 : decode cL_law 496 = .ok (.iconst 2, 1) := by decide +kernel
theorem dL_law_497 : decode cL_law 497 = .ok (.invokestatic 133, 3) := by decide +kernel
theorem dL_law_500 : decode cL_law 500 = .ok (.iload 9, 2) := by decide +kernel
theorem dL_law_502 : decode cL_law 502 = .ok (.iconst 5, 1) := by decide +kernel
theorem dL_law_503 : decode cL_law 503 = .ok (.idiv, 1) := by decide +kernel
theorem dL_law_504 : decode cL_law 504 = .ok (.bipush 8, 2) := by decide +kernel
theorem dL_law_506 : decode cL_law 506 = .ok (.irem, 1) := by decide +kernel
theorem dL_law_507 : decode cL_law 507 = .ok (.if_icmp .ne 7, 3) := by decide +kernel
theorem dL_law_510 : decode cL_law 510 = .ok (.iconst 1, 1) := by decide +kernel
theorem dL_law_511 : decode cL_law 511 = .ok (.goto 4, 3) := by decide +kernel
theorem dL_law_514 : decode cL_law 514 = .ok (.iconst 0, 1) := by decide +kernel
theorem dL_law_515 : decode cL_law 515 = .ok (.iload 16, 2) := by decide +kernel
theorem dL_law_517 : decode cL_law 517 = .ok (.bipush 10, 2) := by decide +kernel
theorem dL_law_519 : decode cL_law 519 = .ok (.if_icmp .ne 7, 3) := by decide +kernel
theorem dL_law_522 : decode cL_law 522 = .ok (.iconst 1, 1) := by decide +kernel
theorem dL_law_523 : decode cL_law 523 = .ok (.goto 4, 3) := by decide +kernel
theorem dL_law_526 : decode cL_law 526 = .ok (.iconst 0, 1) := by decide +kernel
theorem dL_law_527 : decode cL_law 527 = .ok (.if_icmp .eq 307, 3) := by decide +kernel
theorem dL_law_530 : decode cL_law 530 = .ok (.iconst 0, 1) := by decide +kernel
theorem dL_law_531 : decode cL_law 531 = .ok (.ireturn, 1) := by decide +kernel
theorem dL_law_532 : decode cL_law 532 = .ok (.iload 16, 2) := by decide +kernel
theorem dL_law_534 : decode cL_law 534 = .ok (.bipush 13, 2) := by decide +kernel
theorem dL_law_536 : decode cL_law 536 = .ok (.if_icmp .ge 41, 3) := by decide +kernel
theorem dL_law_539 : decode cL_law 539 = .ok (.aload_n 1, 1) := by decide +kernel
theorem dL_law_540 : decode cL_law 540 = .ok (.bipush 109, 2) := by decide +kernel
theorem dL_law_542 : decode cL_law 542 = .ok (.iload 9, 2) := by decide +kernel
theorem dL_law_544 : decode cL_law 544 = .ok (.iconst 5, 1) := by decide +kernel
theorem dL_law_545 : decode cL_law 545 = .ok (.idiv, 1) := by decide +kernel
theorem dL_law_546 : decode cL_law 546 = .ok (.iconst 1, 1) := by decide +kernel
theorem dL_law_547 : decode cL_law 547 = .ok (.iload 5, 2) := by decide +kernel
theorem dL_law_549 : decode cL_law 549 = .ok (.invokestatic 159, 3) := by decide +kernel
theorem dL_law_552 : decode cL_law 552 = .ok (.irem, 1) := by decide +kernel
theorem dL_law_553 : decode cL_law 553 = .ok (.iload 10, 2) := by decide +kernel
theorem dL_law_555 : decode cL_law 555 = .ok (.invokestatic 188, 3) := by decide +kernel
theorem dL_law_558 : decode cL_law 558 = .ok (.istore 15, 2) := by decide +kernel
theorem dL_law_560 : decode cL_law 560 = .ok (.iload 15, 2) := by decide +kernel
theorem dL_law_562 : decode cL_law 562 = .ok (.iconst (-1), 1) := by decide +kernel
theorem dL_law_563 : decode cL_law 563 = .ok (.if_icmp .ne 7, 3) := by decide +kernel
theorem dL_law_566 : decode cL_law 566 = .ok (.iconst 0, 1) := by decide +kernel
theorem dL_law_567 : decode cL_law 567 = .ok (.goto 5, 3) := by decide +kernel
theorem dL_law_570 : decode cL_law 570 = .ok (.iload 15, 2) := by decide +kernel
theorem dL_law_572 : decode cL_law 572 = .ok (.istore 15, 2) := by decide +kernel
theorem dL_law_574 : decode cL_law 574 = .ok (.goto 260, 3) := by decide +kernel
theorem dL_law_577 : decode cL_law 577 = .ok (.iload 16, 2) := by decide +kernel
theorem dL_law_579 : decode cL_law 579 = .ok (.bipush 15, 2) := by decide +kernel
theorem dL_law_581 : decode cL_law 581 = .ok (.if_icmp .ge 89, 3) := by decide +kernel
theorem dL_law_584 : decode cL_law 584 = .ok (.iload 9, 2) := by decide +kernel
theorem dL_law_586 : decode cL_law 586 = .ok (.bipush 25, 2) := by decide +kernel
theorem dL_law_588 : decode cL_law 588 = .ok (.idiv, 1) := by decide +kernel
theorem dL_law_589 : decode cL_law 589 = .ok (.bipush 51, 2) := by decide +kernel
theorem dL_law_591 : decode cL_law 591 = .ok (.irem, 1) := by decide +kernel
theorem dL_law_592 : decode cL_law 592 = .ok (.istore 17, 2) := by decide +kernel
theorem dL_law_594 : decode cL_law 594 = .ok (.iconst 1, 1) := by decide +kernel
theorem dL_law_595 : decode cL_law 595 = .ok (.iload 9, 2) := by decide +kernel
theorem dL_law_597 : decode cL_law 597 = .ok (.sipush 1275, 3) := by decide +kernel
theorem dL_law_600 : decode cL_law 600 = .ok (.idiv, 1) := by decide +kernel
theorem dL_law_601 : decode cL_law 601 = .ok (.sipush 400, 3) := by decide +kernel
theorem dL_law_604 : decode cL_law 604 = .ok (.irem, 1) := by decide +kernel
theorem dL_law_605 : decode cL_law 605 = .ok (.iadd, 1) := by decide +kernel
theorem dL_law_606 : decode cL_law 606 = .ok (.istore 18, 2) := by decide +kernel
theorem dL_law_608 : decode cL_law 608 = .ok (.aload_n 1, 1) := by decide +kernel
theorem dL_law_609 : decode cL_law 609 = .ok (.iload 10, 2) := by decide +kernel
theorem dL_law_611 : decode cL_law 611 = .ok (.iload 11, 2) := by decide +kernel
theorem dL_law_613 : decode cL_law 613 = .ok (.iload 18, 2) := by decide +kernel
theorem dL_law_615 : decode cL_law 615 = .ok (.iload 17, 2) := by decide +kernel
theorem dL_law_617 : decode cL_law 617 = .ok (.invokestatic 192, 3) := by decide +kernel
theorem dL_law_620 : decode cL_law 620 = .ok (.istore 15, 2) := by decide +kernel
theorem dL_law_622 : decode cL_law 622 = .ok (.iload 15, 2) := by decide +kernel
theorem dL_law_624 : decode cL_law 624 = .ok (.ifCond .lt 43, 3) := by decide +kernel
theorem dL_law_627 : decode cL_law 627 = .ok (.aload_n 2, 1) := by decide +kernel
theorem dL_law_628 : decode cL_law 628 = .ok (.iload 15, 2) := by decide +kernel
theorem dL_law_630 : decode cL_law 630 = .ok (.iload 17, 2) := by decide +kernel
theorem dL_law_632 : decode cL_law 632 = .ok (.iastore, 1) := by decide +kernel
theorem dL_law_633 : decode cL_law 633 = .ok (.aload_n 3, 1) := by decide +kernel
theorem dL_law_634 : decode cL_law 634 = .ok (.iload 15, 2) := by decide +kernel
theorem dL_law_636 : decode cL_law 636 = .ok (.iload 18, 2) := by decide +kernel
theorem dL_law_638 : decode cL_law 638 = .ok (.iastore, 1) := by decide +kernel
theorem dL_law_639 : decode cL_law 639 = .ok (.aload_n 1, 1) := by decide +kernel
theorem dL_law_640 : decode cL_law 640 = .ok (.iload 15, 2) := by decide +kernel
theorem dL_law_642 : decode cL_law 642 = .ok (.iconst 0, 1) := by decide +kernel
theorem dL_law_643 : decode cL_law 643 = .ok (.invokestatic 108, 3) := by decide +kernel
theorem dL_law_646 : decode cL_law 646 = .ok (.iload 18, 2) := by decide +kernel
theorem dL_law_648 : decode cL_law 648 = .ok (.i2l, 1) := by decide +kernel
theorem dL_law_649 : decode cL_law 649 = .ok (.lcmp, 1) := by decide +kernel
theorem dL_law_650 : decode cL_law 650 = .ok (.ifCond .ne 15, 3) := by decide +kernel
theorem dL_law_653 : decode cL_law 653 = .ok (.aload_n 1, 1) := by decide +kernel
theorem dL_law_654 : decode cL_law 654 = .ok (.iload 15, 2) := by decide +kernel
theorem dL_law_656 : decode cL_law 656 = .ok (.iconst 2, 1) := by decide +kernel
theorem dL_law_657 : decode cL_law 657 = .ok (.invokestatic 108, 3) := by decide +kernel
theorem dL_law_660 : decode cL_law 660 = .ok (.lconst 0, 1) := by decide +kernel
theorem dL_law_661 : decode cL_law 661 = .ok (.lcmp, 1) := by decide +kernel
theorem dL_law_662 : decode cL_law 662 = .ok (.ifCond .eq 5, 3) := by decide +kernel
theorem dL_law_665 : decode cL_law 665 = .ok (.iconst 0, 1) := by decide +kernel
theorem dL_law_666 : decode cL_law 666 = .ok (.ireturn, 1) := by decide +kernel
theorem dL_law_667 : decode cL_law 667 = .ok (.goto 167, 3) := by decide +kernel
theorem dL_law_670 : decode cL_law 670 = .ok (.iload 16, 2) := by decide +kernel
theorem dL_law_672 : decode cL_law 672 = .ok (.bipush 19, 2) := by decide +kernel
theorem dL_law_674 : decode cL_law 674 = .ok (.if_icmp .ge 39, 3) := by decide +kernel
theorem dL_law_677 : decode cL_law 677 = .ok (.aload_n 1, 1) := by decide +kernel
theorem dL_law_678 : decode cL_law 678 = .ok (.bipush 114, 2) := by decide +kernel
theorem dL_law_680 : decode cL_law 680 = .ok (.iload 9, 2) := by decide +kernel
theorem dL_law_682 : decode cL_law 682 = .ok (.iconst 5, 1) := by decide +kernel
theorem dL_law_683 : decode cL_law 683 = .ok (.idiv, 1) := by decide +kernel
theorem dL_law_684 : decode cL_law 684 = .ok (.iconst 1, 1) := by decide +kernel
theorem dL_law_685 : decode cL_law 685 = .ok (.iload 5, 2) := by decide +kernel
theorem dL_law_687 : decode cL_law 687 = .ok (.invokestatic 159, 3) := by decide +kernel
theorem dL_law_690 : decode cL_law 690 = .ok (.irem, 1) := by decide +kernel
theorem dL_law_691 : decode cL_law 691 = .ok (.iload 9, 2) := by decide +kernel
theorem dL_law_693 : decode cL_law 693 = .ok (.bipush 15, 2) := by decide +kernel
theorem dL_law_695 : decode cL_law 695 = .ok (.idiv, 1) := by decide +kernel
theorem dL_law_696 : decode cL_law 696 = .ok (.iconst 1, 1) := by decide +kernel
theorem dL_law_697 : decode cL_law 697 = .ok (.aload_n 1, 1) := by decide +kernel
theorem dL_law_698 : decode cL_law 698 = .ok (.invokestatic 137, 3) := by decide +kernel
theorem dL_law_701 : decode cL_law 701 = .ok (.invokestatic 159, 3) := by decide +kernel
theorem dL_law_704 : decode cL_law 704 = .ok (.irem, 1) := by decide +kernel
theorem dL_law_705 : decode cL_law 705 = .ok (.invokestatic 188, 3) := by decide +kernel
theorem dL_law_708 : decode cL_law 708 = .ok (.istore 15, 2) := by decide +kernel
theorem dL_law_710 : decode cL_law 710 = .ok (.goto 124, 3) := by decide +kernel
theorem dL_law_713 : decode cL_law 713 = .ok (.aload_n 1, 1) := by decide +kernel
theorem dL_law_714 : decode cL_law 714 = .ok (.invokevirtual 118, 3) := by decide +kernel
theorem dL_law_717 : decode cL_law 717 = .ok (.istore 17, 2) := by decide +kernel
theorem dL_law_719 : decode cL_law 719 = .ok (.lconst 0, 1) := by decide +kernel
theorem dL_law_720 : decode cL_law 720 = .ok (.lstore 18, 2) := by decide +kernel
theorem dL_law_722 : decode cL_law 722 = .ok (.lconst 0, 1) := by decide +kernel
theorem dL_law_723 : decode cL_law 723 = .ok (.lstore 20, 2) := by decide +kernel
theorem dL_law_725 : decode cL_law 725 = .ok (.aload_n 1, 1) := by decide +kernel
theorem dL_law_726 : decode cL_law 726 = .ok (.invokestatic 137, 3) := by decide +kernel
theorem dL_law_729 : decode cL_law 729 = .ok (.istore 22, 2) := by decide +kernel
theorem dL_law_731 : decode cL_law 731 = .ok (.iconst 0, 1) := by decide +kernel
theorem dL_law_732 : decode cL_law 732 = .ok (.istore 23, 2) := by decide +kernel
theorem dL_law_734 : decode cL_law 734 = .ok (.iload 23, 2) := by decide +kernel
theorem dL_law_736 : decode cL_law 736 = .ok (.iload 22, 2) := by decide +kernel
theorem dL_law_738 : decode cL_law 738 = .ok (.if_icmp .ge 21, 3) := by decide +kernel
theorem dL_law_741 : decode cL_law 741 = .ok (.lload 18, 2) := by decide +kernel
theorem dL_law_743 : decode cL_law 743 = .ok (.aload_n 1, 1) := by decide +kernel
theorem dL_law_744 : decode cL_law 744 = .ok (.iload 23, 2) := by decide +kernel
theorem dL_law_746 : decode cL_law 746 = .ok (.iconst 0, 1) := by decide +kernel
theorem dL_law_747 : decode cL_law 747 = .ok (.invokestatic 108, 3) := by decide +kernel
theorem dL_law_750 : decode cL_law 750 = .ok (.ladd, 1) := by decide +kernel
theorem dL_law_751 : decode cL_law 751 = .ok (.lstore 18, 2) := by decide +kernel
theorem dL_law_753 : decode cL_law 753 = .ok (.iinc 23 1, 3) := by decide +kernel
theorem dL_law_756 : decode cL_law 756 = .ok (.goto (-22), 3) := by decide +kernel
theorem dL_law_759 : decode cL_law 759 = .ok (.aload_n 1, 1) := by decide +kernel
theorem dL_law_760 : decode cL_law 760 = .ok (.iconst 1, 1) := by decide +kernel
theorem dL_law_761 : decode cL_law 761 = .ok (.iload 9, 2) := by decide +kernel
theorem dL_law_763 : decode cL_law 763 = .ok (.iconst 5, 1) := by decide +kernel
theorem dL_law_764 : decode cL_law 764 = .ok (.irem, 1) := by decide +kernel
theorem dL_law_765 : decode cL_law 765 = .ok (.iadd, 1) := by decide +kernel
theorem dL_law_766 : decode cL_law 766 = .ok (.invokestatic 195, 3) := by decide +kernel
theorem dL_law_769 : decode cL_law 769 = .ok (.istore 15, 2) := by decide +kernel
theorem dL_law_771 : decode cL_law 771 = .ok (.iconst 0, 1) := by decide +kernel
theorem dL_law_772 : decode cL_law 772 = .ok (.istore 23, 2) := by decide +kernel
theorem dL_law_774 : decode cL_law 774 = .ok (.iload 23, 2) := by decide +kernel
theorem dL_law_776 : decode cL_law 776 = .ok (.iload 22, 2) := by decide +kernel
theorem dL_law_778 : decode cL_law 778 = .ok (.if_icmp .ge 21, 3) := by decide +kernel
theorem dL_law_781 : decode cL_law 781 = .ok (.lload 20, 2) := by decide +kernel
theorem dL_law_783 : decode cL_law 783 = .ok (.aload_n 1, 1) := by decide +kernel
theorem dL_law_784 : decode cL_law 784 = .ok (.iload 23, 2) := by decide +kernel
theorem dL_law_786 : decode cL_law 786 = .ok (.iconst 0, 1) := by decide +kernel
theorem dL_law_787 : decode cL_law 787 = .ok (.invokestatic 108, 3) := by decide +kernel
theorem dL_law_790 : decode cL_law 790 = .ok (.ladd, 1) := by decide +kernel
theorem dL_law_791 : decode cL_law 791 = .ok (.lstore 20, 2) := by decide +kernel
theorem dL_law_793 : decode cL_law 793 = .ok (.iinc 23 1, 3) := by decide +kernel
theorem dL_law_796 : decode cL_law 796 = .ok (.goto (-22), 3) := by decide +kernel
theorem dL_law_799 : decode cL_law 799 = .ok (.iload 15, 2) := by decide +kernel
theorem dL_law_801 : decode cL_law 801 = .ok (.ifCond .lt 33, 3) := by decide +kernel
theorem dL_law_804 : decode cL_law 804 = .ok (.aload_n 1, 1) := by decide +kernel
theorem dL_law_805 : decode cL_law 805 = .ok (.invokevirtual 118, 3) := by decide +kernel
theorem dL_law_808 : decode cL_law 808 = .ok (.iload 17, 2) := by decide +kernel
theorem dL_law_810 : decode cL_law 810 = .ok (.iconst 1, 1) := by decide +kernel
theorem dL_law_811 : decode cL_law 811 = .ok (.iadd, 1) := by decide +kernel
theorem dL_law_812 : decode cL_law 812 = .ok (.iload 9, 2) := by decide +kernel
theorem dL_law_814 : decode cL_law 814 = .ok (.iconst 5, 1) := by decide +kernel
theorem dL_law_815 : decode cL_law 815 = .ok (.irem, 1) := by decide +kernel
theorem dL_law_816 : decode cL_law 816 = .ok (.iadd, 1) := by decide +kernel
theorem dL_law_817 : decode cL_law 817 = .ok (.if_icmp .ne 15, 3) := by decide +kernel
theorem dL_law_820 : decode cL_law 820 = .ok (.lload 18, 2) := by decide +kernel
theorem dL_law_822 : decode cL_law 822 = .ok (.lload 20, 2) := by decide +kernel
theorem dL_law_824 : decode cL_law 824 = .ok (.lsub, 1) := by decide +kernel
theorem dL_law_825 : decode cL_law 825 = .ok (.iload 15, 2) := by decide +kernel
theorem dL_law_827 : decode cL_law 827 = .ok (.i2l, 1) := by decide +kernel
theorem dL_law_828 : decode cL_law 828 = .ok (.lcmp, 1) := by decide +kernel
theorem dL_law_829 : decode cL_law 829 = .ok (.ifCond .eq 5, 3) := by decide +kernel
theorem dL_law_832 : decode cL_law 832 = .ok (.iconst 0, 1) := by decide +kernel
theorem dL_law_833 : decode cL_law 833 = .ok (.ireturn, 1) := by decide +kernel
theorem dL_law_834 : decode cL_law 834 = .ok (.iload 15, 2) := by decide +kernel
theorem dL_law_836 : decode cL_law 836 = .ok (.sipush (-1000), 3) := by decide +kernel
theorem dL_law_839 : decode cL_law 839 = .ok (.if_icmp .ge 18, 3) := by decide +kernel
theorem dL_law_842 : decode cL_law 842 = .ok (.iload 12, 2) := by decide +kernel
theorem dL_law_844 : decode cL_law 844 = .ok (.ifCond .eq 13, 3) := by decide +kernel
theorem dL_law_847 : decode cL_law 847 = .ok (.aload_n 1, 1) := by decide +kernel
theorem dL_law_848 : decode cL_law 848 = .ok (.invokestatic 167, 3) := by decide +kernel
theorem dL_law_851 : decode cL_law 851 = .ok (.lload 13, 2) := by decide +kernel
theorem dL_law_853 : decode cL_law 853 = .ok (.lcmp, 1) := by decide +kernel
theorem dL_law_854 : decode cL_law 854 = .ok (.ifCond .ne 22, 3) := by decide +kernel
theorem dL_law_857 : decode cL_law 857 = .ok (.iload 7, 2) := by decide +kernel
theorem dL_law_859 : decode cL_law 859 = .ok (.bipush 7, 2) := by decide +kernel
theorem dL_law_861 : decode cL_law 861 = .ok (.irem, 1) := by decide +kernel
theorem dL_law_862 : decode cL_law 862 = .ok (.bipush 6, 2) := by decide +kernel
theorem dL_law_864 : decode cL_law 864 = .ok (.if_icmp .ne 14, 3) := by decide +kernel
theorem dL_law_867 : decode cL_law 867 = .ok (.aload_n 1, 1) := by decide +kernel
theorem dL_law_868 : decode cL_law 868 = .ok (.aload_n 2, 1) := by decide +kernel
theorem dL_law_869 : decode cL_law 869 = .ok (.aload_n 3, 1) := by decide +kernel
theorem dL_law_870 : decode cL_law 870 = .ok (.invokestatic 197, 3) := by decide +kernel
theorem dL_law_873 : decode cL_law 873 = .ok (.ifCond .ne 5, 3) := by decide +kernel
theorem dL_law_876 : decode cL_law 876 = .ok (.iconst 0, 1) := by decide +kernel
theorem dL_law_877 : decode cL_law 877 = .ok (.ireturn, 1) := by decide +kernel
theorem dL_law_878 : decode cL_law 878 = .ok (.iinc 7 1, 3) := by decide +kernel
theorem dL_law_881 : decode cL_law 881 = .ok (.goto (-842), 3) := by decide +kernel
theorem dL_law_884 : decode cL_law 884 = .ok (.aload_n 1, 1) := by decide +kernel
theorem dL_law_885 : decode cL_law 885 = .ok (.aload_n 2, 1) := by decide +kernel
theorem dL_law_886 : decode cL_law 886 = .ok (.aload_n 3, 1) := by decide +kernel
theorem dL_law_887 : decode cL_law 887 = .ok (.invokestatic 197, 3) := by decide +kernel
theorem dL_law_890 : decode cL_law 890 = .ok (.ifCond .ne 5, 3) := by decide +kernel
theorem dL_law_893 : decode cL_law 893 = .ok (.iconst 0, 1) := by decide +kernel
theorem dL_law_894 : decode cL_law 894 = .ok (.ireturn, 1) := by decide +kernel
theorem dL_law_895 : decode cL_law 895 = .ok (.aload_n 1, 1) := by decide +kernel
theorem dL_law_896 : decode cL_law 896 = .ok (.invokestatic 167, 3) := by decide +kernel
theorem dL_law_899 : decode cL_law 899 = .ok (.lstore 7, 2) := by decide +kernel
theorem dL_law_901 : decode cL_law 901 = .ok (.bipush 10, 2) := by decide +kernel
theorem dL_law_903 : decode cL_law 903 = .ok (.anewarray 201, 3) := by decide +kernel
theorem dL_law_906 : decode cL_law 906 = .ok (.dup, 1) := by decide +kernel
theorem dL_law_907 : decode cL_law 907 = .ok (.iconst 0, 1) := by decide +kernel
theorem dL_law_908 : decode cL_law 908 = .ok (.iconst 5, 1) := by decide +kernel
theorem dL_law_909 : decode cL_law 909 = .ok (.newarray .int, 2) := by decide +kernel
theorem dL_law_911 : decode cL_law 911 = .ok (.dup, 1) := by decide +kernel
theorem dL_law_912 : decode cL_law 912 = .ok (.iconst 0, 1) := by decide +kernel
theorem dL_law_913 : decode cL_law 913 = .ok (.iconst 0, 1) := by decide +kernel
theorem dL_law_914 : decode cL_law 914 = .ok (.iastore, 1) := by decide +kernel
theorem dL_law_915 : decode cL_law 915 = .ok (.dup, 1) := by decide +kernel
theorem dL_law_916 : decode cL_law 916 = .ok (.iconst 1, 1) := by decide +kernel
theorem dL_law_917 : decode cL_law 917 = .ok (.iconst 1, 1) := by decide +kernel
theorem dL_law_918 : decode cL_law 918 = .ok (.iastore, 1) := by decide +kernel
theorem dL_law_919 : decode cL_law 919 = .ok (.dup, 1) := by decide +kernel
theorem dL_law_920 : decode cL_law 920 = .ok (.iconst 2, 1) := by decide +kernel
theorem dL_law_921 : decode cL_law 921 = .ok (.iconst 0, 1) := by decide +kernel
theorem dL_law_922 : decode cL_law 922 = .ok (.iastore, 1) := by decide +kernel
theorem dL_law_923 : decode cL_law 923 = .ok (.dup, 1) := by decide +kernel
theorem dL_law_924 : decode cL_law 924 = .ok (.iconst 3, 1) := by decide +kernel
theorem dL_law_925 : decode cL_law 925 = .ok (.iconst 1, 1) := by decide +kernel
theorem dL_law_926 : decode cL_law 926 = .ok (.iastore, 1) := by decide +kernel
theorem dL_law_927 : decode cL_law 927 = .ok (.dup, 1) := by decide +kernel
theorem dL_law_928 : decode cL_law 928 = .ok (.iconst 4, 1) := by decide +kernel
theorem dL_law_929 : decode cL_law 929 = .ok (.bipush 60, 2) := by decide +kernel
theorem dL_law_931 : decode cL_law 931 = .ok (.iastore, 1) := by decide +kernel
theorem dL_law_932 : decode cL_law 932 = .ok (.aastore, 1) := by decide +kernel
theorem dL_law_933 : decode cL_law 933 = .ok (.dup, 1) := by decide +kernel
theorem dL_law_934 : decode cL_law 934 = .ok (.iconst 1, 1) := by decide +kernel
theorem dL_law_935 : decode cL_law 935 = .ok (.iconst 5, 1) := by decide +kernel
theorem dL_law_936 : decode cL_law 936 = .ok (.newarray .int, 2) := by decide +kernel
theorem dL_law_938 : decode cL_law 938 = .ok (.dup, 1) := by decide +kernel
theorem dL_law_939 : decode cL_law 939 = .ok (.iconst 0, 1) := by decide +kernel
theorem dL_law_940 : decode cL_law 940 = .ok (.bipush 9, 2) := by decide +kernel
theorem dL_law_942 : decode cL_law 942 = .ok (.iastore, 1) := by decide +kernel
theorem dL_law_943 : decode cL_law 943 = .ok (.dup, 1) := by decide +kernel
theorem dL_law_944 : decode cL_law 944 = .ok (.iconst 1, 1) := by decide +kernel
theorem dL_law_945 : decode cL_law 945 = .ok (.iconst 1, 1) := by decide +kernel
theorem dL_law_946 : decode cL_law 946 = .ok (.iastore, 1) := by decide +kernel
theorem dL_law_947 : decode cL_law 947 = .ok (.dup, 1) := by decide +kernel
theorem dL_law_948 : decode cL_law 948 = .ok (.iconst 2, 1) := by decide +kernel
theorem dL_law_949 : decode cL_law 949 = .ok (.iconst 0, 1) := by decide +kernel
theorem dL_law_950 : decode cL_law 950 = .ok (.iastore, 1) := by decide +kernel
theorem dL_law_951 : decode cL_law 951 = .ok (.dup, 1) := by decide +kernel
theorem dL_law_952 : decode cL_law 952 = .ok (.iconst 3, 1) := by decide +kernel
theorem dL_law_953 : decode cL_law 953 = .ok (.iconst 1, 1) := by decide +kernel
theorem dL_law_954 : decode cL_law 954 = .ok (.iastore, 1) := by decide +kernel
theorem dL_law_955 : decode cL_law 955 = .ok (.dup, 1) := by decide +kernel
theorem dL_law_956 : decode cL_law 956 = .ok (.iconst 4, 1) := by decide +kernel
theorem dL_law_957 : decode cL_law 957 = .ok (.bipush 60, 2) := by decide +kernel
theorem dL_law_959 : decode cL_law 959 = .ok (.iastore, 1) := by decide +kernel
theorem dL_law_960 : decode cL_law 960 = .ok (.aastore, 1) := by decide +kernel
theorem dL_law_961 : decode cL_law 961 = .ok (.dup, 1) := by decide +kernel
theorem dL_law_962 : decode cL_law 962 = .ok (.iconst 2, 1) := by decide +kernel
theorem dL_law_963 : decode cL_law 963 = .ok (.iconst 5, 1) := by decide +kernel
theorem dL_law_964 : decode cL_law 964 = .ok (.newarray .int, 2) := by decide +kernel
theorem dL_law_966 : decode cL_law 966 = .ok (.dup, 1) := by decide +kernel
theorem dL_law_967 : decode cL_law 967 = .ok (.iconst 0, 1) := by decide +kernel
theorem dL_law_968 : decode cL_law 968 = .ok (.iconst 1, 1) := by decide +kernel
theorem dL_law_969 : decode cL_law 969 = .ok (.iastore, 1) := by decide +kernel
theorem dL_law_970 : decode cL_law 970 = .ok (.dup, 1) := by decide +kernel
theorem dL_law_971 : decode cL_law 971 = .ok (.iconst 1, 1) := by decide +kernel
theorem dL_law_972 : decode cL_law 972 = .ok (.iconst 0, 1) := by decide +kernel
theorem dL_law_973 : decode cL_law 973 = .ok (.iastore, 1) := by decide +kernel
theorem dL_law_974 : decode cL_law 974 = .ok (.dup, 1) := by decide +kernel
theorem dL_law_975 : decode cL_law 975 = .ok (.iconst 2, 1) := by decide +kernel
theorem dL_law_976 : decode cL_law 976 = .ok (.iconst 0, 1) := by decide +kernel
theorem dL_law_977 : decode cL_law 977 = .ok (.iastore, 1) := by decide +kernel
theorem dL_law_978 : decode cL_law 978 = .ok (.dup, 1) := by decide +kernel
theorem dL_law_979 : decode cL_law 979 = .ok (.iconst 3, 1) := by decide +kernel
theorem dL_law_980 : decode cL_law 980 = .ok (.iconst 1, 1) := by decide +kernel
theorem dL_law_981 : decode cL_law 981 = .ok (.iastore, 1) := by decide +kernel
theorem dL_law_982 : decode cL_law 982 = .ok (.dup, 1) := by decide +kernel
theorem dL_law_983 : decode cL_law 983 = .ok (.iconst 4, 1) := by decide +kernel
theorem dL_law_984 : decode cL_law 984 = .ok (.bipush 60, 2) := by decide +kernel
theorem dL_law_986 : decode cL_law 986 = .ok (.iastore, 1) := by decide +kernel
theorem dL_law_987 : decode cL_law 987 = .ok (.aastore, 1) := by decide +kernel
theorem dL_law_988 : decode cL_law 988 = .ok (.dup, 1) := by decide +kernel
theorem dL_law_989 : decode cL_law 989 = .ok (.iconst 3, 1) := by decide +kernel
theorem dL_law_990 : decode cL_law 990 = .ok (.iconst 5, 1) := by decide +kernel
theorem dL_law_991 : decode cL_law 991 = .ok (.newarray .int, 2) := by decide +kernel
theorem dL_law_993 : decode cL_law 993 = .ok (.dup, 1) := by decide +kernel
theorem dL_law_994 : decode cL_law 994 = .ok (.iconst 0, 1) := by decide +kernel
theorem dL_law_995 : decode cL_law 995 = .ok (.iconst 1, 1) := by decide +kernel
theorem dL_law_996 : decode cL_law 996 = .ok (.iastore, 1) := by decide +kernel
theorem dL_law_997 : decode cL_law 997 = .ok (.dup, 1) := by decide +kernel
theorem dL_law_998 : decode cL_law 998 = .ok (.iconst 1, 1) := by decide +kernel
theorem dL_law_999 : decode cL_law 999 = .ok (.sipush 201, 3) := by decide +kernel
theorem dL_law_1002 : decode cL_law 1002 = .ok (.iastore, 1) := by decide +kernel
theorem dL_law_1003 : decode cL_law 1003 = .ok (.dup, 1) := by decide +kernel
theorem dL_law_1004 : decode cL_law 1004 = .ok (.iconst 2, 1) := by decide +kernel
theorem dL_law_1005 : decode cL_law 1005 = .ok (.iconst 0, 1) := by decide +kernel
theorem dL_law_1006 : decode cL_law 1006 = .ok (.iastore, 1) := by decide +kernel
theorem dL_law_1007 : decode cL_law 1007 = .ok (.dup, 1) := by decide +kernel
theorem dL_law_1008 : decode cL_law 1008 = .ok (.iconst 3, 1) := by decide +kernel
theorem dL_law_1009 : decode cL_law 1009 = .ok (.iconst 1, 1) := by decide +kernel
theorem dL_law_1010 : decode cL_law 1010 = .ok (.iastore, 1) := by decide +kernel
theorem dL_law_1011 : decode cL_law 1011 = .ok (.dup, 1) := by decide +kernel
theorem dL_law_1012 : decode cL_law 1012 = .ok (.iconst 4, 1) := by decide +kernel
theorem dL_law_1013 : decode cL_law 1013 = .ok (.bipush 60, 2) := by decide +kernel
theorem dL_law_1015 : decode cL_law 1015 = .ok (.iastore, 1) := by decide +kernel
theorem dL_law_1016 : decode cL_law 1016 = .ok (.aastore, 1) := by decide +kernel
theorem dL_law_1017 : decode cL_law 1017 = .ok (.dup, 1) := by decide +kernel
theorem dL_law_1018 : decode cL_law 1018 = .ok (.iconst 4, 1) := by decide +kernel
theorem dL_law_1019 : decode cL_law 1019 = .ok (.iconst 5, 1) := by decide +kernel
theorem dL_law_1020 : decode cL_law 1020 = .ok (.newarray .int, 2) := by decide +kernel
theorem dL_law_1022 : decode cL_law 1022 = .ok (.dup, 1) := by decide +kernel
theorem dL_law_1023 : decode cL_law 1023 = .ok (.iconst 0, 1) := by decide +kernel
theorem dL_law_1024 : decode cL_law 1024 = .ok (.iconst 1, 1) := by decide +kernel
theorem dL_law_1025 : decode cL_law 1025 = .ok (.iastore, 1) := by decide +kernel
theorem dL_law_1026 : decode cL_law 1026 = .ok (.dup, 1) := by decide +kernel
theorem dL_law_1027 : decode cL_law 1027 = .ok (.iconst 1, 1) := by decide +kernel
theorem dL_law_1028 : decode cL_law 1028 = .ok (.iconst 1, 1) := by decide +kernel
theorem dL_law_1029 : decode cL_law 1029 = .ok (.iastore, 1) := by decide +kernel
theorem dL_law_1030 : decode cL_law 1030 = .ok (.dup, 1) := by decide +kernel
theorem dL_law_1031 : decode cL_law 1031 = .ok (.iconst 2, 1) := by decide +kernel
theorem dL_law_1032 : decode cL_law 1032 = .ok (.iconst (-1), 1) := by decide +kernel
theorem dL_law_1033 : decode cL_law 1033 = .ok (.iastore, 1) := by decide +kernel
theorem dL_law_1034 : decode cL_law 1034 = .ok (.dup, 1) := by decide +kernel
theorem dL_law_1035 : decode cL_law 1035 = .ok (.iconst 3, 1) := by decide +kernel
theorem dL_law_1036 : decode cL_law 1036 = .ok (.iconst 1, 1) := by decide +kernel
theorem dL_law_1037 : decode cL_law 1037 = .ok (.iastore, 1) := by decide +kernel
theorem dL_law_1038 : decode cL_law 1038 = .ok (.dup, 1) := by decide +kernel
theorem dL_law_1039 : decode cL_law 1039 = .ok (.iconst 4, 1) := by decide +kernel
theorem dL_law_1040 : decode cL_law 1040 = .ok (.bipush 60, 2) := by decide +kernel
theorem dL_law_1042 : decode cL_law 1042 = .ok (.iastore, 1) := by decide +kernel
theorem dL_law_1043 : decode cL_law 1043 = .ok (.aastore, 1) := by decide +kernel
theorem dL_law_1044 : decode cL_law 1044 = .ok (.dup, 1) := by decide +kernel
theorem dL_law_1045 : decode cL_law 1045 = .ok (.iconst 5, 1) := by decide +kernel
theorem dL_law_1046 : decode cL_law 1046 = .ok (.iconst 5, 1) := by decide +kernel
theorem dL_law_1047 : decode cL_law 1047 = .ok (.newarray .int, 2) := by decide +kernel
theorem dL_law_1049 : decode cL_law 1049 = .ok (.dup, 1) := by decide +kernel
theorem dL_law_1050 : decode cL_law 1050 = .ok (.iconst 0, 1) := by decide +kernel
theorem dL_law_1051 : decode cL_law 1051 = .ok (.iconst 1, 1) := by decide +kernel
theorem dL_law_1052 : decode cL_law 1052 = .ok (.iastore, 1) := by decide +kernel
theorem dL_law_1053 : decode cL_law 1053 = .ok (.dup, 1) := by decide +kernel
theorem dL_law_1054 : decode cL_law 1054 = .ok (.iconst 1, 1) := by decide +kernel
theorem dL_law_1055 : decode cL_law 1055 = .ok (.iconst 1, 1) := by decide +kernel
theorem dL_law_1056 : decode cL_law 1056 = .ok (.iastore, 1) := by decide +kernel
theorem dL_law_1057 : decode cL_law 1057 = .ok (.dup, 1) := by decide +kernel
theorem dL_law_1058 : decode cL_law 1058 = .ok (.iconst 2, 1) := by decide +kernel
theorem dL_law_1059 : decode cL_law 1059 = .ok (.sipush 201, 3) := by decide +kernel
theorem dL_law_1062 : decode cL_law 1062 = .ok (.iastore, 1) := by decide +kernel
theorem dL_law_1063 : decode cL_law 1063 = .ok (.dup, 1) := by decide +kernel
theorem dL_law_1064 : decode cL_law 1064 = .ok (.iconst 3, 1) := by decide +kernel
theorem dL_law_1065 : decode cL_law 1065 = .ok (.iconst 1, 1) := by decide +kernel
theorem dL_law_1066 : decode cL_law 1066 = .ok (.iastore, 1) := by decide +kernel
theorem dL_law_1067 : decode cL_law 1067 = .ok (.dup, 1) := by decide +kernel
theorem dL_law_1068 : decode cL_law 1068 = .ok (.iconst 4, 1) := by decide +kernel
theorem dL_law_1069 : decode cL_law 1069 = .ok (.bipush 60, 2) := by decide +kernel
theorem dL_law_1071 : decode cL_law 1071 = .ok (.iastore, 1) := by decide +kernel
theorem dL_law_1072 : decode cL_law 1072 = .ok (.aastore, 1) := by decide +kernel
theorem dL_law_1073 : decode cL_law 1073 = .ok (.dup, 1) := by decide +kernel
theorem dL_law_1074 : decode cL_law 1074 = .ok (.bipush 6, 2) := by decide +kernel
theorem dL_law_1076 : decode cL_law 1076 = .ok (.iconst 5, 1) := by decide +kernel
theorem dL_law_1077 : decode cL_law 1077 = .ok (.newarray .int, 2) := by decide +kernel
theorem dL_law_1079 : decode cL_law 1079 = .ok (.dup, 1) := by decide +kernel
theorem dL_law_1080 : decode cL_law 1080 = .ok (.iconst 0, 1) := by decide +kernel
theorem dL_law_1081 : decode cL_law 1081 = .ok (.iconst 1, 1) := by decide +kernel
theorem dL_law_1082 : decode cL_law 1082 = .ok (.iastore, 1) := by decide +kernel
theorem dL_law_1083 : decode cL_law 1083 = .ok (.dup, 1) := by decide +kernel
theorem dL_law_1084 : decode cL_law 1084 = .ok (.iconst 1, 1) := by decide +kernel
theorem dL_law_1085 : decode cL_law 1085 = .ok (.iconst 1, 1) := by decide +kernel
theorem dL_law_1086 : decode cL_law 1086 = .ok (.iastore, 1) := by decide +kernel
theorem dL_law_1087 : decode cL_law 1087 = .ok (.dup, 1) := by decide +kernel
theorem dL_law_1088 : decode cL_law 1088 = .ok (.iconst 2, 1) := by decide +kernel
theorem dL_law_1089 : decode cL_law 1089 = .ok (.iconst 0, 1) := by decide +kernel
theorem dL_law_1090 : decode cL_law 1090 = .ok (.iastore, 1) := by decide +kernel
theorem dL_law_1091 : decode cL_law 1091 = .ok (.dup, 1) := by decide +kernel
theorem dL_law_1092 : decode cL_law 1092 = .ok (.iconst 3, 1) := by decide +kernel
theorem dL_law_1093 : decode cL_law 1093 = .ok (.iconst 0, 1) := by decide +kernel
theorem dL_law_1094 : decode cL_law 1094 = .ok (.iastore, 1) := by decide +kernel
theorem dL_law_1095 : decode cL_law 1095 = .ok (.dup, 1) := by decide +kernel
theorem dL_law_1096 : decode cL_law 1096 = .ok (.iconst 4, 1) := by decide +kernel
theorem dL_law_1097 : decode cL_law 1097 = .ok (.bipush 60, 2) := by decide +kernel
theorem dL_law_1099 : decode cL_law 1099 = .ok (.iastore, 1) := by decide +kernel
theorem dL_law_1100 : decode cL_law 1100 = .ok (.aastore, 1) := by decide +kernel
theorem dL_law_1101 : decode cL_law 1101 = .ok (.dup, 1) := by decide +kernel
theorem dL_law_1102 : decode cL_law 1102 = .ok (.bipush 7, 2) := by decide +kernel
theorem dL_law_1104 : decode cL_law 1104 = .ok (.iconst 5, 1) := by decide +kernel
theorem dL_law_1105 : decode cL_law 1105 = .ok (.newarray .int, 2) := by decide +kernel
theorem dL_law_1107 : decode cL_law 1107 = .ok (.dup, 1) := by decide +kernel
theorem dL_law_1108 : decode cL_law 1108 = .ok (.iconst 0, 1) := by decide +kernel
theorem dL_law_1109 : decode cL_law 1109 = .ok (.iconst 1, 1) := by decide +kernel
theorem dL_law_1110 : decode cL_law 1110 = .ok (.iastore, 1) := by decide +kernel
theorem dL_law_1111 : decode cL_law 1111 = .ok (.dup, 1) := by decide +kernel
theorem dL_law_1112 : decode cL_law 1112 = .ok (.iconst 1, 1) := by decide +kernel
theorem dL_law_1113 : decode cL_law 1113 = .ok (.iconst 1, 1) := by decide +kernel
theorem dL_law_1114 : decode cL_law 1114 = .ok (.iastore, 1) := by decide +kernel
theorem dL_law_1115 : decode cL_law 1115 = .ok (.dup, 1) := by decide +kernel
theorem dL_law_1116 : decode cL_law 1116 = .ok (.iconst 2, 1) := by decide +kernel
theorem dL_law_1117 : decode cL_law 1117 = .ok (.iconst 0, 1) := by decide +kernel
theorem dL_law_1118 : decode cL_law 1118 = .ok (.iastore, 1) := by decide +kernel
theorem dL_law_1119 : decode cL_law 1119 = .ok (.dup, 1) := by decide +kernel
theorem dL_law_1120 : decode cL_law 1120 = .ok (.iconst 3, 1) := by decide +kernel
theorem dL_law_1121 : decode cL_law 1121 = .ok (.sipush 1000, 3) := by decide +kernel
theorem dL_law_1124 : decode cL_law 1124 = .ok (.iastore, 1) := by decide +kernel
theorem dL_law_1125 : decode cL_law 1125 = .ok (.dup, 1) := by decide +kernel
theorem dL_law_1126 : decode cL_law 1126 = .ok (.iconst 4, 1) := by decide +kernel
theorem dL_law_1127 : decode cL_law 1127 = .ok (.bipush 60, 2) := by decide +kernel
theorem dL_law_1129 : decode cL_law 1129 = .ok (.iastore, 1) := by decide +kernel
theorem dL_law_1130 : decode cL_law 1130 = .ok (.aastore, 1) := by decide +kernel
theorem dL_law_1131 : decode cL_law 1131 = .ok (.dup, 1) := by decide +kernel
theorem dL_law_1132 : decode cL_law 1132 = .ok (.bipush 8, 2) := by decide +kernel
theorem dL_law_1134 : decode cL_law 1134 = .ok (.iconst 5, 1) := by decide +kernel
theorem dL_law_1135 : decode cL_law 1135 = .ok (.newarray .int, 2) := by decide +kernel
theorem dL_law_1137 : decode cL_law 1137 = .ok (.dup, 1) := by decide +kernel
theorem dL_law_1138 : decode cL_law 1138 = .ok (.iconst 0, 1) := by decide +kernel
theorem dL_law_1139 : decode cL_law 1139 = .ok (.iconst 1, 1) := by decide +kernel
theorem dL_law_1140 : decode cL_law 1140 = .ok (.iastore, 1) := by decide +kernel
theorem dL_law_1141 : decode cL_law 1141 = .ok (.dup, 1) := by decide +kernel
theorem dL_law_1142 : decode cL_law 1142 = .ok (.iconst 1, 1) := by decide +kernel
theorem dL_law_1143 : decode cL_law 1143 = .ok (.iconst 1, 1) := by decide +kernel
theorem dL_law_1144 : decode cL_law 1144 = .ok (.iastore, 1) := by decide +kernel
theorem dL_law_1145 : decode cL_law 1145 = .ok (.dup, 1) := by decide +kernel
theorem dL_law_1146 : decode cL_law 1146 = .ok (.iconst 2, 1) := by decide +kernel
theorem dL_law_1147 : decode cL_law 1147 = .ok (.iconst 0, 1) := by decide +kernel
theorem dL_law_1148 : decode cL_law 1148 = .ok (.iastore, 1) := by decide +kernel
theorem dL_law_1149 : decode cL_law 1149 = .ok (.dup, 1) := by decide +kernel
theorem dL_law_1150 : decode cL_law 1150 = .ok (.iconst 3, 1) := by decide +kernel
theorem dL_law_1151 : decode cL_law 1151 = .ok (.iconst 1, 1) := by decide +kernel
theorem dL_law_1152 : decode cL_law 1152 = .ok (.iastore, 1) := by decide +kernel
theorem dL_law_1153 : decode cL_law 1153 = .ok (.dup, 1) := by decide +kernel
theorem dL_law_1154 : decode cL_law 1154 = .ok (.iconst 4, 1) := by decide +kernel
theorem dL_law_1155 : decode cL_law 1155 = .ok (.bipush 59, 2) := by decide +kernel
theorem dL_law_1157 : decode cL_law 1157 = .ok (.iastore, 1) := by decide +kernel
theorem dL_law_1158 : decode cL_law 1158 = .ok (.aastore, 1) := by decide +kernel
theorem dL_law_1159 : decode cL_law 1159 = .ok (.dup, 1) := by decide +kernel
theorem dL_law_1160 : decode cL_law 1160 = .ok (.bipush 9, 2) := by decide +kernel
theorem dL_law_1162 : decode cL_law 1162 = .ok (.iconst 5, 1) := by decide +kernel
theorem dL_law_1163 : decode cL_law 1163 = .ok (.newarray .int, 2) := by decide +kernel
theorem dL_law_1165 : decode cL_law 1165 = .ok (.dup, 1) := by decide +kernel
theorem dL_law_1166 : decode cL_law 1166 = .ok (.iconst 0, 1) := by decide +kernel
theorem dL_law_1167 : decode cL_law 1167 = .ok (.iconst 1, 1) := by decide +kernel
theorem dL_law_1168 : decode cL_law 1168 = .ok (.iastore, 1) := by decide +kernel
theorem dL_law_1169 : decode cL_law 1169 = .ok (.dup, 1) := by decide +kernel
theorem dL_law_1170 : decode cL_law 1170 = .ok (.iconst 1, 1) := by decide +kernel
theorem dL_law_1171 : decode cL_law 1171 = .ok (.iconst 1, 1) := by decide +kernel
theorem dL_law_1172 : decode cL_law 1172 = .ok (.iastore, 1) := by decide +kernel
theorem dL_law_1173 : decode cL_law 1173 = .ok (.dup, 1) := by decide +kernel
theorem dL_law_1174 : decode cL_law 1174 = .ok (.iconst 2, 1) := by decide +kernel
theorem dL_law_1175 : decode cL_law 1175 = .ok (.iconst 0, 1) := by decide +kernel
theorem dL_law_1176 : decode cL_law 1176 = .ok (.iastore, 1) := by decide +kernel
theorem dL_law_1177 : decode cL_law 1177 = .ok (.dup, 1) := by decide +kernel
theorem dL_law_1178 : decode cL_law 1178 = .ok (.iconst 3, 1) := by decide +kernel
theorem dL_law_1179 : decode cL_law 1179 = .ok (.iconst 1, 1) := by decide +kernel
theorem dL_law_1180 : decode cL_law 1180 = .ok (.iastore, 1) := by decide +kernel
theorem dL_law_1181 : decode cL_law 1181 = .ok (.dup, 1) := by decide +kernel
theorem dL_law_1182 : decode cL_law 1182 = .ok (.iconst 4, 1) := by decide +kernel
theorem dL_law_1183 : decode cL_law 1183 = .ok (.sipush 3601, 3) := by decide +kernel
theorem dL_law_1186 : decode cL_law 1186 = .ok (.iastore, 1) := by decide +kernel
theorem dL_law_1187 : decode cL_law 1187 = .ok (.aastore, 1) := by decide +kernel
theorem dL_law_1188 : decode cL_law 1188 = .ok (.astore 9, 2) := by decide +kernel
theorem dL_law_1190 : decode cL_law 1190 = .ok (.aload 9, 2) := by decide +kernel
theorem dL_law_1192 : decode cL_law 1192 = .ok (.astore 10, 2) := by decide +kernel
theorem dL_law_1194 : decode cL_law 1194 = .ok (.aload 10, 2) := by decide +kernel
theorem dL_law_1196 : decode cL_law 1196 = .ok (.arraylength, 1) := by decide +kernel
theorem dL_law_1197 : decode cL_law 1197 = .ok (.istore 11, 2) := by decide +kernel
theorem dL_law_1199 : decode cL_law 1199 = .ok (.iconst 0, 1) := by decide +kernel
theorem dL_law_1200 : decode cL_law 1200 = .ok (.istore 12, 2) := by decide +kernel
theorem dL_law_1202 : decode cL_law 1202 = .ok (.iload 12, 2) := by decide +kernel
theorem dL_law_1204 : decode cL_law 1204 = .ok (.iload 11, 2) := by decide +kernel
theorem dL_law_1206 : decode cL_law 1206 = .ok (.if_icmp .ge 30, 3) := by decide +kernel
theorem dL_law_1209 : decode cL_law 1209 = .ok (.aload 10, 2) := by decide +kernel
theorem dL_law_1211 : decode cL_law 1211 = .ok (.iload 12, 2) := by decide +kernel
theorem dL_law_1213 : decode cL_law 1213 = .ok (.aaload, 1) := by decide +kernel
theorem dL_law_1214 : decode cL_law 1214 = .ok (.astore 13, 2) := by decide +kernel
theorem dL_law_1216 : decode cL_law 1216 = .ok (.aload_n 1, 1) := by decide +kernel
theorem dL_law_1217 : decode cL_law 1217 = .ok (.aload 13, 2) := by decide +kernel
theorem dL_law_1219 : decode cL_law 1219 = .ok (.invokestatic 178, 3) := by decide +kernel
theorem dL_law_1222 : decode cL_law 1222 = .ok (.sipush (-1001), 3) := by decide +kernel
theorem dL_law_1225 : decode cL_law 1225 = .ok (.if_icmp .eq 5, 3) := by decide +kernel
theorem dL_law_1228 : decode cL_law 1228 = .ok (.iconst 0, 1) := by decide +kernel
theorem dL_law_1229 : decode cL_law 1229 = .ok (.ireturn, 1) := by decide +kernel
theorem dL_law_1230 : decode cL_law 1230 = .ok (.iinc 12 1, 3) := by decide +kernel
theorem dL_law_1233 : decode cL_law 1233 = .ok (.goto (-31), 3) := by decide +kernel
theorem dL_law_1236 : decode cL_law 1236 = .ok (.aload_n 1, 1) := by decide +kernel
theorem dL_law_1237 : decode cL_law 1237 = .ok (.invokestatic 164, 3) := by decide +kernel
theorem dL_law_1240 : decode cL_law 1240 = .ok (.istore 10, 2) := by decide +kernel
theorem dL_law_1242 : decode cL_law 1242 = .ok (.aload_n 1, 1) := by decide +kernel
theorem dL_law_1243 : decode cL_law 1243 = .ok (.invokestatic 137, 3) := by decide +kernel
theorem dL_law_1246 : decode cL_law 1246 = .ok (.istore 11, 2) := by decide +kernel
theorem dL_law_1248 : decode cL_law 1248 = .ok (.aload_n 1, 1) := by decide +kernel
theorem dL_law_1249 : decode cL_law 1249 = .ok (.iconst (-1), 1) := by decide +kernel
theorem dL_law_1250 : decode cL_law 1250 = .ok (.invokestatic 171, 3) := by decide +kernel
theorem dL_law_1253 : decode cL_law 1253 = .ok (.sipush (-1001), 3) := by decide +kernel
theorem dL_law_1256 : decode cL_law 1256 = .ok (.if_icmp .ne 255, 3) := by decide +kernel
theorem dL_law_1259 : decode cL_law 1259 = .ok (.aload_n 1, 1) := by decide +kernel
theorem dL_law_1260 : decode cL_law 1260 = .ok (.bipush 10, 2) := by decide +kernel
theorem dL_law_1262 : decode cL_law 1262 = .ok (.invokestatic 171, 3) := by decide +kernel
theorem dL_law_1265 : decode cL_law 1265 = .ok (.sipush (-1001), 3) := by decide +kernel
theorem dL_law_1268 : decode cL_law 1268 = .ok (.if_icmp .ne 243, 3) := by decide +kernel
theorem dL_law_1271 : decode cL_law 1271 = .ok (.aload_n 1, 1) := by decide +kernel
theorem dL_law_1272 : decode cL_law 1272 = .ok (.iload 10, 2) := by decide +kernel
theorem dL_law_1274 : decode cL_law 1274 = .ok (.iconst 0, 1) := by decide +kernel
theorem dL_law_1275 : decode cL_law 1275 = .ok (.invokestatic 176, 3) := by decide +kernel
theorem dL_law_1278 : decode cL_law 1278 = .ok (.sipush (-1001), 3) := by decide +kernel
theorem dL_law_1281 : decode cL_law 1281 = .ok (.if_icmp .ne 230, 3) := by decide +kernel
theorem dL_law_1284 : decode cL_law 1284 = .ok (.iload 10, 2) := by decide +kernel
theorem dL_law_1286 : decode cL_law 1286 = .ok (.ifCond .le 15, 3) := by decide +kernel
theorem dL_law_1289 : decode cL_law 1289 = .ok (.aload_n 1, 1) := by decide +kernel
theorem dL_law_1290 : decode cL_law 1290 = .ok (.iconst 0, 1) := by decide +kernel
theorem dL_law_1291 : decode cL_law 1291 = .ok (.iconst 0, 1) := by decide +kernel
theorem dL_law_1292 : decode cL_law 1292 = .ok (.invokestatic 176, 3) := by decide +kernel
theorem dL_law_1295 : decode cL_law 1295 = .ok (.sipush (-1002), 3) := by decide +kernel
theorem dL_law_1298 : decode cL_law 1298 = .ok (.if_icmp .ne 213, 3) := by decide +kernel
theorem dL_law_1301 : decode cL_law 1301 = .ok (.iload 10, 2) := by decide +kernel
theorem dL_law_1303 : decode cL_law 1303 = .ok (.ifCond .le 16, 3) := by decide +kernel
theorem dL_law_1306 : decode cL_law 1306 = .ok (.aload_n 1, 1) := by decide +kernel
theorem dL_law_1307 : decode cL_law 1307 = .ok (.iconst 0, 1) := by decide +kernel
theorem dL_law_1308 : decode cL_law 1308 = .ok (.ldc 203, 2) := by decide +kernel
theorem dL_law_1310 : decode cL_law 1310 = .ok (.invokestatic 176, 3) := by decide +kernel
theorem dL_law_1313 : decode cL_law 1313 = .ok (.sipush (-1002), 3) := by decide +kernel
theorem dL_law_1316 : decode cL_law 1316 = .ok (.if_icmp .ne 195, 3) := by decide +kernel
theorem dL_law_1319 : decode cL_law 1319 = .ok (.aload_n 1, 1) := by decide +kernel
theorem dL_law_1320 : decode cL_law 1320 = .ok (.aload_n 1, 1) := by decide +kernel
theorem dL_law_1321 : decode cL_law 1321 = .ok (.invokevirtual 124, 3) := by decide +kernel
theorem dL_law_1324 : decode cL_law 1324 = .ok (.iconst 0, 1) := by decide +kernel
theorem dL_law_1325 : decode cL_law 1325 = .ok (.invokestatic 114, 3) := by decide +kernel
theorem dL_law_1328 : decode cL_law 1328 = .ok (.sipush (-1001), 3) := by decide +kernel
theorem dL_law_1331 : decode cL_law 1331 = .ok (.if_icmp .ne 180, 3) := by decide +kernel
theorem dL_law_1334 : decode cL_law 1334 = .ok (.aload_n 1, 1) := by decide +kernel
theorem dL_law_1335 : decode cL_law 1335 = .ok (.iconst (-1), 1) := by decide +kernel
theorem dL_law_1336 : decode cL_law 1336 = .ok (.iconst 1, 1) := by decide +kernel
theorem dL_law_1337 : decode cL_law 1337 = .ok (.invokestatic 114, 3) := by decide +kernel
theorem dL_law_1340 : decode cL_law 1340 = .ok (.sipush (-1001), 3) := by decide +kernel
theorem dL_law_1343 : decode cL_law 1343 = .ok (.if_icmp .ne 168, 3) := by decide +kernel
theorem dL_law_1346 : decode cL_law 1346 = .ok (.aload_n 1, 1) := by decide +kernel
theorem dL_law_1347 : decode cL_law 1347 = .ok (.iload 10, 2) := by decide +kernel
theorem dL_law_1349 : decode cL_law 1349 = .ok (.iconst 2, 1) := by decide +kernel
theorem dL_law_1350 : decode cL_law 1350 = .ok (.invokestatic 114, 3) := by decide +kernel
theorem dL_law_1353 : decode cL_law 1353 = .ok (.sipush (-1001), 3) := by decide +kernel
theorem dL_law_1356 : decode cL_law 1356 = .ok (.if_icmp .ne 155, 3) := by decide +kernel
theorem dL_law_1359 : decode cL_law 1359 = .ok (.aload_n 1, 1) := by decide +kernel
theorem dL_law_1360 : decode cL_law 1360 = .ok (.iconst (-1), 1) := by decide +kernel
theorem dL_law_1361 : decode cL_law 1361 = .ok (.iconst 3, 1) := by decide +kernel
theorem dL_law_1362 : decode cL_law 1362 = .ok (.invokestatic 114, 3) := by decide +kernel
theorem dL_law_1365 : decode cL_law 1365 = .ok (.sipush (-1001), 3) := by decide +kernel
theorem dL_law_1368 : decode cL_law 1368 = .ok (.if_icmp .ne 143, 3) := by decide +kernel
theorem dL_law_1371 : decode cL_law 1371 = .ok (.aload_n 1, 1) := by decide +kernel
theorem dL_law_1372 : decode cL_law 1372 = .ok (.iload 4, 2) := by decide +kernel
theorem dL_law_1374 : decode cL_law 1374 = .ok (.iconst 0, 1) := by decide +kernel
theorem dL_law_1375 : decode cL_law 1375 = .ok (.iconst 0, 1) := by decide +kernel
theorem dL_law_1376 : decode cL_law 1376 = .ok (.invokestatic 185, 3) := by decide +kernel
theorem dL_law_1379 : decode cL_law 1379 = .ok (.sipush (-1001), 3) := by decide +kernel
theorem dL_law_1382 : decode cL_law 1382 = .ok (.if_icmp .ne 129, 3) := by decide +kernel
theorem dL_law_1385 : decode cL_law 1385 = .ok (.aload_n 1, 1) := by decide +kernel
theorem dL_law_1386 : decode cL_law 1386 = .ok (.iconst 0, 1) := by decide +kernel
theorem dL_law_1387 : decode cL_law 1387 = .ok (.bipush 8, 2) := by decide +kernel
theorem dL_law_1389 : decode cL_law 1389 = .ok (.iconst 0, 1) := by decide +kernel
theorem dL_law_1390 : decode cL_law 1390 = .ok (.invokestatic 185, 3) := by decide +kernel
theorem dL_law_1393 : decode cL_law 1393 = .ok (.sipush (-1001), 3) := by decide +kernel
theorem dL_law_1396 : decode cL_law 1396 = .ok (.if_icmp .ne 115, 3) := by decide +kernel
theorem dL_law_1399 : decode cL_law 1399 = .ok (.iload 4, 2) := by decide +kernel
theorem dL_law_1401 : decode cL_law 1401 = .ok (.ifCond .le 16, 3) := by decide +kernel
theorem dL_law_1404 : decode cL_law 1404 = .ok (.aload_n 1, 1) := by decide +kernel
theorem dL_law_1405 : decode cL_law 1405 = .ok (.iconst 0, 1) := by decide +kernel
theorem dL_law_1406 : decode cL_law 1406 = .ok (.iconst 0, 1) := by decide +kernel
theorem dL_law_1407 : decode cL_law 1407 = .ok (.iconst 0, 1) := by decide +kernel
theorem dL_law_1408 : decode cL_law 1408 = .ok (.invokestatic 185, 3) := by decide +kernel
theorem dL_law_1411 : decode cL_law 1411 = .ok (.sipush (-1002), 3) := by decide +kernel
theorem dL_law_1414 : decode cL_law 1414 = .ok (.if_icmp .ne 97, 3) := by decide +kernel
theorem dL_law_1417 : decode cL_law 1417 = .ok (.iload 4, 2) := by decide +kernel
theorem dL_law_1419 : decode cL_law 1419 = .ok (.ifCond .le 18, 3) := by decide +kernel
theorem dL_law_1422 : decode cL_law 1422 = .ok (.aload_n 1, 1) := by decide +kernel
theorem dL_law_1423 : decode cL_law 1423 = .ok (.iconst 0, 1) := by decide +kernel
theorem dL_law_1424 : decode cL_law 1424 = .ok (.iconst 0, 1) := by decide +kernel
theorem dL_law_1425 : decode cL_law 1425 = .ok (.sipush 10000, 3) := by decide +kernel
theorem dL_law_1428 : decode cL_law 1428 = .ok (.invokestatic 185, 3) := by decide +kernel
theorem dL_law_1431 : decode cL_law 1431 = .ok (.sipush (-1002), 3) := by decide +kernel
theorem dL_law_1434 : decode cL_law 1434 = .ok (.if_icmp .ne 77, 3) := by decide +kernel
theorem dL_law_1437 : decode cL_law 1437 = .ok (.aload_n 1, 1) := by decide +kernel
theorem dL_law_1438 : decode cL_law 1438 = .ok (.iload 4, 2) := by decide +kernel
theorem dL_law_1440 : decode cL_law 1440 = .ok (.iconst 0, 1) := by decide +kernel
theorem dL_law_1441 : decode cL_law 1441 = .ok (.iconst 0, 1) := by decide +kernel
theorem dL_law_1442 : decode cL_law 1442 = .ok (.invokestatic 133, 3) := by decide +kernel
theorem dL_law_1445 : decode cL_law 1445 = .ok (.sipush (-1001), 3) := by decide +kernel
theorem dL_law_1448 : decode cL_law 1448 = .ok (.if_icmp .ne 63, 3) := by decide +kernel
theorem dL_law_1451 : decode cL_law 1451 = .ok (.aload_n 1, 1) := by decide +kernel
theorem dL_law_1452 : decode cL_law 1452 = .ok (.iconst 0, 1) := by decide +kernel
theorem dL_law_1453 : decode cL_law 1453 = .ok (.bipush 8, 2) := by decide +kernel
theorem dL_law_1455 : decode cL_law 1455 = .ok (.iconst 1, 1) := by decide +kernel
theorem dL_law_1456 : decode cL_law 1456 = .ok (.invokestatic 133, 3) := by decide +kernel
theorem dL_law_1459 : decode cL_law 1459 = .ok (.sipush (-1001), 3) := by decide +kernel
theorem dL_law_1462 : decode cL_law 1462 = .ok (.if_icmp .ne 49, 3) := by decide +kernel
theorem dL_law_1465 : decode cL_law 1465 = .ok (.aload_n 1, 1) := by decide +kernel
theorem dL_law_1466 : decode cL_law 1466 = .ok (.iconst 0, 1) := by decide +kernel
theorem dL_law_1467 : decode cL_law 1467 = .ok (.iconst (-1), 1) := by decide +kernel
theorem dL_law_1468 : decode cL_law 1468 = .ok (.iconst 0, 1) := by decide +kernel
theorem dL_law_1469 : decode cL_law 1469 = .ok (.invokestatic 133, 3) := by decide +kernel
theorem dL_law_1472 : decode cL_law 1472 = .ok (.sipush (-1001), 3) := by decide +kernel
theorem dL_law_1475 : decode cL_law 1475 = .ok (.if_icmp .ne 36, 3) := by decide +kernel
theorem dL_law_1478 : decode cL_law 1478 = .ok (.aload_n 1, 1) := by decide +kernel
theorem dL_law_1479 : decode cL_law 1479 = .ok (.iload 4, 2) := by decide +kernel
theorem dL_law_1481 : decode cL_law 1481 = .ok (.iconst 0, 1) := by decide +kernel
theorem dL_law_1482 : decode cL_law 1482 = .ok (.iconst 2, 1) := by decide +kernel
theorem dL_law_1483 : decode cL_law 1483 = .ok (.invokestatic 133, 3) := by decide +kernel
theorem dL_law_1486 : decode cL_law 1486 = .ok (.sipush (-1001), 3) := by decide +kernel
theorem dL_law_1489 : decode cL_law 1489 = .ok (.if_icmp .ne 22, 3) := by decide +kernel
theorem dL_law_1492 : decode cL_law 1492 = .ok (.iload 4, 2) := by decide +kernel
theorem dL_law_1494 : decode cL_law 1494 = .ok (.ifCond .le 19, 3) := by decide +kernel
theorem dL_law_1497 : decode cL_law 1497 = .ok (.aload_n 1, 1) := by decide +kernel
theorem dL_law_1498 : decode cL_law 1498 = .ok (.iconst 0, 1) := by decide +kernel
theorem dL_law_1499 : decode cL_law 1499 = .ok (.bipush 8, 2) := by decide +kernel
theorem dL_law_1501 : decode cL_law 1501 = .ok (.iconst 2, 1) := by decide +kernel
theorem dL_law_1502 : decode cL_law 1502 = .ok (.invokestatic 133, 3) := by decide +kernel
theorem dL_law_1505 : decode cL_law 1505 = .ok (.sipush (-1002), 3) := by decide +kernel
theorem dL_law_1508 : decode cL_law 1508 = .ok (.if_icmp .eq 5, 3) := by decide +kernel
theorem dL_law_1511 : decode cL_law 1511 = .ok (.iconst 0, 1) := by decide +kernel
theorem dL_law_1512 : decode cL_law 1512 = .ok (.ireturn, 1) := by decide +kernel
theorem dL_law_1513 : decode cL_law 1513 = .ok (.aload_n 1, 1) := by decide +kernel
theorem dL_law_1514 : decode cL_law 1514 = .ok (.iconst 0, 1) := by decide +kernel
theorem dL_law_1515 : decode cL_law 1515 = .ok (.invokestatic 182, 3) := by decide +kernel
theorem dL_law_1518 : decode cL_law 1518 = .ok (.sipush (-1001), 3) := by decide +kernel
theorem dL_law_1521 : decode cL_law 1521 = .ok (.if_icmp .ne 204, 3) := by decide +kernel
theorem dL_law_1524 : decode cL_law 1524 = .ok (.aload_n 1, 1) := by decide +kernel
theorem dL_law_1525 : decode cL_law 1525 = .ok (.sipush 1000, 3) := by decide +kernel
theorem dL_law_1528 : decode cL_law 1528 = .ok (.invokestatic 182, 3) := by decide +kernel
theorem dL_law_1531 : decode cL_law 1531 = .ok (.sipush (-1001), 3) := by decide +kernel
theorem dL_law_1534 : decode cL_law 1534 = .ok (.if_icmp .ne 191, 3) := by decide +kernel
theorem dL_law_1537 : decode cL_law 1537 = .ok (.aload_n 1, 1) := by decide +kernel
theorem dL_law_1538 : decode cL_law 1538 = .ok (.bipush 109, 2) := by decide +kernel
theorem dL_law_1540 : decode cL_law 1540 = .ok (.iload 5, 2) := by decide +kernel
theorem dL_law_1542 : decode cL_law 1542 = .ok (.iconst 0, 1) := by decide +kernel
theorem dL_law_1543 : decode cL_law 1543 = .ok (.invokestatic 188, 3) := by decide +kernel
theorem dL_law_1546 : decode cL_law 1546 = .ok (.sipush (-1001), 3) := by decide +kernel
theorem dL_law_1549 : decode cL_law 1549 = .ok (.if_icmp .ne 176, 3) := by decide +kernel
theorem dL_law_1552 : decode cL_law 1552 = .ok (.aload_n 1, 1) := by decide +kernel
theorem dL_law_1553 : decode cL_law 1553 = .ok (.bipush 109, 2) := by decide +kernel
theorem dL_law_1555 : decode cL_law 1555 = .ok (.iconst 0, 1) := by decide +kernel
theorem dL_law_1556 : decode cL_law 1556 = .ok (.iload 4, 2) := by decide +kernel
theorem dL_law_1558 : decode cL_law 1558 = .ok (.invokestatic 188, 3) := by decide +kernel
theorem dL_law_1561 : decode cL_law 1561 = .ok (.sipush (-1001), 3) := by decide +kernel
theorem dL_law_1564 : decode cL_law 1564 = .ok (.if_icmp .ne 161, 3) := by decide +kernel
theorem dL_law_1567 : decode cL_law 1567 = .ok (.aload_n 1, 1) := by decide +kernel
theorem dL_law_1568 : decode cL_law 1568 = .ok (.bipush 114, 2) := by decide +kernel
theorem dL_law_1570 : decode cL_law 1570 = .ok (.iload 5, 2) := by decide +kernel
theorem dL_law_1572 : decode cL_law 1572 = .ok (.iconst 0, 1) := by decide +kernel
theorem dL_law_1573 : decode cL_law 1573 = .ok (.invokestatic 188, 3) := by decide +kernel
theorem dL_law_1576 : decode cL_law 1576 = .ok (.sipush (-1001), 3) := by decide +kernel
theorem dL_law_1579 : decode cL_law 1579 = .ok (.if_icmp .ne 146, 3) := by decide +kernel
theorem dL_law_1582 : decode cL_law 1582 = .ok (.aload_n 1, 1) := by decide +kernel
theorem dL_law_1583 : decode cL_law 1583 = .ok (.bipush 114, 2) := by decide +kernel
theorem dL_law_1585 : decode cL_law 1585 = .ok (.iconst 0, 1) := by decide +kernel
theorem dL_law_1586 : decode cL_law 1586 = .ok (.iload 11, 2) := by decide +kernel
theorem dL_law_1588 : decode cL_law 1588 = .ok (.invokestatic 188, 3) := by decide +kernel
theorem dL_law_1591 : decode cL_law 1591 = .ok (.sipush (-1001), 3) := by decide +kernel
theorem dL_law_1594 : decode cL_law 1594 = .ok (.if_icmp .ne 131, 3) := by decide +kernel
theorem dL_law_1597 : decode cL_law 1597 = .ok (.aload_n 1, 1) := by decide +kernel
theorem dL_law_1598 : decode cL_law 1598 = .ok (.iload 4, 2) := by decide +kernel
theorem dL_law_1600 : decode cL_law 1600 = .ok (.iconst 0, 1) := by decide +kernel
theorem dL_law_1601 : decode cL_law 1601 = .ok (.iconst 0, 1) := by decide +kernel
theorem dL_law_1602 : decode cL_law 1602 = .ok (.iconst 0, 1) := by decide +kernel
theorem dL_law_1603 : decode cL_law 1603 = .ok (.invokestatic 192, 3) := by decide +kernel
theorem dL_law_1606 : decode cL_law 1606 = .ok (.sipush (-1001), 3) := by decide +kernel
theorem dL_law_1609 : decode cL_law 1609 = .ok (.if_icmp .ne 116, 3) := by decide +kernel
theorem dL_law_1612 : decode cL_law 1612 = .ok (.aload_n 1, 1) := by decide +kernel
theorem dL_law_1613 : decode cL_law 1613 = .ok (.iconst 0, 1) := by decide +kernel
theorem dL_law_1614 : decode cL_law 1614 = .ok (.iload 10, 2) := by decide +kernel
theorem dL_law_1616 : decode cL_law 1616 = .ok (.iconst 0, 1) := by decide +kernel
theorem dL_law_1617 : decode cL_law 1617 = .ok (.iconst 0, 1) := by decide +kernel
theorem dL_law_1618 : decode cL_law 1618 = .ok (.invokestatic 192, 3) := by decide +kernel
theorem dL_law_1621 : decode cL_law 1621 = .ok (.sipush (-1001), 3) := by decide +kernel
theorem dL_law_1624 : decode cL_law 1624 = .ok (.if_icmp .ne 101, 3) := by decide +kernel
theorem dL_law_1627 : decode cL_law 1627 = .ok (.iload 4, 2) := by decide +kernel
theorem dL_law_1629 : decode cL_law 1629 = .ok (.ifCond .le 22, 3) := by decide +kernel
theorem dL_law_1632 : decode cL_law 1632 = .ok (.iload 10, 2) := by decide +kernel
theorem dL_law_1634 : decode cL_law 1634 = .ok (.ifCond .le 17, 3) := by decide +kernel
theorem dL_law_1637 : decode cL_law 1637 = .ok (.aload_n 1, 1) := by decide +kernel
theorem dL_law_1638 : decode cL_law 1638 = .ok (.iconst 0, 1) := by decide +kernel
theorem dL_law_1639 : decode cL_law 1639 = .ok (.iconst 0, 1) := by decide +kernel
theorem dL_law_1640 : decode cL_law 1640 = .ok (.iconst 0, 1) := by decide +kernel
theorem dL_law_1641 : decode cL_law 1641 = .ok (.iconst 0, 1) := by decide +kernel
theorem dL_law_1642 : decode cL_law 1642 = .ok (.invokestatic 192, 3) := by decide +kernel
theorem dL_law_1645 : decode cL_law 1645 = .ok (.sipush (-1002), 3) := by decide +kernel
theorem dL_law_1648 : decode cL_law 1648 = .ok (.if_icmp .ne 77, 3) := by decide +kernel
theorem dL_law_1651 : decode cL_law 1651 = .ok (.iload 4, 2) := by decide +kernel
theorem dL_law_1653 : decode cL_law 1653 = .ok (.ifCond .le 24, 3) := by decide +kernel
theorem dL_law_1656 : decode cL_law 1656 = .ok (.iload 10, 2) := by decide +kernel
theorem dL_law_1658 : decode cL_law 1658 = .ok (.ifCond .le 19, 3) := by decide +kernel
theorem dL_law_1661 : decode cL_law 1661 = .ok (.aload_n 1, 1) := by decide +kernel
theorem dL_law_1662 : decode cL_law 1662 = .ok (.iconst 0, 1) := by decide +kernel
theorem dL_law_1663 : decode cL_law 1663 = .ok (.iconst 0, 1) := by decide +kernel
theorem dL_law_1664 : decode cL_law 1664 = .ok (.sipush 5001, 3) := by decide +kernel
theorem dL_law_1667 : decode cL_law 1667 = .ok (.iconst 0, 1) := by decide +kernel
theorem dL_law_1668 : decode cL_law 1668 = .ok (.invokestatic 192, 3) := by decide +kernel
theorem dL_law_1671 : decode cL_law 1671 = .ok (.sipush (-1002), 3) := by decide +kernel
theorem dL_law_1674 : decode cL_law 1674 = .ok (.if_icmp .ne 51, 3) := by decide +kernel
theorem dL_law_1677 : decode cL_law 1677 = .ok (.iload 4, 2) := by decide +kernel
theorem dL_law_1679 : decode cL_law 1679 = .ok (.ifCond .le 23, 3) := by decide +kernel
theorem dL_law_1682 : decode cL_law 1682 = .ok (.iload 10, 2) := by decide +kernel
theorem dL_law_1684 : decode cL_law 1684 = .ok (.ifCond .le 18, 3) := by decide +kernel
theorem dL_law_1687 : decode cL_law 1687 = .ok (.aload_n 1, 1) := by decide +kernel
theorem dL_law_1688 : decode cL_law 1688 = .ok (.iconst 0, 1) := by decide +kernel
theorem dL_law_1689 : decode cL_law 1689 = .ok (.iconst 0, 1) := by decide +kernel
theorem dL_law_1690 : decode cL_law 1690 = .ok (.iconst 1, 1) := by decide +kernel
theorem dL_law_1691 : decode cL_law 1691 = .ok (.bipush 51, 2) := by decide +kernel
theorem dL_law_1693 : decode cL_law 1693 = .ok (.invokestatic 192, 3) := by decide +kernel
theorem dL_law_1696 : decode cL_law 1696 = .ok (.sipush (-1002), 3) := by decide +kernel
theorem dL_law_1699 : decode cL_law 1699 = .ok (.if_icmp .ne 26, 3) := by decide +kernel
theorem dL_law_1702 : decode cL_law 1702 = .ok (.aload_n 1, 1) := by decide +kernel
theorem dL_law_1703 : decode cL_law 1703 = .ok (.iconst 0, 1) := by decide +kernel
theorem dL_law_1704 : decode cL_law 1704 = .ok (.invokestatic 195, 3) := by decide +kernel
theorem dL_law_1707 : decode cL_law 1707 = .ok (.sipush (-1001), 3) := by decide +kernel
theorem dL_law_1710 : decode cL_law 1710 = .ok (.if_icmp .ne 15, 3) := by decide +kernel
theorem dL_law_1713 : decode cL_law 1713 = .ok (.aload_n 1, 1) := by decide +kernel
theorem dL_law_1714 : decode cL_law 1714 = .ok (.bipush 25, 2) := by decide +kernel
theorem dL_law_1716 : decode cL_law 1716 = .ok (.invokestatic 195, 3) := by decide +kernel
theorem dL_law_1719 : decode cL_law 1719 = .ok (.sipush (-1001), 3) := by decide +kernel
theorem dL_law_1722 : decode cL_law 1722 = .ok (.if_icmp .eq 5, 3) := by decide +kernel
theorem dL_law_1725 : decode cL_law 1725 = .ok (.iconst 0, 1) := by decide +kernel
theorem dL_law_1726 : decode cL_law 1726 = .ok (.ireturn, 1) := by decide +kernel
theorem dL_law_1727 : decode cL_law 1727 = .ok (.iconst 0, 1) := by decide +kernel
theorem dL_law_1728 : decode cL_law 1728 = .ok (.istore 12, 2) := by decide +kernel
theorem dL_law_1730 : decode cL_law 1730 = .ok (.iload 12, 2) := by decide +kernel
theorem dL_law_1732 : decode cL_law 1732 = .ok (.bipush 6, 2) := by decide +kernel
theorem dL_law_1734 : decode cL_law 1734 = .ok (.if_icmp .ge 40, 3) := by decide +kernel
theorem dL_law_1737 : decode cL_law 1737 = .ok (.aload_n 1, 1) := by decide +kernel
theorem dL_law_1738 : decode cL_law 1738 = .ok (.iload 11, 2) := by decide +kernel
theorem dL_law_1740 : decode cL_law 1740 = .ok (.iload 12, 2) := by decide +kernel
theorem dL_law_1742 : decode cL_law 1742 = .ok (.invokestatic 108, 3) := by decide +kernel
theorem dL_law_1745 : decode cL_law 1745 = .ok (.ldc2_w 88, 3) := by decide +kernel
theorem dL_law_1748 : decode cL_law 1748 = .ok (.lcmp, 1) := by decide +kernel
theorem dL_law_1749 : decode cL_law 1749 = .ok (.ifCond .ne 17, 3) := by decide +kernel
theorem dL_law_1752 : decode cL_law 1752 = .ok (.aload_n 1, 1) := by decide +kernel
theorem dL_law_1753 : decode cL_law 1753 = .ok (.iconst (-1), 1) := by decide +kernel
theorem dL_law_1754 : decode cL_law 1754 = .ok (.iload 12, 2) := by decide +kernel
theorem dL_law_1756 : decode cL_law 1756 = .ok (.invokestatic 108, 3) := by decide +kernel
theorem dL_law_1759 : decode cL_law 1759 = .ok (.ldc2_w 88, 3) := by decide +kernel
theorem dL_law_1762 : decode cL_law 1762 = .ok (.lcmp, 1) := by decide +kernel
theorem dL_law_1763 : decode cL_law 1763 = .ok (.ifCond .eq 5, 3) := by decide +kernel
theorem dL_law_1766 : decode cL_law 1766 = .ok (.iconst 0, 1) := by decide +kernel
theorem dL_law_1767 : decode cL_law 1767 = .ok (.ireturn, 1) := by decide +kernel
theorem dL_law_1768 : decode cL_law 1768 = .ok (.iinc 12 1, 3) := by decide +kernel
theorem dL_law_1771 : decode cL_law 1771 = .ok (.goto (-41), 3) := by decide +kernel
theorem dL_law_1774 : decode cL_law 1774 = .ok (.aload_n 1, 1) := by decide +kernel
theorem dL_law_1775 : decode cL_law 1775 = .ok (.invokestatic 167, 3) := by decide +kernel
theorem dL_law_1778 : decode cL_law 1778 = .ok (.lload 7, 2) := by decide +kernel
theorem dL_law_1780 : decode cL_law 1780 = .ok (.lcmp, 1) := by decide +kernel
theorem dL_law_1781 : decode cL_law 1781 = .ok (.ifCond .ne 7, 3) := by decide +kernel
theorem dL_law_1784 : decode cL_law 1784 = .ok (.iconst 1, 1) := by decide +kernel
theorem dL_law_1785 : decode cL_law 1785 = .ok (.goto 4, 3) := by decide +kernel
theorem dL_law_1788 : decode cL_law 1788 = .ok (.iconst 0, 1) := by decide +kernel
theorem dL_law_1789 : decode cL_law 1789 = .ok (.ireturn, 1) := by decide +kernel

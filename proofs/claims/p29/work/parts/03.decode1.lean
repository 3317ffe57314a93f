theorem dX7_init_0 : decode cX7_init 0 = .ok (.aload_n 0, 1) := by decide +kernel
theorem dX7_init_1 : decode cX7_init 1 = .ok (.invokespecial 1, 3) := by decide +kernel
theorem dX7_init_4 : decode cX7_init 4 = .ok (.aload_n 0, 1) := by decide +kernel
theorem dX7_init_5 : decode cX7_init 5 = .ok (.iconst 4, 1) := by decide +kernel
theorem dX7_init_6 : decode cX7_init 6 = .ok (.anewarray 9, 3) := by decide +kernel
theorem dX7_init_9 : decode cX7_init 9 = .ok (.putfield 11, 3) := by decide +kernel
theorem dX7_init_12 : decode cX7_init 12 = .ok (.aload_n 0, 1) := by decide +kernel
theorem dX7_init_13 : decode cX7_init 13 = .ok (.iconst 5, 1) := by decide +kernel
theorem dX7_init_14 : decode cX7_init 14 = .ok (.anewarray 15, 3) := by decide +kernel
theorem dX7_init_17 : decode cX7_init 17 = .ok (.putfield 17, 3) := by decide +kernel
theorem dX7_init_20 : decode cX7_init 20 = .ok (.aload_n 0, 1) := by decide +kernel
theorem dX7_init_21 : decode cX7_init 21 = .ok (.iconst 3, 1) := by decide +kernel
theorem dX7_init_22 : decode cX7_init 22 = .ok (.anewarray 21, 3) := by decide +kernel
theorem dX7_init_25 : decode cX7_init 25 = .ok (.putfield 23, 3) := by decide +kernel
theorem dX7_init_28 : decode cX7_init 28 = .ok (.aload_n 0, 1) := by decide +kernel
theorem dX7_init_29 : decode cX7_init 29 = .ok (.bipush 8, 2) := by decide +kernel
theorem dX7_init_31 : decode cX7_init 31 = .ok (.anewarray 27, 3) := by decide +kernel
theorem dX7_init_34 : decode cX7_init 34 = .ok (.putfield 29, 3) := by decide +kernel
theorem dX7_init_37 : decode cX7_init 37 = .ok (.aload_n 0, 1) := by decide +kernel
theorem dX7_init_38 : decode cX7_init 38 = .ok (.new 33, 3) := by decide +kernel
theorem dX7_init_41 : decode cX7_init 41 = .ok (.dup, 1) := by decide +kernel
theorem dX7_init_42 : decode cX7_init 42 = .ok (.invokespecial 35, 3) := by decide +kernel
theorem dX7_init_45 : decode cX7_init 45 = .ok (.putfield 36, 3) := by decide +kernel
theorem dX7_init_48 : decode cX7_init 48 = .ok (.return_, 1) := by decide +kernel
theorem dX7_addResin_0 : decode cX7_addResin 0 = .ok (.iload_n 1, 1) := by decide +kernel
theorem dX7_addResin_1 : decode cX7_addResin 1 = .ok (.iconst 0, 1) := by decide +kernel
theorem dX7_addResin_2 : decode cX7_addResin 2 = .ok (.bipush 9, 2) := by decide +kernel
theorem dX7_addResin_4 : decode cX7_addResin 4 = .ok (.invokestatic 40, 3) := by decide +kernel
theorem dX7_addResin_7 : decode cX7_addResin 7 = .ok (.aload_n 0, 1) := by decide +kernel
theorem dX7_addResin_8 : decode cX7_addResin 8 = .ok (.getfield 44, 3) := by decide +kernel
theorem dX7_addResin_11 : decode cX7_addResin 11 = .ok (.istore_n 2, 1) := by decide +kernel
theorem dX7_addResin_12 : decode cX7_addResin 12 = .ok (.iload_n 2, 1) := by decide +kernel
theorem dX7_addResin_13 : decode cX7_addResin 13 = .ok (.ifCond .lt 12, 3) := by decide +kernel
theorem dX7_addResin_16 : decode cX7_addResin 16 = .ok (.iload_n 2, 1) := by decide +kernel
theorem dX7_addResin_17 : decode cX7_addResin 17 = .ok (.aload_n 0, 1) := by decide +kernel
theorem dX7_addResin_18 : decode cX7_addResin 18 = .ok (.getfield 11, 3) := by decide +kernel
theorem dX7_addResin_21 : decode cX7_addResin 21 = .ok (.arraylength, 1) := by decide +kernel
theorem dX7_addResin_22 : decode cX7_addResin 22 = .ok (.if_icmp .lt 13, 3) := by decide +kernel
theorem dX7_addResin_25 : decode cX7_addResin 25 = .ok (.new 48, 3) := by decide +kernel
theorem dX7_addResin_28 : decode cX7_addResin 28 = .ok (.dup, 1) := by decide +kernel
theorem dX7_addResin_29 : decode cX7_addResin 29 = .ok (.ldc 50, 2) := by decide +kernel
theorem dX7_addResin_31 : decode cX7_addResin 31 = .ok (.invokespecial 52, 3) := by decide +kernel
theorem dX7_addResin_34 : decode cX7_addResin 34 = .ok (.athrow, 1) := by decide +kernel
theorem dX7_addResin_35 : decode cX7_addResin 35 = .ok (.aload_n 0, 1) := by decide +kernel
theorem dX7_addResin_36 : decode cX7_addResin 36 = .ok (.getfield 11, 3) := by decide +kernel
theorem dX7_addResin_39 : decode cX7_addResin 39 = .ok (.iload_n 2, 1) := by decide +kernel
theorem dX7_addResin_40 : decode cX7_addResin 40 = .ok (.new 9, 3) := by decide +kernel
theorem dX7_addResin_43 : decode cX7_addResin 43 = .ok (.dup, 1) := by decide +kernel
theorem dX7_addResin_44 : decode cX7_addResin 44 = .ok (.iload_n 1, 1) := by decide +kernel
theorem dX7_addResin_45 : decode cX7_addResin 45 = .ok (.invokespecial 55, 3) := by decide +kernel
theorem dX7_addResin_48 : decode cX7_addResin 48 = .ok (.aastore, 1) := by decide +kernel
theorem dX7_addResin_49 : decode cX7_addResin 49 = .ok (.aload_n 0, 1) := by decide +kernel
theorem dX7_addResin_50 : decode cX7_addResin 50 = .ok (.iload_n 2, 1) := by decide +kernel
theorem dX7_addResin_51 : decode cX7_addResin 51 = .ok (.iconst 1, 1) := by decide +kernel
theorem dX7_addResin_52 : decode cX7_addResin 52 = .ok (.iadd, 1) := by decide +kernel
theorem dX7_addResin_53 : decode cX7_addResin 53 = .ok (.putfield 44, 3) := by decide +kernel
theorem dX7_addResin_56 : decode cX7_addResin 56 = .ok (.iload_n 2, 1) := by decide +kernel
theorem dX7_addResin_57 : decode cX7_addResin 57 = .ok (.ireturn, 1) := by decide +kernel
theorem dX7_fill_0 : decode cX7_fill 0 = .ok (.aload_n 0, 1) := by decide +kernel
theorem dX7_fill_1 : decode cX7_fill 1 = .ok (.iload_n 1, 1) := by decide +kernel
theorem dX7_fill_2 : decode cX7_fill 2 = .ok (.invokevirtual 58, 3) := by decide +kernel
theorem dX7_fill_5 : decode cX7_fill 5 = .ok (.astore_n 3, 1) := by decide +kernel
theorem dX7_fill_6 : decode cX7_fill 6 = .ok (.iload_n 2, 1) := by decide +kernel
theorem dX7_fill_7 : decode cX7_fill 7 = .ok (.iconst 1, 1) := by decide +kernel
theorem dX7_fill_8 : decode cX7_fill 8 = .ok (.ldc 62, 2) := by decide +kernel
theorem dX7_fill_10 : decode cX7_fill 10 = .ok (.invokestatic 40, 3) := by decide +kernel
theorem dX7_fill_13 : decode cX7_fill 13 = .ok (.aload_n 0, 1) := by decide +kernel
theorem dX7_fill_14 : decode cX7_fill 14 = .ok (.getfield 36, 3) := by decide +kernel
theorem dX7_fill_17 : decode cX7_fill 17 = .ok (.invokevirtual 63, 3) := by decide +kernel
theorem dX7_fill_20 : decode cX7_fill 20 = .ok (.ifCond .eq 13, 3) := by decide +kernel
theorem dX7_fill_23 : decode cX7_fill 23 = .ok (.new 48, 3) := by decide +kernel
theorem dX7_fill_26 : decode cX7_fill 26 = .ok (.dup, 1) := by decide +kernel
theorem dX7_fill_27 : decode cX7_fill 27 = .ok (.ldc 67, 2) := by decide +kernel
theorem dX7_fill_29 : decode cX7_fill 29 = .ok (.invokespecial 52, 3) := by decide +kernel
theorem dX7_fill_32 : decode cX7_fill 32 = .ok (.athrow, 1) := by decide +kernel
theorem dX7_fill_33 : decode cX7_fill 33 = .ok (.aload_n 0, 1) := by decide +kernel
theorem dX7_fill_34 : decode cX7_fill 34 = .ok (.getfield 36, 3) := by decide +kernel
theorem dX7_fill_37 : decode cX7_fill 37 = .ok (.new 69, 3) := by decide +kernel
theorem dX7_fill_40 : decode cX7_fill 40 = .ok (.dup, 1) := by decide +kernel
theorem dX7_fill_41 : decode cX7_fill 41 = .ok (.aload_n 3, 1) := by decide +kernel
theorem dX7_fill_42 : decode cX7_fill 42 = .ok (.iload_n 2, 1) := by decide +kernel
theorem dX7_fill_43 : decode cX7_fill 43 = .ok (.invokespecial 71, 3) := by decide +kernel
theorem dX7_fill_46 : decode cX7_fill 46 = .ok (.invokevirtual 74, 3) := by decide +kernel
theorem dX7_fill_49 : decode cX7_fill 49 = .ok (.aload_n 0, 1) := by decide +kernel
theorem dX7_fill_50 : decode cX7_fill 50 = .ok (.getfield 36, 3) := by decide +kernel
theorem dX7_fill_53 : decode cX7_fill 53 = .ok (.getfield 78, 3) := by decide +kernel
theorem dX7_fill_56 : decode cX7_fill 56 = .ok (.ireturn, 1) := by decide +kernel
theorem dX7_empty_0 : decode cX7_empty 0 = .ok (.aload_n 0, 1) := by decide +kernel
theorem dX7_empty_1 : decode cX7_empty 1 = .ok (.iload_n 1, 1) := by decide +kernel
theorem dX7_empty_2 : decode cX7_empty 2 = .ok (.invokevirtual 81, 3) := by decide +kernel
theorem dX7_empty_5 : decode cX7_empty 5 = .ok (.getfield 85, 3) := by decide +kernel
theorem dX7_empty_8 : decode cX7_empty 8 = .ok (.istore_n 2, 1) := by decide +kernel
theorem dX7_empty_9 : decode cX7_empty 9 = .ok (.aload_n 0, 1) := by decide +kernel
theorem dX7_empty_10 : decode cX7_empty 10 = .ok (.getfield 36, 3) := by decide +kernel
theorem dX7_empty_13 : decode cX7_empty 13 = .ok (.iload_n 1, 1) := by decide +kernel
theorem dX7_empty_14 : decode cX7_empty 14 = .ok (.invokevirtual 88, 3) := by decide +kernel
theorem dX7_empty_17 : decode cX7_empty 17 = .ok (.iload_n 2, 1) := by decide +kernel
theorem dX7_empty_18 : decode cX7_empty 18 = .ok (.ireturn, 1) := by decide +kernel
theorem dX7_lots_0 : decode cX7_lots 0 = .ok (.aload_n 0, 1) := by decide +kernel
theorem dX7_lots_1 : decode cX7_lots 1 = .ok (.getfield 36, 3) := by decide +kernel
theorem dX7_lots_4 : decode cX7_lots 4 = .ok (.getfield 78, 3) := by decide +kernel
theorem dX7_lots_7 : decode cX7_lots 7 = .ok (.ireturn, 1) := by decide +kernel
theorem dX7_hoursToDry_0 : decode cX7_hoursToDry 0 = .ok (.aload_n 0, 1) := by decide +kernel
theorem dX7_hoursToDry_1 : decode cX7_hoursToDry 1 = .ok (.iload_n 1, 1) := by decide +kernel
theorem dX7_hoursToDry_2 : decode cX7_hoursToDry 2 = .ok (.invokevirtual 81, 3) := by decide +kernel
theorem dX7_hoursToDry_5 : decode cX7_hoursToDry 5 = .ok (.invokevirtual 91, 3) := by decide +kernel
theorem dX7_hoursToDry_8 : decode cX7_hoursToDry 8 = .ok (.ireturn, 1) := by decide +kernel
theorem dX7_dry_0 : decode cX7_dry 0 = .ok (.aload_n 0, 1) := by decide +kernel
theorem dX7_dry_1 : decode cX7_dry 1 = .ok (.getfield 36, 3) := by decide +kernel
theorem dX7_dry_4 : decode cX7_dry 4 = .ok (.aload_n 0, 1) := by decide +kernel
theorem dX7_dry_5 : decode cX7_dry 5 = .ok (.iload_n 1, 1) := by decide +kernel
theorem dX7_dry_6 : decode cX7_dry 6 = .ok (.invokevirtual 58, 3) := by decide +kernel
theorem dX7_dry_9 : decode cX7_dry 9 = .ok (.invokevirtual 95, 3) := by decide +kernel
theorem dX7_dry_12 : decode cX7_dry 12 = .ok (.ireturn, 1) := by decide +kernel
theorem dX7_regrind_0 : decode cX7_regrind 0 = .ok (.aload_n 0, 1) := by decide +kernel
theorem dX7_regrind_1 : decode cX7_regrind 1 = .ok (.iload_n 1, 1) := by decide +kernel
theorem dX7_regrind_2 : decode cX7_regrind 2 = .ok (.invokevirtual 58, 3) := by decide +kernel
theorem dX7_regrind_5 : decode cX7_regrind 5 = .ok (.getfield 99, 3) := by decide +kernel
theorem dX7_regrind_8 : decode cX7_regrind 8 = .ok (.ireturn, 1) := by decide +kernel
theorem dX7_addMould_0 : decode cX7_addMould 0 = .ok (.iload_n 1, 1) := by decide +kernel
theorem dX7_addMould_1 : decode cX7_addMould 1 = .ok (.iconst 1, 1) := by decide +kernel
theorem dX7_addMould_2 : decode cX7_addMould 2 = .ok (.bipush 8, 2) := by decide +kernel
theorem dX7_addMould_4 : decode cX7_addMould 4 = .ok (.invokestatic 40, 3) := by decide +kernel
theorem dX7_addMould_7 : decode cX7_addMould 7 = .ok (.iload_n 2, 1) := by decide +kernel
theorem dX7_addMould_8 : decode cX7_addMould 8 = .ok (.iconst 1, 1) := by decide +kernel
theorem dX7_addMould_9 : decode cX7_addMould 9 = .ok (.sipush 200, 3) := by decide +kernel
theorem dX7_addMould_12 : decode cX7_addMould 12 = .ok (.invokestatic 40, 3) := by decide +kernel
theorem dX7_addMould_15 : decode cX7_addMould 15 = .ok (.iload_n 3, 1) := by decide +kernel
theorem dX7_addMould_16 : decode cX7_addMould 16 = .ok (.iconst 0, 1) := by decide +kernel
theorem dX7_addMould_17 : decode cX7_addMould 17 = .ok (.sipush 200, 3) := by decide +kernel
theorem dX7_addMould_20 : decode cX7_addMould 20 = .ok (.invokestatic 40, 3) := by decide +kernel
theorem dX7_addMould_23 : decode cX7_addMould 23 = .ok (.iload 4, 2) := by decide +kernel
theorem dX7_addMould_25 : decode cX7_addMould 25 = .ok (.iconst 1, 1) := by decide +kernel
theorem dX7_addMould_26 : decode cX7_addMould 26 = .ok (.sipush 999, 3) := by decide +kernel
theorem dX7_addMould_29 : decode cX7_addMould 29 = .ok (.invokestatic 40, 3) := by decide +kernel
theorem dX7_addMould_32 : decode cX7_addMould 32 = .ok (.iload 5, 2) := by decide +kernel
theorem dX7_addMould_34 : decode cX7_addMould 34 = .ok (.bipush 60, 2) := by decide +kernel
theorem dX7_addMould_36 : decode cX7_addMould 36 = .ok (.sipush 3600, 3) := by decide +kernel
theorem dX7_addMould_39 : decode cX7_addMould 39 = .ok (.invokestatic 40, 3) := by decide +kernel
theorem dX7_addMould_42 : decode cX7_addMould 42 = .ok (.aload_n 0, 1) := by decide +kernel
theorem dX7_addMould_43 : decode cX7_addMould 43 = .ok (.getfield 102, 3) := by decide +kernel
theorem dX7_addMould_46 : decode cX7_addMould 46 = .ok (.istore 6, 2) := by decide +kernel
theorem dX7_addMould_48 : decode cX7_addMould 48 = .ok (.iload 6, 2) := by decide +kernel
theorem dX7_addMould_50 : decode cX7_addMould 50 = .ok (.ifCond .lt 13, 3) := by decide +kernel
theorem dX7_addMould_53 : decode cX7_addMould 53 = .ok (.iload 6, 2) := by decide +kernel
theorem dX7_addMould_55 : decode cX7_addMould 55 = .ok (.aload_n 0, 1) := by decide +kernel
theorem dX7_addMould_56 : decode cX7_addMould 56 = .ok (.getfield 17, 3) := by decide +kernel
theorem dX7_addMould_59 : decode cX7_addMould 59 = .ok (.arraylength, 1) := by decide +kernel
theorem dX7_addMould_60 : decode cX7_addMould 60 = .ok (.if_icmp .lt 13, 3) := by decide +kernel
theorem dX7_addMould_63 : decode cX7_addMould 63 = .ok (.new 48, 3) := by decide +kernel
theorem dX7_addMould_66 : decode cX7_addMould 66 = .ok (.dup, 1) := by decide +kernel
theorem dX7_addMould_67 : decode cX7_addMould 67 = .ok (.ldc 105, 2) := by decide +kernel
theorem dX7_addMould_69 : decode cX7_addMould 69 = .ok (.invokespecial 52, 3) := by decide +kernel
theorem dX7_addMould_72 : decode cX7_addMould 72 = .ok (.athrow, 1) := by decide +kernel
theorem dX7_addMould_73 : decode cX7_addMould 73 = .ok (.aload_n 0, 1) := by decide +kernel
theorem dX7_addMould_74 : decode cX7_addMould 74 = .ok (.getfield 17, 3) := by decide +kernel
theorem dX7_addMould_77 : decode cX7_addMould 77 = .ok (.iload 6, 2) := by decide +kernel
theorem dX7_addMould_79 : decode cX7_addMould 79 = .ok (.new 15, 3) := by decide +kernel
theorem dX7_addMould_82 : decode cX7_addMould 82 = .ok (.dup, 1) := by decide +kernel
theorem dX7_addMould_83 : decode cX7_addMould 83 = .ok (.iload 6, 2) := by decide +kernel
theorem dX7_addMould_85 : decode cX7_addMould 85 = .ok (.iload_n 1, 1) := by decide +kernel
theorem dX7_addMould_86 : decode cX7_addMould 86 = .ok (.iload_n 2, 1) := by decide +kernel
theorem dX7_addMould_87 : decode cX7_addMould 87 = .ok (.iload_n 3, 1) := by decide +kernel
theorem dX7_addMould_88 : decode cX7_addMould 88 = .ok (.iload 4, 2) := by decide +kernel
theorem dX7_addMould_90 : decode cX7_addMould 90 = .ok (.iload 5, 2) := by decide +kernel
theorem dX7_addMould_92 : decode cX7_addMould 92 = .ok (.invokespecial 107, 3) := by decide +kernel
theorem dX7_addMould_95 : decode cX7_addMould 95 = .ok (.aastore, 1) := by decide +kernel
theorem dX7_addMould_96 : decode cX7_addMould 96 = .ok (.aload_n 0, 1) := by decide +kernel
theorem dX7_addMould_97 : decode cX7_addMould 97 = .ok (.iload 6, 2) := by decide +kernel
theorem dX7_addMould_99 : decode cX7_addMould 99 = .ok (.iconst 1, 1) := by decide +kernel
theorem dX7_addMould_100 : decode cX7_addMould 100 = .ok (.iadd, 1) := by decide +kernel
theorem dX7_addMould_101 : decode cX7_addMould 101 = .ok (.putfield 102, 3) := by decide +kernel
theorem dX7_addMould_104 : decode cX7_addMould 104 = .ok (.iload 6, 2) := by decide +kernel
theorem dX7_addMould_106 : decode cX7_addMould 106 = .ok (.ireturn, 1) := by decide +kernel
theorem dX7_setLife_0 : decode cX7_setLife 0 = .ok (.aload_n 0, 1) := by decide +kernel
theorem dX7_setLife_1 : decode cX7_setLife 1 = .ok (.iload_n 1, 1) := by decide +kernel
theorem dX7_setLife_2 : decode cX7_setLife 2 = .ok (.invokevirtual 110, 3) := by decide +kernel
theorem dX7_setLife_5 : decode cX7_setLife 5 = .ok (.iload_n 2, 1) := by decide +kernel
theorem dX7_setLife_6 : decode cX7_setLife 6 = .ok (.invokestatic 114, 3) := by decide +kernel
theorem dX7_setLife_9 : decode cX7_setLife 9 = .ok (.astore 4, 2) := by decide +kernel
theorem dX7_setLife_11 : decode cX7_setLife 11 = .ok (.iload_n 3, 1) := by decide +kernel
theorem dX7_setLife_12 : decode cX7_setLife 12 = .ok (.iconst 1, 1) := by decide +kernel
theorem dX7_setLife_13 : decode cX7_setLife 13 = .ok (.sipush 9999, 3) := by decide +kernel
theorem dX7_setLife_16 : decode cX7_setLife 16 = .ok (.invokestatic 40, 3) := by decide +kernel
theorem dX7_setLife_19 : decode cX7_setLife 19 = .ok (.aload 4, 2) := by decide +kernel
theorem dX7_setLife_21 : decode cX7_setLife 21 = .ok (.iload_n 3, 1) := by decide +kernel
theorem dX7_setLife_22 : decode cX7_setLife 22 = .ok (.putfield 118, 3) := by decide +kernel
theorem dX7_setLife_25 : decode cX7_setLife 25 = .ok (.aload 4, 2) := by decide +kernel
theorem dX7_setLife_27 : decode cX7_setLife 27 = .ok (.invokevirtual 123, 3) := by decide +kernel
theorem dX7_setLife_30 : decode cX7_setLife 30 = .ok (.aload 4, 2) := by decide +kernel
theorem dX7_setLife_32 : decode cX7_setLife 32 = .ok (.getfield 126, 3) := by decide +kernel
theorem dX7_setLife_35 : decode cX7_setLife 35 = .ok (.ireturn, 1) := by decide +kernel
theorem dX7_block_0 : decode cX7_block 0 = .ok (.aload_n 0, 1) := by decide +kernel
theorem dX7_block_1 : decode cX7_block 1 = .ok (.iload_n 1, 1) := by decide +kernel
theorem dX7_block_2 : decode cX7_block 2 = .ok (.invokevirtual 110, 3) := by decide +kernel
theorem dX7_block_5 : decode cX7_block 5 = .ok (.astore_n 3, 1) := by decide +kernel
theorem dX7_block_6 : decode cX7_block 6 = .ok (.aload_n 3, 1) := by decide +kernel
theorem dX7_block_7 : decode cX7_block 7 = .ok (.iload_n 2, 1) := by decide +kernel
theorem dX7_block_8 : decode cX7_block 8 = .ok (.invokestatic 114, 3) := by decide +kernel
theorem dX7_block_11 : decode cX7_block 11 = .ok (.astore 4, 2) := by decide +kernel
theorem dX7_block_13 : decode cX7_block 13 = .ok (.aload 4, 2) := by decide +kernel
theorem dX7_block_15 : decode cX7_block 15 = .ok (.getfield 129, 3) := by decide +kernel
theorem dX7_block_18 : decode cX7_block 18 = .ok (.ifCond .eq 13, 3) := by decide +kernel
theorem dX7_block_21 : decode cX7_block 21 = .ok (.new 48, 3) := by decide +kernel
theorem dX7_block_24 : decode cX7_block 24 = .ok (.dup, 1) := by decide +kernel
theorem dX7_block_25 : decode cX7_block 25 = .ok (.ldc 133, 2) := by decide +kernel
theorem dX7_block_27 : decode cX7_block 27 = .ok (.invokespecial 52, 3) := by decide +kernel
theorem dX7_block_30 : decode cX7_block 30 = .ok (.athrow, 1) := by decide +kernel
theorem dX7_block_31 : decode cX7_block 31 = .ok (.aload 4, 2) := by decide +kernel
theorem dX7_block_33 : decode cX7_block 33 = .ok (.iconst 1, 1) := by decide +kernel
theorem dX7_block_34 : decode cX7_block 34 = .ok (.putfield 129, 3) := by decide +kernel
theorem dX7_block_37 : decode cX7_block 37 = .ok (.aload_n 3, 1) := by decide +kernel
theorem dX7_block_38 : decode cX7_block 38 = .ok (.invokevirtual 135, 3) := by decide +kernel
theorem dX7_block_41 : decode cX7_block 41 = .ok (.ireturn, 1) := by decide +kernel
theorem dX7_repair_0 : decode cX7_repair 0 = .ok (.aload_n 0, 1) := by decide +kernel
theorem dX7_repair_1 : decode cX7_repair 1 = .ok (.iload_n 1, 1) := by decide +kernel
theorem dX7_repair_2 : decode cX7_repair 2 = .ok (.invokevirtual 110, 3) := by decide +kernel
theorem dX7_repair_5 : decode cX7_repair 5 = .ok (.astore_n 3, 1) := by decide +kernel
theorem dX7_repair_6 : decode cX7_repair 6 = .ok (.aload_n 3, 1) := by decide +kernel
theorem dX7_repair_7 : decode cX7_repair 7 = .ok (.iload_n 2, 1) := by decide +kernel
theorem dX7_repair_8 : decode cX7_repair 8 = .ok (.invokestatic 114, 3) := by decide +kernel
theorem dX7_repair_11 : decode cX7_repair 11 = .ok (.astore 4, 2) := by decide +kernel
theorem dX7_repair_13 : decode cX7_repair 13 = .ok (.aload 4, 2) := by decide +kernel
theorem dX7_repair_15 : decode cX7_repair 15 = .ok (.getfield 129, 3) := by decide +kernel
theorem dX7_repair_18 : decode cX7_repair 18 = .ok (.ifCond .eq 10, 3) := by decide +kernel
theorem dX7_repair_21 : decode cX7_repair 21 = .ok (.aload_n 3, 1) := by decide +kernel
theorem dX7_repair_22 : decode cX7_repair 22 = .ok (.getfield 138, 3) := by decide +kernel
theorem dX7_repair_25 : decode cX7_repair 25 = .ok (.ifCond .eq 13, 3) := by decide +kernel
theorem dX7_repair_28 : decode cX7_repair 28 = .ok (.new 48, 3) := by decide +kernel
theorem dX7_repair_31 : decode cX7_repair 31 = .ok (.dup, 1) := by decide +kernel
theorem dX7_repair_32 : decode cX7_repair 32 = .ok (.ldc 141, 2) := by decide +kernel
theorem dX7_repair_34 : decode cX7_repair 34 = .ok (.invokespecial 52, 3) := by decide +kernel
theorem dX7_repair_37 : decode cX7_repair 37 = .ok (.athrow, 1) := by decide +kernel
theorem dX7_repair_38 : decode cX7_repair 38 = .ok (.aload 4, 2) := by decide +kernel
theorem dX7_repair_40 : decode cX7_repair 40 = .ok (.iconst 0, 1) := by decide +kernel
theorem dX7_repair_41 : decode cX7_repair 41 = .ok (.putfield 129, 3) := by decide +kernel
theorem dX7_repair_44 : decode cX7_repair 44 = .ok (.aload 4, 2) := by decide +kernel
theorem dX7_repair_46 : decode cX7_repair 46 = .ok (.iconst 0, 1) := by decide +kernel
theorem dX7_repair_47 : decode cX7_repair 47 = .ok (.putfield 126, 3) := by decide +kernel
theorem dX7_repair_50 : decode cX7_repair 50 = .ok (.aload_n 3, 1) := by decide +kernel
theorem dX7_repair_51 : decode cX7_repair 51 = .ok (.invokevirtual 135, 3) := by decide +kernel
theorem dX7_repair_54 : decode cX7_repair 54 = .ok (.ireturn, 1) := by decide +kernel
theorem dX7_nextOpen_0 : decode cX7_nextOpen 0 = .ok (.aload_n 0, 1) := by decide +kernel
theorem dX7_nextOpen_1 : decode cX7_nextOpen 1 = .ok (.iload_n 1, 1) := by decide +kernel
theorem dX7_nextOpen_2 : decode cX7_nextOpen 2 = .ok (.invokevirtual 110, 3) := by decide +kernel
theorem dX7_nextOpen_5 : decode cX7_nextOpen 5 = .ok (.getfield 143, 3) := by decide +kernel
theorem dX7_nextOpen_8 : decode cX7_nextOpen 8 = .ok (.astore_n 3, 1) := by decide +kernel
theorem dX7_nextOpen_9 : decode cX7_nextOpen 9 = .ok (.iload_n 2, 1) := by decide +kernel
theorem dX7_nextOpen_10 : decode cX7_nextOpen 10 = .ok (.iconst 0, 1) := by decide +kernel
theorem dX7_nextOpen_11 : decode cX7_nextOpen 11 = .ok (.invokestatic 147, 3) := by decide +kernel
theorem dX7_nextOpen_14 : decode cX7_nextOpen 14 = .ok (.istore 4, 2) := by decide +kernel
theorem dX7_nextOpen_16 : decode cX7_nextOpen 16 = .ok (.iload 4, 2) := by decide +kernel
theorem dX7_nextOpen_18 : decode cX7_nextOpen 18 = .ok (.aload_n 3, 1) := by decide +kernel
theorem dX7_nextOpen_19 : decode cX7_nextOpen 19 = .ok (.arraylength, 1) := by decide +kernel
theorem dX7_nextOpen_20 : decode cX7_nextOpen 20 = .ok (.if_icmp .ge 31, 3) := by decide +kernel
theorem dX7_nextOpen_23 : decode cX7_nextOpen 23 = .ok (.aload_n 3, 1) := by decide +kernel
theorem dX7_nextOpen_24 : decode cX7_nextOpen 24 = .ok (.iload 4, 2) := by decide +kernel
theorem dX7_nextOpen_26 : decode cX7_nextOpen 26 = .ok (.aaload, 1) := by decide +kernel
theorem dX7_nextOpen_27 : decode cX7_nextOpen 27 = .ok (.astore 5, 2) := by decide +kernel
theorem dX7_nextOpen_29 : decode cX7_nextOpen 29 = .ok (.aload 5, 2) := by decide +kernel
theorem dX7_nextOpen_31 : decode cX7_nextOpen 31 = .ok (.ifnull 14, 3) := by decide +kernel
theorem dX7_nextOpen_34 : decode cX7_nextOpen 34 = .ok (.aload 5, 2) := by decide +kernel
theorem dX7_nextOpen_36 : decode cX7_nextOpen 36 = .ok (.getfield 129, 3) := by decide +kernel
theorem dX7_nextOpen_39 : decode cX7_nextOpen 39 = .ok (.ifCond .ne 6, 3) := by decide +kernel
theorem dX7_nextOpen_42 : decode cX7_nextOpen 42 = .ok (.iload 4, 2) := by decide +kernel
theorem dX7_nextOpen_44 : decode cX7_nextOpen 44 = .ok (.ireturn, 1) := by decide +kernel
theorem dX7_nextOpen_45 : decode cX7_nextOpen 45 = .ok (.iinc 4 1, 3) := by decide +kernel
theorem dX7_nextOpen_48 : decode cX7_nextOpen 48 = .ok (.goto (-32), 3) := by decide +kernel
theorem dX7_nextOpen_51 : decode cX7_nextOpen 51 = .ok (.new 153, 3) := by decide +kernel
theorem dX7_nextOpen_54 : decode cX7_nextOpen 54 = .ok (.dup, 1) := by decide +kernel
theorem dX7_nextOpen_55 : decode cX7_nextOpen 55 = .ok (.ldc 155, 2) := by decide +kernel
theorem dX7_nextOpen_57 : decode cX7_nextOpen 57 = .ok (.invokespecial 157, 3) := by decide +kernel
theorem dX7_nextOpen_60 : decode cX7_nextOpen 60 = .ok (.athrow, 1) := by decide +kernel
theorem dX7_addMachine_0 : decode cX7_addMachine 0 = .ok (.iload_n 1, 1) := by decide +kernel
theorem dX7_addMachine_1 : decode cX7_addMachine 1 = .ok (.iconst 1, 1) := by decide +kernel
theorem dX7_addMachine_2 : decode cX7_addMachine 2 = .ok (.sipush 999, 3) := by decide +kernel
theorem dX7_addMachine_5 : decode cX7_addMachine 5 = .ok (.invokestatic 40, 3) := by decide +kernel
theorem dX7_addMachine_8 : decode cX7_addMachine 8 = .ok (.aload_n 0, 1) := by decide +kernel
theorem dX7_addMachine_9 : decode cX7_addMachine 9 = .ok (.getfield 158, 3) := by decide +kernel
theorem dX7_addMachine_12 : decode cX7_addMachine 12 = .ok (.istore_n 2, 1) := by decide +kernel
theorem dX7_addMachine_13 : decode cX7_addMachine 13 = .ok (.iload_n 2, 1) := by decide +kernel
theorem dX7_addMachine_14 : decode cX7_addMachine 14 = .ok (.ifCond .lt 12, 3) := by decide +kernel
theorem dX7_addMachine_17 : decode cX7_addMachine 17 = .ok (.iload_n 2, 1) := by decide +kernel
theorem dX7_addMachine_18 : decode cX7_addMachine 18 = .ok (.aload_n 0, 1) := by decide +kernel
theorem dX7_addMachine_19 : decode cX7_addMachine 19 = .ok (.getfield 23, 3) := by decide +kernel
theorem dX7_addMachine_22 : decode cX7_addMachine 22 = .ok (.arraylength, 1) := by decide +kernel
theorem dX7_addMachine_23 : decode cX7_addMachine 23 = .ok (.if_icmp .lt 13, 3) := by decide +kernel
theorem dX7_addMachine_26 : decode cX7_addMachine 26 = .ok (.new 48, 3) := by decide +kernel
theorem dX7_addMachine_29 : decode cX7_addMachine 29 = .ok (.dup, 1) := by decide +kernel
theorem dX7_addMachine_30 : decode cX7_addMachine 30 = .ok (.ldc 161, 2) := by decide +kernel
theorem dX7_addMachine_32 : decode cX7_addMachine 32 = .ok (.invokespecial 52, 3) := by decide +kernel
theorem dX7_addMachine_35 : decode cX7_addMachine 35 = .ok (.athrow, 1) := by decide +kernel
theorem dX7_addMachine_36 : decode cX7_addMachine 36 = .ok (.aload_n 0, 1) := by decide +kernel
theorem dX7_addMachine_37 : decode cX7_addMachine 37 = .ok (.getfield 23, 3) := by decide +kernel
theorem dX7_addMachine_40 : decode cX7_addMachine 40 = .ok (.iload_n 2, 1) := by decide +kernel
theorem dX7_addMachine_41 : decode cX7_addMachine 41 = .ok (.new 21, 3) := by decide +kernel
theorem dX7_addMachine_44 : decode cX7_addMachine 44 = .ok (.dup, 1) := by decide +kernel
theorem dX7_addMachine_45 : decode cX7_addMachine 45 = .ok (.iload_n 1, 1) := by decide +kernel
theorem dX7_addMachine_46 : decode cX7_addMachine 46 = .ok (.invokespecial 163, 3) := by decide +kernel
theorem dX7_addMachine_49 : decode cX7_addMachine 49 = .ok (.aastore, 1) := by decide +kernel
theorem dX7_addMachine_50 : decode cX7_addMachine 50 = .ok (.aload_n 0, 1) := by decide +kernel
theorem dX7_addMachine_51 : decode cX7_addMachine 51 = .ok (.iload_n 2, 1) := by decide +kernel
theorem dX7_addMachine_52 : decode cX7_addMachine 52 = .ok (.iconst 1, 1) := by decide +kernel
theorem dX7_addMachine_53 : decode cX7_addMachine 53 = .ok (.iadd, 1) := by decide +kernel
theorem dX7_addMachine_54 : decode cX7_addMachine 54 = .ok (.putfield 158, 3) := by decide +kernel
theorem dX7_addMachine_57 : decode cX7_addMachine 57 = .ok (.iload_n 2, 1) := by decide +kernel
theorem dX7_addMachine_58 : decode cX7_addMachine 58 = .ok (.ireturn, 1) := by decide +kernel
theorem dX7_mount_0 : decode cX7_mount 0 = .ok (.aload_n 0, 1) := by decide +kernel
theorem dX7_mount_1 : decode cX7_mount 1 = .ok (.iload_n 1, 1) := by decide +kernel
theorem dX7_mount_2 : decode cX7_mount 2 = .ok (.invokevirtual 164, 3) := by decide +kernel
theorem dX7_mount_5 : decode cX7_mount 5 = .ok (.astore_n 3, 1) := by decide +kernel
theorem dX7_mount_6 : decode cX7_mount 6 = .ok (.aload_n 0, 1) := by decide +kernel
theorem dX7_mount_7 : decode cX7_mount 7 = .ok (.iload_n 2, 1) := by decide +kernel
theorem dX7_mount_8 : decode cX7_mount 8 = .ok (.invokevirtual 110, 3) := by decide +kernel
theorem dX7_mount_11 : decode cX7_mount 11 = .ok (.astore 4, 2) := by decide +kernel
theorem dX7_mount_13 : decode cX7_mount 13 = .ok (.aload 4, 2) := by decide +kernel
theorem dX7_mount_15 : decode cX7_mount 15 = .ok (.getfield 168, 3) := by decide +kernel
theorem dX7_mount_18 : decode cX7_mount 18 = .ok (.aload_n 3, 1) := by decide +kernel
theorem dX7_mount_19 : decode cX7_mount 19 = .ok (.getfield 171, 3) := by decide +kernel
theorem dX7_mount_22 : decode cX7_mount 22 = .ok (.if_icmp .le 13, 3) := by decide +kernel
theorem dX7_mount_25 : decode cX7_mount 25 = .ok (.new 172, 3) := by decide +kernel
theorem dX7_mount_28 : decode cX7_mount 28 = .ok (.dup, 1) := by decide +kernel
theorem dX7_mount_29 : decode cX7_mount 29 = .ok (.ldc 174, 2) := by decide +kernel
theorem dX7_mount_31 : decode cX7_mount 31 = .ok (.invokespecial 176, 3) := by decide +kernel
theorem dX7_mount_34 : decode cX7_mount 34 = .ok (.athrow, 1) := by decide +kernel
theorem dX7_mount_35 : decode cX7_mount 35 = .ok (.aload 4, 2) := by decide +kernel
theorem dX7_mount_37 : decode cX7_mount 37 = .ok (.getfield 138, 3) := by decide +kernel
theorem dX7_mount_40 : decode cX7_mount 40 = .ok (.ifCond .eq 13, 3) := by decide +kernel
theorem dX7_mount_43 : decode cX7_mount 43 = .ok (.new 48, 3) := by decide +kernel
theorem dX7_mount_46 : decode cX7_mount 46 = .ok (.dup, 1) := by decide +kernel
theorem dX7_mount_47 : decode cX7_mount 47 = .ok (.ldc 177, 2) := by decide +kernel
theorem dX7_mount_49 : decode cX7_mount 49 = .ok (.invokespecial 52, 3) := by decide +kernel
theorem dX7_mount_52 : decode cX7_mount 52 = .ok (.athrow, 1) := by decide +kernel
theorem dX7_mount_53 : decode cX7_mount 53 = .ok (.aload_n 3, 1) := by decide +kernel
theorem dX7_mount_54 : decode cX7_mount 54 = .ok (.getfield 179, 3) := by decide +kernel
theorem dX7_mount_57 : decode cX7_mount 57 = .ok (.astore 5, 2) := by decide +kernel
theorem dX7_mount_59 : decode cX7_mount 59 = .ok (.aload_n 3, 1) := by decide +kernel
theorem dX7_mount_60 : decode cX7_mount 60 = .ok (.aload 4, 2) := by decide +kernel
theorem dX7_mount_62 : decode cX7_mount 62 = .ok (.putfield 179, 3) := by decide +kernel
theorem dX7_mount_65 : decode cX7_mount 65 = .ok (.aload_n 3, 1) := by decide +kernel
theorem dX7_mount_66 : decode cX7_mount 66 = .ok (.aconst_null, 1) := by decide +kernel
theorem dX7_mount_67 : decode cX7_mount 67 = .ok (.putfield 183, 3) := by decide +kernel
theorem dX7_mount_70 : decode cX7_mount 70 = .ok (.aload 4, 2) := by decide +kernel
theorem dX7_mount_72 : decode cX7_mount 72 = .ok (.iconst 1, 1) := by decide +kernel
theorem dX7_mount_73 : decode cX7_mount 73 = .ok (.putfield 138, 3) := by decide +kernel
theorem dX7_mount_76 : decode cX7_mount 76 = .ok (.aload 5, 2) := by decide +kernel
theorem dX7_mount_78 : decode cX7_mount 78 = .ok (.ifnonnull 5, 3) := by decide +kernel
theorem dX7_mount_81 : decode cX7_mount 81 = .ok (.iconst (-1), 1) := by decide +kernel
theorem dX7_mount_82 : decode cX7_mount 82 = .ok (.ireturn, 1) := by decide +kernel
theorem dX7_mount_83 : decode cX7_mount 83 = .ok (.aload 5, 2) := by decide +kernel
theorem dX7_mount_85 : decode cX7_mount 85 = .ok (.iconst 0, 1) := by decide +kernel
theorem dX7_mount_86 : decode cX7_mount 86 = .ok (.putfield 138, 3) := by decide +kernel
theorem dX7_mount_89 : decode cX7_mount 89 = .ok (.aload 5, 2) := by decide +kernel
theorem dX7_mount_91 : decode cX7_mount 91 = .ok (.getfield 187, 3) := by decide +kernel
theorem dX7_mount_94 : decode cX7_mount 94 = .ok (.ireturn, 1) := by decide +kernel
theorem dX7_run_0 : decode cX7_run 0 = .ok (.aload_n 0, 1) := by decide +kernel
theorem dX7_run_1 : decode cX7_run 1 = .ok (.iload_n 1, 1) := by decide +kernel
theorem dX7_run_2 : decode cX7_run 2 = .ok (.invokevirtual 164, 3) := by decide +kernel
theorem dX7_run_5 : decode cX7_run 5 = .ok (.astore_n 3, 1) := by decide +kernel
theorem dX7_run_6 : decode cX7_run 6 = .ok (.aload_n 0, 1) := by decide +kernel
theorem dX7_run_7 : decode cX7_run 7 = .ok (.iload_n 2, 1) := by decide +kernel
theorem dX7_run_8 : decode cX7_run 8 = .ok (.invokevirtual 190, 3) := by decide +kernel
theorem dX7_run_11 : decode cX7_run 11 = .ok (.astore 4, 2) := by decide +kernel
theorem dX7_run_13 : decode cX7_run 13 = .ok (.aload_n 3, 1) := by decide +kernel
theorem dX7_run_14 : decode cX7_run 14 = .ok (.getfield 179, 3) := by decide +kernel
theorem dX7_run_17 : decode cX7_run 17 = .ok (.aload 4, 2) := by decide +kernel
theorem dX7_run_19 : decode cX7_run 19 = .ok (.getfield 194, 3) := by decide +kernel
theorem dX7_run_22 : decode cX7_run 22 = .ok (.if_acmp .eq 13, 3) := by decide +kernel
theorem dX7_run_25 : decode cX7_run 25 = .ok (.new 172, 3) := by decide +kernel
theorem dX7_run_28 : decode cX7_run 28 = .ok (.dup, 1) := by decide +kernel
theorem dX7_run_29 : decode cX7_run 29 = .ok (.ldc 195, 2) := by decide +kernel
theorem dX7_run_31 : decode cX7_run 31 = .ok (.invokespecial 176, 3) := by decide +kernel
theorem dX7_run_34 : decode cX7_run 34 = .ok (.athrow, 1) := by decide +kernel
theorem dX7_run_35 : decode cX7_run 35 = .ok (.aload 4, 2) := by decide +kernel
theorem dX7_run_37 : decode cX7_run 37 = .ok (.invokevirtual 197, 3) := by decide +kernel
theorem dX7_run_40 : decode cX7_run 40 = .ok (.ifCond .ne 13, 3) := by decide +kernel
theorem dX7_run_43 : decode cX7_run 43 = .ok (.new 48, 3) := by decide +kernel
theorem dX7_run_46 : decode cX7_run 46 = .ok (.dup, 1) := by decide +kernel
theorem dX7_run_47 : decode cX7_run 47 = .ok (.ldc 200, 2) := by decide +kernel
theorem dX7_run_49 : decode cX7_run 49 = .ok (.invokespecial 52, 3) := by decide +kernel
theorem dX7_run_52 : decode cX7_run 52 = .ok (.athrow, 1) := by decide +kernel
theorem dX7_run_53 : decode cX7_run 53 = .ok (.aload_n 3, 1) := by decide +kernel
theorem dX7_run_54 : decode cX7_run 54 = .ok (.aload 4, 2) := by decide +kernel
theorem dX7_run_56 : decode cX7_run 56 = .ok (.putfield 183, 3) := by decide +kernel
theorem dX7_run_59 : decode cX7_run 59 = .ok (.aload 4, 2) := by decide +kernel
theorem dX7_run_61 : decode cX7_run 61 = .ok (.getfield 194, 3) := by decide +kernel
theorem dX7_run_64 : decode cX7_run 64 = .ok (.invokevirtual 202, 3) := by decide +kernel
theorem dX7_run_67 : decode cX7_run 67 = .ok (.ireturn, 1) := by decide +kernel
theorem dX7_order_0 : decode cX7_order 0 = .ok (.aload_n 0, 1) := by decide +kernel
theorem dX7_order_1 : decode cX7_order 1 = .ok (.iload_n 1, 1) := by decide +kernel
theorem dX7_order_2 : decode cX7_order 2 = .ok (.invokevirtual 110, 3) := by decide +kernel
theorem dX7_order_5 : decode cX7_order 5 = .ok (.astore 5, 2) := by decide +kernel
theorem dX7_order_7 : decode cX7_order 7 = .ok (.aload_n 0, 1) := by decide +kernel
theorem dX7_order_8 : decode cX7_order 8 = .ok (.iload_n 2, 1) := by decide +kernel
theorem dX7_order_9 : decode cX7_order 9 = .ok (.invokevirtual 58, 3) := by decide +kernel
theorem dX7_order_12 : decode cX7_order 12 = .ok (.astore 6, 2) := by decide +kernel
theorem dX7_order_14 : decode cX7_order 14 = .ok (.iload_n 3, 1) := by decide +kernel
theorem dX7_order_15 : decode cX7_order 15 = .ok (.iconst 1, 1) := by decide +kernel
theorem dX7_order_16 : decode cX7_order 16 = .ok (.sipush 5000, 3) := by decide +kernel
theorem dX7_order_19 : decode cX7_order 19 = .ok (.invokestatic 40, 3) := by decide +kernel
theorem dX7_order_22 : decode cX7_order 22 = .ok (.iload 4, 2) := by decide +kernel
theorem dX7_order_24 : decode cX7_order 24 = .ok (.iconst 0, 1) := by decide +kernel
theorem dX7_order_25 : decode cX7_order 25 = .ok (.bipush 50, 2) := by decide +kernel
theorem dX7_order_27 : decode cX7_order 27 = .ok (.invokestatic 40, 3) := by decide +kernel
theorem dX7_order_30 : decode cX7_order 30 = .ok (.aload_n 0, 1) := by decide +kernel
theorem dX7_order_31 : decode cX7_order 31 = .ok (.getfield 205, 3) := by decide +kernel
theorem dX7_order_34 : decode cX7_order 34 = .ok (.istore 7, 2) := by decide +kernel
theorem dX7_order_36 : decode cX7_order 36 = .ok (.iload 7, 2) := by decide +kernel
theorem dX7_order_38 : decode cX7_order 38 = .ok (.ifCond .lt 13, 3) := by decide +kernel
theorem dX7_order_41 : decode cX7_order 41 = .ok (.iload 7, 2) := by decide +kernel
theorem dX7_order_43 : decode cX7_order 43 = .ok (.aload_n 0, 1) := by decide +kernel
theorem dX7_order_44 : decode cX7_order 44 = .ok (.getfield 29, 3) := by decide +kernel
theorem dX7_order_47 : decode cX7_order 47 = .ok (.arraylength, 1) := by decide +kernel
theorem dX7_order_48 : decode cX7_order 48 = .ok (.if_icmp .lt 13, 3) := by decide +kernel
theorem dX7_order_51 : decode cX7_order 51 = .ok (.new 48, 3) := by decide +kernel
theorem dX7_order_54 : decode cX7_order 54 = .ok (.dup, 1) := by decide +kernel
theorem dX7_order_55 : decode cX7_order 55 = .ok (.ldc 208, 2) := by decide +kernel
theorem dX7_order_57 : decode cX7_order 57 = .ok (.invokespecial 52, 3) := by decide +kernel
theorem dX7_order_60 : decode cX7_order 60 = .ok (.athrow, 1) := by decide +kernel
theorem dX7_order_61 : decode cX7_order 61 = .ok (.aload_n 0, 1) := by decide +kernel
theorem dX7_order_62 : decode cX7_order 62 = .ok (.getfield 29, 3) := by decide +kernel
theorem dX7_order_65 : decode cX7_order 65 = .ok (.iload 7, 2) := by decide +kernel
theorem dX7_order_67 : decode cX7_order 67 = .ok (.new 27, 3) := by decide +kernel
theorem dX7_order_70 : decode cX7_order 70 = .ok (.dup, 1) := by decide +kernel
theorem dX7_order_71 : decode cX7_order 71 = .ok (.aload 5, 2) := by decide +kernel
theorem dX7_order_73 : decode cX7_order 73 = .ok (.aload 6, 2) := by decide +kernel
theorem dX7_order_75 : decode cX7_order 75 = .ok (.iload_n 3, 1) := by decide +kernel
theorem dX7_order_76 : decode cX7_order 76 = .ok (.iload 4, 2) := by decide +kernel
theorem dX7_order_78 : decode cX7_order 78 = .ok (.invokespecial 210, 3) := by decide +kernel
theorem dX7_order_81 : decode cX7_order 81 = .ok (.aastore, 1) := by decide +kernel
theorem dX7_order_82 : decode cX7_order 82 = .ok (.aload_n 0, 1) := by decide +kernel
theorem dX7_order_83 : decode cX7_order 83 = .ok (.iload 7, 2) := by decide +kernel
theorem dX7_order_85 : decode cX7_order 85 = .ok (.iconst 1, 1) := by decide +kernel
theorem dX7_order_86 : decode cX7_order 86 = .ok (.iadd, 1) := by decide +kernel
theorem dX7_order_87 : decode cX7_order 87 = .ok (.putfield 205, 3) := by decide +kernel
theorem dX7_order_90 : decode cX7_order 90 = .ok (.iload 7, 2) := by decide +kernel
theorem dX7_order_92 : decode cX7_order 92 = .ok (.ireturn, 1) := by decide +kernel
theorem dX7_lacks_0 : decode cX7_lacks 0 = .ok (.aload_n 0, 1) := by decide +kernel
theorem dX7_lacks_1 : decode cX7_lacks 1 = .ok (.iload_n 1, 1) := by decide +kernel
theorem dX7_lacks_2 : decode cX7_lacks 2 = .ok (.invokevirtual 190, 3) := by decide +kernel
theorem dX7_lacks_5 : decode cX7_lacks 5 = .ok (.getfield 213, 3) := by decide +kernel
theorem dX7_lacks_8 : decode cX7_lacks 8 = .ok (.ireturn, 1) := by decide +kernel
theorem dX7_hoursNeeded_0 : decode cX7_hoursNeeded 0 = .ok (.aload_n 0, 1) := by decide +kernel
theorem dX7_hoursNeeded_1 : decode cX7_hoursNeeded 1 = .ok (.iload_n 1, 1) := by decide +kernel
theorem dX7_hoursNeeded_2 : decode cX7_hoursNeeded 2 = .ok (.invokevirtual 190, 3) := by decide +kernel
theorem dX7_hoursNeeded_5 : decode cX7_hoursNeeded 5 = .ok (.astore_n 2, 1) := by decide +kernel
theorem dX7_hoursNeeded_6 : decode cX7_hoursNeeded 6 = .ok (.aload_n 2, 1) := by decide +kernel
theorem dX7_hoursNeeded_7 : decode cX7_hoursNeeded 7 = .ok (.invokevirtual 197, 3) := by decide +kernel
theorem dX7_hoursNeeded_10 : decode cX7_hoursNeeded 10 = .ok (.ifCond .ne 5, 3) := by decide +kernel
theorem dX7_hoursNeeded_13 : decode cX7_hoursNeeded 13 = .ok (.iconst 0, 1) := by decide +kernel
theorem dX7_hoursNeeded_14 : decode cX7_hoursNeeded 14 = .ok (.ireturn, 1) := by decide +kernel
theorem dX7_hoursNeeded_15 : decode cX7_hoursNeeded 15 = .ok (.aload_n 2, 1) := by decide +kernel
theorem dX7_hoursNeeded_16 : decode cX7_hoursNeeded 16 = .ok (.getfield 194, 3) := by decide +kernel
theorem dX7_hoursNeeded_19 : decode cX7_hoursNeeded 19 = .ok (.invokevirtual 135, 3) := by decide +kernel
theorem dX7_hoursNeeded_22 : decode cX7_hoursNeeded 22 = .ok (.istore_n 3, 1) := by decide +kernel
theorem dX7_hoursNeeded_23 : decode cX7_hoursNeeded 23 = .ok (.iload_n 3, 1) := by decide +kernel
theorem dX7_hoursNeeded_24 : decode cX7_hoursNeeded 24 = .ok (.iconst 1, 1) := by decide +kernel
theorem dX7_hoursNeeded_25 : decode cX7_hoursNeeded 25 = .ok (.if_icmp .ge 13, 3) := by decide +kernel
theorem dX7_hoursNeeded_28 : decode cX7_hoursNeeded 28 = .ok (.new 153, 3) := by decide +kernel
theorem dX7_hoursNeeded_31 : decode cX7_hoursNeeded 31 = .ok (.dup, 1) := by decide +kernel
theorem dX7_hoursNeeded_32 : decode cX7_hoursNeeded 32 = .ok (.ldc 216, 2) := by decide +kernel
theorem dX7_hoursNeeded_34 : decode cX7_hoursNeeded 34 = .ok (.invokespecial 157, 3) := by decide +kernel
theorem dX7_hoursNeeded_37 : decode cX7_hoursNeeded 37 = .ok (.athrow, 1) := by decide +kernel
theorem dX7_hoursNeeded_38 : decode cX7_hoursNeeded 38 = .ok (.aload_n 2, 1) := by decide +kernel
theorem dX7_hoursNeeded_39 : decode cX7_hoursNeeded 39 = .ok (.getfield 213, 3) := by decide +kernel
theorem dX7_hoursNeeded_42 : decode cX7_hoursNeeded 42 = .ok (.iload_n 3, 1) := by decide +kernel
theorem dX7_hoursNeeded_43 : decode cX7_hoursNeeded 43 = .ok (.invokestatic 218, 3) := by decide +kernel
theorem dX7_hoursNeeded_46 : decode cX7_hoursNeeded 46 = .ok (.aload_n 2, 1) := by decide +kernel
theorem dX7_hoursNeeded_47 : decode cX7_hoursNeeded 47 = .ok (.getfield 194, 3) := by decide +kernel
theorem dX7_hoursNeeded_50 : decode cX7_hoursNeeded 50 = .ok (.invokevirtual 202, 3) := by decide +kernel
theorem dX7_hoursNeeded_53 : decode cX7_hoursNeeded 53 = .ok (.invokestatic 218, 3) := by decide +kernel
theorem dX7_hoursNeeded_56 : decode cX7_hoursNeeded 56 = .ok (.ireturn, 1) := by decide +kernel
theorem dX7_shots_0 : decode cX7_shots 0 = .ok (.aload_n 0, 1) := by decide +kernel
theorem dX7_shots_1 : decode cX7_shots 1 = .ok (.iload_n 1, 1) := by decide +kernel
theorem dX7_shots_2 : decode cX7_shots 2 = .ok (.invokevirtual 190, 3) := by decide +kernel
theorem dX7_shots_5 : decode cX7_shots 5 = .ok (.getfield 221, 3) := by decide +kernel
theorem dX7_shots_8 : decode cX7_shots 8 = .ok (.ireturn, 1) := by decide +kernel
theorem dX7_regrindIn_0 : decode cX7_regrindIn 0 = .ok (.aload_n 0, 1) := by decide +kernel
theorem dX7_regrindIn_1 : decode cX7_regrindIn 1 = .ok (.iload_n 1, 1) := by decide +kernel
theorem dX7_regrindIn_2 : decode cX7_regrindIn 2 = .ok (.invokevirtual 190, 3) := by decide +kernel
theorem dX7_regrindIn_5 : decode cX7_regrindIn 5 = .ok (.getfield 224, 3) := by decide +kernel
theorem dX7_regrindIn_8 : decode cX7_regrindIn 8 = .ok (.lreturn, 1) := by decide +kernel
theorem dX7_regrindByShots_0 : decode cX7_regrindByShots 0 = .ok (.aload_n 0, 1) := by decide +kernel
theorem dX7_regrindByShots_1 : decode cX7_regrindByShots 1 = .ok (.iload_n 1, 1) := by decide +kernel
theorem dX7_regrindByShots_2 : decode cX7_regrindByShots 2 = .ok (.invokevirtual 190, 3) := by decide +kernel
theorem dX7_regrindByShots_5 : decode cX7_regrindByShots 5 = .ok (.invokevirtual 228, 3) := by decide +kernel
theorem dX7_regrindByShots_8 : decode cX7_regrindByShots 8 = .ok (.lreturn, 1) := by decide +kernel
theorem dX7_greatestShare_0 : decode cX7_greatestShare 0 = .ok (.aload_n 0, 1) := by decide +kernel
theorem dX7_greatestShare_1 : decode cX7_greatestShare 1 = .ok (.iload_n 1, 1) := by decide +kernel
theorem dX7_greatestShare_2 : decode cX7_greatestShare 2 = .ok (.invokevirtual 190, 3) := by decide +kernel
theorem dX7_greatestShare_5 : decode cX7_greatestShare 5 = .ok (.astore_n 2, 1) := by decide +kernel
theorem dX7_greatestShare_6 : decode cX7_greatestShare 6 = .ok (.aload_n 2, 1) := by decide +kernel
theorem dX7_greatestShare_7 : decode cX7_greatestShare 7 = .ok (.getfield 221, 3) := by decide +kernel
theorem dX7_greatestShare_10 : decode cX7_greatestShare 10 = .ok (.iconst 1, 1) := by decide +kernel
theorem dX7_greatestShare_11 : decode cX7_greatestShare 11 = .ok (.if_icmp .ge 13, 3) := by decide +kernel
theorem dX7_greatestShare_14 : decode cX7_greatestShare 14 = .ok (.new 153, 3) := by decide +kernel
theorem dX7_greatestShare_17 : decode cX7_greatestShare 17 = .ok (.dup, 1) := by decide +kernel
theorem dX7_greatestShare_18 : decode cX7_greatestShare 18 = .ok (.ldc 232, 2) := by decide +kernel
theorem dX7_greatestShare_20 : decode cX7_greatestShare 20 = .ok (.invokespecial 157, 3) := by decide +kernel
theorem dX7_greatestShare_23 : decode cX7_greatestShare 23 = .ok (.athrow, 1) := by decide +kernel
theorem dX7_greatestShare_24 : decode cX7_greatestShare 24 = .ok (.aload_n 2, 1) := by decide +kernel
theorem dX7_greatestShare_25 : decode cX7_greatestShare 25 = .ok (.getfield 234, 3) := by decide +kernel
theorem dX7_greatestShare_28 : decode cX7_greatestShare 28 = .ok (.ireturn, 1) := by decide +kernel
theorem dX7_pass_0 : decode cX7_pass 0 = .ok (.iload_n 1, 1) := by decide +kernel
theorem dX7_pass_1 : decode cX7_pass 1 = .ok (.iconst 1, 1) := by decide +kernel
theorem dX7_pass_2 : decode cX7_pass 2 = .ok (.bipush 24, 2) := by decide +kernel
theorem dX7_pass_4 : decode cX7_pass 4 = .ok (.invokestatic 40, 3) := by decide +kernel
theorem dX7_pass_7 : decode cX7_pass 7 = .ok (.aload_n 0, 1) := by decide +kernel
theorem dX7_pass_8 : decode cX7_pass 8 = .ok (.getfield 237, 3) := by decide +kernel
theorem dX7_pass_11 : decode cX7_pass 11 = .ok (.iload_n 1, 1) := by decide +kernel
theorem dX7_pass_12 : decode cX7_pass 12 = .ok (.iadd, 1) := by decide +kernel
theorem dX7_pass_13 : decode cX7_pass 13 = .ok (.sipush 300, 3) := by decide +kernel
theorem dX7_pass_16 : decode cX7_pass 16 = .ok (.if_icmp .le 13, 3) := by decide +kernel
theorem dX7_pass_19 : decode cX7_pass 19 = .ok (.new 48, 3) := by decide +kernel
theorem dX7_pass_22 : decode cX7_pass 22 = .ok (.dup, 1) := by decide +kernel
theorem dX7_pass_23 : decode cX7_pass 23 = .ok (.ldc 240, 2) := by decide +kernel
theorem dX7_pass_25 : decode cX7_pass 25 = .ok (.invokespecial 52, 3) := by decide +kernel
theorem dX7_pass_28 : decode cX7_pass 28 = .ok (.athrow, 1) := by decide +kernel
theorem dX7_pass_29 : decode cX7_pass 29 = .ok (.iconst 0, 1) := by decide +kernel
theorem dX7_pass_30 : decode cX7_pass 30 = .ok (.istore_n 2, 1) := by decide +kernel
theorem dX7_pass_31 : decode cX7_pass 31 = .ok (.iconst 0, 1) := by decide +kernel
theorem dX7_pass_32 : decode cX7_pass 32 = .ok (.istore_n 3, 1) := by decide +kernel
theorem dX7_pass_33 : decode cX7_pass 33 = .ok (.iload_n 3, 1) := by decide +kernel
theorem dX7_pass_34 : decode cX7_pass 34 = .ok (.iload_n 1, 1) := by decide +kernel
theorem dX7_pass_35 : decode cX7_pass 35 = .ok (.if_icmp .ge 16, 3) := by decide +kernel
theorem dX7_pass_38 : decode cX7_pass 38 = .ok (.iload_n 2, 1) := by decide +kernel
theorem dX7_pass_39 : decode cX7_pass 39 = .ok (.aload_n 0, 1) := by decide +kernel
theorem dX7_pass_40 : decode cX7_pass 40 = .ok (.invokevirtual 242, 3) := by decide +kernel
theorem dX7_pass_43 : decode cX7_pass 43 = .ok (.iadd, 1) := by decide +kernel
theorem dX7_pass_44 : decode cX7_pass 44 = .ok (.istore_n 2, 1) := by decide +kernel
theorem dX7_pass_45 : decode cX7_pass 45 = .ok (.iinc 3 1, 3) := by decide +kernel
theorem dX7_pass_48 : decode cX7_pass 48 = .ok (.goto (-15), 3) := by decide +kernel
theorem dX7_pass_51 : decode cX7_pass 51 = .ok (.iload_n 2, 1) := by decide +kernel
theorem dX7_pass_52 : decode cX7_pass 52 = .ok (.ireturn, 1) := by decide +kernel
theorem dX7_hours_0 : decode cX7_hours 0 = .ok (.aload_n 0, 1) := by decide +kernel
theorem dX7_hours_1 : decode cX7_hours 1 = .ok (.getfield 237, 3) := by decide +kernel
theorem dX7_hours_4 : decode cX7_hours 4 = .ok (.ireturn, 1) := by decide +kernel
theorem dX7_regrindShare_0 : decode cX7_regrindShare 0 = .ok (.aload_n 0, 1) := by decide +kernel
theorem dX7_regrindShare_1 : decode cX7_regrindShare 1 = .ok (.getfield 245, 3) := by decide +kernel
theorem dX7_regrindShare_4 : decode cX7_regrindShare 4 = .ok (.lconst 1, 1) := by decide +kernel
theorem dX7_regrindShare_5 : decode cX7_regrindShare 5 = .ok (.lcmp, 1) := by decide +kernel
theorem dX7_regrindShare_6 : decode cX7_regrindShare 6 = .ok (.ifCond .ge 13, 3) := by decide +kernel
theorem dX7_regrindShare_9 : decode cX7_regrindShare 9 = .ok (.new 248, 3) := by decide +kernel
theorem dX7_regrindShare_12 : decode cX7_regrindShare 12 = .ok (.dup, 1) := by decide +kernel
theorem dX7_regrindShare_13 : decode cX7_regrindShare 13 = .ok (.ldc 250, 2) := by decide +kernel
theorem dX7_regrindShare_15 : decode cX7_regrindShare 15 = .ok (.invokespecial 252, 3) := by decide +kernel
theorem dX7_regrindShare_18 : decode cX7_regrindShare 18 = .ok (.athrow, 1) := by decide +kernel
theorem dX7_regrindShare_19 : decode cX7_regrindShare 19 = .ok (.aload_n 0, 1) := by decide +kernel
theorem dX7_regrindShare_20 : decode cX7_regrindShare 20 = .ok (.getfield 253, 3) := by decide +kernel
theorem dX7_regrindShare_23 : decode cX7_regrindShare 23 = .ok (.l2f, 1) := by decide +kernel
theorem dX7_regrindShare_24 : decode cX7_regrindShare 24 = .ok (.aload_n 0, 1) := by decide +kernel
theorem dX7_regrindShare_25 : decode cX7_regrindShare 25 = .ok (.getfield 245, 3) := by decide +kernel
theorem dX7_regrindShare_28 : decode cX7_regrindShare 28 = .ok (.l2f, 1) := by decide +kernel
theorem dX7_regrindShare_29 : decode cX7_regrindShare 29 = .ok (.fdiv, 1) := by decide +kernel
theorem dX7_regrindShare_30 : decode cX7_regrindShare 30 = .ok (.freturn, 1) := by decide +kernel
theorem dX7_meanParts_0 : decode cX7_meanParts 0 = .ok (.aload_n 0, 1) := by decide +kernel
theorem dX7_meanParts_1 : decode cX7_meanParts 1 = .ok (.getfield 256, 3) := by decide +kernel
theorem dX7_meanParts_4 : decode cX7_meanParts 4 = .ok (.iconst 1, 1) := by decide +kernel
theorem dX7_meanParts_5 : decode cX7_meanParts 5 = .ok (.if_icmp .ge 13, 3) := by decide +kernel
theorem dX7_meanParts_8 : decode cX7_meanParts 8 = .ok (.new 248, 3) := by decide +kernel
theorem dX7_meanParts_11 : decode cX7_meanParts 11 = .ok (.dup, 1) := by decide +kernel
theorem dX7_meanParts_12 : decode cX7_meanParts 12 = .ok (.ldc 250, 2) := by decide +kernel
theorem dX7_meanParts_14 : decode cX7_meanParts 14 = .ok (.invokespecial 252, 3) := by decide +kernel
theorem dX7_meanParts_17 : decode cX7_meanParts 17 = .ok (.athrow, 1) := by decide +kernel
theorem dX7_meanParts_18 : decode cX7_meanParts 18 = .ok (.aload_n 0, 1) := by decide +kernel
theorem dX7_meanParts_19 : decode cX7_meanParts 19 = .ok (.getfield 259, 3) := by decide +kernel
theorem dX7_meanParts_22 : decode cX7_meanParts 22 = .ok (.i2d, 1) := by decide +kernel
theorem dX7_meanParts_23 : decode cX7_meanParts 23 = .ok (.aload_n 0, 1) := by decide +kernel
theorem dX7_meanParts_24 : decode cX7_meanParts 24 = .ok (.getfield 256, 3) := by decide +kernel
theorem dX7_meanParts_27 : decode cX7_meanParts 27 = .ok (.i2d, 1) := by decide +kernel
theorem dX7_meanParts_28 : decode cX7_meanParts 28 = .ok (.ddiv, 1) := by decide +kernel
theorem dX7_meanParts_29 : decode cX7_meanParts 29 = .ok (.dreturn, 1) := by decide +kernel
theorem dX7_requireRange_0 : decode cX7_requireRange 0 = .ok (.iload_n 0, 1) := by decide +kernel
theorem dX7_requireRange_1 : decode cX7_requireRange 1 = .ok (.iload_n 1, 1) := by decide +kernel
theorem dX7_requireRange_2 : decode cX7_requireRange 2 = .ok (.if_icmp .lt 8, 3) := by decide +kernel
theorem dX7_requireRange_5 : decode cX7_requireRange 5 = .ok (.iload_n 0, 1) := by decide +kernel
theorem dX7_requireRange_6 : decode cX7_requireRange 6 = .ok (.iload_n 2, 1) := by decide +kernel
theorem dX7_requireRange_7 : decode cX7_requireRange 7 = .ok (.if_icmp .le 14, 3) := by decide +kernel
theorem dX7_requireRange_10 : decode cX7_requireRange 10 = .ok (.new 262, 3) := by decide +kernel
theorem dX7_requireRange_13 : decode cX7_requireRange 13 = .ok (.dup, 1) := by decide +kernel
theorem dX7_requireRange_14 : decode cX7_requireRange 14 = .ok (.ldc_w 264, 3) := by decide +kernel
theorem dX7_requireRange_17 : decode cX7_requireRange 17 = .ok (.invokespecial 266, 3) := by decide +kernel
theorem dX7_requireRange_20 : decode cX7_requireRange 20 = .ok (.athrow, 1) := by decide +kernel
theorem dX7_requireRange_21 : decode cX7_requireRange 21 = .ok (.return_, 1) := by decide +kernel
theorem dX7_resinOf_0 : decode cX7_resinOf 0 = .ok (.iload_n 1, 1) := by decide +kernel
theorem dX7_resinOf_1 : decode cX7_resinOf 1 = .ok (.ifCond .lt 12, 3) := by decide +kernel
theorem dX7_resinOf_4 : decode cX7_resinOf 4 = .ok (.iload_n 1, 1) := by decide +kernel
theorem dX7_resinOf_5 : decode cX7_resinOf 5 = .ok (.aload_n 0, 1) := by decide +kernel
theorem dX7_resinOf_6 : decode cX7_resinOf 6 = .ok (.getfield 11, 3) := by decide +kernel
theorem dX7_resinOf_9 : decode cX7_resinOf 9 = .ok (.arraylength, 1) := by decide +kernel
theorem dX7_resinOf_10 : decode cX7_resinOf 10 = .ok (.if_icmp .lt 7, 3) := by decide +kernel
theorem dX7_resinOf_13 : decode cX7_resinOf 13 = .ok (.aconst_null, 1) := by decide +kernel
theorem dX7_resinOf_14 : decode cX7_resinOf 14 = .ok (.goto 9, 3) := by decide +kernel
theorem dX7_resinOf_17 : decode cX7_resinOf 17 = .ok (.aload_n 0, 1) := by decide +kernel
theorem dX7_resinOf_18 : decode cX7_resinOf 18 = .ok (.getfield 11, 3) := by decide +kernel
theorem dX7_resinOf_21 : decode cX7_resinOf 21 = .ok (.iload_n 1, 1) := by decide +kernel
theorem dX7_resinOf_22 : decode cX7_resinOf 22 = .ok (.aaload, 1) := by decide +kernel
theorem dX7_resinOf_23 : decode cX7_resinOf 23 = .ok (.astore_n 2, 1) := by decide +kernel
theorem dX7_resinOf_24 : decode cX7_resinOf 24 = .ok (.aload_n 2, 1) := by decide +kernel
theorem dX7_resinOf_25 : decode cX7_resinOf 25 = .ok (.ifnonnull 14, 3) := by decide +kernel
theorem dX7_resinOf_28 : decode cX7_resinOf 28 = .ok (.new 267, 3) := by decide +kernel
theorem dX7_resinOf_31 : decode cX7_resinOf 31 = .ok (.dup, 1) := by decide +kernel
theorem dX7_resinOf_32 : decode cX7_resinOf 32 = .ok (.ldc_w 269, 3) := by decide +kernel
theorem dX7_resinOf_35 : decode cX7_resinOf 35 = .ok (.invokespecial 271, 3) := by decide +kernel
theorem dX7_resinOf_38 : decode cX7_resinOf 38 = .ok (.athrow, 1) := by decide +kernel
theorem dX7_resinOf_39 : decode cX7_resinOf 39 = .ok (.aload_n 2, 1) := by decide +kernel
theorem dX7_resinOf_40 : decode cX7_resinOf 40 = .ok (.areturn, 1) := by decide +kernel
theorem dX7_lotOf_0 : decode cX7_lotOf 0 = .ok (.aload_n 0, 1) := by decide +kernel
theorem dX7_lotOf_1 : decode cX7_lotOf 1 = .ok (.getfield 36, 3) := by decide +kernel
theorem dX7_lotOf_4 : decode cX7_lotOf 4 = .ok (.iload_n 1, 1) := by decide +kernel
theorem dX7_lotOf_5 : decode cX7_lotOf 5 = .ok (.invokevirtual 272, 3) := by decide +kernel
theorem dX7_lotOf_8 : decode cX7_lotOf 8 = .ok (.astore_n 2, 1) := by decide +kernel
theorem dX7_lotOf_9 : decode cX7_lotOf 9 = .ok (.aload_n 2, 1) := by decide +kernel
theorem dX7_lotOf_10 : decode cX7_lotOf 10 = .ok (.ifnonnull 14, 3) := by decide +kernel
theorem dX7_lotOf_13 : decode cX7_lotOf 13 = .ok (.new 267, 3) := by decide +kernel
theorem dX7_lotOf_16 : decode cX7_lotOf 16 = .ok (.dup, 1) := by decide +kernel
theorem dX7_lotOf_17 : decode cX7_lotOf 17 = .ok (.ldc_w 275, 3) := by decide +kernel
theorem dX7_lotOf_20 : decode cX7_lotOf 20 = .ok (.invokespecial 271, 3) := by decide +kernel
theorem dX7_lotOf_23 : decode cX7_lotOf 23 = .ok (.athrow, 1) := by decide +kernel
theorem dX7_lotOf_24 : decode cX7_lotOf 24 = .ok (.aload_n 2, 1) := by decide +kernel
theorem dX7_lotOf_25 : decode cX7_lotOf 25 = .ok (.areturn, 1) := by decide +kernel
theorem dX7_mouldOf_0 : decode cX7_mouldOf 0 = .ok (.iload_n 1, 1) := by decide +kernel
theorem dX7_mouldOf_1 : decode cX7_mouldOf 1 = .ok (.ifCond .lt 12, 3) := by decide +kernel
theorem dX7_mouldOf_4 : decode cX7_mouldOf 4 = .ok (.iload_n 1, 1) := by decide +kernel
theorem dX7_mouldOf_5 : decode cX7_mouldOf 5 = .ok (.aload_n 0, 1) := by decide +kernel
theorem dX7_mouldOf_6 : decode cX7_mouldOf 6 = .ok (.getfield 17, 3) := by decide +kernel
theorem dX7_mouldOf_9 : decode cX7_mouldOf 9 = .ok (.arraylength, 1) := by decide +kernel
theorem dX7_mouldOf_10 : decode cX7_mouldOf 10 = .ok (.if_icmp .lt 7, 3) := by decide +kernel
theorem dX7_mouldOf_13 : decode cX7_mouldOf 13 = .ok (.aconst_null, 1) := by decide +kernel
theorem dX7_mouldOf_14 : decode cX7_mouldOf 14 = .ok (.goto 9, 3) := by decide +kernel
theorem dX7_mouldOf_17 : decode cX7_mouldOf 17 = .ok (.aload_n 0, 1) := by decide +kernel
theorem dX7_mouldOf_18 : decode cX7_mouldOf 18 = .ok (.getfield 17, 3) := by decide +kernel
theorem dX7_mouldOf_21 : decode cX7_mouldOf 21 = .ok (.iload_n 1, 1) := by decide +kernel
theorem dX7_mouldOf_22 : decode cX7_mouldOf 22 = .ok (.aaload, 1) := by decide +kernel
theorem dX7_mouldOf_23 : decode cX7_mouldOf 23 = .ok (.astore_n 2, 1) := by decide +kernel
theorem dX7_mouldOf_24 : decode cX7_mouldOf 24 = .ok (.aload_n 2, 1) := by decide +kernel
theorem dX7_mouldOf_25 : decode cX7_mouldOf 25 = .ok (.ifnonnull 14, 3) := by decide +kernel
theorem dX7_mouldOf_28 : decode cX7_mouldOf 28 = .ok (.new 267, 3) := by decide +kernel
theorem dX7_mouldOf_31 : decode cX7_mouldOf 31 = .ok (.dup, 1) := by decide +kernel
theorem dX7_mouldOf_32 : decode cX7_mouldOf 32 = .ok (.ldc_w 277, 3) := by decide +kernel
theorem dX7_mouldOf_35 : decode cX7_mouldOf 35 = .ok (.invokespecial 271, 3) := by decide +kernel
theorem dX7_mouldOf_38 : decode cX7_mouldOf 38 = .ok (.athrow, 1) := by decide +kernel
theorem dX7_mouldOf_39 : decode cX7_mouldOf 39 = .ok (.aload_n 2, 1) := by decide +kernel
theorem dX7_mouldOf_40 : decode cX7_mouldOf 40 = .ok (.areturn, 1) := by decide +kernel
theorem dX7_cavityOf_0 : decode cX7_cavityOf 0 = .ok (.aload_n 0, 1) := by decide +kernel
theorem dX7_cavityOf_1 : decode cX7_cavityOf 1 = .ok (.getfield 143, 3) := by decide +kernel
theorem dX7_cavityOf_4 : decode cX7_cavityOf 4 = .ok (.astore_n 2, 1) := by decide +kernel
theorem dX7_cavityOf_5 : decode cX7_cavityOf 5 = .ok (.iload_n 1, 1) := by decide +kernel
theorem dX7_cavityOf_6 : decode cX7_cavityOf 6 = .ok (.ifCond .lt 9, 3) := by decide +kernel
theorem dX7_cavityOf_9 : decode cX7_cavityOf 9 = .ok (.iload_n 1, 1) := by decide +kernel
theorem dX7_cavityOf_10 : decode cX7_cavityOf 10 = .ok (.aload_n 2, 1) := by decide +kernel
theorem dX7_cavityOf_11 : decode cX7_cavityOf 11 = .ok (.arraylength, 1) := by decide +kernel
theorem dX7_cavityOf_12 : decode cX7_cavityOf 12 = .ok (.if_icmp .lt 7, 3) := by decide +kernel
theorem dX7_cavityOf_15 : decode cX7_cavityOf 15 = .ok (.aconst_null, 1) := by decide +kernel
theorem dX7_cavityOf_16 : decode cX7_cavityOf 16 = .ok (.goto 6, 3) := by decide +kernel
theorem dX7_cavityOf_19 : decode cX7_cavityOf 19 = .ok (.aload_n 2, 1) := by decide +kernel
theorem dX7_cavityOf_20 : decode cX7_cavityOf 20 = .ok (.iload_n 1, 1) := by decide +kernel
theorem dX7_cavityOf_21 : decode cX7_cavityOf 21 = .ok (.aaload, 1) := by decide +kernel
theorem dX7_cavityOf_22 : decode cX7_cavityOf 22 = .ok (.astore_n 3, 1) := by decide +kernel
theorem dX7_cavityOf_23 : decode cX7_cavityOf 23 = .ok (.aload_n 3, 1) := by decide +kernel
theorem dX7_cavityOf_24 : decode cX7_cavityOf 24 = .ok (.ifnonnull 14, 3) := by decide +kernel
theorem dX7_cavityOf_27 : decode cX7_cavityOf 27 = .ok (.new 267, 3) := by decide +kernel
theorem dX7_cavityOf_30 : decode cX7_cavityOf 30 = .ok (.dup, 1) := by decide +kernel
theorem dX7_cavityOf_31 : decode cX7_cavityOf 31 = .ok (.ldc_w 279, 3) := by decide +kernel
theorem dX7_cavityOf_34 : decode cX7_cavityOf 34 = .ok (.invokespecial 271, 3) := by decide +kernel
theorem dX7_cavityOf_37 : decode cX7_cavityOf 37 = .ok (.athrow, 1) := by decide +kernel
theorem dX7_cavityOf_38 : decode cX7_cavityOf 38 = .ok (.aload_n 3, 1) := by decide +kernel
theorem dX7_cavityOf_39 : decode cX7_cavityOf 39 = .ok (.areturn, 1) := by decide +kernel
theorem dX7_machineOf_0 : decode cX7_machineOf 0 = .ok (.iload_n 1, 1) := by decide +kernel
theorem dX7_machineOf_1 : decode cX7_machineOf 1 = .ok (.ifCond .lt 12, 3) := by decide +kernel
theorem dX7_machineOf_4 : decode cX7_machineOf 4 = .ok (.iload_n 1, 1) := by decide +kernel
theorem dX7_machineOf_5 : decode cX7_machineOf 5 = .ok (.aload_n 0, 1) := by decide +kernel
theorem dX7_machineOf_6 : decode cX7_machineOf 6 = .ok (.getfield 23, 3) := by decide +kernel
theorem dX7_machineOf_9 : decode cX7_machineOf 9 = .ok (.arraylength, 1) := by decide +kernel
theorem dX7_machineOf_10 : decode cX7_machineOf 10 = .ok (.if_icmp .lt 7, 3) := by decide +kernel
theorem dX7_machineOf_13 : decode cX7_machineOf 13 = .ok (.aconst_null, 1) := by decide +kernel
theorem dX7_machineOf_14 : decode cX7_machineOf 14 = .ok (.goto 9, 3) := by decide +kernel
theorem dX7_machineOf_17 : decode cX7_machineOf 17 = .ok (.aload_n 0, 1) := by decide +kernel
theorem dX7_machineOf_18 : decode cX7_machineOf 18 = .ok (.getfield 23, 3) := by decide +kernel
theorem dX7_machineOf_21 : decode cX7_machineOf 21 = .ok (.iload_n 1, 1) := by decide +kernel
theorem dX7_machineOf_22 : decode cX7_machineOf 22 = .ok (.aaload, 1) := by decide +kernel
theorem dX7_machineOf_23 : decode cX7_machineOf 23 = .ok (.astore_n 2, 1) := by decide +kernel
theorem dX7_machineOf_24 : decode cX7_machineOf 24 = .ok (.aload_n 2, 1) := by decide +kernel
theorem dX7_machineOf_25 : decode cX7_machineOf 25 = .ok (.ifnonnull 14, 3) := by decide +kernel
theorem dX7_machineOf_28 : decode cX7_machineOf 28 = .ok (.new 267, 3) := by decide +kernel
theorem dX7_machineOf_31 : decode cX7_machineOf 31 = .ok (.dup, 1) := by decide +kernel
theorem dX7_machineOf_32 : decode cX7_machineOf 32 = .ok (.ldc_w 281, 3) := by decide +kernel
theorem dX7_machineOf_35 : decode cX7_machineOf 35 = .ok (.invokespecial 271, 3) := by decide +kernel
theorem dX7_machineOf_38 : decode cX7_machineOf 38 = .ok (.athrow, 1) := by decide +kernel
theorem dX7_machineOf_39 : decode cX7_machineOf 39 = .ok (.aload_n 2, 1) := by decide +kernel
theorem dX7_machineOf_40 : decode cX7_machineOf 40 = .ok (.areturn, 1) := by decide +kernel
theorem dX7_orderOf_0 : decode cX7_orderOf 0 = .ok (.iload_n 1, 1) := by decide +kernel
theorem dX7_orderOf_1 : decode cX7_orderOf 1 = .ok (.ifCond .lt 12, 3) := by decide +kernel
theorem dX7_orderOf_4 : decode cX7_orderOf 4 = .ok (.iload_n 1, 1) := by decide +kernel
theorem dX7_orderOf_5 : decode cX7_orderOf 5 = .ok (.aload_n 0, 1) := by decide +kernel
theorem dX7_orderOf_6 : decode cX7_orderOf 6 = .ok (.getfield 29, 3) := by decide +kernel
theorem dX7_orderOf_9 : decode cX7_orderOf 9 = .ok (.arraylength, 1) := by decide +kernel
theorem dX7_orderOf_10 : decode cX7_orderOf 10 = .ok (.if_icmp .lt 7, 3) := by decide +kernel
theorem dX7_orderOf_13 : decode cX7_orderOf 13 = .ok (.aconst_null, 1) := by decide +kernel
theorem dX7_orderOf_14 : decode cX7_orderOf 14 = .ok (.goto 9, 3) := by decide +kernel
theorem dX7_orderOf_17 : decode cX7_orderOf 17 = .ok (.aload_n 0, 1) := by decide +kernel
theorem dX7_orderOf_18 : decode cX7_orderOf 18 = .ok (.getfield 29, 3) := by decide +kernel
theorem dX7_orderOf_21 : decode cX7_orderOf 21 = .ok (.iload_n 1, 1) := by decide +kernel
theorem dX7_orderOf_22 : decode cX7_orderOf 22 = .ok (.aaload, 1) := by decide +kernel
theorem dX7_orderOf_23 : decode cX7_orderOf 23 = .ok (.astore_n 2, 1) := by decide +kernel
theorem dX7_orderOf_24 : decode cX7_orderOf 24 = .ok (.aload_n 2, 1) := by decide +kernel
theorem dX7_orderOf_25 : decode cX7_orderOf 25 = .ok (.ifnonnull 14, 3) := by decide +kernel
theorem dX7_orderOf_28 : decode cX7_orderOf 28 = .ok (.new 267, 3) := by decide +kernel
theorem dX7_orderOf_31 : decode cX7_orderOf 31 = .ok (.dup, 1) := by decide +kernel
theorem dX7_orderOf_32 : decode cX7_orderOf 32 = .ok (.ldc_w 283, 3) := by decide +kernel
theorem dX7_orderOf_35 : decode cX7_orderOf 35 = .ok (.invokespecial 271, 3) := by decide +kernel
theorem dX7_orderOf_38 : decode cX7_orderOf 38 = .ok (.athrow, 1) := by decide +kernel
theorem dX7_orderOf_39 : decode cX7_orderOf 39 = .ok (.aload_n 2, 1) := by decide +kernel
theorem dX7_orderOf_40 : decode cX7_orderOf 40 = .ok (.areturn, 1) := by decide +kernel
theorem dX7_dividedUp_0 : decode cX7_dividedUp 0 = .ok (.iload_n 1, 1) := by decide +kernel
theorem dX7_dividedUp_1 : decode cX7_dividedUp 1 = .ok (.iconst 1, 1) := by decide +kernel
theorem dX7_dividedUp_2 : decode cX7_dividedUp 2 = .ok (.if_icmp .ge 7, 3) := by decide +kernel
theorem dX7_dividedUp_5 : decode cX7_dividedUp 5 = .ok (.iconst 0, 1) := by decide +kernel
theorem dX7_dividedUp_6 : decode cX7_dividedUp 6 = .ok (.goto 10, 3) := by decide +kernel
theorem dX7_dividedUp_9 : decode cX7_dividedUp 9 = .ok (.iload_n 0, 1) := by decide +kernel
theorem dX7_dividedUp_10 : decode cX7_dividedUp 10 = .ok (.iload_n 1, 1) := by decide +kernel
theorem dX7_dividedUp_11 : decode cX7_dividedUp 11 = .ok (.iadd, 1) := by decide +kernel
theorem dX7_dividedUp_12 : decode cX7_dividedUp 12 = .ok (.iconst 1, 1) := by decide +kernel
theorem dX7_dividedUp_13 : decode cX7_dividedUp 13 = .ok (.isub, 1) := by decide +kernel
theorem dX7_dividedUp_14 : decode cX7_dividedUp 14 = .ok (.iload_n 1, 1) := by decide +kernel
theorem dX7_dividedUp_15 : decode cX7_dividedUp 15 = .ok (.idiv, 1) := by decide +kernel
theorem dX7_dividedUp_16 : decode cX7_dividedUp 16 = .ok (.ireturn, 1) := by decide +kernel
theorem dX7_passOneHour_0 : decode cX7_passOneHour 0 = .ok (.iconst 0, 1) := by decide +kernel
theorem dX7_passOneHour_1 : decode cX7_passOneHour 1 = .ok (.istore_n 1, 1) := by decide +kernel
theorem dX7_passOneHour_2 : decode cX7_passOneHour 2 = .ok (.iconst 0, 1) := by decide +kernel
theorem dX7_passOneHour_3 : decode cX7_passOneHour 3 = .ok (.istore_n 2, 1) := by decide +kernel
theorem dX7_passOneHour_4 : decode cX7_passOneHour 4 = .ok (.iload_n 2, 1) := by decide +kernel
theorem dX7_passOneHour_5 : decode cX7_passOneHour 5 = .ok (.aload_n 0, 1) := by decide +kernel
theorem dX7_passOneHour_6 : decode cX7_passOneHour 6 = .ok (.getfield 23, 3) := by decide +kernel
theorem dX7_passOneHour_9 : decode cX7_passOneHour 9 = .ok (.arraylength, 1) := by decide +kernel
theorem dX7_passOneHour_10 : decode cX7_passOneHour 10 = .ok (.if_icmp .ge 28, 3) := by decide +kernel
theorem dX7_passOneHour_13 : decode cX7_passOneHour 13 = .ok (.aload_n 0, 1) := by decide +kernel
theorem dX7_passOneHour_14 : decode cX7_passOneHour 14 = .ok (.getfield 23, 3) := by decide +kernel
theorem dX7_passOneHour_17 : decode cX7_passOneHour 17 = .ok (.iload_n 2, 1) := by decide +kernel
theorem dX7_passOneHour_18 : decode cX7_passOneHour 18 = .ok (.aaload, 1) := by decide +kernel
theorem dX7_passOneHour_19 : decode cX7_passOneHour 19 = .ok (.astore_n 3, 1) := by decide +kernel
theorem dX7_passOneHour_20 : decode cX7_passOneHour 20 = .ok (.aload_n 3, 1) := by decide +kernel
theorem dX7_passOneHour_21 : decode cX7_passOneHour 21 = .ok (.ifnull 11, 3) := by decide +kernel
theorem dX7_passOneHour_24 : decode cX7_passOneHour 24 = .ok (.iload_n 1, 1) := by decide +kernel
theorem dX7_passOneHour_25 : decode cX7_passOneHour 25 = .ok (.aload_n 0, 1) := by decide +kernel
theorem dX7_passOneHour_26 : decode cX7_passOneHour 26 = .ok (.aload_n 3, 1) := by decide +kernel
theorem dX7_passOneHour_27 : decode cX7_passOneHour 27 = .ok (.invokevirtual 285, 3) := by decide +kernel
theorem dX7_passOneHour_30 : decode cX7_passOneHour 30 = .ok (.iadd, 1) := by decide +kernel
theorem dX7_passOneHour_31 : decode cX7_passOneHour 31 = .ok (.istore_n 1, 1) := by decide +kernel
theorem dX7_passOneHour_32 : decode cX7_passOneHour 32 = .ok (.iinc 2 1, 3) := by decide +kernel
theorem dX7_passOneHour_35 : decode cX7_passOneHour 35 = .ok (.goto (-31), 3) := by decide +kernel
theorem dX7_passOneHour_38 : decode cX7_passOneHour 38 = .ok (.aload_n 0, 1) := by decide +kernel
theorem dX7_passOneHour_39 : decode cX7_passOneHour 39 = .ok (.getfield 36, 3) := by decide +kernel
theorem dX7_passOneHour_42 : decode cX7_passOneHour 42 = .ok (.invokevirtual 289, 3) := by decide +kernel
theorem dX7_passOneHour_45 : decode cX7_passOneHour 45 = .ok (.aload_n 0, 1) := by decide +kernel
theorem dX7_passOneHour_46 : decode cX7_passOneHour 46 = .ok (.dup, 1) := by decide +kernel
theorem dX7_passOneHour_47 : decode cX7_passOneHour 47 = .ok (.getfield 237, 3) := by decide +kernel
theorem dX7_passOneHour_50 : decode cX7_passOneHour 50 = .ok (.iconst 1, 1) := by decide +kernel
theorem dX7_passOneHour_51 : decode cX7_passOneHour 51 = .ok (.iadd, 1) := by decide +kernel
theorem dX7_passOneHour_52 : decode cX7_passOneHour 52 = .ok (.putfield 237, 3) := by decide +kernel
theorem dX7_passOneHour_55 : decode cX7_passOneHour 55 = .ok (.iload_n 1, 1) := by decide +kernel
theorem dX7_passOneHour_56 : decode cX7_passOneHour 56 = .ok (.ireturn, 1) := by decide +kernel
theorem dX7_workOneHour_0 : decode cX7_workOneHour 0 = .ok (.aload_n 1, 1) := by decide +kernel
theorem dX7_workOneHour_1 : decode cX7_workOneHour 1 = .ok (.getfield 183, 3) := by decide +kernel
theorem dX7_workOneHour_4 : decode cX7_workOneHour 4 = .ok (.astore_n 2, 1) := by decide +kernel
theorem dX7_workOneHour_5 : decode cX7_workOneHour 5 = .ok (.aload_n 2, 1) := by decide +kernel
theorem dX7_workOneHour_6 : decode cX7_workOneHour 6 = .ok (.ifnull 14, 3) := by decide +kernel
theorem dX7_workOneHour_9 : decode cX7_workOneHour 9 = .ok (.aload_n 1, 1) := by decide +kernel
theorem dX7_workOneHour_10 : decode cX7_workOneHour 10 = .ok (.getfield 179, 3) := by decide +kernel
theorem dX7_workOneHour_13 : decode cX7_workOneHour 13 = .ok (.aload_n 2, 1) := by decide +kernel
theorem dX7_workOneHour_14 : decode cX7_workOneHour 14 = .ok (.getfield 194, 3) := by decide +kernel
theorem dX7_workOneHour_17 : decode cX7_workOneHour 17 = .ok (.if_acmp .eq 5, 3) := by decide +kernel
theorem dX7_workOneHour_20 : decode cX7_workOneHour 20 = .ok (.iconst 0, 1) := by decide +kernel
theorem dX7_workOneHour_21 : decode cX7_workOneHour 21 = .ok (.ireturn, 1) := by decide +kernel
theorem dX7_workOneHour_22 : decode cX7_workOneHour 22 = .ok (.aload_n 2, 1) := by decide +kernel
theorem dX7_workOneHour_23 : decode cX7_workOneHour 23 = .ok (.getfield 213, 3) := by decide +kernel
theorem dX7_workOneHour_26 : decode cX7_workOneHour 26 = .ok (.istore_n 3, 1) := by decide +kernel
theorem dX7_workOneHour_27 : decode cX7_workOneHour 27 = .ok (.aload_n 2, 1) := by decide +kernel
theorem dX7_workOneHour_28 : decode cX7_workOneHour 28 = .ok (.getfield 194, 3) := by decide +kernel
theorem dX7_workOneHour_31 : decode cX7_workOneHour 31 = .ok (.invokevirtual 202, 3) := by decide +kernel
theorem dX7_workOneHour_34 : decode cX7_workOneHour 34 = .ok (.istore 4, 2) := by decide +kernel
theorem dX7_workOneHour_36 : decode cX7_workOneHour 36 = .ok (.iconst 1, 1) := by decide +kernel
theorem dX7_workOneHour_37 : decode cX7_workOneHour 37 = .ok (.istore 5, 2) := by decide +kernel
theorem dX7_workOneHour_39 : decode cX7_workOneHour 39 = .ok (.iconst 0, 1) := by decide +kernel
theorem dX7_workOneHour_40 : decode cX7_workOneHour 40 = .ok (.istore 6, 2) := by decide +kernel
theorem dX7_workOneHour_42 : decode cX7_workOneHour 42 = .ok (.iload 6, 2) := by decide +kernel
theorem dX7_workOneHour_44 : decode cX7_workOneHour 44 = .ok (.iload 4, 2) := by decide +kernel
theorem dX7_workOneHour_46 : decode cX7_workOneHour 46 = .ok (.if_icmp .ge 28, 3) := by decide +kernel
theorem dX7_workOneHour_49 : decode cX7_workOneHour 49 = .ok (.iload 5, 2) := by decide +kernel
theorem dX7_workOneHour_51 : decode cX7_workOneHour 51 = .ok (.ifCond .eq 23, 3) := by decide +kernel
theorem dX7_workOneHour_54 : decode cX7_workOneHour 54 = .ok (.aload_n 2, 1) := by decide +kernel
theorem dX7_workOneHour_55 : decode cX7_workOneHour 55 = .ok (.invokevirtual 197, 3) := by decide +kernel
theorem dX7_workOneHour_58 : decode cX7_workOneHour 58 = .ok (.ifCond .eq 16, 3) := by decide +kernel
theorem dX7_workOneHour_61 : decode cX7_workOneHour 61 = .ok (.aload_n 0, 1) := by decide +kernel
theorem dX7_workOneHour_62 : decode cX7_workOneHour 62 = .ok (.aload_n 2, 1) := by decide +kernel
theorem dX7_workOneHour_63 : decode cX7_workOneHour 63 = .ok (.invokevirtual 292, 3) := by decide +kernel
theorem dX7_workOneHour_66 : decode cX7_workOneHour 66 = .ok (.istore 5, 2) := by decide +kernel
theorem dX7_workOneHour_68 : decode cX7_workOneHour 68 = .ok (.iinc 6 1, 3) := by decide +kernel
theorem dX7_workOneHour_71 : decode cX7_workOneHour 71 = .ok (.goto (-29), 3) := by decide +kernel
theorem dX7_workOneHour_74 : decode cX7_workOneHour 74 = .ok (.iload_n 3, 1) := by decide +kernel
theorem dX7_workOneHour_75 : decode cX7_workOneHour 75 = .ok (.aload_n 2, 1) := by decide +kernel
theorem dX7_workOneHour_76 : decode cX7_workOneHour 76 = .ok (.getfield 213, 3) := by decide +kernel
theorem dX7_workOneHour_79 : decode cX7_workOneHour 79 = .ok (.isub, 1) := by decide +kernel
theorem dX7_workOneHour_80 : decode cX7_workOneHour 80 = .ok (.ireturn, 1) := by decide +kernel
theorem dX7_makeShot_0 : decode cX7_makeShot 0 = .ok (.aload_n 1, 1) := by decide +kernel
theorem dX7_makeShot_1 : decode cX7_makeShot 1 = .ok (.getfield 194, 3) := by decide +kernel
theorem dX7_makeShot_4 : decode cX7_makeShot 4 = .ok (.astore_n 2, 1) := by decide +kernel
theorem dX7_makeShot_5 : decode cX7_makeShot 5 = .ok (.aload_n 1, 1) := by decide +kernel
theorem dX7_makeShot_6 : decode cX7_makeShot 6 = .ok (.getfield 296, 3) := by decide +kernel
theorem dX7_makeShot_9 : decode cX7_makeShot 9 = .ok (.astore_n 3, 1) := by decide +kernel
theorem dX7_makeShot_10 : decode cX7_makeShot 10 = .ok (.aload_n 2, 1) := by decide +kernel
theorem dX7_makeShot_11 : decode cX7_makeShot 11 = .ok (.invokevirtual 135, 3) := by decide +kernel
theorem dX7_makeShot_14 : decode cX7_makeShot 14 = .ok (.istore 4, 2) := by decide +kernel
theorem dX7_makeShot_16 : decode cX7_makeShot 16 = .ok (.iload 4, 2) := by decide +kernel
theorem dX7_makeShot_18 : decode cX7_makeShot 18 = .ok (.iconst 1, 1) := by decide +kernel
theorem dX7_makeShot_19 : decode cX7_makeShot 19 = .ok (.if_icmp .ge 5, 3) := by decide +kernel
theorem dX7_makeShot_22 : decode cX7_makeShot 22 = .ok (.iconst 0, 1) := by decide +kernel
theorem dX7_makeShot_23 : decode cX7_makeShot 23 = .ok (.ireturn, 1) := by decide +kernel
theorem dX7_makeShot_24 : decode cX7_makeShot 24 = .ok (.iload 4, 2) := by decide +kernel
theorem dX7_makeShot_26 : decode cX7_makeShot 26 = .ok (.aload_n 2, 1) := by decide +kernel
theorem dX7_makeShot_27 : decode cX7_makeShot 27 = .ok (.getfield 300, 3) := by decide +kernel
theorem dX7_makeShot_30 : decode cX7_makeShot 30 = .ok (.imul, 1) := by decide +kernel
theorem dX7_makeShot_31 : decode cX7_makeShot 31 = .ok (.aload_n 2, 1) := by decide +kernel
theorem dX7_makeShot_32 : decode cX7_makeShot 32 = .ok (.getfield 303, 3) := by decide +kernel
theorem dX7_makeShot_35 : decode cX7_makeShot 35 = .ok (.iadd, 1) := by decide +kernel
theorem dX7_makeShot_36 : decode cX7_makeShot 36 = .ok (.istore 5, 2) := by decide +kernel
theorem dX7_makeShot_38 : decode cX7_makeShot 38 = .ok (.iload 5, 2) := by decide +kernel
theorem dX7_makeShot_40 : decode cX7_makeShot 40 = .ok (.aload_n 1, 1) := by decide +kernel
theorem dX7_makeShot_41 : decode cX7_makeShot 41 = .ok (.getfield 306, 3) := by decide +kernel
theorem dX7_makeShot_44 : decode cX7_makeShot 44 = .ok (.imul, 1) := by decide +kernel
theorem dX7_makeShot_45 : decode cX7_makeShot 45 = .ok (.bipush 100, 2) := by decide +kernel
theorem dX7_makeShot_47 : decode cX7_makeShot 47 = .ok (.idiv, 1) := by decide +kernel
theorem dX7_makeShot_48 : decode cX7_makeShot 48 = .ok (.aload_n 3, 1) := by decide +kernel
theorem dX7_makeShot_49 : decode cX7_makeShot 49 = .ok (.getfield 99, 3) := by decide +kernel
theorem dX7_makeShot_52 : decode cX7_makeShot 52 = .ok (.invokestatic 309, 3) := by decide +kernel
theorem dX7_makeShot_55 : decode cX7_makeShot 55 = .ok (.istore 6, 2) := by decide +kernel
theorem dX7_makeShot_57 : decode cX7_makeShot 57 = .ok (.aload_n 0, 1) := by decide +kernel
theorem dX7_makeShot_58 : decode cX7_makeShot 58 = .ok (.getfield 36, 3) := by decide +kernel
theorem dX7_makeShot_61 : decode cX7_makeShot 61 = .ok (.aload_n 3, 1) := by decide +kernel
theorem dX7_makeShot_62 : decode cX7_makeShot 62 = .ok (.invokevirtual 95, 3) := by decide +kernel
theorem dX7_makeShot_65 : decode cX7_makeShot 65 = .ok (.iload 5, 2) := by decide +kernel
theorem dX7_makeShot_67 : decode cX7_makeShot 67 = .ok (.iload 6, 2) := by decide +kernel
theorem dX7_makeShot_69 : decode cX7_makeShot 69 = .ok (.isub, 1) := by decide +kernel
theorem dX7_makeShot_70 : decode cX7_makeShot 70 = .ok (.if_icmp .ge 5, 3) := by decide +kernel
theorem dX7_makeShot_73 : decode cX7_makeShot 73 = .ok (.iconst 0, 1) := by decide +kernel
theorem dX7_makeShot_74 : decode cX7_makeShot 74 = .ok (.ireturn, 1) := by decide +kernel
theorem dX7_makeShot_75 : decode cX7_makeShot 75 = .ok (.aload_n 0, 1) := by decide +kernel
theorem dX7_makeShot_76 : decode cX7_makeShot 76 = .ok (.getfield 36, 3) := by decide +kernel
theorem dX7_makeShot_79 : decode cX7_makeShot 79 = .ok (.aload_n 3, 1) := by decide +kernel
theorem dX7_makeShot_80 : decode cX7_makeShot 80 = .ok (.iload 5, 2) := by decide +kernel
theorem dX7_makeShot_82 : decode cX7_makeShot 82 = .ok (.iload 6, 2) := by decide +kernel
theorem dX7_makeShot_84 : decode cX7_makeShot 84 = .ok (.isub, 1) := by decide +kernel
theorem dX7_makeShot_85 : decode cX7_makeShot 85 = .ok (.invokevirtual 312, 3) := by decide +kernel
theorem dX7_makeShot_88 : decode cX7_makeShot 88 = .ok (.aload_n 2, 1) := by decide +kernel
theorem dX7_makeShot_89 : decode cX7_makeShot 89 = .ok (.invokevirtual 315, 3) := by decide +kernel
theorem dX7_makeShot_92 : decode cX7_makeShot 92 = .ok (.iload 4, 2) := by decide +kernel
theorem dX7_makeShot_94 : decode cX7_makeShot 94 = .ok (.aload_n 1, 1) := by decide +kernel
theorem dX7_makeShot_95 : decode cX7_makeShot 95 = .ok (.getfield 213, 3) := by decide +kernel
theorem dX7_makeShot_98 : decode cX7_makeShot 98 = .ok (.invokestatic 309, 3) := by decide +kernel
theorem dX7_makeShot_101 : decode cX7_makeShot 101 = .ok (.istore 7, 2) := by decide +kernel
theorem dX7_makeShot_103 : decode cX7_makeShot 103 = .ok (.aload_n 2, 1) := by decide +kernel
theorem dX7_makeShot_104 : decode cX7_makeShot 104 = .ok (.getfield 303, 3) := by decide +kernel
theorem dX7_makeShot_107 : decode cX7_makeShot 107 = .ok (.iload 4, 2) := by decide +kernel
theorem dX7_makeShot_109 : decode cX7_makeShot 109 = .ok (.iload 7, 2) := by decide +kernel
theorem dX7_makeShot_111 : decode cX7_makeShot 111 = .ok (.isub, 1) := by decide +kernel
theorem dX7_makeShot_112 : decode cX7_makeShot 112 = .ok (.aload_n 2, 1) := by decide +kernel
theorem dX7_makeShot_113 : decode cX7_makeShot 113 = .ok (.getfield 300, 3) := by decide +kernel
theorem dX7_makeShot_116 : decode cX7_makeShot 116 = .ok (.imul, 1) := by decide +kernel
theorem dX7_makeShot_117 : decode cX7_makeShot 117 = .ok (.iadd, 1) := by decide +kernel
theorem dX7_makeShot_118 : decode cX7_makeShot 118 = .ok (.istore 8, 2) := by decide +kernel
theorem dX7_makeShot_120 : decode cX7_makeShot 120 = .ok (.aload_n 3, 1) := by decide +kernel
theorem dX7_makeShot_121 : decode cX7_makeShot 121 = .ok (.dup, 1) := by decide +kernel
theorem dX7_makeShot_122 : decode cX7_makeShot 122 = .ok (.getfield 99, 3) := by decide +kernel
theorem dX7_makeShot_125 : decode cX7_makeShot 125 = .ok (.iload 8, 2) := by decide +kernel
theorem dX7_makeShot_127 : decode cX7_makeShot 127 = .ok (.iload 6, 2) := by decide +kernel
theorem dX7_makeShot_129 : decode cX7_makeShot 129 = .ok (.isub, 1) := by decide +kernel
theorem dX7_makeShot_130 : decode cX7_makeShot 130 = .ok (.iadd, 1) := by decide +kernel
theorem dX7_makeShot_131 : decode cX7_makeShot 131 = .ok (.putfield 99, 3) := by decide +kernel
theorem dX7_makeShot_134 : decode cX7_makeShot 134 = .ok (.aload_n 1, 1) := by decide +kernel
theorem dX7_makeShot_135 : decode cX7_makeShot 135 = .ok (.iload 7, 2) := by decide +kernel
theorem dX7_makeShot_137 : decode cX7_makeShot 137 = .ok (.iload 6, 2) := by decide +kernel
theorem dX7_makeShot_139 : decode cX7_makeShot 139 = .ok (.iload 5, 2) := by decide +kernel
theorem dX7_makeShot_141 : decode cX7_makeShot 141 = .ok (.invokevirtual 318, 3) := by decide +kernel
theorem dX7_makeShot_144 : decode cX7_makeShot 144 = .ok (.aload_n 0, 1) := by decide +kernel
theorem dX7_makeShot_145 : decode cX7_makeShot 145 = .ok (.dup, 1) := by decide +kernel
theorem dX7_makeShot_146 : decode cX7_makeShot 146 = .ok (.getfield 256, 3) := by decide +kernel
theorem dX7_makeShot_149 : decode cX7_makeShot 149 = .ok (.iconst 1, 1) := by decide +kernel
theorem dX7_makeShot_150 : decode cX7_makeShot 150 = .ok (.iadd, 1) := by decide +kernel
theorem dX7_makeShot_151 : decode cX7_makeShot 151 = .ok (.putfield 256, 3) := by decide +kernel
theorem dX7_makeShot_154 : decode cX7_makeShot 154 = .ok (.aload_n 0, 1) := by decide +kernel
theorem dX7_makeShot_155 : decode cX7_makeShot 155 = .ok (.dup, 1) := by decide +kernel
theorem dX7_makeShot_156 : decode cX7_makeShot 156 = .ok (.getfield 259, 3) := by decide +kernel
theorem dX7_makeShot_159 : decode cX7_makeShot 159 = .ok (.iload 7, 2) := by decide +kernel
theorem dX7_makeShot_161 : decode cX7_makeShot 161 = .ok (.iadd, 1) := by decide +kernel
theorem dX7_makeShot_162 : decode cX7_makeShot 162 = .ok (.putfield 259, 3) := by decide +kernel
theorem dX7_makeShot_165 : decode cX7_makeShot 165 = .ok (.aload_n 0, 1) := by decide +kernel
theorem dX7_makeShot_166 : decode cX7_makeShot 166 = .ok (.dup, 1) := by decide +kernel
theorem dX7_makeShot_167 : decode cX7_makeShot 167 = .ok (.getfield 245, 3) := by decide +kernel
theorem dX7_makeShot_170 : decode cX7_makeShot 170 = .ok (.iload 5, 2) := by decide +kernel
theorem dX7_makeShot_172 : decode cX7_makeShot 172 = .ok (.i2l, 1) := by decide +kernel
theorem dX7_makeShot_173 : decode cX7_makeShot 173 = .ok (.ladd, 1) := by decide +kernel
theorem dX7_makeShot_174 : decode cX7_makeShot 174 = .ok (.putfield 245, 3) := by decide +kernel
theorem dX7_makeShot_177 : decode cX7_makeShot 177 = .ok (.aload_n 0, 1) := by decide +kernel
theorem dX7_makeShot_178 : decode cX7_makeShot 178 = .ok (.dup, 1) := by decide +kernel
theorem dX7_makeShot_179 : decode cX7_makeShot 179 = .ok (.getfield 253, 3) := by decide +kernel
theorem dX7_makeShot_182 : decode cX7_makeShot 182 = .ok (.iload 6, 2) := by decide +kernel
theorem dX7_makeShot_184 : decode cX7_makeShot 184 = .ok (.i2l, 1) := by decide +kernel
theorem dX7_makeShot_185 : decode cX7_makeShot 185 = .ok (.ladd, 1) := by decide +kernel
theorem dX7_makeShot_186 : decode cX7_makeShot 186 = .ok (.putfield 253, 3) := by decide +kernel
theorem dX7_makeShot_189 : decode cX7_makeShot 189 = .ok (.iconst 1, 1) := by decide +kernel
theorem dX7_makeShot_190 : decode cX7_makeShot 190 = .ok (.ireturn, 1) := by decide +kernel

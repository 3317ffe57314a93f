theorem dX8_init_0 : decode cX8_init 0 = .ok (.aload_n 0, 1) := by decide +kernel
theorem dX8_init_1 : decode cX8_init 1 = .ok (.invokespecial 1, 3) := by decide +kernel
theorem dX8_init_4 : decode cX8_init 4 = .ok (.aload_n 0, 1) := by decide +kernel
theorem dX8_init_5 : decode cX8_init 5 = .ok (.iconst 4, 1) := by decide +kernel
theorem dX8_init_6 : decode cX8_init 6 = .ok (.newarray .int, 2) := by decide +kernel
theorem dX8_init_8 : decode cX8_init 8 = .ok (.putfield 9, 3) := by decide +kernel
theorem dX8_init_11 : decode cX8_init 11 = .ok (.aload_n 0, 1) := by decide +kernel
theorem dX8_init_12 : decode cX8_init 12 = .ok (.iconst 4, 1) := by decide +kernel
theorem dX8_init_13 : decode cX8_init 13 = .ok (.newarray .int, 2) := by decide +kernel
theorem dX8_init_15 : decode cX8_init 15 = .ok (.putfield 13, 3) := by decide +kernel
theorem dX8_init_18 : decode cX8_init 18 = .ok (.aload_n 0, 1) := by decide +kernel
theorem dX8_init_19 : decode cX8_init 19 = .ok (.iconst 3, 1) := by decide +kernel
theorem dX8_init_20 : decode cX8_init 20 = .ok (.newarray .int, 2) := by decide +kernel
theorem dX8_init_22 : decode cX8_init 22 = .ok (.putfield 16, 3) := by decide +kernel
theorem dX8_init_25 : decode cX8_init 25 = .ok (.aload_n 0, 1) := by decide +kernel
theorem dX8_init_26 : decode cX8_init 26 = .ok (.iconst 3, 1) := by decide +kernel
theorem dX8_init_27 : decode cX8_init 27 = .ok (.newarray .int, 2) := by decide +kernel
theorem dX8_init_29 : decode cX8_init 29 = .ok (.putfield 19, 3) := by decide +kernel
theorem dX8_init_32 : decode cX8_init 32 = .ok (.aload_n 0, 1) := by decide +kernel
theorem dX8_init_33 : decode cX8_init 33 = .ok (.iconst 3, 1) := by decide +kernel
theorem dX8_init_34 : decode cX8_init 34 = .ok (.newarray .int, 2) := by decide +kernel
theorem dX8_init_36 : decode cX8_init 36 = .ok (.putfield 22, 3) := by decide +kernel
theorem dX8_init_39 : decode cX8_init 39 = .ok (.aload_n 0, 1) := by decide +kernel
theorem dX8_init_40 : decode cX8_init 40 = .ok (.iconst 5, 1) := by decide +kernel
theorem dX8_init_41 : decode cX8_init 41 = .ok (.newarray .int, 2) := by decide +kernel
theorem dX8_init_43 : decode cX8_init 43 = .ok (.putfield 25, 3) := by decide +kernel
theorem dX8_init_46 : decode cX8_init 46 = .ok (.aload_n 0, 1) := by decide +kernel
theorem dX8_init_47 : decode cX8_init 47 = .ok (.iconst 5, 1) := by decide +kernel
theorem dX8_init_48 : decode cX8_init 48 = .ok (.newarray .int, 2) := by decide +kernel
theorem dX8_init_50 : decode cX8_init 50 = .ok (.putfield 28, 3) := by decide +kernel
theorem dX8_init_53 : decode cX8_init 53 = .ok (.aload_n 0, 1) := by decide +kernel
theorem dX8_init_54 : decode cX8_init 54 = .ok (.iconst 5, 1) := by decide +kernel
theorem dX8_init_55 : decode cX8_init 55 = .ok (.newarray .int, 2) := by decide +kernel
theorem dX8_init_57 : decode cX8_init 57 = .ok (.putfield 31, 3) := by decide +kernel
theorem dX8_init_60 : decode cX8_init 60 = .ok (.aload_n 0, 1) := by decide +kernel
theorem dX8_init_61 : decode cX8_init 61 = .ok (.iconst 5, 1) := by decide +kernel
theorem dX8_init_62 : decode cX8_init 62 = .ok (.newarray .int, 2) := by decide +kernel
theorem dX8_init_64 : decode cX8_init 64 = .ok (.putfield 34, 3) := by decide +kernel
theorem dX8_init_67 : decode cX8_init 67 = .ok (.aload_n 0, 1) := by decide +kernel
theorem dX8_init_68 : decode cX8_init 68 = .ok (.iconst 5, 1) := by decide +kernel
theorem dX8_init_69 : decode cX8_init 69 = .ok (.newarray .int, 2) := by decide +kernel
theorem dX8_init_71 : decode cX8_init 71 = .ok (.putfield 37, 3) := by decide +kernel
theorem dX8_init_74 : decode cX8_init 74 = .ok (.aload_n 0, 1) := by decide +kernel
theorem dX8_init_75 : decode cX8_init 75 = .ok (.iconst 5, 1) := by decide +kernel
theorem dX8_init_76 : decode cX8_init 76 = .ok (.bipush 8, 2) := by decide +kernel
theorem dX8_init_78 : decode cX8_init 78 = .ok (.multianewarray 40 2, 4) := by decide +kernel
theorem dX8_init_82 : decode cX8_init 82 = .ok (.putfield 42, 3) := by decide +kernel
theorem dX8_init_85 : decode cX8_init 85 = .ok (.aload_n 0, 1) := by decide +kernel
theorem dX8_init_86 : decode cX8_init 86 = .ok (.iconst 5, 1) := by decide +kernel
theorem dX8_init_87 : decode cX8_init 87 = .ok (.bipush 8, 2) := by decide +kernel
theorem dX8_init_89 : decode cX8_init 89 = .ok (.multianewarray 45 2, 4) := by decide +kernel
theorem dX8_init_93 : decode cX8_init 93 = .ok (.putfield 47, 3) := by decide +kernel
theorem dX8_init_96 : decode cX8_init 96 = .ok (.aload_n 0, 1) := by decide +kernel
theorem dX8_init_97 : decode cX8_init 97 = .ok (.iconst 5, 1) := by decide +kernel
theorem dX8_init_98 : decode cX8_init 98 = .ok (.bipush 8, 2) := by decide +kernel
theorem dX8_init_100 : decode cX8_init 100 = .ok (.multianewarray 45 2, 4) := by decide +kernel
theorem dX8_init_104 : decode cX8_init 104 = .ok (.putfield 50, 3) := by decide +kernel
theorem dX8_init_107 : decode cX8_init 107 = .ok (.aload_n 0, 1) := by decide +kernel
theorem dX8_init_108 : decode cX8_init 108 = .ok (.iconst 3, 1) := by decide +kernel
theorem dX8_init_109 : decode cX8_init 109 = .ok (.newarray .int, 2) := by decide +kernel
theorem dX8_init_111 : decode cX8_init 111 = .ok (.putfield 53, 3) := by decide +kernel
theorem dX8_init_114 : decode cX8_init 114 = .ok (.aload_n 0, 1) := by decide +kernel
theorem dX8_init_115 : decode cX8_init 115 = .ok (.iconst 3, 1) := by decide +kernel
theorem dX8_init_116 : decode cX8_init 116 = .ok (.newarray .int, 2) := by decide +kernel
theorem dX8_init_118 : decode cX8_init 118 = .ok (.putfield 56, 3) := by decide +kernel
theorem dX8_init_121 : decode cX8_init 121 = .ok (.aload_n 0, 1) := by decide +kernel
theorem dX8_init_122 : decode cX8_init 122 = .ok (.iconst 3, 1) := by decide +kernel
theorem dX8_init_123 : decode cX8_init 123 = .ok (.newarray .int, 2) := by decide +kernel
theorem dX8_init_125 : decode cX8_init 125 = .ok (.putfield 59, 3) := by decide +kernel
theorem dX8_init_128 : decode cX8_init 128 = .ok (.aload_n 0, 1) := by decide +kernel
theorem dX8_init_129 : decode cX8_init 129 = .ok (.bipush 8, 2) := by decide +kernel
theorem dX8_init_131 : decode cX8_init 131 = .ok (.newarray .int, 2) := by decide +kernel
theorem dX8_init_133 : decode cX8_init 133 = .ok (.putfield 62, 3) := by decide +kernel
theorem dX8_init_136 : decode cX8_init 136 = .ok (.aload_n 0, 1) := by decide +kernel
theorem dX8_init_137 : decode cX8_init 137 = .ok (.bipush 8, 2) := by decide +kernel
theorem dX8_init_139 : decode cX8_init 139 = .ok (.newarray .int, 2) := by decide +kernel
theorem dX8_init_141 : decode cX8_init 141 = .ok (.putfield 65, 3) := by decide +kernel
theorem dX8_init_144 : decode cX8_init 144 = .ok (.aload_n 0, 1) := by decide +kernel
theorem dX8_init_145 : decode cX8_init 145 = .ok (.bipush 8, 2) := by decide +kernel
theorem dX8_init_147 : decode cX8_init 147 = .ok (.newarray .int, 2) := by decide +kernel
theorem dX8_init_149 : decode cX8_init 149 = .ok (.putfield 68, 3) := by decide +kernel
theorem dX8_init_152 : decode cX8_init 152 = .ok (.aload_n 0, 1) := by decide +kernel
theorem dX8_init_153 : decode cX8_init 153 = .ok (.bipush 8, 2) := by decide +kernel
theorem dX8_init_155 : decode cX8_init 155 = .ok (.newarray .int, 2) := by decide +kernel
theorem dX8_init_157 : decode cX8_init 157 = .ok (.putfield 71, 3) := by decide +kernel
theorem dX8_init_160 : decode cX8_init 160 = .ok (.aload_n 0, 1) := by decide +kernel
theorem dX8_init_161 : decode cX8_init 161 = .ok (.bipush 8, 2) := by decide +kernel
theorem dX8_init_163 : decode cX8_init 163 = .ok (.newarray .int, 2) := by decide +kernel
theorem dX8_init_165 : decode cX8_init 165 = .ok (.putfield 74, 3) := by decide +kernel
theorem dX8_init_168 : decode cX8_init 168 = .ok (.aload_n 0, 1) := by decide +kernel
theorem dX8_init_169 : decode cX8_init 169 = .ok (.bipush 8, 2) := by decide +kernel
theorem dX8_init_171 : decode cX8_init 171 = .ok (.newarray .long, 2) := by decide +kernel
theorem dX8_init_173 : decode cX8_init 173 = .ok (.putfield 77, 3) := by decide +kernel
theorem dX8_init_176 : decode cX8_init 176 = .ok (.aload_n 0, 1) := by decide +kernel
theorem dX8_init_177 : decode cX8_init 177 = .ok (.bipush 8, 2) := by decide +kernel
theorem dX8_init_179 : decode cX8_init 179 = .ok (.newarray .int, 2) := by decide +kernel
theorem dX8_init_181 : decode cX8_init 181 = .ok (.putfield 81, 3) := by decide +kernel
theorem dX8_init_184 : decode cX8_init 184 = .ok (.return_, 1) := by decide +kernel
theorem dX8_thrown_0 : decode cX8_thrown 0 = .ok (.aload_n 0, 1) := by decide +kernel
theorem dX8_thrown_1 : decode cX8_thrown 1 = .ok (.getfield 84, 3) := by decide +kernel
theorem dX8_thrown_4 : decode cX8_thrown 4 = .ok (.ireturn, 1) := by decide +kernel
theorem dX8_raises_0 : decode cX8_raises 0 = .ok (.aload_n 0, 1) := by decide +kernel
theorem dX8_raises_1 : decode cX8_raises 1 = .ok (.iload_n 1, 1) := by decide +kernel
theorem dX8_raises_2 : decode cX8_raises 2 = .ok (.putfield 84, 3) := by decide +kernel
theorem dX8_raises_5 : decode cX8_raises 5 = .ok (.iconst 0, 1) := by decide +kernel
theorem dX8_raises_6 : decode cX8_raises 6 = .ok (.ireturn, 1) := by decide +kernel
theorem dX8_in_0 : decode cX8_in 0 = .ok (.iload_n 0, 1) := by decide +kernel
theorem dX8_in_1 : decode cX8_in 1 = .ok (.iload_n 1, 1) := by decide +kernel
theorem dX8_in_2 : decode cX8_in 2 = .ok (.if_icmp .lt 12, 3) := by decide +kernel
theorem dX8_in_5 : decode cX8_in 5 = .ok (.iload_n 0, 1) := by decide +kernel
theorem dX8_in_6 : decode cX8_in 6 = .ok (.iload_n 2, 1) := by decide +kernel
theorem dX8_in_7 : decode cX8_in 7 = .ok (.if_icmp .gt 7, 3) := by decide +kernel
theorem dX8_in_10 : decode cX8_in 10 = .ok (.iconst 1, 1) := by decide +kernel
theorem dX8_in_11 : decode cX8_in 11 = .ok (.goto 4, 3) := by decide +kernel
theorem dX8_in_14 : decode cX8_in 14 = .ok (.iconst 0, 1) := by decide +kernel
theorem dX8_in_15 : decode cX8_in 15 = .ok (.ireturn, 1) := by decide +kernel
theorem dX8_isResin_0 : decode cX8_isResin 0 = .ok (.iload_n 1, 1) := by decide +kernel
theorem dX8_isResin_1 : decode cX8_isResin 1 = .ok (.iconst 0, 1) := by decide +kernel
theorem dX8_isResin_2 : decode cX8_isResin 2 = .ok (.aload_n 0, 1) := by decide +kernel
theorem dX8_isResin_3 : decode cX8_isResin 3 = .ok (.getfield 88, 3) := by decide +kernel
theorem dX8_isResin_6 : decode cX8_isResin 6 = .ok (.iconst 1, 1) := by decide +kernel
theorem dX8_isResin_7 : decode cX8_isResin 7 = .ok (.isub, 1) := by decide +kernel
theorem dX8_isResin_8 : decode cX8_isResin 8 = .ok (.invokestatic 91, 3) := by decide +kernel
theorem dX8_isResin_11 : decode cX8_isResin 11 = .ok (.ireturn, 1) := by decide +kernel
theorem dX8_isLot_0 : decode cX8_isLot 0 = .ok (.iload_n 1, 1) := by decide +kernel
theorem dX8_isLot_1 : decode cX8_isLot 1 = .ok (.iconst 0, 1) := by decide +kernel
theorem dX8_isLot_2 : decode cX8_isLot 2 = .ok (.aload_n 0, 1) := by decide +kernel
theorem dX8_isLot_3 : decode cX8_isLot 3 = .ok (.getfield 95, 3) := by decide +kernel
theorem dX8_isLot_6 : decode cX8_isLot 6 = .ok (.iconst 1, 1) := by decide +kernel
theorem dX8_isLot_7 : decode cX8_isLot 7 = .ok (.isub, 1) := by decide +kernel
theorem dX8_isLot_8 : decode cX8_isLot 8 = .ok (.invokestatic 91, 3) := by decide +kernel
theorem dX8_isLot_11 : decode cX8_isLot 11 = .ok (.ireturn, 1) := by decide +kernel
theorem dX8_isMould_0 : decode cX8_isMould 0 = .ok (.iload_n 1, 1) := by decide +kernel
theorem dX8_isMould_1 : decode cX8_isMould 1 = .ok (.iconst 0, 1) := by decide +kernel
theorem dX8_isMould_2 : decode cX8_isMould 2 = .ok (.aload_n 0, 1) := by decide +kernel
theorem dX8_isMould_3 : decode cX8_isMould 3 = .ok (.getfield 98, 3) := by decide +kernel
theorem dX8_isMould_6 : decode cX8_isMould 6 = .ok (.iconst 1, 1) := by decide +kernel
theorem dX8_isMould_7 : decode cX8_isMould 7 = .ok (.isub, 1) := by decide +kernel
theorem dX8_isMould_8 : decode cX8_isMould 8 = .ok (.invokestatic 91, 3) := by decide +kernel
theorem dX8_isMould_11 : decode cX8_isMould 11 = .ok (.ireturn, 1) := by decide +kernel
theorem dX8_isCavity_0 : decode cX8_isCavity 0 = .ok (.aload_n 0, 1) := by decide +kernel
theorem dX8_isCavity_1 : decode cX8_isCavity 1 = .ok (.iload_n 1, 1) := by decide +kernel
theorem dX8_isCavity_2 : decode cX8_isCavity 2 = .ok (.invokevirtual 101, 3) := by decide +kernel
theorem dX8_isCavity_5 : decode cX8_isCavity 5 = .ok (.ifCond .eq 23, 3) := by decide +kernel
theorem dX8_isCavity_8 : decode cX8_isCavity 8 = .ok (.iload_n 2, 1) := by decide +kernel
theorem dX8_isCavity_9 : decode cX8_isCavity 9 = .ok (.iconst 0, 1) := by decide +kernel
theorem dX8_isCavity_10 : decode cX8_isCavity 10 = .ok (.aload_n 0, 1) := by decide +kernel
theorem dX8_isCavity_11 : decode cX8_isCavity 11 = .ok (.getfield 25, 3) := by decide +kernel
theorem dX8_isCavity_14 : decode cX8_isCavity 14 = .ok (.iload_n 1, 1) := by decide +kernel
theorem dX8_isCavity_15 : decode cX8_isCavity 15 = .ok (.iaload, 1) := by decide +kernel
theorem dX8_isCavity_16 : decode cX8_isCavity 16 = .ok (.iconst 1, 1) := by decide +kernel
theorem dX8_isCavity_17 : decode cX8_isCavity 17 = .ok (.isub, 1) := by decide +kernel
theorem dX8_isCavity_18 : decode cX8_isCavity 18 = .ok (.invokestatic 91, 3) := by decide +kernel
theorem dX8_isCavity_21 : decode cX8_isCavity 21 = .ok (.ifCond .eq 7, 3) := by decide +kernel
theorem dX8_isCavity_24 : decode cX8_isCavity 24 = .ok (.iconst 1, 1) := by decide +kernel
theorem dX8_isCavity_25 : decode cX8_isCavity 25 = .ok (.goto 4, 3) := by decide +kernel
theorem dX8_isCavity_28 : decode cX8_isCavity 28 = .ok (.iconst 0, 1) := by decide +kernel
theorem dX8_isCavity_29 : decode cX8_isCavity 29 = .ok (.ireturn, 1) := by decide +kernel
theorem dX8_isMachine_0 : decode cX8_isMachine 0 = .ok (.iload_n 1, 1) := by decide +kernel
theorem dX8_isMachine_1 : decode cX8_isMachine 1 = .ok (.iconst 0, 1) := by decide +kernel
theorem dX8_isMachine_2 : decode cX8_isMachine 2 = .ok (.aload_n 0, 1) := by decide +kernel
theorem dX8_isMachine_3 : decode cX8_isMachine 3 = .ok (.getfield 105, 3) := by decide +kernel
theorem dX8_isMachine_6 : decode cX8_isMachine 6 = .ok (.iconst 1, 1) := by decide +kernel
theorem dX8_isMachine_7 : decode cX8_isMachine 7 = .ok (.isub, 1) := by decide +kernel
theorem dX8_isMachine_8 : decode cX8_isMachine 8 = .ok (.invokestatic 91, 3) := by decide +kernel
theorem dX8_isMachine_11 : decode cX8_isMachine 11 = .ok (.ireturn, 1) := by decide +kernel
theorem dX8_isOrder_0 : decode cX8_isOrder 0 = .ok (.iload_n 1, 1) := by decide +kernel
theorem dX8_isOrder_1 : decode cX8_isOrder 1 = .ok (.iconst 0, 1) := by decide +kernel
theorem dX8_isOrder_2 : decode cX8_isOrder 2 = .ok (.aload_n 0, 1) := by decide +kernel
theorem dX8_isOrder_3 : decode cX8_isOrder 3 = .ok (.getfield 108, 3) := by decide +kernel
theorem dX8_isOrder_6 : decode cX8_isOrder 6 = .ok (.iconst 1, 1) := by decide +kernel
theorem dX8_isOrder_7 : decode cX8_isOrder 7 = .ok (.isub, 1) := by decide +kernel
theorem dX8_isOrder_8 : decode cX8_isOrder 8 = .ok (.invokestatic 91, 3) := by decide +kernel
theorem dX8_isOrder_11 : decode cX8_isOrder 11 = .ok (.ireturn, 1) := by decide +kernel
theorem dX8_addResin_0 : decode cX8_addResin 0 = .ok (.aload_n 0, 1) := by decide +kernel
theorem dX8_addResin_1 : decode cX8_addResin 1 = .ok (.iload_n 1, 1) := by decide +kernel
theorem dX8_addResin_2 : decode cX8_addResin 2 = .ok (.iconst 0, 1) := by decide +kernel
theorem dX8_addResin_3 : decode cX8_addResin 3 = .ok (.bipush 9, 2) := by decide +kernel
theorem dX8_addResin_5 : decode cX8_addResin 5 = .ok (.invokestatic 91, 3) := by decide +kernel
theorem dX8_addResin_8 : decode cX8_addResin 8 = .ok (.ifCond .ne 7, 3) := by decide +kernel
theorem dX8_addResin_11 : decode cX8_addResin 11 = .ok (.iconst 1, 1) := by decide +kernel
theorem dX8_addResin_12 : decode cX8_addResin 12 = .ok (.goto 16, 3) := by decide +kernel
theorem dX8_addResin_15 : decode cX8_addResin 15 = .ok (.aload_n 0, 1) := by decide +kernel
theorem dX8_addResin_16 : decode cX8_addResin 16 = .ok (.getfield 88, 3) := by decide +kernel
theorem dX8_addResin_19 : decode cX8_addResin 19 = .ok (.iconst 4, 1) := by decide +kernel
theorem dX8_addResin_20 : decode cX8_addResin 20 = .ok (.if_icmp .ne 7, 3) := by decide +kernel
theorem dX8_addResin_23 : decode cX8_addResin 23 = .ok (.iconst 2, 1) := by decide +kernel
theorem dX8_addResin_24 : decode cX8_addResin 24 = .ok (.goto 4, 3) := by decide +kernel
theorem dX8_addResin_27 : decode cX8_addResin 27 = .ok (.iconst 0, 1) := by decide +kernel
theorem dX8_addResin_28 : decode cX8_addResin 28 = .ok (.putfield 84, 3) := by decide +kernel
theorem dX8_addResin_31 : decode cX8_addResin 31 = .ok (.aload_n 0, 1) := by decide +kernel
theorem dX8_addResin_32 : decode cX8_addResin 32 = .ok (.getfield 84, 3) := by decide +kernel
theorem dX8_addResin_35 : decode cX8_addResin 35 = .ok (.ifCond .le 5, 3) := by decide +kernel
theorem dX8_addResin_38 : decode cX8_addResin 38 = .ok (.iconst 0, 1) := by decide +kernel
theorem dX8_addResin_39 : decode cX8_addResin 39 = .ok (.ireturn, 1) := by decide +kernel
theorem dX8_addResin_40 : decode cX8_addResin 40 = .ok (.aload_n 0, 1) := by decide +kernel
theorem dX8_addResin_41 : decode cX8_addResin 41 = .ok (.getfield 9, 3) := by decide +kernel
theorem dX8_addResin_44 : decode cX8_addResin 44 = .ok (.aload_n 0, 1) := by decide +kernel
theorem dX8_addResin_45 : decode cX8_addResin 45 = .ok (.getfield 88, 3) := by decide +kernel
theorem dX8_addResin_48 : decode cX8_addResin 48 = .ok (.iload_n 1, 1) := by decide +kernel
theorem dX8_addResin_49 : decode cX8_addResin 49 = .ok (.iastore, 1) := by decide +kernel
theorem dX8_addResin_50 : decode cX8_addResin 50 = .ok (.aload_n 0, 1) := by decide +kernel
theorem dX8_addResin_51 : decode cX8_addResin 51 = .ok (.dup, 1) := by decide +kernel
theorem dX8_addResin_52 : decode cX8_addResin 52 = .ok (.getfield 88, 3) := by decide +kernel
theorem dX8_addResin_55 : decode cX8_addResin 55 = .ok (.iconst 1, 1) := by decide +kernel
theorem dX8_addResin_56 : decode cX8_addResin 56 = .ok (.iadd, 1) := by decide +kernel
theorem dX8_addResin_57 : decode cX8_addResin 57 = .ok (.putfield 88, 3) := by decide +kernel
theorem dX8_addResin_60 : decode cX8_addResin 60 = .ok (.aload_n 0, 1) := by decide +kernel
theorem dX8_addResin_61 : decode cX8_addResin 61 = .ok (.getfield 88, 3) := by decide +kernel
theorem dX8_addResin_64 : decode cX8_addResin 64 = .ok (.iconst 1, 1) := by decide +kernel
theorem dX8_addResin_65 : decode cX8_addResin 65 = .ok (.isub, 1) := by decide +kernel
theorem dX8_addResin_66 : decode cX8_addResin 66 = .ok (.ireturn, 1) := by decide +kernel
theorem dX8_fill_0 : decode cX8_fill 0 = .ok (.aload_n 0, 1) := by decide +kernel
theorem dX8_fill_1 : decode cX8_fill 1 = .ok (.aload_n 0, 1) := by decide +kernel
theorem dX8_fill_2 : decode cX8_fill 2 = .ok (.iload_n 1, 1) := by decide +kernel
theorem dX8_fill_3 : decode cX8_fill 3 = .ok (.invokevirtual 111, 3) := by decide +kernel
theorem dX8_fill_6 : decode cX8_fill 6 = .ok (.ifCond .ne 7, 3) := by decide +kernel
theorem dX8_fill_9 : decode cX8_fill 9 = .ok (.iconst 1, 1) := by decide +kernel
theorem dX8_fill_10 : decode cX8_fill 10 = .ok (.goto 30, 3) := by decide +kernel
theorem dX8_fill_13 : decode cX8_fill 13 = .ok (.iload_n 2, 1) := by decide +kernel
theorem dX8_fill_14 : decode cX8_fill 14 = .ok (.iconst 1, 1) := by decide +kernel
theorem dX8_fill_15 : decode cX8_fill 15 = .ok (.ldc 114, 2) := by decide +kernel
theorem dX8_fill_17 : decode cX8_fill 17 = .ok (.invokestatic 91, 3) := by decide +kernel
theorem dX8_fill_20 : decode cX8_fill 20 = .ok (.ifCond .ne 7, 3) := by decide +kernel
theorem dX8_fill_23 : decode cX8_fill 23 = .ok (.iconst 2, 1) := by decide +kernel
theorem dX8_fill_24 : decode cX8_fill 24 = .ok (.goto 16, 3) := by decide +kernel
theorem dX8_fill_27 : decode cX8_fill 27 = .ok (.aload_n 0, 1) := by decide +kernel
theorem dX8_fill_28 : decode cX8_fill 28 = .ok (.getfield 95, 3) := by decide +kernel
theorem dX8_fill_31 : decode cX8_fill 31 = .ok (.iconst 3, 1) := by decide +kernel
theorem dX8_fill_32 : decode cX8_fill 32 = .ok (.if_icmp .ne 7, 3) := by decide +kernel
theorem dX8_fill_35 : decode cX8_fill 35 = .ok (.iconst 3, 1) := by decide +kernel
theorem dX8_fill_36 : decode cX8_fill 36 = .ok (.goto 4, 3) := by decide +kernel
theorem dX8_fill_39 : decode cX8_fill 39 = .ok (.iconst 0, 1) := by decide +kernel
theorem dX8_fill_40 : decode cX8_fill 40 = .ok (.putfield 84, 3) := by decide +kernel
theorem dX8_fill_43 : decode cX8_fill 43 = .ok (.aload_n 0, 1) := by decide +kernel
theorem dX8_fill_44 : decode cX8_fill 44 = .ok (.getfield 84, 3) := by decide +kernel
theorem dX8_fill_47 : decode cX8_fill 47 = .ok (.ifCond .le 5, 3) := by decide +kernel
theorem dX8_fill_50 : decode cX8_fill 50 = .ok (.iconst 0, 1) := by decide +kernel
theorem dX8_fill_51 : decode cX8_fill 51 = .ok (.ireturn, 1) := by decide +kernel
theorem dX8_fill_52 : decode cX8_fill 52 = .ok (.aload_n 0, 1) := by decide +kernel
theorem dX8_fill_53 : decode cX8_fill 53 = .ok (.getfield 16, 3) := by decide +kernel
theorem dX8_fill_56 : decode cX8_fill 56 = .ok (.aload_n 0, 1) := by decide +kernel
theorem dX8_fill_57 : decode cX8_fill 57 = .ok (.getfield 95, 3) := by decide +kernel
theorem dX8_fill_60 : decode cX8_fill 60 = .ok (.iload_n 1, 1) := by decide +kernel
theorem dX8_fill_61 : decode cX8_fill 61 = .ok (.iastore, 1) := by decide +kernel
theorem dX8_fill_62 : decode cX8_fill 62 = .ok (.aload_n 0, 1) := by decide +kernel
theorem dX8_fill_63 : decode cX8_fill 63 = .ok (.getfield 19, 3) := by decide +kernel
theorem dX8_fill_66 : decode cX8_fill 66 = .ok (.aload_n 0, 1) := by decide +kernel
theorem dX8_fill_67 : decode cX8_fill 67 = .ok (.getfield 95, 3) := by decide +kernel
theorem dX8_fill_70 : decode cX8_fill 70 = .ok (.iload_n 2, 1) := by decide +kernel
theorem dX8_fill_71 : decode cX8_fill 71 = .ok (.iastore, 1) := by decide +kernel
theorem dX8_fill_72 : decode cX8_fill 72 = .ok (.aload_n 0, 1) := by decide +kernel
theorem dX8_fill_73 : decode cX8_fill 73 = .ok (.getfield 22, 3) := by decide +kernel
theorem dX8_fill_76 : decode cX8_fill 76 = .ok (.aload_n 0, 1) := by decide +kernel
theorem dX8_fill_77 : decode cX8_fill 77 = .ok (.getfield 95, 3) := by decide +kernel
theorem dX8_fill_80 : decode cX8_fill 80 = .ok (.iconst 0, 1) := by decide +kernel
theorem dX8_fill_81 : decode cX8_fill 81 = .ok (.iastore, 1) := by decide +kernel
theorem dX8_fill_82 : decode cX8_fill 82 = .ok (.aload_n 0, 1) := by decide +kernel
theorem dX8_fill_83 : decode cX8_fill 83 = .ok (.dup, 1) := by decide +kernel
theorem dX8_fill_84 : decode cX8_fill 84 = .ok (.getfield 95, 3) := by decide +kernel
theorem dX8_fill_87 : decode cX8_fill 87 = .ok (.iconst 1, 1) := by decide +kernel
theorem dX8_fill_88 : decode cX8_fill 88 = .ok (.iadd, 1) := by decide +kernel
theorem dX8_fill_89 : decode cX8_fill 89 = .ok (.putfield 95, 3) := by decide +kernel
theorem dX8_fill_92 : decode cX8_fill 92 = .ok (.aload_n 0, 1) := by decide +kernel
theorem dX8_fill_93 : decode cX8_fill 93 = .ok (.getfield 95, 3) := by decide +kernel
theorem dX8_fill_96 : decode cX8_fill 96 = .ok (.ireturn, 1) := by decide +kernel
theorem dX8_leaves_0 : decode cX8_leaves 0 = .ok (.aload_n 0, 1) := by decide +kernel
theorem dX8_leaves_1 : decode cX8_leaves 1 = .ok (.dup, 1) := by decide +kernel
theorem dX8_leaves_2 : decode cX8_leaves 2 = .ok (.getfield 95, 3) := by decide +kernel
theorem dX8_leaves_5 : decode cX8_leaves 5 = .ok (.iconst 1, 1) := by decide +kernel
theorem dX8_leaves_6 : decode cX8_leaves 6 = .ok (.isub, 1) := by decide +kernel
theorem dX8_leaves_7 : decode cX8_leaves 7 = .ok (.putfield 95, 3) := by decide +kernel
theorem dX8_leaves_10 : decode cX8_leaves 10 = .ok (.iload_n 1, 1) := by decide +kernel
theorem dX8_leaves_11 : decode cX8_leaves 11 = .ok (.istore_n 2, 1) := by decide +kernel
theorem dX8_leaves_12 : decode cX8_leaves 12 = .ok (.iload_n 2, 1) := by decide +kernel
theorem dX8_leaves_13 : decode cX8_leaves 13 = .ok (.aload_n 0, 1) := by decide +kernel
theorem dX8_leaves_14 : decode cX8_leaves 14 = .ok (.getfield 95, 3) := by decide +kernel
theorem dX8_leaves_17 : decode cX8_leaves 17 = .ok (.if_icmp .ge 51, 3) := by decide +kernel
theorem dX8_leaves_20 : decode cX8_leaves 20 = .ok (.aload_n 0, 1) := by decide +kernel
theorem dX8_leaves_21 : decode cX8_leaves 21 = .ok (.getfield 16, 3) := by decide +kernel
theorem dX8_leaves_24 : decode cX8_leaves 24 = .ok (.iload_n 2, 1) := by decide +kernel
theorem dX8_leaves_25 : decode cX8_leaves 25 = .ok (.aload_n 0, 1) := by decide +kernel
theorem dX8_leaves_26 : decode cX8_leaves 26 = .ok (.getfield 16, 3) := by decide +kernel
theorem dX8_leaves_29 : decode cX8_leaves 29 = .ok (.iload_n 2, 1) := by decide +kernel
theorem dX8_leaves_30 : decode cX8_leaves 30 = .ok (.iconst 1, 1) := by decide +kernel
theorem dX8_leaves_31 : decode cX8_leaves 31 = .ok (.iadd, 1) := by decide +kernel
theorem dX8_leaves_32 : decode cX8_leaves 32 = .ok (.iaload, 1) := by decide +kernel
theorem dX8_leaves_33 : decode cX8_leaves 33 = .ok (.iastore, 1) := by decide +kernel
theorem dX8_leaves_34 : decode cX8_leaves 34 = .ok (.aload_n 0, 1) := by decide +kernel
theorem dX8_leaves_35 : decode cX8_leaves 35 = .ok (.getfield 19, 3) := by decide +kernel
theorem dX8_leaves_38 : decode cX8_leaves 38 = .ok (.iload_n 2, 1) := by decide +kernel
theorem dX8_leaves_39 : decode cX8_leaves 39 = .ok (.aload_n 0, 1) := by decide +kernel
theorem dX8_leaves_40 : decode cX8_leaves 40 = .ok (.getfield 19, 3) := by decide +kernel
theorem dX8_leaves_43 : decode cX8_leaves 43 = .ok (.iload_n 2, 1) := by decide +kernel
theorem dX8_leaves_44 : decode cX8_leaves 44 = .ok (.iconst 1, 1) := by decide +kernel
theorem dX8_leaves_45 : decode cX8_leaves 45 = .ok (.iadd, 1) := by decide +kernel
theorem dX8_leaves_46 : decode cX8_leaves 46 = .ok (.iaload, 1) := by decide +kernel
theorem dX8_leaves_47 : decode cX8_leaves 47 = .ok (.iastore, 1) := by decide +kernel
theorem dX8_leaves_48 : decode cX8_leaves 48 = .ok (.aload_n 0, 1) := by decide +kernel
theorem dX8_leaves_49 : decode cX8_leaves 49 = .ok (.getfield 22, 3) := by decide +kernel
theorem dX8_leaves_52 : decode cX8_leaves 52 = .ok (.iload_n 2, 1) := by decide +kernel
theorem dX8_leaves_53 : decode cX8_leaves 53 = .ok (.aload_n 0, 1) := by decide +kernel
theorem dX8_leaves_54 : decode cX8_leaves 54 = .ok (.getfield 22, 3) := by decide +kernel
theorem dX8_leaves_57 : decode cX8_leaves 57 = .ok (.iload_n 2, 1) := by decide +kernel
theorem dX8_leaves_58 : decode cX8_leaves 58 = .ok (.iconst 1, 1) := by decide +kernel
theorem dX8_leaves_59 : decode cX8_leaves 59 = .ok (.iadd, 1) := by decide +kernel
theorem dX8_leaves_60 : decode cX8_leaves 60 = .ok (.iaload, 1) := by decide +kernel
theorem dX8_leaves_61 : decode cX8_leaves 61 = .ok (.iastore, 1) := by decide +kernel
theorem dX8_leaves_62 : decode cX8_leaves 62 = .ok (.iinc 2 1, 3) := by decide +kernel
theorem dX8_leaves_65 : decode cX8_leaves 65 = .ok (.goto (-53), 3) := by decide +kernel
theorem dX8_leaves_68 : decode cX8_leaves 68 = .ok (.return_, 1) := by decide +kernel
theorem dX8_empty_0 : decode cX8_empty 0 = .ok (.aload_n 0, 1) := by decide +kernel
theorem dX8_empty_1 : decode cX8_empty 1 = .ok (.aload_n 0, 1) := by decide +kernel
theorem dX8_empty_2 : decode cX8_empty 2 = .ok (.iload_n 1, 1) := by decide +kernel
theorem dX8_empty_3 : decode cX8_empty 3 = .ok (.invokevirtual 115, 3) := by decide +kernel
theorem dX8_empty_6 : decode cX8_empty 6 = .ok (.ifCond .eq 7, 3) := by decide +kernel
theorem dX8_empty_9 : decode cX8_empty 9 = .ok (.iconst 0, 1) := by decide +kernel
theorem dX8_empty_10 : decode cX8_empty 10 = .ok (.goto 4, 3) := by decide +kernel
theorem dX8_empty_13 : decode cX8_empty 13 = .ok (.iconst 1, 1) := by decide +kernel
theorem dX8_empty_14 : decode cX8_empty 14 = .ok (.putfield 84, 3) := by decide +kernel
theorem dX8_empty_17 : decode cX8_empty 17 = .ok (.aload_n 0, 1) := by decide +kernel
theorem dX8_empty_18 : decode cX8_empty 18 = .ok (.getfield 84, 3) := by decide +kernel
theorem dX8_empty_21 : decode cX8_empty 21 = .ok (.ifCond .le 5, 3) := by decide +kernel
theorem dX8_empty_24 : decode cX8_empty 24 = .ok (.iconst 0, 1) := by decide +kernel
theorem dX8_empty_25 : decode cX8_empty 25 = .ok (.ireturn, 1) := by decide +kernel
theorem dX8_empty_26 : decode cX8_empty 26 = .ok (.aload_n 0, 1) := by decide +kernel
theorem dX8_empty_27 : decode cX8_empty 27 = .ok (.getfield 19, 3) := by decide +kernel
theorem dX8_empty_30 : decode cX8_empty 30 = .ok (.iload_n 1, 1) := by decide +kernel
theorem dX8_empty_31 : decode cX8_empty 31 = .ok (.iaload, 1) := by decide +kernel
theorem dX8_empty_32 : decode cX8_empty 32 = .ok (.istore_n 2, 1) := by decide +kernel
theorem dX8_empty_33 : decode cX8_empty 33 = .ok (.aload_n 0, 1) := by decide +kernel
theorem dX8_empty_34 : decode cX8_empty 34 = .ok (.iload_n 1, 1) := by decide +kernel
theorem dX8_empty_35 : decode cX8_empty 35 = .ok (.invokevirtual 118, 3) := by decide +kernel
theorem dX8_empty_38 : decode cX8_empty 38 = .ok (.iload_n 2, 1) := by decide +kernel
theorem dX8_empty_39 : decode cX8_empty 39 = .ok (.ireturn, 1) := by decide +kernel
theorem dX8_lots_0 : decode cX8_lots 0 = .ok (.aload_n 0, 1) := by decide +kernel
theorem dX8_lots_1 : decode cX8_lots 1 = .ok (.iconst 0, 1) := by decide +kernel
theorem dX8_lots_2 : decode cX8_lots 2 = .ok (.putfield 84, 3) := by decide +kernel
theorem dX8_lots_5 : decode cX8_lots 5 = .ok (.aload_n 0, 1) := by decide +kernel
theorem dX8_lots_6 : decode cX8_lots 6 = .ok (.getfield 95, 3) := by decide +kernel
theorem dX8_lots_9 : decode cX8_lots 9 = .ok (.ireturn, 1) := by decide +kernel
theorem dX8_toDry_0 : decode cX8_toDry 0 = .ok (.iconst 0, 1) := by decide +kernel
theorem dX8_toDry_1 : decode cX8_toDry 1 = .ok (.aload_n 0, 1) := by decide +kernel
theorem dX8_toDry_2 : decode cX8_toDry 2 = .ok (.getfield 9, 3) := by decide +kernel
theorem dX8_toDry_5 : decode cX8_toDry 5 = .ok (.aload_n 0, 1) := by decide +kernel
theorem dX8_toDry_6 : decode cX8_toDry 6 = .ok (.getfield 16, 3) := by decide +kernel
theorem dX8_toDry_9 : decode cX8_toDry 9 = .ok (.iload_n 1, 1) := by decide +kernel
theorem dX8_toDry_10 : decode cX8_toDry 10 = .ok (.iaload, 1) := by decide +kernel
theorem dX8_toDry_11 : decode cX8_toDry 11 = .ok (.iaload, 1) := by decide +kernel
theorem dX8_toDry_12 : decode cX8_toDry 12 = .ok (.aload_n 0, 1) := by decide +kernel
theorem dX8_toDry_13 : decode cX8_toDry 13 = .ok (.getfield 22, 3) := by decide +kernel
theorem dX8_toDry_16 : decode cX8_toDry 16 = .ok (.iload_n 1, 1) := by decide +kernel
theorem dX8_toDry_17 : decode cX8_toDry 17 = .ok (.iaload, 1) := by decide +kernel
theorem dX8_toDry_18 : decode cX8_toDry 18 = .ok (.isub, 1) := by decide +kernel
theorem dX8_toDry_19 : decode cX8_toDry 19 = .ok (.invokestatic 122, 3) := by decide +kernel
theorem dX8_toDry_22 : decode cX8_toDry 22 = .ok (.ireturn, 1) := by decide +kernel
theorem dX8_hoursToDry_0 : decode cX8_hoursToDry 0 = .ok (.aload_n 0, 1) := by decide +kernel
theorem dX8_hoursToDry_1 : decode cX8_hoursToDry 1 = .ok (.aload_n 0, 1) := by decide +kernel
theorem dX8_hoursToDry_2 : decode cX8_hoursToDry 2 = .ok (.iload_n 1, 1) := by decide +kernel
theorem dX8_hoursToDry_3 : decode cX8_hoursToDry 3 = .ok (.invokevirtual 115, 3) := by decide +kernel
theorem dX8_hoursToDry_6 : decode cX8_hoursToDry 6 = .ok (.ifCond .eq 7, 3) := by decide +kernel
theorem dX8_hoursToDry_9 : decode cX8_hoursToDry 9 = .ok (.iconst 0, 1) := by decide +kernel
theorem dX8_hoursToDry_10 : decode cX8_hoursToDry 10 = .ok (.goto 4, 3) := by decide +kernel
theorem dX8_hoursToDry_13 : decode cX8_hoursToDry 13 = .ok (.iconst 1, 1) := by decide +kernel
theorem dX8_hoursToDry_14 : decode cX8_hoursToDry 14 = .ok (.putfield 84, 3) := by decide +kernel
theorem dX8_hoursToDry_17 : decode cX8_hoursToDry 17 = .ok (.aload_n 0, 1) := by decide +kernel
theorem dX8_hoursToDry_18 : decode cX8_hoursToDry 18 = .ok (.getfield 84, 3) := by decide +kernel
theorem dX8_hoursToDry_21 : decode cX8_hoursToDry 21 = .ok (.ifCond .le 7, 3) := by decide +kernel
theorem dX8_hoursToDry_24 : decode cX8_hoursToDry 24 = .ok (.iconst 0, 1) := by decide +kernel
theorem dX8_hoursToDry_25 : decode cX8_hoursToDry 25 = .ok (.goto 8, 3) := by decide +kernel
theorem dX8_hoursToDry_28 : decode cX8_hoursToDry 28 = .ok (.aload_n 0, 1) := by decide +kernel
theorem dX8_hoursToDry_29 : decode cX8_hoursToDry 29 = .ok (.iload_n 1, 1) := by decide +kernel
theorem dX8_hoursToDry_30 : decode cX8_hoursToDry 30 = .ok (.invokevirtual 128, 3) := by decide +kernel
theorem dX8_hoursToDry_33 : decode cX8_hoursToDry 33 = .ok (.ireturn, 1) := by decide +kernel
theorem dX8_dryOf_0 : decode cX8_dryOf 0 = .ok (.iconst 0, 1) := by decide +kernel
theorem dX8_dryOf_1 : decode cX8_dryOf 1 = .ok (.istore_n 2, 1) := by decide +kernel
theorem dX8_dryOf_2 : decode cX8_dryOf 2 = .ok (.iconst 0, 1) := by decide +kernel
theorem dX8_dryOf_3 : decode cX8_dryOf 3 = .ok (.istore_n 3, 1) := by decide +kernel
theorem dX8_dryOf_4 : decode cX8_dryOf 4 = .ok (.iload_n 3, 1) := by decide +kernel
theorem dX8_dryOf_5 : decode cX8_dryOf 5 = .ok (.aload_n 0, 1) := by decide +kernel
theorem dX8_dryOf_6 : decode cX8_dryOf 6 = .ok (.getfield 95, 3) := by decide +kernel
theorem dX8_dryOf_9 : decode cX8_dryOf 9 = .ok (.if_icmp .ge 40, 3) := by decide +kernel
theorem dX8_dryOf_12 : decode cX8_dryOf 12 = .ok (.iload_n 2, 1) := by decide +kernel
theorem dX8_dryOf_13 : decode cX8_dryOf 13 = .ok (.aload_n 0, 1) := by decide +kernel
theorem dX8_dryOf_14 : decode cX8_dryOf 14 = .ok (.getfield 16, 3) := by decide +kernel
theorem dX8_dryOf_17 : decode cX8_dryOf 17 = .ok (.iload_n 3, 1) := by decide +kernel
theorem dX8_dryOf_18 : decode cX8_dryOf 18 = .ok (.iaload, 1) := by decide +kernel
theorem dX8_dryOf_19 : decode cX8_dryOf 19 = .ok (.iload_n 1, 1) := by decide +kernel
theorem dX8_dryOf_20 : decode cX8_dryOf 20 = .ok (.if_icmp .ne 20, 3) := by decide +kernel
theorem dX8_dryOf_23 : decode cX8_dryOf 23 = .ok (.aload_n 0, 1) := by decide +kernel
theorem dX8_dryOf_24 : decode cX8_dryOf 24 = .ok (.iload_n 3, 1) := by decide +kernel
theorem dX8_dryOf_25 : decode cX8_dryOf 25 = .ok (.invokevirtual 128, 3) := by decide +kernel
theorem dX8_dryOf_28 : decode cX8_dryOf 28 = .ok (.ifCond .ne 12, 3) := by decide +kernel
theorem dX8_dryOf_31 : decode cX8_dryOf 31 = .ok (.aload_n 0, 1) := by decide +kernel
theorem dX8_dryOf_32 : decode cX8_dryOf 32 = .ok (.getfield 19, 3) := by decide +kernel
theorem dX8_dryOf_35 : decode cX8_dryOf 35 = .ok (.iload_n 3, 1) := by decide +kernel
theorem dX8_dryOf_36 : decode cX8_dryOf 36 = .ok (.iaload, 1) := by decide +kernel
theorem dX8_dryOf_37 : decode cX8_dryOf 37 = .ok (.goto 4, 3) := by decide +kernel
theorem dX8_dryOf_40 : decode cX8_dryOf 40 = .ok (.iconst 0, 1) := by decide +kernel
theorem dX8_dryOf_41 : decode cX8_dryOf 41 = .ok (.iadd, 1) := by decide +kernel
theorem dX8_dryOf_42 : decode cX8_dryOf 42 = .ok (.istore_n 2, 1) := by decide +kernel
theorem dX8_dryOf_43 : decode cX8_dryOf 43 = .ok (.iinc 3 1, 3) := by decide +kernel
theorem dX8_dryOf_46 : decode cX8_dryOf 46 = .ok (.goto (-42), 3) := by decide +kernel
theorem dX8_dryOf_49 : decode cX8_dryOf 49 = .ok (.iload_n 2, 1) := by decide +kernel
theorem dX8_dryOf_50 : decode cX8_dryOf 50 = .ok (.ireturn, 1) := by decide +kernel
theorem dX8_dry_0 : decode cX8_dry 0 = .ok (.aload_n 0, 1) := by decide +kernel
theorem dX8_dry_1 : decode cX8_dry 1 = .ok (.aload_n 0, 1) := by decide +kernel
theorem dX8_dry_2 : decode cX8_dry 2 = .ok (.iload_n 1, 1) := by decide +kernel
theorem dX8_dry_3 : decode cX8_dry 3 = .ok (.invokevirtual 111, 3) := by decide +kernel
theorem dX8_dry_6 : decode cX8_dry 6 = .ok (.ifCond .eq 7, 3) := by decide +kernel
theorem dX8_dry_9 : decode cX8_dry 9 = .ok (.iconst 0, 1) := by decide +kernel
theorem dX8_dry_10 : decode cX8_dry 10 = .ok (.goto 4, 3) := by decide +kernel
theorem dX8_dry_13 : decode cX8_dry 13 = .ok (.iconst 1, 1) := by decide +kernel
theorem dX8_dry_14 : decode cX8_dry 14 = .ok (.putfield 84, 3) := by decide +kernel
theorem dX8_dry_17 : decode cX8_dry 17 = .ok (.aload_n 0, 1) := by decide +kernel
theorem dX8_dry_18 : decode cX8_dry 18 = .ok (.getfield 84, 3) := by decide +kernel
theorem dX8_dry_21 : decode cX8_dry 21 = .ok (.ifCond .le 7, 3) := by decide +kernel
theorem dX8_dry_24 : decode cX8_dry 24 = .ok (.iconst 0, 1) := by decide +kernel
theorem dX8_dry_25 : decode cX8_dry 25 = .ok (.goto 8, 3) := by decide +kernel
theorem dX8_dry_28 : decode cX8_dry 28 = .ok (.aload_n 0, 1) := by decide +kernel
theorem dX8_dry_29 : decode cX8_dry 29 = .ok (.iload_n 1, 1) := by decide +kernel
theorem dX8_dry_30 : decode cX8_dry 30 = .ok (.invokevirtual 132, 3) := by decide +kernel
theorem dX8_dry_33 : decode cX8_dry 33 = .ok (.ireturn, 1) := by decide +kernel
theorem dX8_regrind_0 : decode cX8_regrind 0 = .ok (.aload_n 0, 1) := by decide +kernel
theorem dX8_regrind_1 : decode cX8_regrind 1 = .ok (.aload_n 0, 1) := by decide +kernel
theorem dX8_regrind_2 : decode cX8_regrind 2 = .ok (.iload_n 1, 1) := by decide +kernel
theorem dX8_regrind_3 : decode cX8_regrind 3 = .ok (.invokevirtual 111, 3) := by decide +kernel
theorem dX8_regrind_6 : decode cX8_regrind 6 = .ok (.ifCond .eq 7, 3) := by decide +kernel
theorem dX8_regrind_9 : decode cX8_regrind 9 = .ok (.iconst 0, 1) := by decide +kernel
theorem dX8_regrind_10 : decode cX8_regrind 10 = .ok (.goto 4, 3) := by decide +kernel
theorem dX8_regrind_13 : decode cX8_regrind 13 = .ok (.iconst 1, 1) := by decide +kernel
theorem dX8_regrind_14 : decode cX8_regrind 14 = .ok (.putfield 84, 3) := by decide +kernel
theorem dX8_regrind_17 : decode cX8_regrind 17 = .ok (.aload_n 0, 1) := by decide +kernel
theorem dX8_regrind_18 : decode cX8_regrind 18 = .ok (.getfield 84, 3) := by decide +kernel
theorem dX8_regrind_21 : decode cX8_regrind 21 = .ok (.ifCond .le 7, 3) := by decide +kernel
theorem dX8_regrind_24 : decode cX8_regrind 24 = .ok (.iconst 0, 1) := by decide +kernel
theorem dX8_regrind_25 : decode cX8_regrind 25 = .ok (.goto 9, 3) := by decide +kernel
theorem dX8_regrind_28 : decode cX8_regrind 28 = .ok (.aload_n 0, 1) := by decide +kernel
theorem dX8_regrind_29 : decode cX8_regrind 29 = .ok (.getfield 13, 3) := by decide +kernel
theorem dX8_regrind_32 : decode cX8_regrind 32 = .ok (.iload_n 1, 1) := by decide +kernel
theorem dX8_regrind_33 : decode cX8_regrind 33 = .ok (.iaload, 1) := by decide +kernel
theorem dX8_regrind_34 : decode cX8_regrind 34 = .ok (.ireturn, 1) := by decide +kernel
theorem dX8_addMould_0 : decode cX8_addMould 0 = .ok (.iload_n 1, 1) := by decide +kernel
theorem dX8_addMould_1 : decode cX8_addMould 1 = .ok (.iconst 1, 1) := by decide +kernel
theorem dX8_addMould_2 : decode cX8_addMould 2 = .ok (.bipush 8, 2) := by decide +kernel
theorem dX8_addMould_4 : decode cX8_addMould 4 = .ok (.invokestatic 91, 3) := by decide +kernel
theorem dX8_addMould_7 : decode cX8_addMould 7 = .ok (.ifCond .eq 54, 3) := by decide +kernel
theorem dX8_addMould_10 : decode cX8_addMould 10 = .ok (.iload_n 2, 1) := by decide +kernel
theorem dX8_addMould_11 : decode cX8_addMould 11 = .ok (.iconst 1, 1) := by decide +kernel
theorem dX8_addMould_12 : decode cX8_addMould 12 = .ok (.sipush 200, 3) := by decide +kernel
theorem dX8_addMould_15 : decode cX8_addMould 15 = .ok (.invokestatic 91, 3) := by decide +kernel
theorem dX8_addMould_18 : decode cX8_addMould 18 = .ok (.ifCond .eq 43, 3) := by decide +kernel
theorem dX8_addMould_21 : decode cX8_addMould 21 = .ok (.iload_n 3, 1) := by decide +kernel
theorem dX8_addMould_22 : decode cX8_addMould 22 = .ok (.iconst 0, 1) := by decide +kernel
theorem dX8_addMould_23 : decode cX8_addMould 23 = .ok (.sipush 200, 3) := by decide +kernel
theorem dX8_addMould_26 : decode cX8_addMould 26 = .ok (.invokestatic 91, 3) := by decide +kernel
theorem dX8_addMould_29 : decode cX8_addMould 29 = .ok (.ifCond .eq 32, 3) := by decide +kernel
theorem dX8_addMould_32 : decode cX8_addMould 32 = .ok (.iload 4, 2) := by decide +kernel
theorem dX8_addMould_34 : decode cX8_addMould 34 = .ok (.iconst 1, 1) := by decide +kernel
theorem dX8_addMould_35 : decode cX8_addMould 35 = .ok (.sipush 999, 3) := by decide +kernel
theorem dX8_addMould_38 : decode cX8_addMould 38 = .ok (.invokestatic 91, 3) := by decide +kernel
theorem dX8_addMould_41 : decode cX8_addMould 41 = .ok (.ifCond .eq 20, 3) := by decide +kernel
theorem dX8_addMould_44 : decode cX8_addMould 44 = .ok (.iload 5, 2) := by decide +kernel
theorem dX8_addMould_46 : decode cX8_addMould 46 = .ok (.bipush 60, 2) := by decide +kernel
theorem dX8_addMould_48 : decode cX8_addMould 48 = .ok (.sipush 3600, 3) := by decide +kernel
theorem dX8_addMould_51 : decode cX8_addMould 51 = .ok (.invokestatic 91, 3) := by decide +kernel
theorem dX8_addMould_54 : decode cX8_addMould 54 = .ok (.ifCond .eq 7, 3) := by decide +kernel
theorem dX8_addMould_57 : decode cX8_addMould 57 = .ok (.iconst 1, 1) := by decide +kernel
theorem dX8_addMould_58 : decode cX8_addMould 58 = .ok (.goto 4, 3) := by decide +kernel
theorem dX8_addMould_61 : decode cX8_addMould 61 = .ok (.iconst 0, 1) := by decide +kernel
theorem dX8_addMould_62 : decode cX8_addMould 62 = .ok (.istore 6, 2) := by decide +kernel
theorem dX8_addMould_64 : decode cX8_addMould 64 = .ok (.aload_n 0, 1) := by decide +kernel
theorem dX8_addMould_65 : decode cX8_addMould 65 = .ok (.iload 6, 2) := by decide +kernel
theorem dX8_addMould_67 : decode cX8_addMould 67 = .ok (.ifCond .ne 7, 3) := by decide +kernel
theorem dX8_addMould_70 : decode cX8_addMould 70 = .ok (.iconst 1, 1) := by decide +kernel
theorem dX8_addMould_71 : decode cX8_addMould 71 = .ok (.goto 16, 3) := by decide +kernel
theorem dX8_addMould_74 : decode cX8_addMould 74 = .ok (.aload_n 0, 1) := by decide +kernel
theorem dX8_addMould_75 : decode cX8_addMould 75 = .ok (.getfield 98, 3) := by decide +kernel
theorem dX8_addMould_78 : decode cX8_addMould 78 = .ok (.iconst 5, 1) := by decide +kernel
theorem dX8_addMould_79 : decode cX8_addMould 79 = .ok (.if_icmp .ne 7, 3) := by decide +kernel
theorem dX8_addMould_82 : decode cX8_addMould 82 = .ok (.iconst 2, 1) := by decide +kernel
theorem dX8_addMould_83 : decode cX8_addMould 83 = .ok (.goto 4, 3) := by decide +kernel
theorem dX8_addMould_86 : decode cX8_addMould 86 = .ok (.iconst 0, 1) := by decide +kernel
theorem dX8_addMould_87 : decode cX8_addMould 87 = .ok (.putfield 84, 3) := by decide +kernel
theorem dX8_addMould_90 : decode cX8_addMould 90 = .ok (.aload_n 0, 1) := by decide +kernel
theorem dX8_addMould_91 : decode cX8_addMould 91 = .ok (.getfield 84, 3) := by decide +kernel
theorem dX8_addMould_94 : decode cX8_addMould 94 = .ok (.ifCond .le 5, 3) := by decide +kernel
theorem dX8_addMould_97 : decode cX8_addMould 97 = .ok (.iconst 0, 1) := by decide +kernel
theorem dX8_addMould_98 : decode cX8_addMould 98 = .ok (.ireturn, 1) := by decide +kernel
theorem dX8_addMould_99 : decode cX8_addMould 99 = .ok (.aload_n 0, 1) := by decide +kernel
theorem dX8_addMould_100 : decode cX8_addMould 100 = .ok (.getfield 25, 3) := by decide +kernel
theorem dX8_addMould_103 : decode cX8_addMould 103 = .ok (.aload_n 0, 1) := by decide +kernel
theorem dX8_addMould_104 : decode cX8_addMould 104 = .ok (.getfield 98, 3) := by decide +kernel
theorem dX8_addMould_107 : decode cX8_addMould 107 = .ok (.iload_n 1, 1) := by decide +kernel
theorem dX8_addMould_108 : decode cX8_addMould 108 = .ok (.iastore, 1) := by decide +kernel
theorem dX8_addMould_109 : decode cX8_addMould 109 = .ok (.aload_n 0, 1) := by decide +kernel
theorem dX8_addMould_110 : decode cX8_addMould 110 = .ok (.getfield 28, 3) := by decide +kernel
theorem dX8_addMould_113 : decode cX8_addMould 113 = .ok (.aload_n 0, 1) := by decide +kernel
theorem dX8_addMould_114 : decode cX8_addMould 114 = .ok (.getfield 98, 3) := by decide +kernel
theorem dX8_addMould_117 : decode cX8_addMould 117 = .ok (.iload_n 2, 1) := by decide +kernel
theorem dX8_addMould_118 : decode cX8_addMould 118 = .ok (.iastore, 1) := by decide +kernel
theorem dX8_addMould_119 : decode cX8_addMould 119 = .ok (.aload_n 0, 1) := by decide +kernel
theorem dX8_addMould_120 : decode cX8_addMould 120 = .ok (.getfield 31, 3) := by decide +kernel
theorem dX8_addMould_123 : decode cX8_addMould 123 = .ok (.aload_n 0, 1) := by decide +kernel
theorem dX8_addMould_124 : decode cX8_addMould 124 = .ok (.getfield 98, 3) := by decide +kernel
theorem dX8_addMould_127 : decode cX8_addMould 127 = .ok (.iload_n 3, 1) := by decide +kernel
theorem dX8_addMould_128 : decode cX8_addMould 128 = .ok (.iastore, 1) := by decide +kernel
theorem dX8_addMould_129 : decode cX8_addMould 129 = .ok (.aload_n 0, 1) := by decide +kernel
theorem dX8_addMould_130 : decode cX8_addMould 130 = .ok (.getfield 34, 3) := by decide +kernel
theorem dX8_addMould_133 : decode cX8_addMould 133 = .ok (.aload_n 0, 1) := by decide +kernel
theorem dX8_addMould_134 : decode cX8_addMould 134 = .ok (.getfield 98, 3) := by decide +kernel
theorem dX8_addMould_137 : decode cX8_addMould 137 = .ok (.iload 4, 2) := by decide +kernel
theorem dX8_addMould_139 : decode cX8_addMould 139 = .ok (.iastore, 1) := by decide +kernel
theorem dX8_addMould_140 : decode cX8_addMould 140 = .ok (.aload_n 0, 1) := by decide +kernel
theorem dX8_addMould_141 : decode cX8_addMould 141 = .ok (.getfield 37, 3) := by decide +kernel
theorem dX8_addMould_144 : decode cX8_addMould 144 = .ok (.aload_n 0, 1) := by decide +kernel
theorem dX8_addMould_145 : decode cX8_addMould 145 = .ok (.getfield 98, 3) := by decide +kernel
theorem dX8_addMould_148 : decode cX8_addMould 148 = .ok (.iload 5, 2) := by decide +kernel
theorem dX8_addMould_150 : decode cX8_addMould 150 = .ok (.iastore, 1) := by decide +kernel
theorem dX8_addMould_151 : decode cX8_addMould 151 = .ok (.iconst 0, 1) := by decide +kernel
theorem dX8_addMould_152 : decode cX8_addMould 152 = .ok (.istore 7, 2) := by decide +kernel
theorem dX8_addMould_154 : decode cX8_addMould 154 = .ok (.iload 7, 2) := by decide +kernel
theorem dX8_addMould_156 : decode cX8_addMould 156 = .ok (.bipush 8, 2) := by decide +kernel
theorem dX8_addMould_158 : decode cX8_addMould 158 = .ok (.if_icmp .ge 24, 3) := by decide +kernel
theorem dX8_addMould_161 : decode cX8_addMould 161 = .ok (.aload_n 0, 1) := by decide +kernel
theorem dX8_addMould_162 : decode cX8_addMould 162 = .ok (.getfield 47, 3) := by decide +kernel
theorem dX8_addMould_165 : decode cX8_addMould 165 = .ok (.aload_n 0, 1) := by decide +kernel
theorem dX8_addMould_166 : decode cX8_addMould 166 = .ok (.getfield 98, 3) := by decide +kernel
theorem dX8_addMould_169 : decode cX8_addMould 169 = .ok (.aaload, 1) := by decide +kernel
theorem dX8_addMould_170 : decode cX8_addMould 170 = .ok (.iload 7, 2) := by decide +kernel
theorem dX8_addMould_172 : decode cX8_addMould 172 = .ok (.sipush 9999, 3) := by decide +kernel
theorem dX8_addMould_175 : decode cX8_addMould 175 = .ok (.iastore, 1) := by decide +kernel
theorem dX8_addMould_176 : decode cX8_addMould 176 = .ok (.iinc 7 1, 3) := by decide +kernel
theorem dX8_addMould_179 : decode cX8_addMould 179 = .ok (.goto (-25), 3) := by decide +kernel
theorem dX8_addMould_182 : decode cX8_addMould 182 = .ok (.aload_n 0, 1) := by decide +kernel
theorem dX8_addMould_183 : decode cX8_addMould 183 = .ok (.dup, 1) := by decide +kernel
theorem dX8_addMould_184 : decode cX8_addMould 184 = .ok (.getfield 98, 3) := by decide +kernel
theorem dX8_addMould_187 : decode cX8_addMould 187 = .ok (.iconst 1, 1) := by decide +kernel
theorem dX8_addMould_188 : decode cX8_addMould 188 = .ok (.iadd, 1) := by decide +kernel
theorem dX8_addMould_189 : decode cX8_addMould 189 = .ok (.putfield 98, 3) := by decide +kernel
theorem dX8_addMould_192 : decode cX8_addMould 192 = .ok (.aload_n 0, 1) := by decide +kernel
theorem dX8_addMould_193 : decode cX8_addMould 193 = .ok (.getfield 98, 3) := by decide +kernel
theorem dX8_addMould_196 : decode cX8_addMould 196 = .ok (.iconst 1, 1) := by decide +kernel
theorem dX8_addMould_197 : decode cX8_addMould 197 = .ok (.isub, 1) := by decide +kernel
theorem dX8_addMould_198 : decode cX8_addMould 198 = .ok (.ireturn, 1) := by decide +kernel
theorem dX8_fails_0 : decode cX8_fails 0 = .ok (.aload_n 0, 1) := by decide +kernel
theorem dX8_fails_1 : decode cX8_fails 1 = .ok (.getfield 42, 3) := by decide +kernel
theorem dX8_fails_4 : decode cX8_fails 4 = .ok (.iload_n 1, 1) := by decide +kernel
theorem dX8_fails_5 : decode cX8_fails 5 = .ok (.aaload, 1) := by decide +kernel
theorem dX8_fails_6 : decode cX8_fails 6 = .ok (.iload_n 2, 1) := by decide +kernel
theorem dX8_fails_7 : decode cX8_fails 7 = .ok (.aload_n 0, 1) := by decide +kernel
theorem dX8_fails_8 : decode cX8_fails 8 = .ok (.getfield 42, 3) := by decide +kernel
theorem dX8_fails_11 : decode cX8_fails 11 = .ok (.iload_n 1, 1) := by decide +kernel
theorem dX8_fails_12 : decode cX8_fails 12 = .ok (.aaload, 1) := by decide +kernel
theorem dX8_fails_13 : decode cX8_fails 13 = .ok (.iload_n 2, 1) := by decide +kernel
theorem dX8_fails_14 : decode cX8_fails 14 = .ok (.baload, 1) := by decide +kernel
theorem dX8_fails_15 : decode cX8_fails 15 = .ok (.ifCond .ne 22, 3) := by decide +kernel
theorem dX8_fails_18 : decode cX8_fails 18 = .ok (.aload_n 0, 1) := by decide +kernel
theorem dX8_fails_19 : decode cX8_fails 19 = .ok (.getfield 50, 3) := by decide +kernel
theorem dX8_fails_22 : decode cX8_fails 22 = .ok (.iload_n 1, 1) := by decide +kernel
theorem dX8_fails_23 : decode cX8_fails 23 = .ok (.aaload, 1) := by decide +kernel
theorem dX8_fails_24 : decode cX8_fails 24 = .ok (.iload_n 2, 1) := by decide +kernel
theorem dX8_fails_25 : decode cX8_fails 25 = .ok (.iaload, 1) := by decide +kernel
theorem dX8_fails_26 : decode cX8_fails 26 = .ok (.aload_n 0, 1) := by decide +kernel
theorem dX8_fails_27 : decode cX8_fails 27 = .ok (.getfield 47, 3) := by decide +kernel
theorem dX8_fails_30 : decode cX8_fails 30 = .ok (.iload_n 1, 1) := by decide +kernel
theorem dX8_fails_31 : decode cX8_fails 31 = .ok (.aaload, 1) := by decide +kernel
theorem dX8_fails_32 : decode cX8_fails 32 = .ok (.iload_n 2, 1) := by decide +kernel
theorem dX8_fails_33 : decode cX8_fails 33 = .ok (.iaload, 1) := by decide +kernel
theorem dX8_fails_34 : decode cX8_fails 34 = .ok (.if_icmp .lt 7, 3) := by decide +kernel
theorem dX8_fails_37 : decode cX8_fails 37 = .ok (.iconst 1, 1) := by decide +kernel
theorem dX8_fails_38 : decode cX8_fails 38 = .ok (.goto 4, 3) := by decide +kernel
theorem dX8_fails_41 : decode cX8_fails 41 = .ok (.iconst 0, 1) := by decide +kernel
theorem dX8_fails_42 : decode cX8_fails 42 = .ok (.bastore, 1) := by decide +kernel
theorem dX8_fails_43 : decode cX8_fails 43 = .ok (.return_, 1) := by decide +kernel
theorem dX8_setLife_0 : decode cX8_setLife 0 = .ok (.aload_n 0, 1) := by decide +kernel
theorem dX8_setLife_1 : decode cX8_setLife 1 = .ok (.aload_n 0, 1) := by decide +kernel
theorem dX8_setLife_2 : decode cX8_setLife 2 = .ok (.iload_n 1, 1) := by decide +kernel
theorem dX8_setLife_3 : decode cX8_setLife 3 = .ok (.iload_n 2, 1) := by decide +kernel
theorem dX8_setLife_4 : decode cX8_setLife 4 = .ok (.invokevirtual 135, 3) := by decide +kernel
theorem dX8_setLife_7 : decode cX8_setLife 7 = .ok (.ifCond .ne 7, 3) := by decide +kernel
theorem dX8_setLife_10 : decode cX8_setLife 10 = .ok (.iconst 1, 1) := by decide +kernel
theorem dX8_setLife_11 : decode cX8_setLife 11 = .ok (.goto 19, 3) := by decide +kernel
theorem dX8_setLife_14 : decode cX8_setLife 14 = .ok (.iload_n 3, 1) := by decide +kernel
theorem dX8_setLife_15 : decode cX8_setLife 15 = .ok (.iconst 1, 1) := by decide +kernel
theorem dX8_setLife_16 : decode cX8_setLife 16 = .ok (.sipush 9999, 3) := by decide +kernel
theorem dX8_setLife_19 : decode cX8_setLife 19 = .ok (.invokestatic 91, 3) := by decide +kernel
theorem dX8_setLife_22 : decode cX8_setLife 22 = .ok (.ifCond .ne 7, 3) := by decide +kernel
theorem dX8_setLife_25 : decode cX8_setLife 25 = .ok (.iconst 2, 1) := by decide +kernel
theorem dX8_setLife_26 : decode cX8_setLife 26 = .ok (.goto 4, 3) := by decide +kernel
theorem dX8_setLife_29 : decode cX8_setLife 29 = .ok (.iconst 0, 1) := by decide +kernel
theorem dX8_setLife_30 : decode cX8_setLife 30 = .ok (.putfield 84, 3) := by decide +kernel
theorem dX8_setLife_33 : decode cX8_setLife 33 = .ok (.aload_n 0, 1) := by decide +kernel
theorem dX8_setLife_34 : decode cX8_setLife 34 = .ok (.getfield 84, 3) := by decide +kernel
theorem dX8_setLife_37 : decode cX8_setLife 37 = .ok (.ifCond .le 5, 3) := by decide +kernel
theorem dX8_setLife_40 : decode cX8_setLife 40 = .ok (.iconst 0, 1) := by decide +kernel
theorem dX8_setLife_41 : decode cX8_setLife 41 = .ok (.ireturn, 1) := by decide +kernel
theorem dX8_setLife_42 : decode cX8_setLife 42 = .ok (.aload_n 0, 1) := by decide +kernel
theorem dX8_setLife_43 : decode cX8_setLife 43 = .ok (.getfield 47, 3) := by decide +kernel
theorem dX8_setLife_46 : decode cX8_setLife 46 = .ok (.iload_n 1, 1) := by decide +kernel
theorem dX8_setLife_47 : decode cX8_setLife 47 = .ok (.aaload, 1) := by decide +kernel
theorem dX8_setLife_48 : decode cX8_setLife 48 = .ok (.iload_n 2, 1) := by decide +kernel
theorem dX8_setLife_49 : decode cX8_setLife 49 = .ok (.iload_n 3, 1) := by decide +kernel
theorem dX8_setLife_50 : decode cX8_setLife 50 = .ok (.iastore, 1) := by decide +kernel
theorem dX8_setLife_51 : decode cX8_setLife 51 = .ok (.aload_n 0, 1) := by decide +kernel
theorem dX8_setLife_52 : decode cX8_setLife 52 = .ok (.iload_n 1, 1) := by decide +kernel
theorem dX8_setLife_53 : decode cX8_setLife 53 = .ok (.iload_n 2, 1) := by decide +kernel
theorem dX8_setLife_54 : decode cX8_setLife 54 = .ok (.invokevirtual 139, 3) := by decide +kernel
theorem dX8_setLife_57 : decode cX8_setLife 57 = .ok (.aload_n 0, 1) := by decide +kernel
theorem dX8_setLife_58 : decode cX8_setLife 58 = .ok (.getfield 50, 3) := by decide +kernel
theorem dX8_setLife_61 : decode cX8_setLife 61 = .ok (.iload_n 1, 1) := by decide +kernel
theorem dX8_setLife_62 : decode cX8_setLife 62 = .ok (.aaload, 1) := by decide +kernel
theorem dX8_setLife_63 : decode cX8_setLife 63 = .ok (.iload_n 2, 1) := by decide +kernel
theorem dX8_setLife_64 : decode cX8_setLife 64 = .ok (.iaload, 1) := by decide +kernel
theorem dX8_setLife_65 : decode cX8_setLife 65 = .ok (.ireturn, 1) := by decide +kernel
theorem dX8_open_0 : decode cX8_open 0 = .ok (.iconst 0, 1) := by decide +kernel
theorem dX8_open_1 : decode cX8_open 1 = .ok (.istore_n 2, 1) := by decide +kernel
theorem dX8_open_2 : decode cX8_open 2 = .ok (.iconst 0, 1) := by decide +kernel
theorem dX8_open_3 : decode cX8_open 3 = .ok (.istore_n 3, 1) := by decide +kernel
theorem dX8_open_4 : decode cX8_open 4 = .ok (.iload_n 3, 1) := by decide +kernel
theorem dX8_open_5 : decode cX8_open 5 = .ok (.aload_n 0, 1) := by decide +kernel
theorem dX8_open_6 : decode cX8_open 6 = .ok (.getfield 25, 3) := by decide +kernel
theorem dX8_open_9 : decode cX8_open 9 = .ok (.iload_n 1, 1) := by decide +kernel
theorem dX8_open_10 : decode cX8_open 10 = .ok (.iaload, 1) := by decide +kernel
theorem dX8_open_11 : decode cX8_open 11 = .ok (.if_icmp .ge 28, 3) := by decide +kernel
theorem dX8_open_14 : decode cX8_open 14 = .ok (.iload_n 2, 1) := by decide +kernel
theorem dX8_open_15 : decode cX8_open 15 = .ok (.aload_n 0, 1) := by decide +kernel
theorem dX8_open_16 : decode cX8_open 16 = .ok (.getfield 42, 3) := by decide +kernel
theorem dX8_open_19 : decode cX8_open 19 = .ok (.iload_n 1, 1) := by decide +kernel
theorem dX8_open_20 : decode cX8_open 20 = .ok (.aaload, 1) := by decide +kernel
theorem dX8_open_21 : decode cX8_open 21 = .ok (.iload_n 3, 1) := by decide +kernel
theorem dX8_open_22 : decode cX8_open 22 = .ok (.baload, 1) := by decide +kernel
theorem dX8_open_23 : decode cX8_open 23 = .ok (.ifCond .eq 7, 3) := by decide +kernel
theorem dX8_open_26 : decode cX8_open 26 = .ok (.iconst 0, 1) := by decide +kernel
theorem dX8_open_27 : decode cX8_open 27 = .ok (.goto 4, 3) := by decide +kernel
theorem dX8_open_30 : decode cX8_open 30 = .ok (.iconst 1, 1) := by decide +kernel
theorem dX8_open_31 : decode cX8_open 31 = .ok (.iadd, 1) := by decide +kernel
theorem dX8_open_32 : decode cX8_open 32 = .ok (.istore_n 2, 1) := by decide +kernel
theorem dX8_open_33 : decode cX8_open 33 = .ok (.iinc 3 1, 3) := by decide +kernel
theorem dX8_open_36 : decode cX8_open 36 = .ok (.goto (-32), 3) := by decide +kernel
theorem dX8_open_39 : decode cX8_open 39 = .ok (.iload_n 2, 1) := by decide +kernel
theorem dX8_open_40 : decode cX8_open 40 = .ok (.ireturn, 1) := by decide +kernel
theorem dX8_block_0 : decode cX8_block 0 = .ok (.aload_n 0, 1) := by decide +kernel
theorem dX8_block_1 : decode cX8_block 1 = .ok (.aload_n 0, 1) := by decide +kernel
theorem dX8_block_2 : decode cX8_block 2 = .ok (.iload_n 1, 1) := by decide +kernel
theorem dX8_block_3 : decode cX8_block 3 = .ok (.iload_n 2, 1) := by decide +kernel
theorem dX8_block_4 : decode cX8_block 4 = .ok (.invokevirtual 135, 3) := by decide +kernel
theorem dX8_block_7 : decode cX8_block 7 = .ok (.ifCond .ne 7, 3) := by decide +kernel
theorem dX8_block_10 : decode cX8_block 10 = .ok (.iconst 1, 1) := by decide +kernel
theorem dX8_block_11 : decode cX8_block 11 = .ok (.goto 19, 3) := by decide +kernel
theorem dX8_block_14 : decode cX8_block 14 = .ok (.aload_n 0, 1) := by decide +kernel
theorem dX8_block_15 : decode cX8_block 15 = .ok (.getfield 42, 3) := by decide +kernel
theorem dX8_block_18 : decode cX8_block 18 = .ok (.iload_n 1, 1) := by decide +kernel
theorem dX8_block_19 : decode cX8_block 19 = .ok (.aaload, 1) := by decide +kernel
theorem dX8_block_20 : decode cX8_block 20 = .ok (.iload_n 2, 1) := by decide +kernel
theorem dX8_block_21 : decode cX8_block 21 = .ok (.baload, 1) := by decide +kernel
theorem dX8_block_22 : decode cX8_block 22 = .ok (.ifCond .eq 7, 3) := by decide +kernel
theorem dX8_block_25 : decode cX8_block 25 = .ok (.iconst 2, 1) := by decide +kernel
theorem dX8_block_26 : decode cX8_block 26 = .ok (.goto 4, 3) := by decide +kernel
theorem dX8_block_29 : decode cX8_block 29 = .ok (.iconst 0, 1) := by decide +kernel
theorem dX8_block_30 : decode cX8_block 30 = .ok (.putfield 84, 3) := by decide +kernel
theorem dX8_block_33 : decode cX8_block 33 = .ok (.aload_n 0, 1) := by decide +kernel
theorem dX8_block_34 : decode cX8_block 34 = .ok (.getfield 84, 3) := by decide +kernel
theorem dX8_block_37 : decode cX8_block 37 = .ok (.ifCond .le 5, 3) := by decide +kernel
theorem dX8_block_40 : decode cX8_block 40 = .ok (.iconst 0, 1) := by decide +kernel
theorem dX8_block_41 : decode cX8_block 41 = .ok (.ireturn, 1) := by decide +kernel
theorem dX8_block_42 : decode cX8_block 42 = .ok (.aload_n 0, 1) := by decide +kernel
theorem dX8_block_43 : decode cX8_block 43 = .ok (.getfield 42, 3) := by decide +kernel
theorem dX8_block_46 : decode cX8_block 46 = .ok (.iload_n 1, 1) := by decide +kernel
theorem dX8_block_47 : decode cX8_block 47 = .ok (.aaload, 1) := by decide +kernel
theorem dX8_block_48 : decode cX8_block 48 = .ok (.iload_n 2, 1) := by decide +kernel
theorem dX8_block_49 : decode cX8_block 49 = .ok (.iconst 1, 1) := by decide +kernel
theorem dX8_block_50 : decode cX8_block 50 = .ok (.bastore, 1) := by decide +kernel
theorem dX8_block_51 : decode cX8_block 51 = .ok (.aload_n 0, 1) := by decide +kernel
theorem dX8_block_52 : decode cX8_block 52 = .ok (.iload_n 1, 1) := by decide +kernel
theorem dX8_block_53 : decode cX8_block 53 = .ok (.invokevirtual 143, 3) := by decide +kernel
theorem dX8_block_56 : decode cX8_block 56 = .ok (.ireturn, 1) := by decide +kernel
theorem dX8_isMounted_0 : decode cX8_isMounted 0 = .ok (.iconst 0, 1) := by decide +kernel
theorem dX8_isMounted_1 : decode cX8_isMounted 1 = .ok (.istore_n 2, 1) := by decide +kernel
theorem dX8_isMounted_2 : decode cX8_isMounted 2 = .ok (.iconst 0, 1) := by decide +kernel
theorem dX8_isMounted_3 : decode cX8_isMounted 3 = .ok (.istore_n 3, 1) := by decide +kernel
theorem dX8_isMounted_4 : decode cX8_isMounted 4 = .ok (.iload_n 3, 1) := by decide +kernel
theorem dX8_isMounted_5 : decode cX8_isMounted 5 = .ok (.aload_n 0, 1) := by decide +kernel
theorem dX8_isMounted_6 : decode cX8_isMounted 6 = .ok (.getfield 105, 3) := by decide +kernel
theorem dX8_isMounted_9 : decode cX8_isMounted 9 = .ok (.if_icmp .ge 29, 3) := by decide +kernel
theorem dX8_isMounted_12 : decode cX8_isMounted 12 = .ok (.iload_n 2, 1) := by decide +kernel
theorem dX8_isMounted_13 : decode cX8_isMounted 13 = .ok (.ifCond .ne 13, 3) := by decide +kernel
theorem dX8_isMounted_16 : decode cX8_isMounted 16 = .ok (.aload_n 0, 1) := by decide +kernel
theorem dX8_isMounted_17 : decode cX8_isMounted 17 = .ok (.getfield 56, 3) := by decide +kernel
theorem dX8_isMounted_20 : decode cX8_isMounted 20 = .ok (.iload_n 3, 1) := by decide +kernel
theorem dX8_isMounted_21 : decode cX8_isMounted 21 = .ok (.iaload, 1) := by decide +kernel
theorem dX8_isMounted_22 : decode cX8_isMounted 22 = .ok (.iload_n 1, 1) := by decide +kernel
theorem dX8_isMounted_23 : decode cX8_isMounted 23 = .ok (.if_icmp .ne 7, 3) := by decide +kernel
theorem dX8_isMounted_26 : decode cX8_isMounted 26 = .ok (.iconst 1, 1) := by decide +kernel
theorem dX8_isMounted_27 : decode cX8_isMounted 27 = .ok (.goto 4, 3) := by decide +kernel
theorem dX8_isMounted_30 : decode cX8_isMounted 30 = .ok (.iconst 0, 1) := by decide +kernel
theorem dX8_isMounted_31 : decode cX8_isMounted 31 = .ok (.istore_n 2, 1) := by decide +kernel
theorem dX8_isMounted_32 : decode cX8_isMounted 32 = .ok (.iinc 3 1, 3) := by decide +kernel
theorem dX8_isMounted_35 : decode cX8_isMounted 35 = .ok (.goto (-31), 3) := by decide +kernel
theorem dX8_isMounted_38 : decode cX8_isMounted 38 = .ok (.iload_n 2, 1) := by decide +kernel
theorem dX8_isMounted_39 : decode cX8_isMounted 39 = .ok (.ireturn, 1) := by decide +kernel
theorem dX8_repair_0 : decode cX8_repair 0 = .ok (.aload_n 0, 1) := by decide +kernel
theorem dX8_repair_1 : decode cX8_repair 1 = .ok (.aload_n 0, 1) := by decide +kernel
theorem dX8_repair_2 : decode cX8_repair 2 = .ok (.iload_n 1, 1) := by decide +kernel
theorem dX8_repair_3 : decode cX8_repair 3 = .ok (.iload_n 2, 1) := by decide +kernel
theorem dX8_repair_4 : decode cX8_repair 4 = .ok (.invokevirtual 135, 3) := by decide +kernel
theorem dX8_repair_7 : decode cX8_repair 7 = .ok (.ifCond .ne 7, 3) := by decide +kernel
theorem dX8_repair_10 : decode cX8_repair 10 = .ok (.iconst 1, 1) := by decide +kernel
theorem dX8_repair_11 : decode cX8_repair 11 = .ok (.goto 27, 3) := by decide +kernel
theorem dX8_repair_14 : decode cX8_repair 14 = .ok (.aload_n 0, 1) := by decide +kernel
theorem dX8_repair_15 : decode cX8_repair 15 = .ok (.getfield 42, 3) := by decide +kernel
theorem dX8_repair_18 : decode cX8_repair 18 = .ok (.iload_n 1, 1) := by decide +kernel
theorem dX8_repair_19 : decode cX8_repair 19 = .ok (.aaload, 1) := by decide +kernel
theorem dX8_repair_20 : decode cX8_repair 20 = .ok (.iload_n 2, 1) := by decide +kernel
theorem dX8_repair_21 : decode cX8_repair 21 = .ok (.baload, 1) := by decide +kernel
theorem dX8_repair_22 : decode cX8_repair 22 = .ok (.ifCond .eq 11, 3) := by decide +kernel
theorem dX8_repair_25 : decode cX8_repair 25 = .ok (.aload_n 0, 1) := by decide +kernel
theorem dX8_repair_26 : decode cX8_repair 26 = .ok (.iload_n 1, 1) := by decide +kernel
theorem dX8_repair_27 : decode cX8_repair 27 = .ok (.invokevirtual 146, 3) := by decide +kernel
theorem dX8_repair_30 : decode cX8_repair 30 = .ok (.ifCond .eq 7, 3) := by decide +kernel
theorem dX8_repair_33 : decode cX8_repair 33 = .ok (.iconst 2, 1) := by decide +kernel
theorem dX8_repair_34 : decode cX8_repair 34 = .ok (.goto 4, 3) := by decide +kernel
theorem dX8_repair_37 : decode cX8_repair 37 = .ok (.iconst 0, 1) := by decide +kernel
theorem dX8_repair_38 : decode cX8_repair 38 = .ok (.putfield 84, 3) := by decide +kernel
theorem dX8_repair_41 : decode cX8_repair 41 = .ok (.aload_n 0, 1) := by decide +kernel
theorem dX8_repair_42 : decode cX8_repair 42 = .ok (.getfield 84, 3) := by decide +kernel
theorem dX8_repair_45 : decode cX8_repair 45 = .ok (.ifCond .le 5, 3) := by decide +kernel
theorem dX8_repair_48 : decode cX8_repair 48 = .ok (.iconst 0, 1) := by decide +kernel
theorem dX8_repair_49 : decode cX8_repair 49 = .ok (.ireturn, 1) := by decide +kernel
theorem dX8_repair_50 : decode cX8_repair 50 = .ok (.aload_n 0, 1) := by decide +kernel
theorem dX8_repair_51 : decode cX8_repair 51 = .ok (.getfield 42, 3) := by decide +kernel
theorem dX8_repair_54 : decode cX8_repair 54 = .ok (.iload_n 1, 1) := by decide +kernel
theorem dX8_repair_55 : decode cX8_repair 55 = .ok (.aaload, 1) := by decide +kernel
theorem dX8_repair_56 : decode cX8_repair 56 = .ok (.iload_n 2, 1) := by decide +kernel
theorem dX8_repair_57 : decode cX8_repair 57 = .ok (.iconst 0, 1) := by decide +kernel
theorem dX8_repair_58 : decode cX8_repair 58 = .ok (.bastore, 1) := by decide +kernel
theorem dX8_repair_59 : decode cX8_repair 59 = .ok (.aload_n 0, 1) := by decide +kernel
theorem dX8_repair_60 : decode cX8_repair 60 = .ok (.getfield 50, 3) := by decide +kernel
theorem dX8_repair_63 : decode cX8_repair 63 = .ok (.iload_n 1, 1) := by decide +kernel
theorem dX8_repair_64 : decode cX8_repair 64 = .ok (.aaload, 1) := by decide +kernel
theorem dX8_repair_65 : decode cX8_repair 65 = .ok (.iload_n 2, 1) := by decide +kernel
theorem dX8_repair_66 : decode cX8_repair 66 = .ok (.iconst 0, 1) := by decide +kernel
theorem dX8_repair_67 : decode cX8_repair 67 = .ok (.iastore, 1) := by decide +kernel
theorem dX8_repair_68 : decode cX8_repair 68 = .ok (.aload_n 0, 1) := by decide +kernel
theorem dX8_repair_69 : decode cX8_repair 69 = .ok (.iload_n 1, 1) := by decide +kernel
theorem dX8_repair_70 : decode cX8_repair 70 = .ok (.invokevirtual 143, 3) := by decide +kernel
theorem dX8_repair_73 : decode cX8_repair 73 = .ok (.ireturn, 1) := by decide +kernel
theorem dX8_nextOpen_0 : decode cX8_nextOpen 0 = .ok (.aload_n 0, 1) := by decide +kernel
theorem dX8_nextOpen_1 : decode cX8_nextOpen 1 = .ok (.iload_n 1, 1) := by decide +kernel
theorem dX8_nextOpen_2 : decode cX8_nextOpen 2 = .ok (.invokevirtual 101, 3) := by decide +kernel
theorem dX8_nextOpen_5 : decode cX8_nextOpen 5 = .ok (.ifCond .ne 9, 3) := by decide +kernel
theorem dX8_nextOpen_8 : decode cX8_nextOpen 8 = .ok (.aload_n 0, 1) := by decide +kernel
theorem dX8_nextOpen_9 : decode cX8_nextOpen 9 = .ok (.iconst 1, 1) := by decide +kernel
theorem dX8_nextOpen_10 : decode cX8_nextOpen 10 = .ok (.invokevirtual 149, 3) := by decide +kernel
theorem dX8_nextOpen_13 : decode cX8_nextOpen 13 = .ok (.ireturn, 1) := by decide +kernel
theorem dX8_nextOpen_14 : decode cX8_nextOpen 14 = .ok (.iconst 0, 1) := by decide +kernel
theorem dX8_nextOpen_15 : decode cX8_nextOpen 15 = .ok (.iload_n 2, 1) := by decide +kernel
theorem dX8_nextOpen_16 : decode cX8_nextOpen 16 = .ok (.invokestatic 122, 3) := by decide +kernel
theorem dX8_nextOpen_19 : decode cX8_nextOpen 19 = .ok (.istore_n 3, 1) := by decide +kernel
theorem dX8_nextOpen_20 : decode cX8_nextOpen 20 = .ok (.iload_n 3, 1) := by decide +kernel
theorem dX8_nextOpen_21 : decode cX8_nextOpen 21 = .ok (.aload_n 0, 1) := by decide +kernel
theorem dX8_nextOpen_22 : decode cX8_nextOpen 22 = .ok (.getfield 25, 3) := by decide +kernel
theorem dX8_nextOpen_25 : decode cX8_nextOpen 25 = .ok (.iload_n 1, 1) := by decide +kernel
theorem dX8_nextOpen_26 : decode cX8_nextOpen 26 = .ok (.iaload, 1) := by decide +kernel
theorem dX8_nextOpen_27 : decode cX8_nextOpen 27 = .ok (.if_icmp .ge 27, 3) := by decide +kernel
theorem dX8_nextOpen_30 : decode cX8_nextOpen 30 = .ok (.aload_n 0, 1) := by decide +kernel
theorem dX8_nextOpen_31 : decode cX8_nextOpen 31 = .ok (.getfield 42, 3) := by decide +kernel
theorem dX8_nextOpen_34 : decode cX8_nextOpen 34 = .ok (.iload_n 1, 1) := by decide +kernel
theorem dX8_nextOpen_35 : decode cX8_nextOpen 35 = .ok (.aaload, 1) := by decide +kernel
theorem dX8_nextOpen_36 : decode cX8_nextOpen 36 = .ok (.iload_n 3, 1) := by decide +kernel
theorem dX8_nextOpen_37 : decode cX8_nextOpen 37 = .ok (.baload, 1) := by decide +kernel
theorem dX8_nextOpen_38 : decode cX8_nextOpen 38 = .ok (.ifCond .ne 10, 3) := by decide +kernel
theorem dX8_nextOpen_41 : decode cX8_nextOpen 41 = .ok (.aload_n 0, 1) := by decide +kernel
theorem dX8_nextOpen_42 : decode cX8_nextOpen 42 = .ok (.iconst 0, 1) := by decide +kernel
theorem dX8_nextOpen_43 : decode cX8_nextOpen 43 = .ok (.putfield 84, 3) := by decide +kernel
theorem dX8_nextOpen_46 : decode cX8_nextOpen 46 = .ok (.iload_n 3, 1) := by decide +kernel
theorem dX8_nextOpen_47 : decode cX8_nextOpen 47 = .ok (.ireturn, 1) := by decide +kernel
theorem dX8_nextOpen_48 : decode cX8_nextOpen 48 = .ok (.iinc 3 1, 3) := by decide +kernel
theorem dX8_nextOpen_51 : decode cX8_nextOpen 51 = .ok (.goto (-31), 3) := by decide +kernel
theorem dX8_nextOpen_54 : decode cX8_nextOpen 54 = .ok (.aload_n 0, 1) := by decide +kernel
theorem dX8_nextOpen_55 : decode cX8_nextOpen 55 = .ok (.iconst 2, 1) := by decide +kernel
theorem dX8_nextOpen_56 : decode cX8_nextOpen 56 = .ok (.invokevirtual 149, 3) := by decide +kernel
theorem dX8_nextOpen_59 : decode cX8_nextOpen 59 = .ok (.ireturn, 1) := by decide +kernel
theorem dX8_addMachine_0 : decode cX8_addMachine 0 = .ok (.aload_n 0, 1) := by decide +kernel
theorem dX8_addMachine_1 : decode cX8_addMachine 1 = .ok (.iload_n 1, 1) := by decide +kernel
theorem dX8_addMachine_2 : decode cX8_addMachine 2 = .ok (.iconst 1, 1) := by decide +kernel
theorem dX8_addMachine_3 : decode cX8_addMachine 3 = .ok (.sipush 999, 3) := by decide +kernel
theorem dX8_addMachine_6 : decode cX8_addMachine 6 = .ok (.invokestatic 91, 3) := by decide +kernel
theorem dX8_addMachine_9 : decode cX8_addMachine 9 = .ok (.ifCond .ne 7, 3) := by decide +kernel
theorem dX8_addMachine_12 : decode cX8_addMachine 12 = .ok (.iconst 1, 1) := by decide +kernel
theorem dX8_addMachine_13 : decode cX8_addMachine 13 = .ok (.goto 16, 3) := by decide +kernel
theorem dX8_addMachine_16 : decode cX8_addMachine 16 = .ok (.aload_n 0, 1) := by decide +kernel
theorem dX8_addMachine_17 : decode cX8_addMachine 17 = .ok (.getfield 105, 3) := by decide +kernel
theorem dX8_addMachine_20 : decode cX8_addMachine 20 = .ok (.iconst 3, 1) := by decide +kernel
theorem dX8_addMachine_21 : decode cX8_addMachine 21 = .ok (.if_icmp .ne 7, 3) := by decide +kernel
theorem dX8_addMachine_24 : decode cX8_addMachine 24 = .ok (.iconst 2, 1) := by decide +kernel
theorem dX8_addMachine_25 : decode cX8_addMachine 25 = .ok (.goto 4, 3) := by decide +kernel
theorem dX8_addMachine_28 : decode cX8_addMachine 28 = .ok (.iconst 0, 1) := by decide +kernel
theorem dX8_addMachine_29 : decode cX8_addMachine 29 = .ok (.putfield 84, 3) := by decide +kernel
theorem dX8_addMachine_32 : decode cX8_addMachine 32 = .ok (.aload_n 0, 1) := by decide +kernel
theorem dX8_addMachine_33 : decode cX8_addMachine 33 = .ok (.getfield 84, 3) := by decide +kernel
theorem dX8_addMachine_36 : decode cX8_addMachine 36 = .ok (.ifCond .le 5, 3) := by decide +kernel
theorem dX8_addMachine_39 : decode cX8_addMachine 39 = .ok (.iconst 0, 1) := by decide +kernel
theorem dX8_addMachine_40 : decode cX8_addMachine 40 = .ok (.ireturn, 1) := by decide +kernel
theorem dX8_addMachine_41 : decode cX8_addMachine 41 = .ok (.aload_n 0, 1) := by decide +kernel
theorem dX8_addMachine_42 : decode cX8_addMachine 42 = .ok (.getfield 53, 3) := by decide +kernel
theorem dX8_addMachine_45 : decode cX8_addMachine 45 = .ok (.aload_n 0, 1) := by decide +kernel
theorem dX8_addMachine_46 : decode cX8_addMachine 46 = .ok (.getfield 105, 3) := by decide +kernel
theorem dX8_addMachine_49 : decode cX8_addMachine 49 = .ok (.iload_n 1, 1) := by decide +kernel
theorem dX8_addMachine_50 : decode cX8_addMachine 50 = .ok (.iastore, 1) := by decide +kernel
theorem dX8_addMachine_51 : decode cX8_addMachine 51 = .ok (.aload_n 0, 1) := by decide +kernel
theorem dX8_addMachine_52 : decode cX8_addMachine 52 = .ok (.getfield 56, 3) := by decide +kernel
theorem dX8_addMachine_55 : decode cX8_addMachine 55 = .ok (.aload_n 0, 1) := by decide +kernel
theorem dX8_addMachine_56 : decode cX8_addMachine 56 = .ok (.getfield 105, 3) := by decide +kernel
theorem dX8_addMachine_59 : decode cX8_addMachine 59 = .ok (.iconst (-1), 1) := by decide +kernel
theorem dX8_addMachine_60 : decode cX8_addMachine 60 = .ok (.iastore, 1) := by decide +kernel
theorem dX8_addMachine_61 : decode cX8_addMachine 61 = .ok (.aload_n 0, 1) := by decide +kernel
theorem dX8_addMachine_62 : decode cX8_addMachine 62 = .ok (.getfield 59, 3) := by decide +kernel
theorem dX8_addMachine_65 : decode cX8_addMachine 65 = .ok (.aload_n 0, 1) := by decide +kernel
theorem dX8_addMachine_66 : decode cX8_addMachine 66 = .ok (.getfield 105, 3) := by decide +kernel
theorem dX8_addMachine_69 : decode cX8_addMachine 69 = .ok (.iconst (-1), 1) := by decide +kernel
theorem dX8_addMachine_70 : decode cX8_addMachine 70 = .ok (.iastore, 1) := by decide +kernel
theorem dX8_addMachine_71 : decode cX8_addMachine 71 = .ok (.aload_n 0, 1) := by decide +kernel
theorem dX8_addMachine_72 : decode cX8_addMachine 72 = .ok (.dup, 1) := by decide +kernel
theorem dX8_addMachine_73 : decode cX8_addMachine 73 = .ok (.getfield 105, 3) := by decide +kernel
theorem dX8_addMachine_76 : decode cX8_addMachine 76 = .ok (.iconst 1, 1) := by decide +kernel
theorem dX8_addMachine_77 : decode cX8_addMachine 77 = .ok (.iadd, 1) := by decide +kernel
theorem dX8_addMachine_78 : decode cX8_addMachine 78 = .ok (.putfield 105, 3) := by decide +kernel
theorem dX8_addMachine_81 : decode cX8_addMachine 81 = .ok (.aload_n 0, 1) := by decide +kernel
theorem dX8_addMachine_82 : decode cX8_addMachine 82 = .ok (.getfield 105, 3) := by decide +kernel
theorem dX8_addMachine_85 : decode cX8_addMachine 85 = .ok (.iconst 1, 1) := by decide +kernel
theorem dX8_addMachine_86 : decode cX8_addMachine 86 = .ok (.isub, 1) := by decide +kernel
theorem dX8_addMachine_87 : decode cX8_addMachine 87 = .ok (.ireturn, 1) := by decide +kernel
theorem dX8_mount_0 : decode cX8_mount 0 = .ok (.aload_n 0, 1) := by decide +kernel
theorem dX8_mount_1 : decode cX8_mount 1 = .ok (.aload_n 0, 1) := by decide +kernel
theorem dX8_mount_2 : decode cX8_mount 2 = .ok (.iload_n 1, 1) := by decide +kernel
theorem dX8_mount_3 : decode cX8_mount 3 = .ok (.invokevirtual 152, 3) := by decide +kernel
theorem dX8_mount_6 : decode cX8_mount 6 = .ok (.ifCond .eq 11, 3) := by decide +kernel
theorem dX8_mount_9 : decode cX8_mount 9 = .ok (.aload_n 0, 1) := by decide +kernel
theorem dX8_mount_10 : decode cX8_mount 10 = .ok (.iload_n 2, 1) := by decide +kernel
theorem dX8_mount_11 : decode cX8_mount 11 = .ok (.invokevirtual 101, 3) := by decide +kernel
theorem dX8_mount_14 : decode cX8_mount 14 = .ok (.ifCond .ne 7, 3) := by decide +kernel
theorem dX8_mount_17 : decode cX8_mount 17 = .ok (.iconst 1, 1) := by decide +kernel
theorem dX8_mount_18 : decode cX8_mount 18 = .ok (.goto 35, 3) := by decide +kernel
theorem dX8_mount_21 : decode cX8_mount 21 = .ok (.aload_n 0, 1) := by decide +kernel
theorem dX8_mount_22 : decode cX8_mount 22 = .ok (.getfield 34, 3) := by decide +kernel
theorem dX8_mount_25 : decode cX8_mount 25 = .ok (.iload_n 2, 1) := by decide +kernel
theorem dX8_mount_26 : decode cX8_mount 26 = .ok (.iaload, 1) := by decide +kernel
theorem dX8_mount_27 : decode cX8_mount 27 = .ok (.aload_n 0, 1) := by decide +kernel
theorem dX8_mount_28 : decode cX8_mount 28 = .ok (.getfield 53, 3) := by decide +kernel
theorem dX8_mount_31 : decode cX8_mount 31 = .ok (.iload_n 1, 1) := by decide +kernel
theorem dX8_mount_32 : decode cX8_mount 32 = .ok (.iaload, 1) := by decide +kernel
theorem dX8_mount_33 : decode cX8_mount 33 = .ok (.if_icmp .le 7, 3) := by decide +kernel
theorem dX8_mount_36 : decode cX8_mount 36 = .ok (.iconst 2, 1) := by decide +kernel
theorem dX8_mount_37 : decode cX8_mount 37 = .ok (.goto 16, 3) := by decide +kernel
theorem dX8_mount_40 : decode cX8_mount 40 = .ok (.aload_n 0, 1) := by decide +kernel
theorem dX8_mount_41 : decode cX8_mount 41 = .ok (.iload_n 2, 1) := by decide +kernel
theorem dX8_mount_42 : decode cX8_mount 42 = .ok (.invokevirtual 146, 3) := by decide +kernel
theorem dX8_mount_45 : decode cX8_mount 45 = .ok (.ifCond .eq 7, 3) := by decide +kernel
theorem dX8_mount_48 : decode cX8_mount 48 = .ok (.iconst 3, 1) := by decide +kernel
theorem dX8_mount_49 : decode cX8_mount 49 = .ok (.goto 4, 3) := by decide +kernel
theorem dX8_mount_52 : decode cX8_mount 52 = .ok (.iconst 0, 1) := by decide +kernel
theorem dX8_mount_53 : decode cX8_mount 53 = .ok (.putfield 84, 3) := by decide +kernel
theorem dX8_mount_56 : decode cX8_mount 56 = .ok (.aload_n 0, 1) := by decide +kernel
theorem dX8_mount_57 : decode cX8_mount 57 = .ok (.getfield 84, 3) := by decide +kernel
theorem dX8_mount_60 : decode cX8_mount 60 = .ok (.ifCond .le 5, 3) := by decide +kernel
theorem dX8_mount_63 : decode cX8_mount 63 = .ok (.iconst 0, 1) := by decide +kernel
theorem dX8_mount_64 : decode cX8_mount 64 = .ok (.ireturn, 1) := by decide +kernel
theorem dX8_mount_65 : decode cX8_mount 65 = .ok (.aload_n 0, 1) := by decide +kernel
theorem dX8_mount_66 : decode cX8_mount 66 = .ok (.getfield 56, 3) := by decide +kernel
theorem dX8_mount_69 : decode cX8_mount 69 = .ok (.iload_n 1, 1) := by decide +kernel
theorem dX8_mount_70 : decode cX8_mount 70 = .ok (.iaload, 1) := by decide +kernel
theorem dX8_mount_71 : decode cX8_mount 71 = .ok (.istore_n 3, 1) := by decide +kernel
theorem dX8_mount_72 : decode cX8_mount 72 = .ok (.aload_n 0, 1) := by decide +kernel
theorem dX8_mount_73 : decode cX8_mount 73 = .ok (.getfield 56, 3) := by decide +kernel
theorem dX8_mount_76 : decode cX8_mount 76 = .ok (.iload_n 1, 1) := by decide +kernel
theorem dX8_mount_77 : decode cX8_mount 77 = .ok (.iload_n 2, 1) := by decide +kernel
theorem dX8_mount_78 : decode cX8_mount 78 = .ok (.iastore, 1) := by decide +kernel
theorem dX8_mount_79 : decode cX8_mount 79 = .ok (.aload_n 0, 1) := by decide +kernel
theorem dX8_mount_80 : decode cX8_mount 80 = .ok (.getfield 59, 3) := by decide +kernel
theorem dX8_mount_83 : decode cX8_mount 83 = .ok (.iload_n 1, 1) := by decide +kernel
theorem dX8_mount_84 : decode cX8_mount 84 = .ok (.iconst (-1), 1) := by decide +kernel
theorem dX8_mount_85 : decode cX8_mount 85 = .ok (.iastore, 1) := by decide +kernel
theorem dX8_mount_86 : decode cX8_mount 86 = .ok (.iload_n 3, 1) := by decide +kernel
theorem dX8_mount_87 : decode cX8_mount 87 = .ok (.ireturn, 1) := by decide +kernel
theorem dX8_run_0 : decode cX8_run 0 = .ok (.aload_n 0, 1) := by decide +kernel
theorem dX8_run_1 : decode cX8_run 1 = .ok (.aload_n 0, 1) := by decide +kernel
theorem dX8_run_2 : decode cX8_run 2 = .ok (.iload_n 1, 1) := by decide +kernel
theorem dX8_run_3 : decode cX8_run 3 = .ok (.invokevirtual 152, 3) := by decide +kernel
theorem dX8_run_6 : decode cX8_run 6 = .ok (.ifCond .eq 11, 3) := by decide +kernel
theorem dX8_run_9 : decode cX8_run 9 = .ok (.aload_n 0, 1) := by decide +kernel
theorem dX8_run_10 : decode cX8_run 10 = .ok (.iload_n 2, 1) := by decide +kernel
theorem dX8_run_11 : decode cX8_run 11 = .ok (.invokevirtual 155, 3) := by decide +kernel
theorem dX8_run_14 : decode cX8_run 14 = .ok (.ifCond .ne 7, 3) := by decide +kernel
theorem dX8_run_17 : decode cX8_run 17 = .ok (.iconst 1, 1) := by decide +kernel
theorem dX8_run_18 : decode cX8_run 18 = .ok (.goto 36, 3) := by decide +kernel
theorem dX8_run_21 : decode cX8_run 21 = .ok (.aload_n 0, 1) := by decide +kernel
theorem dX8_run_22 : decode cX8_run 22 = .ok (.getfield 56, 3) := by decide +kernel
theorem dX8_run_25 : decode cX8_run 25 = .ok (.iload_n 1, 1) := by decide +kernel
theorem dX8_run_26 : decode cX8_run 26 = .ok (.iaload, 1) := by decide +kernel
theorem dX8_run_27 : decode cX8_run 27 = .ok (.aload_n 0, 1) := by decide +kernel
theorem dX8_run_28 : decode cX8_run 28 = .ok (.getfield 62, 3) := by decide +kernel
theorem dX8_run_31 : decode cX8_run 31 = .ok (.iload_n 2, 1) := by decide +kernel
theorem dX8_run_32 : decode cX8_run 32 = .ok (.iaload, 1) := by decide +kernel
theorem dX8_run_33 : decode cX8_run 33 = .ok (.if_icmp .eq 7, 3) := by decide +kernel
theorem dX8_run_36 : decode cX8_run 36 = .ok (.iconst 2, 1) := by decide +kernel
theorem dX8_run_37 : decode cX8_run 37 = .ok (.goto 17, 3) := by decide +kernel
theorem dX8_run_40 : decode cX8_run 40 = .ok (.aload_n 0, 1) := by decide +kernel
theorem dX8_run_41 : decode cX8_run 41 = .ok (.getfield 68, 3) := by decide +kernel
theorem dX8_run_44 : decode cX8_run 44 = .ok (.iload_n 2, 1) := by decide +kernel
theorem dX8_run_45 : decode cX8_run 45 = .ok (.iaload, 1) := by decide +kernel
theorem dX8_run_46 : decode cX8_run 46 = .ok (.ifCond .ne 7, 3) := by decide +kernel
theorem dX8_run_49 : decode cX8_run 49 = .ok (.iconst 3, 1) := by decide +kernel
theorem dX8_run_50 : decode cX8_run 50 = .ok (.goto 4, 3) := by decide +kernel
theorem dX8_run_53 : decode cX8_run 53 = .ok (.iconst 0, 1) := by decide +kernel
theorem dX8_run_54 : decode cX8_run 54 = .ok (.putfield 84, 3) := by decide +kernel
theorem dX8_run_57 : decode cX8_run 57 = .ok (.aload_n 0, 1) := by decide +kernel
theorem dX8_run_58 : decode cX8_run 58 = .ok (.getfield 84, 3) := by decide +kernel
theorem dX8_run_61 : decode cX8_run 61 = .ok (.ifCond .le 5, 3) := by decide +kernel
theorem dX8_run_64 : decode cX8_run 64 = .ok (.iconst 0, 1) := by decide +kernel
theorem dX8_run_65 : decode cX8_run 65 = .ok (.ireturn, 1) := by decide +kernel
theorem dX8_run_66 : decode cX8_run 66 = .ok (.aload_n 0, 1) := by decide +kernel
theorem dX8_run_67 : decode cX8_run 67 = .ok (.getfield 59, 3) := by decide +kernel
theorem dX8_run_70 : decode cX8_run 70 = .ok (.iload_n 1, 1) := by decide +kernel
theorem dX8_run_71 : decode cX8_run 71 = .ok (.iload_n 2, 1) := by decide +kernel
theorem dX8_run_72 : decode cX8_run 72 = .ok (.iastore, 1) := by decide +kernel
theorem dX8_run_73 : decode cX8_run 73 = .ok (.sipush 3600, 3) := by decide +kernel
theorem dX8_run_76 : decode cX8_run 76 = .ok (.aload_n 0, 1) := by decide +kernel
theorem dX8_run_77 : decode cX8_run 77 = .ok (.getfield 37, 3) := by decide +kernel
theorem dX8_run_80 : decode cX8_run 80 = .ok (.aload_n 0, 1) := by decide +kernel
theorem dX8_run_81 : decode cX8_run 81 = .ok (.getfield 56, 3) := by decide +kernel
theorem dX8_run_84 : decode cX8_run 84 = .ok (.iload_n 1, 1) := by decide +kernel
theorem dX8_run_85 : decode cX8_run 85 = .ok (.iaload, 1) := by decide +kernel
theorem dX8_run_86 : decode cX8_run 86 = .ok (.iaload, 1) := by decide +kernel
theorem dX8_run_87 : decode cX8_run 87 = .ok (.idiv, 1) := by decide +kernel
theorem dX8_run_88 : decode cX8_run 88 = .ok (.ireturn, 1) := by decide +kernel
theorem dX8_order_0 : decode cX8_order 0 = .ok (.aload_n 0, 1) := by decide +kernel
theorem dX8_order_1 : decode cX8_order 1 = .ok (.aload_n 0, 1) := by decide +kernel
theorem dX8_order_2 : decode cX8_order 2 = .ok (.iload_n 1, 1) := by decide +kernel
theorem dX8_order_3 : decode cX8_order 3 = .ok (.invokevirtual 101, 3) := by decide +kernel
theorem dX8_order_6 : decode cX8_order 6 = .ok (.ifCond .eq 11, 3) := by decide +kernel
theorem dX8_order_9 : decode cX8_order 9 = .ok (.aload_n 0, 1) := by decide +kernel
theorem dX8_order_10 : decode cX8_order 10 = .ok (.iload_n 2, 1) := by decide +kernel
theorem dX8_order_11 : decode cX8_order 11 = .ok (.invokevirtual 111, 3) := by decide +kernel
theorem dX8_order_14 : decode cX8_order 14 = .ok (.ifCond .ne 7, 3) := by decide +kernel
theorem dX8_order_17 : decode cX8_order 17 = .ok (.iconst 1, 1) := by decide +kernel
theorem dX8_order_18 : decode cX8_order 18 = .ok (.goto 43, 3) := by decide +kernel
theorem dX8_order_21 : decode cX8_order 21 = .ok (.iload_n 3, 1) := by decide +kernel
theorem dX8_order_22 : decode cX8_order 22 = .ok (.iconst 1, 1) := by decide +kernel
theorem dX8_order_23 : decode cX8_order 23 = .ok (.sipush 5000, 3) := by decide +kernel
theorem dX8_order_26 : decode cX8_order 26 = .ok (.invokestatic 91, 3) := by decide +kernel
theorem dX8_order_29 : decode cX8_order 29 = .ok (.ifCond .eq 14, 3) := by decide +kernel
theorem dX8_order_32 : decode cX8_order 32 = .ok (.iload 4, 2) := by decide +kernel
theorem dX8_order_34 : decode cX8_order 34 = .ok (.iconst 0, 1) := by decide +kernel
theorem dX8_order_35 : decode cX8_order 35 = .ok (.bipush 50, 2) := by decide +kernel
theorem dX8_order_37 : decode cX8_order 37 = .ok (.invokestatic 91, 3) := by decide +kernel
theorem dX8_order_40 : decode cX8_order 40 = .ok (.ifCond .ne 7, 3) := by decide +kernel
theorem dX8_order_43 : decode cX8_order 43 = .ok (.iconst 2, 1) := by decide +kernel
theorem dX8_order_44 : decode cX8_order 44 = .ok (.goto 17, 3) := by decide +kernel
theorem dX8_order_47 : decode cX8_order 47 = .ok (.aload_n 0, 1) := by decide +kernel
theorem dX8_order_48 : decode cX8_order 48 = .ok (.getfield 108, 3) := by decide +kernel
theorem dX8_order_51 : decode cX8_order 51 = .ok (.bipush 8, 2) := by decide +kernel
theorem dX8_order_53 : decode cX8_order 53 = .ok (.if_icmp .ne 7, 3) := by decide +kernel
theorem dX8_order_56 : decode cX8_order 56 = .ok (.iconst 3, 1) := by decide +kernel
theorem dX8_order_57 : decode cX8_order 57 = .ok (.goto 4, 3) := by decide +kernel
theorem dX8_order_60 : decode cX8_order 60 = .ok (.iconst 0, 1) := by decide +kernel
theorem dX8_order_61 : decode cX8_order 61 = .ok (.putfield 84, 3) := by decide +kernel
theorem dX8_order_64 : decode cX8_order 64 = .ok (.aload_n 0, 1) := by decide +kernel
theorem dX8_order_65 : decode cX8_order 65 = .ok (.getfield 84, 3) := by decide +kernel
theorem dX8_order_68 : decode cX8_order 68 = .ok (.ifCond .le 5, 3) := by decide +kernel
theorem dX8_order_71 : decode cX8_order 71 = .ok (.iconst 0, 1) := by decide +kernel
theorem dX8_order_72 : decode cX8_order 72 = .ok (.ireturn, 1) := by decide +kernel
theorem dX8_order_73 : decode cX8_order 73 = .ok (.aload_n 0, 1) := by decide +kernel
theorem dX8_order_74 : decode cX8_order 74 = .ok (.getfield 62, 3) := by decide +kernel
theorem dX8_order_77 : decode cX8_order 77 = .ok (.aload_n 0, 1) := by decide +kernel
theorem dX8_order_78 : decode cX8_order 78 = .ok (.getfield 108, 3) := by decide +kernel
theorem dX8_order_81 : decode cX8_order 81 = .ok (.iload_n 1, 1) := by decide +kernel
theorem dX8_order_82 : decode cX8_order 82 = .ok (.iastore, 1) := by decide +kernel
theorem dX8_order_83 : decode cX8_order 83 = .ok (.aload_n 0, 1) := by decide +kernel
theorem dX8_order_84 : decode cX8_order 84 = .ok (.getfield 65, 3) := by decide +kernel
theorem dX8_order_87 : decode cX8_order 87 = .ok (.aload_n 0, 1) := by decide +kernel
theorem dX8_order_88 : decode cX8_order 88 = .ok (.getfield 108, 3) := by decide +kernel
theorem dX8_order_91 : decode cX8_order 91 = .ok (.iload_n 2, 1) := by decide +kernel
theorem dX8_order_92 : decode cX8_order 92 = .ok (.iastore, 1) := by decide +kernel
theorem dX8_order_93 : decode cX8_order 93 = .ok (.aload_n 0, 1) := by decide +kernel
theorem dX8_order_94 : decode cX8_order 94 = .ok (.getfield 68, 3) := by decide +kernel
theorem dX8_order_97 : decode cX8_order 97 = .ok (.aload_n 0, 1) := by decide +kernel
theorem dX8_order_98 : decode cX8_order 98 = .ok (.getfield 108, 3) := by decide +kernel
theorem dX8_order_101 : decode cX8_order 101 = .ok (.iload_n 3, 1) := by decide +kernel
theorem dX8_order_102 : decode cX8_order 102 = .ok (.iastore, 1) := by decide +kernel
theorem dX8_order_103 : decode cX8_order 103 = .ok (.aload_n 0, 1) := by decide +kernel
theorem dX8_order_104 : decode cX8_order 104 = .ok (.getfield 71, 3) := by decide +kernel
theorem dX8_order_107 : decode cX8_order 107 = .ok (.aload_n 0, 1) := by decide +kernel
theorem dX8_order_108 : decode cX8_order 108 = .ok (.getfield 108, 3) := by decide +kernel
theorem dX8_order_111 : decode cX8_order 111 = .ok (.iload 4, 2) := by decide +kernel
theorem dX8_order_113 : decode cX8_order 113 = .ok (.iastore, 1) := by decide +kernel
theorem dX8_order_114 : decode cX8_order 114 = .ok (.aload_n 0, 1) := by decide +kernel
theorem dX8_order_115 : decode cX8_order 115 = .ok (.dup, 1) := by decide +kernel
theorem dX8_order_116 : decode cX8_order 116 = .ok (.getfield 108, 3) := by decide +kernel
theorem dX8_order_119 : decode cX8_order 119 = .ok (.iconst 1, 1) := by decide +kernel
theorem dX8_order_120 : decode cX8_order 120 = .ok (.iadd, 1) := by decide +kernel
theorem dX8_order_121 : decode cX8_order 121 = .ok (.putfield 108, 3) := by decide +kernel
theorem dX8_order_124 : decode cX8_order 124 = .ok (.aload_n 0, 1) := by decide +kernel
theorem dX8_order_125 : decode cX8_order 125 = .ok (.getfield 108, 3) := by decide +kernel
theorem dX8_order_128 : decode cX8_order 128 = .ok (.iconst 1, 1) := by decide +kernel
theorem dX8_order_129 : decode cX8_order 129 = .ok (.isub, 1) := by decide +kernel
theorem dX8_order_130 : decode cX8_order 130 = .ok (.ireturn, 1) := by decide +kernel
theorem dX8_lacks_0 : decode cX8_lacks 0 = .ok (.aload_n 0, 1) := by decide +kernel
theorem dX8_lacks_1 : decode cX8_lacks 1 = .ok (.aload_n 0, 1) := by decide +kernel
theorem dX8_lacks_2 : decode cX8_lacks 2 = .ok (.iload_n 1, 1) := by decide +kernel
theorem dX8_lacks_3 : decode cX8_lacks 3 = .ok (.invokevirtual 155, 3) := by decide +kernel
theorem dX8_lacks_6 : decode cX8_lacks 6 = .ok (.ifCond .eq 7, 3) := by decide +kernel
theorem dX8_lacks_9 : decode cX8_lacks 9 = .ok (.iconst 0, 1) := by decide +kernel
theorem dX8_lacks_10 : decode cX8_lacks 10 = .ok (.goto 4, 3) := by decide +kernel
theorem dX8_lacks_13 : decode cX8_lacks 13 = .ok (.iconst 1, 1) := by decide +kernel
theorem dX8_lacks_14 : decode cX8_lacks 14 = .ok (.putfield 84, 3) := by decide +kernel
theorem dX8_lacks_17 : decode cX8_lacks 17 = .ok (.aload_n 0, 1) := by decide +kernel
theorem dX8_lacks_18 : decode cX8_lacks 18 = .ok (.getfield 84, 3) := by decide +kernel
theorem dX8_lacks_21 : decode cX8_lacks 21 = .ok (.ifCond .le 7, 3) := by decide +kernel
theorem dX8_lacks_24 : decode cX8_lacks 24 = .ok (.iconst 0, 1) := by decide +kernel
theorem dX8_lacks_25 : decode cX8_lacks 25 = .ok (.goto 9, 3) := by decide +kernel
theorem dX8_lacks_28 : decode cX8_lacks 28 = .ok (.aload_n 0, 1) := by decide +kernel
theorem dX8_lacks_29 : decode cX8_lacks 29 = .ok (.getfield 68, 3) := by decide +kernel
theorem dX8_lacks_32 : decode cX8_lacks 32 = .ok (.iload_n 1, 1) := by decide +kernel
theorem dX8_lacks_33 : decode cX8_lacks 33 = .ok (.iaload, 1) := by decide +kernel
theorem dX8_lacks_34 : decode cX8_lacks 34 = .ok (.ireturn, 1) := by decide +kernel
theorem dX8_hoursNeeded_0 : decode cX8_hoursNeeded 0 = .ok (.aload_n 0, 1) := by decide +kernel
theorem dX8_hoursNeeded_1 : decode cX8_hoursNeeded 1 = .ok (.aload_n 0, 1) := by decide +kernel
theorem dX8_hoursNeeded_2 : decode cX8_hoursNeeded 2 = .ok (.iload_n 1, 1) := by decide +kernel
theorem dX8_hoursNeeded_3 : decode cX8_hoursNeeded 3 = .ok (.invokevirtual 155, 3) := by decide +kernel
theorem dX8_hoursNeeded_6 : decode cX8_hoursNeeded 6 = .ok (.ifCond .ne 7, 3) := by decide +kernel
theorem dX8_hoursNeeded_9 : decode cX8_hoursNeeded 9 = .ok (.iconst 1, 1) := by decide +kernel
theorem dX8_hoursNeeded_10 : decode cX8_hoursNeeded 10 = .ok (.goto 30, 3) := by decide +kernel
theorem dX8_hoursNeeded_13 : decode cX8_hoursNeeded 13 = .ok (.aload_n 0, 1) := by decide +kernel
theorem dX8_hoursNeeded_14 : decode cX8_hoursNeeded 14 = .ok (.getfield 68, 3) := by decide +kernel
theorem dX8_hoursNeeded_17 : decode cX8_hoursNeeded 17 = .ok (.iload_n 1, 1) := by decide +kernel
theorem dX8_hoursNeeded_18 : decode cX8_hoursNeeded 18 = .ok (.iaload, 1) := by decide +kernel
theorem dX8_hoursNeeded_19 : decode cX8_hoursNeeded 19 = .ok (.ifCond .le 20, 3) := by decide +kernel
theorem dX8_hoursNeeded_22 : decode cX8_hoursNeeded 22 = .ok (.aload_n 0, 1) := by decide +kernel
theorem dX8_hoursNeeded_23 : decode cX8_hoursNeeded 23 = .ok (.aload_n 0, 1) := by decide +kernel
theorem dX8_hoursNeeded_24 : decode cX8_hoursNeeded 24 = .ok (.getfield 62, 3) := by decide +kernel
theorem dX8_hoursNeeded_27 : decode cX8_hoursNeeded 27 = .ok (.iload_n 1, 1) := by decide +kernel
theorem dX8_hoursNeeded_28 : decode cX8_hoursNeeded 28 = .ok (.iaload, 1) := by decide +kernel
theorem dX8_hoursNeeded_29 : decode cX8_hoursNeeded 29 = .ok (.invokevirtual 143, 3) := by decide +kernel
theorem dX8_hoursNeeded_32 : decode cX8_hoursNeeded 32 = .ok (.ifCond .ne 7, 3) := by decide +kernel
theorem dX8_hoursNeeded_35 : decode cX8_hoursNeeded 35 = .ok (.iconst 2, 1) := by decide +kernel
theorem dX8_hoursNeeded_36 : decode cX8_hoursNeeded 36 = .ok (.goto 4, 3) := by decide +kernel
theorem dX8_hoursNeeded_39 : decode cX8_hoursNeeded 39 = .ok (.iconst 0, 1) := by decide +kernel
theorem dX8_hoursNeeded_40 : decode cX8_hoursNeeded 40 = .ok (.putfield 84, 3) := by decide +kernel
theorem dX8_hoursNeeded_43 : decode cX8_hoursNeeded 43 = .ok (.aload_n 0, 1) := by decide +kernel
theorem dX8_hoursNeeded_44 : decode cX8_hoursNeeded 44 = .ok (.getfield 84, 3) := by decide +kernel
theorem dX8_hoursNeeded_47 : decode cX8_hoursNeeded 47 = .ok (.ifCond .gt 12, 3) := by decide +kernel
theorem dX8_hoursNeeded_50 : decode cX8_hoursNeeded 50 = .ok (.aload_n 0, 1) := by decide +kernel
theorem dX8_hoursNeeded_51 : decode cX8_hoursNeeded 51 = .ok (.getfield 68, 3) := by decide +kernel
theorem dX8_hoursNeeded_54 : decode cX8_hoursNeeded 54 = .ok (.iload_n 1, 1) := by decide +kernel
theorem dX8_hoursNeeded_55 : decode cX8_hoursNeeded 55 = .ok (.iaload, 1) := by decide +kernel
theorem dX8_hoursNeeded_56 : decode cX8_hoursNeeded 56 = .ok (.ifCond .ne 5, 3) := by decide +kernel
theorem dX8_hoursNeeded_59 : decode cX8_hoursNeeded 59 = .ok (.iconst 0, 1) := by decide +kernel
theorem dX8_hoursNeeded_60 : decode cX8_hoursNeeded 60 = .ok (.ireturn, 1) := by decide +kernel
theorem dX8_hoursNeeded_61 : decode cX8_hoursNeeded 61 = .ok (.aload_n 0, 1) := by decide +kernel
theorem dX8_hoursNeeded_62 : decode cX8_hoursNeeded 62 = .ok (.aload_n 0, 1) := by decide +kernel
theorem dX8_hoursNeeded_63 : decode cX8_hoursNeeded 63 = .ok (.getfield 62, 3) := by decide +kernel
theorem dX8_hoursNeeded_66 : decode cX8_hoursNeeded 66 = .ok (.iload_n 1, 1) := by decide +kernel
theorem dX8_hoursNeeded_67 : decode cX8_hoursNeeded 67 = .ok (.iaload, 1) := by decide +kernel
theorem dX8_hoursNeeded_68 : decode cX8_hoursNeeded 68 = .ok (.invokevirtual 143, 3) := by decide +kernel
theorem dX8_hoursNeeded_71 : decode cX8_hoursNeeded 71 = .ok (.istore_n 2, 1) := by decide +kernel
theorem dX8_hoursNeeded_72 : decode cX8_hoursNeeded 72 = .ok (.aload_n 0, 1) := by decide +kernel
theorem dX8_hoursNeeded_73 : decode cX8_hoursNeeded 73 = .ok (.getfield 68, 3) := by decide +kernel
theorem dX8_hoursNeeded_76 : decode cX8_hoursNeeded 76 = .ok (.iload_n 1, 1) := by decide +kernel
theorem dX8_hoursNeeded_77 : decode cX8_hoursNeeded 77 = .ok (.iaload, 1) := by decide +kernel
theorem dX8_hoursNeeded_78 : decode cX8_hoursNeeded 78 = .ok (.iload_n 2, 1) := by decide +kernel
theorem dX8_hoursNeeded_79 : decode cX8_hoursNeeded 79 = .ok (.iadd, 1) := by decide +kernel
theorem dX8_hoursNeeded_80 : decode cX8_hoursNeeded 80 = .ok (.iconst 1, 1) := by decide +kernel
theorem dX8_hoursNeeded_81 : decode cX8_hoursNeeded 81 = .ok (.isub, 1) := by decide +kernel
theorem dX8_hoursNeeded_82 : decode cX8_hoursNeeded 82 = .ok (.iload_n 2, 1) := by decide +kernel
theorem dX8_hoursNeeded_83 : decode cX8_hoursNeeded 83 = .ok (.idiv, 1) := by decide +kernel
theorem dX8_hoursNeeded_84 : decode cX8_hoursNeeded 84 = .ok (.istore_n 3, 1) := by decide +kernel
theorem dX8_hoursNeeded_85 : decode cX8_hoursNeeded 85 = .ok (.sipush 3600, 3) := by decide +kernel
theorem dX8_hoursNeeded_88 : decode cX8_hoursNeeded 88 = .ok (.aload_n 0, 1) := by decide +kernel
theorem dX8_hoursNeeded_89 : decode cX8_hoursNeeded 89 = .ok (.getfield 37, 3) := by decide +kernel
theorem dX8_hoursNeeded_92 : decode cX8_hoursNeeded 92 = .ok (.aload_n 0, 1) := by decide +kernel
theorem dX8_hoursNeeded_93 : decode cX8_hoursNeeded 93 = .ok (.getfield 62, 3) := by decide +kernel
theorem dX8_hoursNeeded_96 : decode cX8_hoursNeeded 96 = .ok (.iload_n 1, 1) := by decide +kernel
theorem dX8_hoursNeeded_97 : decode cX8_hoursNeeded 97 = .ok (.iaload, 1) := by decide +kernel
theorem dX8_hoursNeeded_98 : decode cX8_hoursNeeded 98 = .ok (.iaload, 1) := by decide +kernel
theorem dX8_hoursNeeded_99 : decode cX8_hoursNeeded 99 = .ok (.idiv, 1) := by decide +kernel
theorem dX8_hoursNeeded_100 : decode cX8_hoursNeeded 100 = .ok (.istore 4, 2) := by decide +kernel
theorem dX8_hoursNeeded_102 : decode cX8_hoursNeeded 102 = .ok (.iload_n 3, 1) := by decide +kernel
theorem dX8_hoursNeeded_103 : decode cX8_hoursNeeded 103 = .ok (.iload 4, 2) := by decide +kernel
theorem dX8_hoursNeeded_105 : decode cX8_hoursNeeded 105 = .ok (.iadd, 1) := by decide +kernel
theorem dX8_hoursNeeded_106 : decode cX8_hoursNeeded 106 = .ok (.iconst 1, 1) := by decide +kernel
theorem dX8_hoursNeeded_107 : decode cX8_hoursNeeded 107 = .ok (.isub, 1) := by decide +kernel
theorem dX8_hoursNeeded_108 : decode cX8_hoursNeeded 108 = .ok (.iload 4, 2) := by decide +kernel
theorem dX8_hoursNeeded_110 : decode cX8_hoursNeeded 110 = .ok (.idiv, 1) := by decide +kernel
theorem dX8_hoursNeeded_111 : decode cX8_hoursNeeded 111 = .ok (.ireturn, 1) := by decide +kernel
theorem dX8_shots_0 : decode cX8_shots 0 = .ok (.aload_n 0, 1) := by decide +kernel
theorem dX8_shots_1 : decode cX8_shots 1 = .ok (.aload_n 0, 1) := by decide +kernel
theorem dX8_shots_2 : decode cX8_shots 2 = .ok (.iload_n 1, 1) := by decide +kernel
theorem dX8_shots_3 : decode cX8_shots 3 = .ok (.invokevirtual 155, 3) := by decide +kernel
theorem dX8_shots_6 : decode cX8_shots 6 = .ok (.ifCond .eq 7, 3) := by decide +kernel
theorem dX8_shots_9 : decode cX8_shots 9 = .ok (.iconst 0, 1) := by decide +kernel
theorem dX8_shots_10 : decode cX8_shots 10 = .ok (.goto 4, 3) := by decide +kernel
theorem dX8_shots_13 : decode cX8_shots 13 = .ok (.iconst 1, 1) := by decide +kernel
theorem dX8_shots_14 : decode cX8_shots 14 = .ok (.putfield 84, 3) := by decide +kernel
theorem dX8_shots_17 : decode cX8_shots 17 = .ok (.aload_n 0, 1) := by decide +kernel
theorem dX8_shots_18 : decode cX8_shots 18 = .ok (.getfield 84, 3) := by decide +kernel
theorem dX8_shots_21 : decode cX8_shots 21 = .ok (.ifCond .le 7, 3) := by decide +kernel
theorem dX8_shots_24 : decode cX8_shots 24 = .ok (.iconst 0, 1) := by decide +kernel
theorem dX8_shots_25 : decode cX8_shots 25 = .ok (.goto 9, 3) := by decide +kernel
theorem dX8_shots_28 : decode cX8_shots 28 = .ok (.aload_n 0, 1) := by decide +kernel
theorem dX8_shots_29 : decode cX8_shots 29 = .ok (.getfield 74, 3) := by decide +kernel
theorem dX8_shots_32 : decode cX8_shots 32 = .ok (.iload_n 1, 1) := by decide +kernel
theorem dX8_shots_33 : decode cX8_shots 33 = .ok (.iaload, 1) := by decide +kernel
theorem dX8_shots_34 : decode cX8_shots 34 = .ok (.ireturn, 1) := by decide +kernel
theorem dX8_regrindIn_0 : decode cX8_regrindIn 0 = .ok (.aload_n 0, 1) := by decide +kernel
theorem dX8_regrindIn_1 : decode cX8_regrindIn 1 = .ok (.aload_n 0, 1) := by decide +kernel
theorem dX8_regrindIn_2 : decode cX8_regrindIn 2 = .ok (.iload_n 1, 1) := by decide +kernel
theorem dX8_regrindIn_3 : decode cX8_regrindIn 3 = .ok (.invokevirtual 155, 3) := by decide +kernel
theorem dX8_regrindIn_6 : decode cX8_regrindIn 6 = .ok (.ifCond .eq 7, 3) := by decide +kernel
theorem dX8_regrindIn_9 : decode cX8_regrindIn 9 = .ok (.iconst 0, 1) := by decide +kernel
theorem dX8_regrindIn_10 : decode cX8_regrindIn 10 = .ok (.goto 4, 3) := by decide +kernel
theorem dX8_regrindIn_13 : decode cX8_regrindIn 13 = .ok (.iconst 1, 1) := by decide +kernel
theorem dX8_regrindIn_14 : decode cX8_regrindIn 14 = .ok (.putfield 84, 3) := by decide +kernel
theorem dX8_regrindIn_17 : decode cX8_regrindIn 17 = .ok (.aload_n 0, 1) := by decide +kernel
theorem dX8_regrindIn_18 : decode cX8_regrindIn 18 = .ok (.getfield 84, 3) := by decide +kernel
theorem dX8_regrindIn_21 : decode cX8_regrindIn 21 = .ok (.ifCond .le 7, 3) := by decide +kernel
theorem dX8_regrindIn_24 : decode cX8_regrindIn 24 = .ok (.lconst 0, 1) := by decide +kernel
theorem dX8_regrindIn_25 : decode cX8_regrindIn 25 = .ok (.goto 9, 3) := by decide +kernel
theorem dX8_regrindIn_28 : decode cX8_regrindIn 28 = .ok (.aload_n 0, 1) := by decide +kernel
theorem dX8_regrindIn_29 : decode cX8_regrindIn 29 = .ok (.getfield 77, 3) := by decide +kernel
theorem dX8_regrindIn_32 : decode cX8_regrindIn 32 = .ok (.iload_n 1, 1) := by decide +kernel
theorem dX8_regrindIn_33 : decode cX8_regrindIn 33 = .ok (.laload, 1) := by decide +kernel
theorem dX8_regrindIn_34 : decode cX8_regrindIn 34 = .ok (.lreturn, 1) := by decide +kernel
theorem dX8_regrindByShots_0 : decode cX8_regrindByShots 0 = .ok (.aload_n 0, 1) := by decide +kernel
theorem dX8_regrindByShots_1 : decode cX8_regrindByShots 1 = .ok (.iload_n 1, 1) := by decide +kernel
theorem dX8_regrindByShots_2 : decode cX8_regrindByShots 2 = .ok (.invokevirtual 158, 3) := by decide +kernel
theorem dX8_regrindByShots_5 : decode cX8_regrindByShots 5 = .ok (.lreturn, 1) := by decide +kernel
theorem dX8_greatestShare_0 : decode cX8_greatestShare 0 = .ok (.aload_n 0, 1) := by decide +kernel
theorem dX8_greatestShare_1 : decode cX8_greatestShare 1 = .ok (.aload_n 0, 1) := by decide +kernel
theorem dX8_greatestShare_2 : decode cX8_greatestShare 2 = .ok (.iload_n 1, 1) := by decide +kernel
theorem dX8_greatestShare_3 : decode cX8_greatestShare 3 = .ok (.invokevirtual 155, 3) := by decide +kernel
theorem dX8_greatestShare_6 : decode cX8_greatestShare 6 = .ok (.ifCond .ne 7, 3) := by decide +kernel
theorem dX8_greatestShare_9 : decode cX8_greatestShare 9 = .ok (.iconst 1, 1) := by decide +kernel
theorem dX8_greatestShare_10 : decode cX8_greatestShare 10 = .ok (.goto 17, 3) := by decide +kernel
theorem dX8_greatestShare_13 : decode cX8_greatestShare 13 = .ok (.aload_n 0, 1) := by decide +kernel
theorem dX8_greatestShare_14 : decode cX8_greatestShare 14 = .ok (.getfield 74, 3) := by decide +kernel
theorem dX8_greatestShare_17 : decode cX8_greatestShare 17 = .ok (.iload_n 1, 1) := by decide +kernel
theorem dX8_greatestShare_18 : decode cX8_greatestShare 18 = .ok (.iaload, 1) := by decide +kernel
theorem dX8_greatestShare_19 : decode cX8_greatestShare 19 = .ok (.ifCond .ne 7, 3) := by decide +kernel
theorem dX8_greatestShare_22 : decode cX8_greatestShare 22 = .ok (.iconst 2, 1) := by decide +kernel
theorem dX8_greatestShare_23 : decode cX8_greatestShare 23 = .ok (.goto 4, 3) := by decide +kernel
theorem dX8_greatestShare_26 : decode cX8_greatestShare 26 = .ok (.iconst 0, 1) := by decide +kernel
theorem dX8_greatestShare_27 : decode cX8_greatestShare 27 = .ok (.putfield 84, 3) := by decide +kernel
theorem dX8_greatestShare_30 : decode cX8_greatestShare 30 = .ok (.aload_n 0, 1) := by decide +kernel
theorem dX8_greatestShare_31 : decode cX8_greatestShare 31 = .ok (.getfield 84, 3) := by decide +kernel
theorem dX8_greatestShare_34 : decode cX8_greatestShare 34 = .ok (.ifCond .le 7, 3) := by decide +kernel
theorem dX8_greatestShare_37 : decode cX8_greatestShare 37 = .ok (.iconst 0, 1) := by decide +kernel
theorem dX8_greatestShare_38 : decode cX8_greatestShare 38 = .ok (.goto 9, 3) := by decide +kernel
theorem dX8_greatestShare_41 : decode cX8_greatestShare 41 = .ok (.aload_n 0, 1) := by decide +kernel
theorem dX8_greatestShare_42 : decode cX8_greatestShare 42 = .ok (.getfield 81, 3) := by decide +kernel
theorem dX8_greatestShare_45 : decode cX8_greatestShare 45 = .ok (.iload_n 1, 1) := by decide +kernel
theorem dX8_greatestShare_46 : decode cX8_greatestShare 46 = .ok (.iaload, 1) := by decide +kernel
theorem dX8_greatestShare_47 : decode cX8_greatestShare 47 = .ok (.ireturn, 1) := by decide +kernel
theorem dX8_takes_0 : decode cX8_takes 0 = .ok (.iload_n 2, 1) := by decide +kernel
theorem dX8_takes_1 : decode cX8_takes 1 = .ok (.istore_n 3, 1) := by decide +kernel
theorem dX8_takes_2 : decode cX8_takes 2 = .ok (.iconst 0, 1) := by decide +kernel
theorem dX8_takes_3 : decode cX8_takes 3 = .ok (.istore 4, 2) := by decide +kernel
theorem dX8_takes_5 : decode cX8_takes 5 = .ok (.iload 4, 2) := by decide +kernel
theorem dX8_takes_7 : decode cX8_takes 7 = .ok (.aload_n 0, 1) := by decide +kernel
theorem dX8_takes_8 : decode cX8_takes 8 = .ok (.getfield 95, 3) := by decide +kernel
theorem dX8_takes_11 : decode cX8_takes 11 = .ok (.if_icmp .ge 63, 3) := by decide +kernel
theorem dX8_takes_14 : decode cX8_takes 14 = .ok (.aload_n 0, 1) := by decide +kernel
theorem dX8_takes_15 : decode cX8_takes 15 = .ok (.getfield 16, 3) := by decide +kernel
theorem dX8_takes_18 : decode cX8_takes 18 = .ok (.iload 4, 2) := by decide +kernel
theorem dX8_takes_20 : decode cX8_takes 20 = .ok (.iaload, 1) := by decide +kernel
theorem dX8_takes_21 : decode cX8_takes 21 = .ok (.iload_n 1, 1) := by decide +kernel
theorem dX8_takes_22 : decode cX8_takes 22 = .ok (.if_icmp .ne 26, 3) := by decide +kernel
theorem dX8_takes_25 : decode cX8_takes 25 = .ok (.aload_n 0, 1) := by decide +kernel
theorem dX8_takes_26 : decode cX8_takes 26 = .ok (.iload 4, 2) := by decide +kernel
theorem dX8_takes_28 : decode cX8_takes 28 = .ok (.invokevirtual 128, 3) := by decide +kernel
theorem dX8_takes_31 : decode cX8_takes 31 = .ok (.ifCond .ne 17, 3) := by decide +kernel
theorem dX8_takes_34 : decode cX8_takes 34 = .ok (.iload_n 3, 1) := by decide +kernel
theorem dX8_takes_35 : decode cX8_takes 35 = .ok (.aload_n 0, 1) := by decide +kernel
theorem dX8_takes_36 : decode cX8_takes 36 = .ok (.getfield 19, 3) := by decide +kernel
theorem dX8_takes_39 : decode cX8_takes 39 = .ok (.iload 4, 2) := by decide +kernel
theorem dX8_takes_41 : decode cX8_takes 41 = .ok (.iaload, 1) := by decide +kernel
theorem dX8_takes_42 : decode cX8_takes 42 = .ok (.invokestatic 161, 3) := by decide +kernel
theorem dX8_takes_45 : decode cX8_takes 45 = .ok (.goto 4, 3) := by decide +kernel
theorem dX8_takes_48 : decode cX8_takes 48 = .ok (.iconst 0, 1) := by decide +kernel
theorem dX8_takes_49 : decode cX8_takes 49 = .ok (.istore 5, 2) := by decide +kernel
theorem dX8_takes_51 : decode cX8_takes 51 = .ok (.aload_n 0, 1) := by decide +kernel
theorem dX8_takes_52 : decode cX8_takes 52 = .ok (.getfield 19, 3) := by decide +kernel
theorem dX8_takes_55 : decode cX8_takes 55 = .ok (.iload 4, 2) := by decide +kernel
theorem dX8_takes_57 : decode cX8_takes 57 = .ok (.dup2, 1) := by decide +kernel
theorem dX8_takes_58 : decode cX8_takes 58 = .ok (.iaload, 1) := by decide +kernel
theorem dX8_takes_59 : decode cX8_takes 59 = .ok (.iload 5, 2) := by decide +kernel
theorem dX8_takes_61 : decode cX8_takes 61 = .ok (.isub, 1) := by decide +kernel
theorem dX8_takes_62 : decode cX8_takes 62 = .ok (.iastore, 1) := by decide +kernel
theorem dX8_takes_63 : decode cX8_takes 63 = .ok (.iload_n 3, 1) := by decide +kernel
theorem dX8_takes_64 : decode cX8_takes 64 = .ok (.iload 5, 2) := by decide +kernel
theorem dX8_takes_66 : decode cX8_takes 66 = .ok (.isub, 1) := by decide +kernel
theorem dX8_takes_67 : decode cX8_takes 67 = .ok (.istore_n 3, 1) := by decide +kernel
theorem dX8_takes_68 : decode cX8_takes 68 = .ok (.iinc 4 1, 3) := by decide +kernel
theorem dX8_takes_71 : decode cX8_takes 71 = .ok (.goto (-66), 3) := by decide +kernel
theorem dX8_takes_74 : decode cX8_takes 74 = .ok (.return_, 1) := by decide +kernel
theorem dX8_shoots_0 : decode cX8_shoots 0 = .ok (.aload_n 0, 1) := by decide +kernel
theorem dX8_shoots_1 : decode cX8_shoots 1 = .ok (.getfield 62, 3) := by decide +kernel
theorem dX8_shoots_4 : decode cX8_shoots 4 = .ok (.iload_n 1, 1) := by decide +kernel
theorem dX8_shoots_5 : decode cX8_shoots 5 = .ok (.iaload, 1) := by decide +kernel
theorem dX8_shoots_6 : decode cX8_shoots 6 = .ok (.istore_n 2, 1) := by decide +kernel
theorem dX8_shoots_7 : decode cX8_shoots 7 = .ok (.aload_n 0, 1) := by decide +kernel
theorem dX8_shoots_8 : decode cX8_shoots 8 = .ok (.getfield 65, 3) := by decide +kernel
theorem dX8_shoots_11 : decode cX8_shoots 11 = .ok (.iload_n 1, 1) := by decide +kernel
theorem dX8_shoots_12 : decode cX8_shoots 12 = .ok (.iaload, 1) := by decide +kernel
theorem dX8_shoots_13 : decode cX8_shoots 13 = .ok (.istore_n 3, 1) := by decide +kernel
theorem dX8_shoots_14 : decode cX8_shoots 14 = .ok (.aload_n 0, 1) := by decide +kernel
theorem dX8_shoots_15 : decode cX8_shoots 15 = .ok (.iload_n 2, 1) := by decide +kernel
theorem dX8_shoots_16 : decode cX8_shoots 16 = .ok (.invokevirtual 143, 3) := by decide +kernel
theorem dX8_shoots_19 : decode cX8_shoots 19 = .ok (.istore 4, 2) := by decide +kernel
theorem dX8_shoots_21 : decode cX8_shoots 21 = .ok (.iload 4, 2) := by decide +kernel
theorem dX8_shoots_23 : decode cX8_shoots 23 = .ok (.aload_n 0, 1) := by decide +kernel
theorem dX8_shoots_24 : decode cX8_shoots 24 = .ok (.getfield 28, 3) := by decide +kernel
theorem dX8_shoots_27 : decode cX8_shoots 27 = .ok (.iload_n 2, 1) := by decide +kernel
theorem dX8_shoots_28 : decode cX8_shoots 28 = .ok (.iaload, 1) := by decide +kernel
theorem dX8_shoots_29 : decode cX8_shoots 29 = .ok (.imul, 1) := by decide +kernel
theorem dX8_shoots_30 : decode cX8_shoots 30 = .ok (.aload_n 0, 1) := by decide +kernel
theorem dX8_shoots_31 : decode cX8_shoots 31 = .ok (.getfield 31, 3) := by decide +kernel
theorem dX8_shoots_34 : decode cX8_shoots 34 = .ok (.iload_n 2, 1) := by decide +kernel
theorem dX8_shoots_35 : decode cX8_shoots 35 = .ok (.iaload, 1) := by decide +kernel
theorem dX8_shoots_36 : decode cX8_shoots 36 = .ok (.iadd, 1) := by decide +kernel
theorem dX8_shoots_37 : decode cX8_shoots 37 = .ok (.istore 5, 2) := by decide +kernel
theorem dX8_shoots_39 : decode cX8_shoots 39 = .ok (.aload_n 0, 1) := by decide +kernel
theorem dX8_shoots_40 : decode cX8_shoots 40 = .ok (.getfield 13, 3) := by decide +kernel
theorem dX8_shoots_43 : decode cX8_shoots 43 = .ok (.iload_n 3, 1) := by decide +kernel
theorem dX8_shoots_44 : decode cX8_shoots 44 = .ok (.iaload, 1) := by decide +kernel
theorem dX8_shoots_45 : decode cX8_shoots 45 = .ok (.iload 5, 2) := by decide +kernel
theorem dX8_shoots_47 : decode cX8_shoots 47 = .ok (.aload_n 0, 1) := by decide +kernel
theorem dX8_shoots_48 : decode cX8_shoots 48 = .ok (.getfield 71, 3) := by decide +kernel
theorem dX8_shoots_51 : decode cX8_shoots 51 = .ok (.iload_n 1, 1) := by decide +kernel
theorem dX8_shoots_52 : decode cX8_shoots 52 = .ok (.iaload, 1) := by decide +kernel
theorem dX8_shoots_53 : decode cX8_shoots 53 = .ok (.imul, 1) := by decide +kernel
theorem dX8_shoots_54 : decode cX8_shoots 54 = .ok (.bipush 100, 2) := by decide +kernel
theorem dX8_shoots_56 : decode cX8_shoots 56 = .ok (.idiv, 1) := by decide +kernel
theorem dX8_shoots_57 : decode cX8_shoots 57 = .ok (.invokestatic 161, 3) := by decide +kernel
theorem dX8_shoots_60 : decode cX8_shoots 60 = .ok (.istore 6, 2) := by decide +kernel
theorem dX8_shoots_62 : decode cX8_shoots 62 = .ok (.iload 4, 2) := by decide +kernel
theorem dX8_shoots_64 : decode cX8_shoots 64 = .ok (.ifCond .eq 16, 3) := by decide +kernel
theorem dX8_shoots_67 : decode cX8_shoots 67 = .ok (.aload_n 0, 1) := by decide +kernel
theorem dX8_shoots_68 : decode cX8_shoots 68 = .ok (.iload_n 3, 1) := by decide +kernel
theorem dX8_shoots_69 : decode cX8_shoots 69 = .ok (.invokevirtual 132, 3) := by decide +kernel
theorem dX8_shoots_72 : decode cX8_shoots 72 = .ok (.iload 5, 2) := by decide +kernel
theorem dX8_shoots_74 : decode cX8_shoots 74 = .ok (.iload 6, 2) := by decide +kernel
theorem dX8_shoots_76 : decode cX8_shoots 76 = .ok (.isub, 1) := by decide +kernel
theorem dX8_shoots_77 : decode cX8_shoots 77 = .ok (.if_icmp .ge 5, 3) := by decide +kernel
theorem dX8_shoots_80 : decode cX8_shoots 80 = .ok (.iconst (-1), 1) := by decide +kernel
theorem dX8_shoots_81 : decode cX8_shoots 81 = .ok (.ireturn, 1) := by decide +kernel
theorem dX8_shoots_82 : decode cX8_shoots 82 = .ok (.aload_n 0, 1) := by decide +kernel
theorem dX8_shoots_83 : decode cX8_shoots 83 = .ok (.getfield 13, 3) := by decide +kernel
theorem dX8_shoots_86 : decode cX8_shoots 86 = .ok (.iload_n 3, 1) := by decide +kernel
theorem dX8_shoots_87 : decode cX8_shoots 87 = .ok (.dup2, 1) := by decide +kernel
theorem dX8_shoots_88 : decode cX8_shoots 88 = .ok (.iaload, 1) := by decide +kernel
theorem dX8_shoots_89 : decode cX8_shoots 89 = .ok (.iload 6, 2) := by decide +kernel
theorem dX8_shoots_91 : decode cX8_shoots 91 = .ok (.isub, 1) := by decide +kernel
theorem dX8_shoots_92 : decode cX8_shoots 92 = .ok (.iastore, 1) := by decide +kernel
theorem dX8_shoots_93 : decode cX8_shoots 93 = .ok (.aload_n 0, 1) := by decide +kernel
theorem dX8_shoots_94 : decode cX8_shoots 94 = .ok (.iload_n 3, 1) := by decide +kernel
theorem dX8_shoots_95 : decode cX8_shoots 95 = .ok (.iload 5, 2) := by decide +kernel
theorem dX8_shoots_97 : decode cX8_shoots 97 = .ok (.iload 6, 2) := by decide +kernel
theorem dX8_shoots_99 : decode cX8_shoots 99 = .ok (.isub, 1) := by decide +kernel
theorem dX8_shoots_100 : decode cX8_shoots 100 = .ok (.invokevirtual 164, 3) := by decide +kernel
theorem dX8_shoots_103 : decode cX8_shoots 103 = .ok (.iconst 0, 1) := by decide +kernel
theorem dX8_shoots_104 : decode cX8_shoots 104 = .ok (.istore 7, 2) := by decide +kernel
theorem dX8_shoots_106 : decode cX8_shoots 106 = .ok (.iload 7, 2) := by decide +kernel
theorem dX8_shoots_108 : decode cX8_shoots 108 = .ok (.aload_n 0, 1) := by decide +kernel
theorem dX8_shoots_109 : decode cX8_shoots 109 = .ok (.getfield 25, 3) := by decide +kernel
theorem dX8_shoots_112 : decode cX8_shoots 112 = .ok (.iload_n 2, 1) := by decide +kernel
theorem dX8_shoots_113 : decode cX8_shoots 113 = .ok (.iaload, 1) := by decide +kernel
theorem dX8_shoots_114 : decode cX8_shoots 114 = .ok (.if_icmp .ge 41, 3) := by decide +kernel
theorem dX8_shoots_117 : decode cX8_shoots 117 = .ok (.aload_n 0, 1) := by decide +kernel
theorem dX8_shoots_118 : decode cX8_shoots 118 = .ok (.getfield 42, 3) := by decide +kernel
theorem dX8_shoots_121 : decode cX8_shoots 121 = .ok (.iload_n 2, 1) := by decide +kernel
theorem dX8_shoots_122 : decode cX8_shoots 122 = .ok (.aaload, 1) := by decide +kernel
theorem dX8_shoots_123 : decode cX8_shoots 123 = .ok (.iload 7, 2) := by decide +kernel
theorem dX8_shoots_125 : decode cX8_shoots 125 = .ok (.baload, 1) := by decide +kernel
theorem dX8_shoots_126 : decode cX8_shoots 126 = .ok (.ifCond .ne 23, 3) := by decide +kernel
theorem dX8_shoots_129 : decode cX8_shoots 129 = .ok (.aload_n 0, 1) := by decide +kernel
theorem dX8_shoots_130 : decode cX8_shoots 130 = .ok (.getfield 50, 3) := by decide +kernel
theorem dX8_shoots_133 : decode cX8_shoots 133 = .ok (.iload_n 2, 1) := by decide +kernel
theorem dX8_shoots_134 : decode cX8_shoots 134 = .ok (.aaload, 1) := by decide +kernel
theorem dX8_shoots_135 : decode cX8_shoots 135 = .ok (.iload 7, 2) := by decide +kernel
theorem dX8_shoots_137 : decode cX8_shoots 137 = .ok (.dup2, 1) := by decide +kernel
theorem dX8_shoots_138 : decode cX8_shoots 138 = .ok (.iaload, 1) := by decide +kernel
theorem dX8_shoots_139 : decode cX8_shoots 139 = .ok (.iconst 1, 1) := by decide +kernel
theorem dX8_shoots_140 : decode cX8_shoots 140 = .ok (.iadd, 1) := by decide +kernel
theorem dX8_shoots_141 : decode cX8_shoots 141 = .ok (.iastore, 1) := by decide +kernel
theorem dX8_shoots_142 : decode cX8_shoots 142 = .ok (.aload_n 0, 1) := by decide +kernel
theorem dX8_shoots_143 : decode cX8_shoots 143 = .ok (.iload_n 2, 1) := by decide +kernel
theorem dX8_shoots_144 : decode cX8_shoots 144 = .ok (.iload 7, 2) := by decide +kernel
theorem dX8_shoots_146 : decode cX8_shoots 146 = .ok (.invokevirtual 139, 3) := by decide +kernel
theorem dX8_shoots_149 : decode cX8_shoots 149 = .ok (.iinc 7 1, 3) := by decide +kernel
theorem dX8_shoots_152 : decode cX8_shoots 152 = .ok (.goto (-46), 3) := by decide +kernel
theorem dX8_shoots_155 : decode cX8_shoots 155 = .ok (.iload 4, 2) := by decide +kernel
theorem dX8_shoots_157 : decode cX8_shoots 157 = .ok (.aload_n 0, 1) := by decide +kernel
theorem dX8_shoots_158 : decode cX8_shoots 158 = .ok (.getfield 68, 3) := by decide +kernel
theorem dX8_shoots_161 : decode cX8_shoots 161 = .ok (.iload_n 1, 1) := by decide +kernel
theorem dX8_shoots_162 : decode cX8_shoots 162 = .ok (.iaload, 1) := by decide +kernel
theorem dX8_shoots_163 : decode cX8_shoots 163 = .ok (.invokestatic 161, 3) := by decide +kernel
theorem dX8_shoots_166 : decode cX8_shoots 166 = .ok (.istore 7, 2) := by decide +kernel
theorem dX8_shoots_168 : decode cX8_shoots 168 = .ok (.aload_n 0, 1) := by decide +kernel
theorem dX8_shoots_169 : decode cX8_shoots 169 = .ok (.getfield 68, 3) := by decide +kernel
theorem dX8_shoots_172 : decode cX8_shoots 172 = .ok (.iload_n 1, 1) := by decide +kernel
theorem dX8_shoots_173 : decode cX8_shoots 173 = .ok (.dup2, 1) := by decide +kernel
theorem dX8_shoots_174 : decode cX8_shoots 174 = .ok (.iaload, 1) := by decide +kernel
theorem dX8_shoots_175 : decode cX8_shoots 175 = .ok (.iload 7, 2) := by decide +kernel
theorem dX8_shoots_177 : decode cX8_shoots 177 = .ok (.isub, 1) := by decide +kernel
theorem dX8_shoots_178 : decode cX8_shoots 178 = .ok (.iastore, 1) := by decide +kernel
theorem dX8_shoots_179 : decode cX8_shoots 179 = .ok (.aload_n 0, 1) := by decide +kernel
theorem dX8_shoots_180 : decode cX8_shoots 180 = .ok (.getfield 13, 3) := by decide +kernel
theorem dX8_shoots_183 : decode cX8_shoots 183 = .ok (.iload_n 3, 1) := by decide +kernel
theorem dX8_shoots_184 : decode cX8_shoots 184 = .ok (.dup2, 1) := by decide +kernel
theorem dX8_shoots_185 : decode cX8_shoots 185 = .ok (.iaload, 1) := by decide +kernel
theorem dX8_shoots_186 : decode cX8_shoots 186 = .ok (.aload_n 0, 1) := by decide +kernel
theorem dX8_shoots_187 : decode cX8_shoots 187 = .ok (.getfield 31, 3) := by decide +kernel
theorem dX8_shoots_190 : decode cX8_shoots 190 = .ok (.iload_n 2, 1) := by decide +kernel
theorem dX8_shoots_191 : decode cX8_shoots 191 = .ok (.iaload, 1) := by decide +kernel
theorem dX8_shoots_192 : decode cX8_shoots 192 = .ok (.iload 4, 2) := by decide +kernel
theorem dX8_shoots_194 : decode cX8_shoots 194 = .ok (.iload 7, 2) := by decide +kernel
theorem dX8_shoots_196 : decode cX8_shoots 196 = .ok (.isub, 1) := by decide +kernel
theorem dX8_shoots_197 : decode cX8_shoots 197 = .ok (.aload_n 0, 1) := by decide +kernel
theorem dX8_shoots_198 : decode cX8_shoots 198 = .ok (.getfield 28, 3) := by decide +kernel
theorem dX8_shoots_201 : decode cX8_shoots 201 = .ok (.iload_n 2, 1) := by decide +kernel
theorem dX8_shoots_202 : decode cX8_shoots 202 = .ok (.iaload, 1) := by decide +kernel
theorem dX8_shoots_203 : decode cX8_shoots 203 = .ok (.imul, 1) := by decide +kernel
theorem dX8_shoots_204 : decode cX8_shoots 204 = .ok (.iadd, 1) := by decide +kernel
theorem dX8_shoots_205 : decode cX8_shoots 205 = .ok (.iadd, 1) := by decide +kernel
theorem dX8_shoots_206 : decode cX8_shoots 206 = .ok (.iastore, 1) := by decide +kernel
theorem dX8_shoots_207 : decode cX8_shoots 207 = .ok (.aload_n 0, 1) := by decide +kernel
theorem dX8_shoots_208 : decode cX8_shoots 208 = .ok (.getfield 74, 3) := by decide +kernel
theorem dX8_shoots_211 : decode cX8_shoots 211 = .ok (.iload_n 1, 1) := by decide +kernel
theorem dX8_shoots_212 : decode cX8_shoots 212 = .ok (.dup2, 1) := by decide +kernel
theorem dX8_shoots_213 : decode cX8_shoots 213 = .ok (.iaload, 1) := by decide +kernel
theorem dX8_shoots_214 : decode cX8_shoots 214 = .ok (.iconst 1, 1) := by decide +kernel
theorem dX8_shoots_215 : decode cX8_shoots 215 = .ok (.iadd, 1) := by decide +kernel
theorem dX8_shoots_216 : decode cX8_shoots 216 = .ok (.iastore, 1) := by decide +kernel
theorem dX8_shoots_217 : decode cX8_shoots 217 = .ok (.aload_n 0, 1) := by decide +kernel
theorem dX8_shoots_218 : decode cX8_shoots 218 = .ok (.getfield 77, 3) := by decide +kernel
theorem dX8_shoots_221 : decode cX8_shoots 221 = .ok (.iload_n 1, 1) := by decide +kernel
theorem dX8_shoots_222 : decode cX8_shoots 222 = .ok (.dup2, 1) := by decide +kernel
theorem dX8_shoots_223 : decode cX8_shoots 223 = .ok (.laload, 1) := by decide +kernel
theorem dX8_shoots_224 : decode cX8_shoots 224 = .ok (.iload 6, 2) := by decide +kernel
theorem dX8_shoots_226 : decode cX8_shoots 226 = .ok (.i2l, 1) := by decide +kernel
theorem dX8_shoots_227 : decode cX8_shoots 227 = .ok (.ladd, 1) := by decide +kernel
theorem dX8_shoots_228 : decode cX8_shoots 228 = .ok (.lastore, 1) := by decide +kernel
theorem dX8_shoots_229 : decode cX8_shoots 229 = .ok (.aload_n 0, 1) := by decide +kernel
theorem dX8_shoots_230 : decode cX8_shoots 230 = .ok (.getfield 81, 3) := by decide +kernel
theorem dX8_shoots_233 : decode cX8_shoots 233 = .ok (.iload_n 1, 1) := by decide +kernel
theorem dX8_shoots_234 : decode cX8_shoots 234 = .ok (.aload_n 0, 1) := by decide +kernel
theorem dX8_shoots_235 : decode cX8_shoots 235 = .ok (.getfield 81, 3) := by decide +kernel
theorem dX8_shoots_238 : decode cX8_shoots 238 = .ok (.iload_n 1, 1) := by decide +kernel
theorem dX8_shoots_239 : decode cX8_shoots 239 = .ok (.iaload, 1) := by decide +kernel
theorem dX8_shoots_240 : decode cX8_shoots 240 = .ok (.bipush 100, 2) := by decide +kernel
theorem dX8_shoots_242 : decode cX8_shoots 242 = .ok (.iload 6, 2) := by decide +kernel
theorem dX8_shoots_244 : decode cX8_shoots 244 = .ok (.imul, 1) := by decide +kernel
theorem dX8_shoots_245 : decode cX8_shoots 245 = .ok (.iload 5, 2) := by decide +kernel
theorem dX8_shoots_247 : decode cX8_shoots 247 = .ok (.idiv, 1) := by decide +kernel
theorem dX8_shoots_248 : decode cX8_shoots 248 = .ok (.invokestatic 122, 3) := by decide +kernel
theorem dX8_shoots_251 : decode cX8_shoots 251 = .ok (.iastore, 1) := by decide +kernel
theorem dX8_shoots_252 : decode cX8_shoots 252 = .ok (.aload_n 0, 1) := by decide +kernel
theorem dX8_shoots_253 : decode cX8_shoots 253 = .ok (.dup, 1) := by decide +kernel
theorem dX8_shoots_254 : decode cX8_shoots 254 = .ok (.getfield 167, 3) := by decide +kernel
theorem dX8_shoots_257 : decode cX8_shoots 257 = .ok (.iconst 1, 1) := by decide +kernel
theorem dX8_shoots_258 : decode cX8_shoots 258 = .ok (.iadd, 1) := by decide +kernel
theorem dX8_shoots_259 : decode cX8_shoots 259 = .ok (.putfield 167, 3) := by decide +kernel
theorem dX8_shoots_262 : decode cX8_shoots 262 = .ok (.aload_n 0, 1) := by decide +kernel
theorem dX8_shoots_263 : decode cX8_shoots 263 = .ok (.dup, 1) := by decide +kernel
theorem dX8_shoots_264 : decode cX8_shoots 264 = .ok (.getfield 170, 3) := by decide +kernel
theorem dX8_shoots_267 : decode cX8_shoots 267 = .ok (.iload 7, 2) := by decide +kernel
theorem dX8_shoots_269 : decode cX8_shoots 269 = .ok (.iadd, 1) := by decide +kernel
theorem dX8_shoots_270 : decode cX8_shoots 270 = .ok (.putfield 170, 3) := by decide +kernel
theorem dX8_shoots_273 : decode cX8_shoots 273 = .ok (.aload_n 0, 1) := by decide +kernel
theorem dX8_shoots_274 : decode cX8_shoots 274 = .ok (.dup, 1) := by decide +kernel
theorem dX8_shoots_275 : decode cX8_shoots 275 = .ok (.getfield 173, 3) := by decide +kernel
theorem dX8_shoots_278 : decode cX8_shoots 278 = .ok (.iload 5, 2) := by decide +kernel
theorem dX8_shoots_280 : decode cX8_shoots 280 = .ok (.i2l, 1) := by decide +kernel
theorem dX8_shoots_281 : decode cX8_shoots 281 = .ok (.ladd, 1) := by decide +kernel
theorem dX8_shoots_282 : decode cX8_shoots 282 = .ok (.putfield 173, 3) := by decide +kernel
theorem dX8_shoots_285 : decode cX8_shoots 285 = .ok (.aload_n 0, 1) := by decide +kernel
theorem dX8_shoots_286 : decode cX8_shoots 286 = .ok (.dup, 1) := by decide +kernel
theorem dX8_shoots_287 : decode cX8_shoots 287 = .ok (.getfield 177, 3) := by decide +kernel
theorem dX8_shoots_290 : decode cX8_shoots 290 = .ok (.iload 6, 2) := by decide +kernel
theorem dX8_shoots_292 : decode cX8_shoots 292 = .ok (.i2l, 1) := by decide +kernel
theorem dX8_shoots_293 : decode cX8_shoots 293 = .ok (.ladd, 1) := by decide +kernel
theorem dX8_shoots_294 : decode cX8_shoots 294 = .ok (.putfield 177, 3) := by decide +kernel
theorem dX8_shoots_297 : decode cX8_shoots 297 = .ok (.iload 7, 2) := by decide +kernel
theorem dX8_shoots_299 : decode cX8_shoots 299 = .ok (.ireturn, 1) := by decide +kernel
theorem dX8_hour_0 : decode cX8_hour 0 = .ok (.iconst 0, 1) := by decide +kernel
theorem dX8_hour_1 : decode cX8_hour 1 = .ok (.istore_n 1, 1) := by decide +kernel
theorem dX8_hour_2 : decode cX8_hour 2 = .ok (.iconst 0, 1) := by decide +kernel
theorem dX8_hour_3 : decode cX8_hour 3 = .ok (.istore_n 2, 1) := by decide +kernel
theorem dX8_hour_4 : decode cX8_hour 4 = .ok (.iload_n 2, 1) := by decide +kernel
theorem dX8_hour_5 : decode cX8_hour 5 = .ok (.aload_n 0, 1) := by decide +kernel
theorem dX8_hour_6 : decode cX8_hour 6 = .ok (.getfield 105, 3) := by decide +kernel
theorem dX8_hour_9 : decode cX8_hour 9 = .ok (.if_icmp .ge 103, 3) := by decide +kernel
theorem dX8_hour_12 : decode cX8_hour 12 = .ok (.aload_n 0, 1) := by decide +kernel
theorem dX8_hour_13 : decode cX8_hour 13 = .ok (.getfield 59, 3) := by decide +kernel
theorem dX8_hour_16 : decode cX8_hour 16 = .ok (.iload_n 2, 1) := by decide +kernel
theorem dX8_hour_17 : decode cX8_hour 17 = .ok (.iaload, 1) := by decide +kernel
theorem dX8_hour_18 : decode cX8_hour 18 = .ok (.istore_n 3, 1) := by decide +kernel
theorem dX8_hour_19 : decode cX8_hour 19 = .ok (.iload_n 3, 1) := by decide +kernel
theorem dX8_hour_20 : decode cX8_hour 20 = .ok (.iconst (-1), 1) := by decide +kernel
theorem dX8_hour_21 : decode cX8_hour 21 = .ok (.if_icmp .ne 7, 3) := by decide +kernel
theorem dX8_hour_24 : decode cX8_hour 24 = .ok (.iconst 0, 1) := by decide +kernel
theorem dX8_hour_25 : decode cX8_hour 25 = .ok (.goto 18, 3) := by decide +kernel
theorem dX8_hour_28 : decode cX8_hour 28 = .ok (.sipush 3600, 3) := by decide +kernel
theorem dX8_hour_31 : decode cX8_hour 31 = .ok (.aload_n 0, 1) := by decide +kernel
theorem dX8_hour_32 : decode cX8_hour 32 = .ok (.getfield 37, 3) := by decide +kernel
theorem dX8_hour_35 : decode cX8_hour 35 = .ok (.aload_n 0, 1) := by decide +kernel
theorem dX8_hour_36 : decode cX8_hour 36 = .ok (.getfield 56, 3) := by decide +kernel
theorem dX8_hour_39 : decode cX8_hour 39 = .ok (.iload_n 2, 1) := by decide +kernel
theorem dX8_hour_40 : decode cX8_hour 40 = .ok (.iaload, 1) := by decide +kernel
theorem dX8_hour_41 : decode cX8_hour 41 = .ok (.iaload, 1) := by decide +kernel
theorem dX8_hour_42 : decode cX8_hour 42 = .ok (.idiv, 1) := by decide +kernel
theorem dX8_hour_43 : decode cX8_hour 43 = .ok (.istore 4, 2) := by decide +kernel
theorem dX8_hour_45 : decode cX8_hour 45 = .ok (.iconst 0, 1) := by decide +kernel
theorem dX8_hour_46 : decode cX8_hour 46 = .ok (.istore 5, 2) := by decide +kernel
theorem dX8_hour_48 : decode cX8_hour 48 = .ok (.iload 5, 2) := by decide +kernel
theorem dX8_hour_50 : decode cX8_hour 50 = .ok (.iload 4, 2) := by decide +kernel
theorem dX8_hour_52 : decode cX8_hour 52 = .ok (.if_icmp .ge 54, 3) := by decide +kernel
theorem dX8_hour_55 : decode cX8_hour 55 = .ok (.aload_n 0, 1) := by decide +kernel
theorem dX8_hour_56 : decode cX8_hour 56 = .ok (.getfield 68, 3) := by decide +kernel
theorem dX8_hour_59 : decode cX8_hour 59 = .ok (.iload_n 3, 1) := by decide +kernel
theorem dX8_hour_60 : decode cX8_hour 60 = .ok (.iaload, 1) := by decide +kernel
theorem dX8_hour_61 : decode cX8_hour 61 = .ok (.ifCond .le 45, 3) := by decide +kernel
theorem dX8_hour_64 : decode cX8_hour 64 = .ok (.aload_n 0, 1) := by decide +kernel
theorem dX8_hour_65 : decode cX8_hour 65 = .ok (.iload_n 3, 1) := by decide +kernel
theorem dX8_hour_66 : decode cX8_hour 66 = .ok (.invokevirtual 180, 3) := by decide +kernel
theorem dX8_hour_69 : decode cX8_hour 69 = .ok (.istore 6, 2) := by decide +kernel
theorem dX8_hour_71 : decode cX8_hour 71 = .ok (.iload_n 1, 1) := by decide +kernel
theorem dX8_hour_72 : decode cX8_hour 72 = .ok (.iload 6, 2) := by decide +kernel
theorem dX8_hour_74 : decode cX8_hour 74 = .ok (.iconst (-1), 1) := by decide +kernel
theorem dX8_hour_75 : decode cX8_hour 75 = .ok (.if_icmp .ne 7, 3) := by decide +kernel
theorem dX8_hour_78 : decode cX8_hour 78 = .ok (.iconst 0, 1) := by decide +kernel
theorem dX8_hour_79 : decode cX8_hour 79 = .ok (.goto 5, 3) := by decide +kernel
theorem dX8_hour_82 : decode cX8_hour 82 = .ok (.iload 6, 2) := by decide +kernel
theorem dX8_hour_84 : decode cX8_hour 84 = .ok (.iadd, 1) := by decide +kernel
theorem dX8_hour_85 : decode cX8_hour 85 = .ok (.istore_n 1, 1) := by decide +kernel
theorem dX8_hour_86 : decode cX8_hour 86 = .ok (.iload 6, 2) := by decide +kernel
theorem dX8_hour_88 : decode cX8_hour 88 = .ok (.iconst (-1), 1) := by decide +kernel
theorem dX8_hour_89 : decode cX8_hour 89 = .ok (.if_icmp .ne 7, 3) := by decide +kernel
theorem dX8_hour_92 : decode cX8_hour 92 = .ok (.iconst 0, 1) := by decide +kernel
theorem dX8_hour_93 : decode cX8_hour 93 = .ok (.goto 5, 3) := by decide +kernel
theorem dX8_hour_96 : decode cX8_hour 96 = .ok (.iload 4, 2) := by decide +kernel
theorem dX8_hour_98 : decode cX8_hour 98 = .ok (.istore 4, 2) := by decide +kernel
theorem dX8_hour_100 : decode cX8_hour 100 = .ok (.iinc 5 1, 3) := by decide +kernel
theorem dX8_hour_103 : decode cX8_hour 103 = .ok (.goto (-55), 3) := by decide +kernel
theorem dX8_hour_106 : decode cX8_hour 106 = .ok (.iinc 2 1, 3) := by decide +kernel
theorem dX8_hour_109 : decode cX8_hour 109 = .ok (.goto (-105), 3) := by decide +kernel
theorem dX8_hour_112 : decode cX8_hour 112 = .ok (.aload_n 0, 1) := by decide +kernel
theorem dX8_hour_113 : decode cX8_hour 113 = .ok (.getfield 95, 3) := by decide +kernel
theorem dX8_hour_116 : decode cX8_hour 116 = .ok (.iconst 1, 1) := by decide +kernel
theorem dX8_hour_117 : decode cX8_hour 117 = .ok (.isub, 1) := by decide +kernel
theorem dX8_hour_118 : decode cX8_hour 118 = .ok (.istore_n 2, 1) := by decide +kernel
theorem dX8_hour_119 : decode cX8_hour 119 = .ok (.iload_n 2, 1) := by decide +kernel
theorem dX8_hour_120 : decode cX8_hour 120 = .ok (.ifCond .lt 33, 3) := by decide +kernel
theorem dX8_hour_123 : decode cX8_hour 123 = .ok (.aload_n 0, 1) := by decide +kernel
theorem dX8_hour_124 : decode cX8_hour 124 = .ok (.getfield 22, 3) := by decide +kernel
theorem dX8_hour_127 : decode cX8_hour 127 = .ok (.iload_n 2, 1) := by decide +kernel
theorem dX8_hour_128 : decode cX8_hour 128 = .ok (.dup2, 1) := by decide +kernel
theorem dX8_hour_129 : decode cX8_hour 129 = .ok (.iaload, 1) := by decide +kernel
theorem dX8_hour_130 : decode cX8_hour 130 = .ok (.iconst 1, 1) := by decide +kernel
theorem dX8_hour_131 : decode cX8_hour 131 = .ok (.iadd, 1) := by decide +kernel
theorem dX8_hour_132 : decode cX8_hour 132 = .ok (.iastore, 1) := by decide +kernel
theorem dX8_hour_133 : decode cX8_hour 133 = .ok (.aload_n 0, 1) := by decide +kernel
theorem dX8_hour_134 : decode cX8_hour 134 = .ok (.getfield 19, 3) := by decide +kernel
theorem dX8_hour_137 : decode cX8_hour 137 = .ok (.iload_n 2, 1) := by decide +kernel
theorem dX8_hour_138 : decode cX8_hour 138 = .ok (.iaload, 1) := by decide +kernel
theorem dX8_hour_139 : decode cX8_hour 139 = .ok (.ifCond .ne 8, 3) := by decide +kernel
theorem dX8_hour_142 : decode cX8_hour 142 = .ok (.aload_n 0, 1) := by decide +kernel
theorem dX8_hour_143 : decode cX8_hour 143 = .ok (.iload_n 2, 1) := by decide +kernel
theorem dX8_hour_144 : decode cX8_hour 144 = .ok (.invokevirtual 118, 3) := by decide +kernel
theorem dX8_hour_147 : decode cX8_hour 147 = .ok (.iinc 2 (-1), 3) := by decide +kernel
theorem dX8_hour_150 : decode cX8_hour 150 = .ok (.goto (-31), 3) := by decide +kernel
theorem dX8_hour_153 : decode cX8_hour 153 = .ok (.aload_n 0, 1) := by decide +kernel
theorem dX8_hour_154 : decode cX8_hour 154 = .ok (.dup, 1) := by decide +kernel
theorem dX8_hour_155 : decode cX8_hour 155 = .ok (.getfield 183, 3) := by decide +kernel
theorem dX8_hour_158 : decode cX8_hour 158 = .ok (.iconst 1, 1) := by decide +kernel
theorem dX8_hour_159 : decode cX8_hour 159 = .ok (.iadd, 1) := by decide +kernel
theorem dX8_hour_160 : decode cX8_hour 160 = .ok (.putfield 183, 3) := by decide +kernel
theorem dX8_hour_163 : decode cX8_hour 163 = .ok (.iload_n 1, 1) := by decide +kernel
theorem dX8_hour_164 : decode cX8_hour 164 = .ok (.ireturn, 1) := by decide +kernel
theorem dX8_pass_0 : decode cX8_pass 0 = .ok (.aload_n 0, 1) := by decide +kernel
theorem dX8_pass_1 : decode cX8_pass 1 = .ok (.iload_n 1, 1) := by decide +kernel
theorem dX8_pass_2 : decode cX8_pass 2 = .ok (.iconst 1, 1) := by decide +kernel
theorem dX8_pass_3 : decode cX8_pass 3 = .ok (.bipush 24, 2) := by decide +kernel
theorem dX8_pass_5 : decode cX8_pass 5 = .ok (.invokestatic 91, 3) := by decide +kernel
theorem dX8_pass_8 : decode cX8_pass 8 = .ok (.ifCond .ne 7, 3) := by decide +kernel
theorem dX8_pass_11 : decode cX8_pass 11 = .ok (.iconst 1, 1) := by decide +kernel
theorem dX8_pass_12 : decode cX8_pass 12 = .ok (.goto 20, 3) := by decide +kernel
theorem dX8_pass_15 : decode cX8_pass 15 = .ok (.aload_n 0, 1) := by decide +kernel
theorem dX8_pass_16 : decode cX8_pass 16 = .ok (.getfield 183, 3) := by decide +kernel
theorem dX8_pass_19 : decode cX8_pass 19 = .ok (.iload_n 1, 1) := by decide +kernel
theorem dX8_pass_20 : decode cX8_pass 20 = .ok (.iadd, 1) := by decide +kernel
theorem dX8_pass_21 : decode cX8_pass 21 = .ok (.sipush 300, 3) := by decide +kernel
theorem dX8_pass_24 : decode cX8_pass 24 = .ok (.if_icmp .le 7, 3) := by decide +kernel
theorem dX8_pass_27 : decode cX8_pass 27 = .ok (.iconst 2, 1) := by decide +kernel
theorem dX8_pass_28 : decode cX8_pass 28 = .ok (.goto 4, 3) := by decide +kernel
theorem dX8_pass_31 : decode cX8_pass 31 = .ok (.iconst 0, 1) := by decide +kernel
theorem dX8_pass_32 : decode cX8_pass 32 = .ok (.putfield 84, 3) := by decide +kernel
theorem dX8_pass_35 : decode cX8_pass 35 = .ok (.iconst 0, 1) := by decide +kernel
theorem dX8_pass_36 : decode cX8_pass 36 = .ok (.istore_n 2, 1) := by decide +kernel
theorem dX8_pass_37 : decode cX8_pass 37 = .ok (.iconst 0, 1) := by decide +kernel
theorem dX8_pass_38 : decode cX8_pass 38 = .ok (.istore_n 3, 1) := by decide +kernel
theorem dX8_pass_39 : decode cX8_pass 39 = .ok (.iload_n 3, 1) := by decide +kernel
theorem dX8_pass_40 : decode cX8_pass 40 = .ok (.iload_n 1, 1) := by decide +kernel
theorem dX8_pass_41 : decode cX8_pass 41 = .ok (.if_icmp .ge 23, 3) := by decide +kernel
theorem dX8_pass_44 : decode cX8_pass 44 = .ok (.aload_n 0, 1) := by decide +kernel
theorem dX8_pass_45 : decode cX8_pass 45 = .ok (.getfield 84, 3) := by decide +kernel
theorem dX8_pass_48 : decode cX8_pass 48 = .ok (.ifCond .ne 16, 3) := by decide +kernel
theorem dX8_pass_51 : decode cX8_pass 51 = .ok (.iload_n 2, 1) := by decide +kernel
theorem dX8_pass_52 : decode cX8_pass 52 = .ok (.aload_n 0, 1) := by decide +kernel
theorem dX8_pass_53 : decode cX8_pass 53 = .ok (.invokevirtual 186, 3) := by decide +kernel
theorem dX8_pass_56 : decode cX8_pass 56 = .ok (.iadd, 1) := by decide +kernel
theorem dX8_pass_57 : decode cX8_pass 57 = .ok (.istore_n 2, 1) := by decide +kernel
theorem dX8_pass_58 : decode cX8_pass 58 = .ok (.iinc 3 1, 3) := by decide +kernel
theorem dX8_pass_61 : decode cX8_pass 61 = .ok (.goto (-22), 3) := by decide +kernel
theorem dX8_pass_64 : decode cX8_pass 64 = .ok (.iload_n 2, 1) := by decide +kernel
theorem dX8_pass_65 : decode cX8_pass 65 = .ok (.ireturn, 1) := by decide +kernel
theorem dX8_hours_0 : decode cX8_hours 0 = .ok (.aload_n 0, 1) := by decide +kernel
theorem dX8_hours_1 : decode cX8_hours 1 = .ok (.iconst 0, 1) := by decide +kernel
theorem dX8_hours_2 : decode cX8_hours 2 = .ok (.putfield 84, 3) := by decide +kernel
theorem dX8_hours_5 : decode cX8_hours 5 = .ok (.aload_n 0, 1) := by decide +kernel
theorem dX8_hours_6 : decode cX8_hours 6 = .ok (.getfield 183, 3) := by decide +kernel
theorem dX8_hours_9 : decode cX8_hours 9 = .ok (.ireturn, 1) := by decide +kernel
theorem dX8_regrindShare_0 : decode cX8_regrindShare 0 = .ok (.aload_n 0, 1) := by decide +kernel
theorem dX8_regrindShare_1 : decode cX8_regrindShare 1 = .ok (.aload_n 0, 1) := by decide +kernel
theorem dX8_regrindShare_2 : decode cX8_regrindShare 2 = .ok (.getfield 167, 3) := by decide +kernel
theorem dX8_regrindShare_5 : decode cX8_regrindShare 5 = .ok (.ifCond .ne 7, 3) := by decide +kernel
theorem dX8_regrindShare_8 : decode cX8_regrindShare 8 = .ok (.iconst 1, 1) := by decide +kernel
theorem dX8_regrindShare_9 : decode cX8_regrindShare 9 = .ok (.goto 4, 3) := by decide +kernel
theorem dX8_regrindShare_12 : decode cX8_regrindShare 12 = .ok (.iconst 0, 1) := by decide +kernel
theorem dX8_regrindShare_13 : decode cX8_regrindShare 13 = .ok (.putfield 84, 3) := by decide +kernel
theorem dX8_regrindShare_16 : decode cX8_regrindShare 16 = .ok (.aload_n 0, 1) := by decide +kernel
theorem dX8_regrindShare_17 : decode cX8_regrindShare 17 = .ok (.getfield 84, 3) := by decide +kernel
theorem dX8_regrindShare_20 : decode cX8_regrindShare 20 = .ok (.ifCond .le 7, 3) := by decide +kernel
theorem dX8_regrindShare_23 : decode cX8_regrindShare 23 = .ok (.fconst 0, 1) := by decide +kernel
theorem dX8_regrindShare_24 : decode cX8_regrindShare 24 = .ok (.goto 14, 3) := by decide +kernel
theorem dX8_regrindShare_27 : decode cX8_regrindShare 27 = .ok (.aload_n 0, 1) := by decide +kernel
theorem dX8_regrindShare_28 : decode cX8_regrindShare 28 = .ok (.getfield 177, 3) := by decide +kernel
theorem dX8_regrindShare_31 : decode cX8_regrindShare 31 = .ok (.l2f, 1) := by decide +kernel
theorem dX8_regrindShare_32 : decode cX8_regrindShare 32 = .ok (.aload_n 0, 1) := by decide +kernel
theorem dX8_regrindShare_33 : decode cX8_regrindShare 33 = .ok (.getfield 173, 3) := by decide +kernel
theorem dX8_regrindShare_36 : decode cX8_regrindShare 36 = .ok (.l2f, 1) := by decide +kernel
theorem dX8_regrindShare_37 : decode cX8_regrindShare 37 = .ok (.fdiv, 1) := by decide +kernel
theorem dX8_regrindShare_38 : decode cX8_regrindShare 38 = .ok (.freturn, 1) := by decide +kernel
theorem dX8_meanParts_0 : decode cX8_meanParts 0 = .ok (.aload_n 0, 1) := by decide +kernel
theorem dX8_meanParts_1 : decode cX8_meanParts 1 = .ok (.aload_n 0, 1) := by decide +kernel
theorem dX8_meanParts_2 : decode cX8_meanParts 2 = .ok (.getfield 167, 3) := by decide +kernel
theorem dX8_meanParts_5 : decode cX8_meanParts 5 = .ok (.ifCond .ne 7, 3) := by decide +kernel
theorem dX8_meanParts_8 : decode cX8_meanParts 8 = .ok (.iconst 1, 1) := by decide +kernel
theorem dX8_meanParts_9 : decode cX8_meanParts 9 = .ok (.goto 4, 3) := by decide +kernel
theorem dX8_meanParts_12 : decode cX8_meanParts 12 = .ok (.iconst 0, 1) := by decide +kernel
theorem dX8_meanParts_13 : decode cX8_meanParts 13 = .ok (.putfield 84, 3) := by decide +kernel
theorem dX8_meanParts_16 : decode cX8_meanParts 16 = .ok (.aload_n 0, 1) := by decide +kernel
theorem dX8_meanParts_17 : decode cX8_meanParts 17 = .ok (.getfield 84, 3) := by decide +kernel
theorem dX8_meanParts_20 : decode cX8_meanParts 20 = .ok (.ifCond .le 7, 3) := by decide +kernel
theorem dX8_meanParts_23 : decode cX8_meanParts 23 = .ok (.dconst 0, 1) := by decide +kernel
theorem dX8_meanParts_24 : decode cX8_meanParts 24 = .ok (.goto 14, 3) := by decide +kernel
theorem dX8_meanParts_27 : decode cX8_meanParts 27 = .ok (.aload_n 0, 1) := by decide +kernel
theorem dX8_meanParts_28 : decode cX8_meanParts 28 = .ok (.getfield 170, 3) := by decide +kernel
theorem dX8_meanParts_31 : decode cX8_meanParts 31 = .ok (.i2d, 1) := by decide +kernel
theorem dX8_meanParts_32 : decode cX8_meanParts 32 = .ok (.aload_n 0, 1) := by decide +kernel
theorem dX8_meanParts_33 : decode cX8_meanParts 33 = .ok (.getfield 167, 3) := by decide +kernel
theorem dX8_meanParts_36 : decode cX8_meanParts 36 = .ok (.i2d, 1) := by decide +kernel
theorem dX8_meanParts_37 : decode cX8_meanParts 37 = .ok (.ddiv, 1) := by decide +kernel
theorem dX8_meanParts_38 : decode cX8_meanParts 38 = .ok (.dreturn, 1) := by decide +kernel

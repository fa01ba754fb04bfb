theorem dX7_in_0 : decode cX7_in 0 = .ok (.lload_n 0, 1) := by decide +kernel
theorem dX7_in_1 : decode cX7_in 1 = .ok (.lload_n 2, 1) := by decide +kernel
theorem dX7_in_2 : decode cX7_in 2 = .ok (.lcmp, 1) := by decide +kernel
theorem dX7_in_3 : decode cX7_in 3 = .ok (.ifCond .lt 14, 3) := by decide +kernel
theorem dX7_in_6 : decode cX7_in 6 = .ok (.lload_n 0, 1) := by decide +kernel
theorem dX7_in_7 : decode cX7_in 7 = .ok (.lload 4, 2) := by decide +kernel
theorem dX7_in_9 : decode cX7_in 9 = .ok (.lcmp, 1) := by decide +kernel
theorem dX7_in_10 : decode cX7_in 10 = .ok (.ifCond .gt 7, 3) := by decide +kernel
theorem dX7_in_13 : decode cX7_in 13 = .ok (.iconst 1, 1) := by decide +kernel
theorem dX7_in_14 : decode cX7_in 14 = .ok (.goto 4, 3) := by decide +kernel
theorem dX7_in_17 : decode cX7_in 17 = .ok (.iconst 0, 1) := by decide +kernel
theorem dX7_in_18 : decode cX7_in 18 = .ok (.ireturn, 1) := by decide +kernel
theorem dX7_init_0 : decode cX7_init 0 = .ok (.aload_n 0, 1) := by decide +kernel
theorem dX7_init_1 : decode cX7_init 1 = .ok (.invokespecial 1, 3) := by decide +kernel
theorem dX7_init_4 : decode cX7_init 4 = .ok (.aload_n 0, 1) := by decide +kernel
theorem dX7_init_5 : decode cX7_init 5 = .ok (.bipush 29, 2) := by decide +kernel
theorem dX7_init_7 : decode cX7_init 7 = .ok (.newarray .int, 2) := by decide +kernel
theorem dX7_init_9 : decode cX7_init 9 = .ok (.putfield 7, 3) := by decide +kernel
theorem dX7_init_12 : decode cX7_init 12 = .ok (.aload_n 0, 1) := by decide +kernel
theorem dX7_init_13 : decode cX7_init 13 = .ok (.bipush 80, 2) := by decide +kernel
theorem dX7_init_15 : decode cX7_init 15 = .ok (.newarray .int, 2) := by decide +kernel
theorem dX7_init_17 : decode cX7_init 17 = .ok (.putfield 13, 3) := by decide +kernel
theorem dX7_init_20 : decode cX7_init 20 = .ok (.aload_n 0, 1) := by decide +kernel
theorem dX7_init_21 : decode cX7_init 21 = .ok (.iconst 4, 1) := by decide +kernel
theorem dX7_init_22 : decode cX7_init 22 = .ok (.newarray .int, 2) := by decide +kernel
theorem dX7_init_24 : decode cX7_init 24 = .ok (.putfield 16, 3) := by decide +kernel
theorem dX7_init_27 : decode cX7_init 27 = .ok (.aload_n 0, 1) := by decide +kernel
theorem dX7_init_28 : decode cX7_init 28 = .ok (.bipush 18, 2) := by decide +kernel
theorem dX7_init_30 : decode cX7_init 30 = .ok (.newarray .int, 2) := by decide +kernel
theorem dX7_init_32 : decode cX7_init 32 = .ok (.putfield 19, 3) := by decide +kernel
theorem dX7_init_35 : decode cX7_init 35 = .ok (.aload_n 0, 1) := by decide +kernel
theorem dX7_init_36 : decode cX7_init 36 = .ok (.sipush 232, 3) := by decide +kernel
theorem dX7_init_39 : decode cX7_init 39 = .ok (.newarray .int, 2) := by decide +kernel
theorem dX7_init_41 : decode cX7_init 41 = .ok (.putfield 22, 3) := by decide +kernel
theorem dX7_init_44 : decode cX7_init 44 = .ok (.aload_n 0, 1) := by decide +kernel
theorem dX7_init_45 : decode cX7_init 45 = .ok (.bipush 29, 2) := by decide +kernel
theorem dX7_init_47 : decode cX7_init 47 = .ok (.newarray .int, 2) := by decide +kernel
theorem dX7_init_49 : decode cX7_init 49 = .ok (.putfield 25, 3) := by decide +kernel
theorem dX7_init_52 : decode cX7_init 52 = .ok (.aload_n 0, 1) := by decide +kernel
theorem dX7_init_53 : decode cX7_init 53 = .ok (.sipush 261, 3) := by decide +kernel
theorem dX7_init_56 : decode cX7_init 56 = .ok (.newarray .int, 2) := by decide +kernel
theorem dX7_init_58 : decode cX7_init 58 = .ok (.putfield 28, 3) := by decide +kernel
theorem dX7_init_61 : decode cX7_init 61 = .ok (.aload_n 0, 1) := by decide +kernel
theorem dX7_init_62 : decode cX7_init 62 = .ok (.iconst 4, 1) := by decide +kernel
theorem dX7_init_63 : decode cX7_init 63 = .ok (.newarray .int, 2) := by decide +kernel
theorem dX7_init_65 : decode cX7_init 65 = .ok (.putfield 31, 3) := by decide +kernel
theorem dX7_init_68 : decode cX7_init 68 = .ok (.aload_n 0, 1) := by decide +kernel
theorem dX7_init_69 : decode cX7_init 69 = .ok (.iconst 4, 1) := by decide +kernel
theorem dX7_init_70 : decode cX7_init 70 = .ok (.newarray .int, 2) := by decide +kernel
theorem dX7_init_72 : decode cX7_init 72 = .ok (.putfield 34, 3) := by decide +kernel
theorem dX7_init_75 : decode cX7_init 75 = .ok (.aload_n 0, 1) := by decide +kernel
theorem dX7_init_76 : decode cX7_init 76 = .ok (.bipush 96, 2) := by decide +kernel
theorem dX7_init_78 : decode cX7_init 78 = .ok (.newarray .long, 2) := by decide +kernel
theorem dX7_init_80 : decode cX7_init 80 = .ok (.putfield 37, 3) := by decide +kernel
theorem dX7_init_83 : decode cX7_init 83 = .ok (.aload_n 0, 1) := by decide +kernel
theorem dX7_init_84 : decode cX7_init 84 = .ok (.bipush 24, 2) := by decide +kernel
theorem dX7_init_86 : decode cX7_init 86 = .ok (.newarray .long, 2) := by decide +kernel
theorem dX7_init_88 : decode cX7_init 88 = .ok (.putfield 41, 3) := by decide +kernel
theorem dX7_init_91 : decode cX7_init 91 = .ok (.aload_n 0, 1) := by decide +kernel
theorem dX7_init_92 : decode cX7_init 92 = .ok (.getfield 7, 3) := by decide +kernel
theorem dX7_init_95 : decode cX7_init 95 = .ok (.bipush 6, 2) := by decide +kernel
theorem dX7_init_97 : decode cX7_init 97 = .ok (.iconst 1, 1) := by decide +kernel
theorem dX7_init_98 : decode cX7_init 98 = .ok (.iastore, 1) := by decide +kernel
theorem dX7_init_99 : decode cX7_init 99 = .ok (.iconst 0, 1) := by decide +kernel
theorem dX7_init_100 : decode cX7_init 100 = .ok (.istore_n 1, 1) := by decide +kernel
theorem dX7_init_101 : decode cX7_init 101 = .ok (.iload_n 1, 1) := by decide +kernel
theorem dX7_init_102 : decode cX7_init 102 = .ok (.iconst 4, 1) := by decide +kernel
theorem dX7_init_103 : decode cX7_init 103 = .ok (.if_icmp .ge 27, 3) := by decide +kernel
theorem dX7_init_106 : decode cX7_init 106 = .ok (.aload_n 0, 1) := by decide +kernel
theorem dX7_init_107 : decode cX7_init 107 = .ok (.getfield 7, 3) := by decide +kernel
theorem dX7_init_110 : decode cX7_init 110 = .ok (.bipush 7, 2) := by decide +kernel
theorem dX7_init_112 : decode cX7_init 112 = .ok (.iload_n 1, 1) := by decide +kernel
theorem dX7_init_113 : decode cX7_init 113 = .ok (.iadd, 1) := by decide +kernel
theorem dX7_init_114 : decode cX7_init 114 = .ok (.bipush 10, 2) := by decide +kernel
theorem dX7_init_116 : decode cX7_init 116 = .ok (.iastore, 1) := by decide +kernel
theorem dX7_init_117 : decode cX7_init 117 = .ok (.aload_n 0, 1) := by decide +kernel
theorem dX7_init_118 : decode cX7_init 118 = .ok (.getfield 31, 3) := by decide +kernel
theorem dX7_init_121 : decode cX7_init 121 = .ok (.iload_n 1, 1) := by decide +kernel
theorem dX7_init_122 : decode cX7_init 122 = .ok (.iconst (-1), 1) := by decide +kernel
theorem dX7_init_123 : decode cX7_init 123 = .ok (.iastore, 1) := by decide +kernel
theorem dX7_init_124 : decode cX7_init 124 = .ok (.iinc 1 1, 3) := by decide +kernel
theorem dX7_init_127 : decode cX7_init 127 = .ok (.goto (-26), 3) := by decide +kernel
theorem dX7_init_130 : decode cX7_init 130 = .ok (.return_, 1) := by decide +kernel
theorem dX7_isPerson_0 : decode cX7_isPerson 0 = .ok (.iload_n 1, 1) := by decide +kernel
theorem dX7_isPerson_1 : decode cX7_isPerson 1 = .ok (.i2l, 1) := by decide +kernel
theorem dX7_isPerson_2 : decode cX7_isPerson 2 = .ok (.lconst 0, 1) := by decide +kernel
theorem dX7_isPerson_3 : decode cX7_isPerson 3 = .ok (.aload_n 0, 1) := by decide +kernel
theorem dX7_isPerson_4 : decode cX7_isPerson 4 = .ok (.getfield 7, 3) := by decide +kernel
theorem dX7_isPerson_7 : decode cX7_isPerson 7 = .ok (.iconst 0, 1) := by decide +kernel
theorem dX7_isPerson_8 : decode cX7_isPerson 8 = .ok (.iaload, 1) := by decide +kernel
theorem dX7_isPerson_9 : decode cX7_isPerson 9 = .ok (.iconst 1, 1) := by decide +kernel
theorem dX7_isPerson_10 : decode cX7_isPerson 10 = .ok (.isub, 1) := by decide +kernel
theorem dX7_isPerson_11 : decode cX7_isPerson 11 = .ok (.i2l, 1) := by decide +kernel
theorem dX7_isPerson_12 : decode cX7_isPerson 12 = .ok (.invokestatic 44, 3) := by decide +kernel
theorem dX7_isPerson_15 : decode cX7_isPerson 15 = .ok (.ireturn, 1) := by decide +kernel
theorem dX7_isArch_0 : decode cX7_isArch 0 = .ok (.iload_n 0, 1) := by decide +kernel
theorem dX7_isArch_1 : decode cX7_isArch 1 = .ok (.i2l, 1) := by decide +kernel
theorem dX7_isArch_2 : decode cX7_isArch 2 = .ok (.lconst 0, 1) := by decide +kernel
theorem dX7_isArch_3 : decode cX7_isArch 3 = .ok (.ldc2_w 48, 3) := by decide +kernel
theorem dX7_isArch_6 : decode cX7_isArch 6 = .ok (.invokestatic 44, 3) := by decide +kernel
theorem dX7_isArch_9 : decode cX7_isArch 9 = .ok (.ireturn, 1) := by decide +kernel
theorem dX7_told_0 : decode cX7_told 0 = .ok (.aload_n 0, 1) := by decide +kernel
theorem dX7_told_1 : decode cX7_told 1 = .ok (.getfield 7, 3) := by decide +kernel
theorem dX7_told_4 : decode cX7_told 4 = .ok (.bipush 11, 2) := by decide +kernel
theorem dX7_told_6 : decode cX7_told 6 = .ok (.iconst 3, 1) := by decide +kernel
theorem dX7_told_7 : decode cX7_told 7 = .ok (.iload_n 1, 1) := by decide +kernel
theorem dX7_told_8 : decode cX7_told 8 = .ok (.imul, 1) := by decide +kernel
theorem dX7_told_9 : decode cX7_told 9 = .ok (.iadd, 1) := by decide +kernel
theorem dX7_told_10 : decode cX7_told 10 = .ok (.iload_n 2, 1) := by decide +kernel
theorem dX7_told_11 : decode cX7_told 11 = .ok (.iadd, 1) := by decide +kernel
theorem dX7_told_12 : decode cX7_told 12 = .ok (.iaload, 1) := by decide +kernel
theorem dX7_told_13 : decode cX7_told 13 = .ok (.ireturn, 1) := by decide +kernel
theorem dX7_comes_0 : decode cX7_comes 0 = .ok (.aload_n 0, 1) := by decide +kernel
theorem dX7_comes_1 : decode cX7_comes 1 = .ok (.getfield 7, 3) := by decide +kernel
theorem dX7_comes_4 : decode cX7_comes 4 = .ok (.iconst 1, 1) := by decide +kernel
theorem dX7_comes_5 : decode cX7_comes 5 = .ok (.iaload, 1) := by decide +kernel
theorem dX7_comes_6 : decode cX7_comes 6 = .ok (.aload_n 0, 1) := by decide +kernel
theorem dX7_comes_7 : decode cX7_comes 7 = .ok (.iload_n 1, 1) := by decide +kernel
theorem dX7_comes_8 : decode cX7_comes 8 = .ok (.iconst 2, 1) := by decide +kernel
theorem dX7_comes_9 : decode cX7_comes 9 = .ok (.invokevirtual 50, 3) := by decide +kernel
theorem dX7_comes_12 : decode cX7_comes 12 = .ok (.irem, 1) := by decide +kernel
theorem dX7_comes_13 : decode cX7_comes 13 = .ok (.ifCond .ne 7, 3) := by decide +kernel
theorem dX7_comes_16 : decode cX7_comes 16 = .ok (.iconst 1, 1) := by decide +kernel
theorem dX7_comes_17 : decode cX7_comes 17 = .ok (.goto 4, 3) := by decide +kernel
theorem dX7_comes_20 : decode cX7_comes 20 = .ok (.iconst 0, 1) := by decide +kernel
theorem dX7_comes_21 : decode cX7_comes 21 = .ok (.ireturn, 1) := by decide +kernel
theorem dX7_isRefused_0 : decode cX7_isRefused 0 = .ok (.aload_n 0, 1) := by decide +kernel
theorem dX7_isRefused_1 : decode cX7_isRefused 1 = .ok (.iload_n 1, 1) := by decide +kernel
theorem dX7_isRefused_2 : decode cX7_isRefused 2 = .ok (.iconst 1, 1) := by decide +kernel
theorem dX7_isRefused_3 : decode cX7_isRefused 3 = .ok (.invokevirtual 50, 3) := by decide +kernel
theorem dX7_isRefused_6 : decode cX7_isRefused 6 = .ok (.aload_n 0, 1) := by decide +kernel
theorem dX7_isRefused_7 : decode cX7_isRefused 7 = .ok (.getfield 7, 3) := by decide +kernel
theorem dX7_isRefused_10 : decode cX7_isRefused 10 = .ok (.iconst 2, 1) := by decide +kernel
theorem dX7_isRefused_11 : decode cX7_isRefused 11 = .ok (.iaload, 1) := by decide +kernel
theorem dX7_isRefused_12 : decode cX7_isRefused 12 = .ok (.iand, 1) := by decide +kernel
theorem dX7_isRefused_13 : decode cX7_isRefused 13 = .ok (.ifCond .eq 7, 3) := by decide +kernel
theorem dX7_isRefused_16 : decode cX7_isRefused 16 = .ok (.iconst 1, 1) := by decide +kernel
theorem dX7_isRefused_17 : decode cX7_isRefused 17 = .ok (.goto 4, 3) := by decide +kernel
theorem dX7_isRefused_20 : decode cX7_isRefused 20 = .ok (.iconst 0, 1) := by decide +kernel
theorem dX7_isRefused_21 : decode cX7_isRefused 21 = .ok (.ireturn, 1) := by decide +kernel
theorem dX7_wearsOff_0 : decode cX7_wearsOff 0 = .ok (.aload_n 0, 1) := by decide +kernel
theorem dX7_wearsOff_1 : decode cX7_wearsOff 1 = .ok (.iload_n 1, 1) := by decide +kernel
theorem dX7_wearsOff_2 : decode cX7_wearsOff 2 = .ok (.iconst 0, 1) := by decide +kernel
theorem dX7_wearsOff_3 : decode cX7_wearsOff 3 = .ok (.invokevirtual 50, 3) := by decide +kernel
theorem dX7_wearsOff_6 : decode cX7_wearsOff 6 = .ok (.tableswitch 46 0 3 #[30, 32, 30, 34], 30) := by decide +kernel
theorem dX7_wearsOff_36 : decode cX7_wearsOff 36 = .ok (.iconst 1, 1) := by decide +kernel
theorem dX7_wearsOff_37 : decode cX7_wearsOff 37 = .ok (.ireturn, 1) := by decide +kernel
theorem dX7_wearsOff_38 : decode cX7_wearsOff 38 = .ok (.iconst 2, 1) := by decide +kernel
theorem dX7_wearsOff_39 : decode cX7_wearsOff 39 = .ok (.ireturn, 1) := by decide +kernel
theorem dX7_wearsOff_40 : decode cX7_wearsOff 40 = .ok (.iload_n 2, 1) := by decide +kernel
theorem dX7_wearsOff_41 : decode cX7_wearsOff 41 = .ok (.iconst 2, 1) := by decide +kernel
theorem dX7_wearsOff_42 : decode cX7_wearsOff 42 = .ok (.irem, 1) := by decide +kernel
theorem dX7_wearsOff_43 : decode cX7_wearsOff 43 = .ok (.ifCond .ne 7, 3) := by decide +kernel
theorem dX7_wearsOff_46 : decode cX7_wearsOff 46 = .ok (.iconst 2, 1) := by decide +kernel
theorem dX7_wearsOff_47 : decode cX7_wearsOff 47 = .ok (.goto 4, 3) := by decide +kernel
theorem dX7_wearsOff_50 : decode cX7_wearsOff 50 = .ok (.iconst 0, 1) := by decide +kernel
theorem dX7_wearsOff_51 : decode cX7_wearsOff 51 = .ok (.ireturn, 1) := by decide +kernel
theorem dX7_wearsOff_52 : decode cX7_wearsOff 52 = .ok (.aload_n 0, 1) := by decide +kernel
theorem dX7_wearsOff_53 : decode cX7_wearsOff 53 = .ok (.getfield 7, 3) := by decide +kernel
theorem dX7_wearsOff_56 : decode cX7_wearsOff 56 = .ok (.iconst 1, 1) := by decide +kernel
theorem dX7_wearsOff_57 : decode cX7_wearsOff 57 = .ok (.iaload, 1) := by decide +kernel
theorem dX7_wearsOff_58 : decode cX7_wearsOff 58 = .ok (.iconst 4, 1) := by decide +kernel
theorem dX7_wearsOff_59 : decode cX7_wearsOff 59 = .ok (.irem, 1) := by decide +kernel
theorem dX7_wearsOff_60 : decode cX7_wearsOff 60 = .ok (.iload_n 2, 1) := by decide +kernel
theorem dX7_wearsOff_61 : decode cX7_wearsOff 61 = .ok (.if_icmp .ne 7, 3) := by decide +kernel
theorem dX7_wearsOff_64 : decode cX7_wearsOff 64 = .ok (.iconst 2, 1) := by decide +kernel
theorem dX7_wearsOff_65 : decode cX7_wearsOff 65 = .ok (.goto 4, 3) := by decide +kernel
theorem dX7_wearsOff_68 : decode cX7_wearsOff 68 = .ok (.iconst 1, 1) := by decide +kernel
theorem dX7_wearsOff_69 : decode cX7_wearsOff 69 = .ok (.ireturn, 1) := by decide +kernel
theorem dX7_gives_0 : decode cX7_gives 0 = .ok (.aload_n 0, 1) := by decide +kernel
theorem dX7_gives_1 : decode cX7_gives 1 = .ok (.getfield 7, 3) := by decide +kernel
theorem dX7_gives_4 : decode cX7_gives 4 = .ok (.iconst 1, 1) := by decide +kernel
theorem dX7_gives_5 : decode cX7_gives 5 = .ok (.iaload, 1) := by decide +kernel
theorem dX7_gives_6 : decode cX7_gives 6 = .ok (.iconst 2, 1) := by decide +kernel
theorem dX7_gives_7 : decode cX7_gives 7 = .ok (.irem, 1) := by decide +kernel
theorem dX7_gives_8 : decode cX7_gives 8 = .ok (.ifCond .ne 7, 3) := by decide +kernel
theorem dX7_gives_11 : decode cX7_gives 11 = .ok (.iconst 1, 1) := by decide +kernel
theorem dX7_gives_12 : decode cX7_gives 12 = .ok (.goto 4, 3) := by decide +kernel
theorem dX7_gives_15 : decode cX7_gives 15 = .ok (.iconst 0, 1) := by decide +kernel
theorem dX7_gives_16 : decode cX7_gives 16 = .ok (.istore_n 2, 1) := by decide +kernel
theorem dX7_gives_17 : decode cX7_gives 17 = .ok (.aload_n 0, 1) := by decide +kernel
theorem dX7_gives_18 : decode cX7_gives 18 = .ok (.iload_n 1, 1) := by decide +kernel
theorem dX7_gives_19 : decode cX7_gives 19 = .ok (.iconst 0, 1) := by decide +kernel
theorem dX7_gives_20 : decode cX7_gives 20 = .ok (.invokevirtual 50, 3) := by decide +kernel
theorem dX7_gives_23 : decode cX7_gives 23 = .ok (.tableswitch 38 0 3 #[29, 31, 33, 35], 29) := by decide +kernel
theorem dX7_gives_52 : decode cX7_gives 52 = .ok (.iconst 1, 1) := by decide +kernel
theorem dX7_gives_53 : decode cX7_gives 53 = .ok (.ireturn, 1) := by decide +kernel
theorem dX7_gives_54 : decode cX7_gives 54 = .ok (.iconst 2, 1) := by decide +kernel
theorem dX7_gives_55 : decode cX7_gives 55 = .ok (.ireturn, 1) := by decide +kernel
theorem dX7_gives_56 : decode cX7_gives 56 = .ok (.iload_n 2, 1) := by decide +kernel
theorem dX7_gives_57 : decode cX7_gives 57 = .ok (.ireturn, 1) := by decide +kernel
theorem dX7_gives_58 : decode cX7_gives 58 = .ok (.bipush 6, 2) := by decide +kernel
theorem dX7_gives_60 : decode cX7_gives 60 = .ok (.ireturn, 1) := by decide +kernel
theorem dX7_gives_61 : decode cX7_gives 61 = .ok (.iload_n 2, 1) := by decide +kernel
theorem dX7_gives_62 : decode cX7_gives 62 = .ok (.iconst 1, 1) := by decide +kernel
theorem dX7_gives_63 : decode cX7_gives 63 = .ok (.if_icmp .le 9, 3) := by decide +kernel
theorem dX7_gives_66 : decode cX7_gives 66 = .ok (.iload_n 2, 1) := by decide +kernel
theorem dX7_gives_67 : decode cX7_gives 67 = .ok (.iconst 1, 1) := by decide +kernel
theorem dX7_gives_68 : decode cX7_gives 68 = .ok (.isub, 1) := by decide +kernel
theorem dX7_gives_69 : decode cX7_gives 69 = .ok (.goto 4, 3) := by decide +kernel
theorem dX7_gives_72 : decode cX7_gives 72 = .ok (.iconst 0, 1) := by decide +kernel
theorem dX7_gives_73 : decode cX7_gives 73 = .ok (.ireturn, 1) := by decide +kernel
theorem dX7_stonesBy_0 : decode cX7_stonesBy 0 = .ok (.aload_n 0, 1) := by decide +kernel
theorem dX7_stonesBy_1 : decode cX7_stonesBy 1 = .ok (.getfield 7, 3) := by decide +kernel
theorem dX7_stonesBy_4 : decode cX7_stonesBy 4 = .ok (.bipush 7, 2) := by decide +kernel
theorem dX7_stonesBy_6 : decode cX7_stonesBy 6 = .ok (.iload_n 1, 1) := by decide +kernel
theorem dX7_stonesBy_7 : decode cX7_stonesBy 7 = .ok (.iadd, 1) := by decide +kernel
theorem dX7_stonesBy_8 : decode cX7_stonesBy 8 = .ok (.iaload, 1) := by decide +kernel
theorem dX7_stonesBy_9 : decode cX7_stonesBy 9 = .ok (.iload_n 2, 1) := by decide +kernel
theorem dX7_stonesBy_10 : decode cX7_stonesBy 10 = .ok (.iadd, 1) := by decide +kernel
theorem dX7_stonesBy_11 : decode cX7_stonesBy 11 = .ok (.istore_n 3, 1) := by decide +kernel
theorem dX7_stonesBy_12 : decode cX7_stonesBy 12 = .ok (.aload_n 0, 1) := by decide +kernel
theorem dX7_stonesBy_13 : decode cX7_stonesBy 13 = .ok (.getfield 7, 3) := by decide +kernel
theorem dX7_stonesBy_16 : decode cX7_stonesBy 16 = .ok (.bipush 7, 2) := by decide +kernel
theorem dX7_stonesBy_18 : decode cX7_stonesBy 18 = .ok (.iload_n 1, 1) := by decide +kernel
theorem dX7_stonesBy_19 : decode cX7_stonesBy 19 = .ok (.iadd, 1) := by decide +kernel
theorem dX7_stonesBy_20 : decode cX7_stonesBy 20 = .ok (.iload_n 3, 1) := by decide +kernel
theorem dX7_stonesBy_21 : decode cX7_stonesBy 21 = .ok (.ifCond .ge 7, 3) := by decide +kernel
theorem dX7_stonesBy_24 : decode cX7_stonesBy 24 = .ok (.iconst 0, 1) := by decide +kernel
theorem dX7_stonesBy_25 : decode cX7_stonesBy 25 = .ok (.goto 15, 3) := by decide +kernel
theorem dX7_stonesBy_28 : decode cX7_stonesBy 28 = .ok (.iload_n 3, 1) := by decide +kernel
theorem dX7_stonesBy_29 : decode cX7_stonesBy 29 = .ok (.bipush 40, 2) := by decide +kernel
theorem dX7_stonesBy_31 : decode cX7_stonesBy 31 = .ok (.if_icmp .le 8, 3) := by decide +kernel
theorem dX7_stonesBy_34 : decode cX7_stonesBy 34 = .ok (.bipush 40, 2) := by decide +kernel
theorem dX7_stonesBy_36 : decode cX7_stonesBy 36 = .ok (.goto 4, 3) := by decide +kernel
theorem dX7_stonesBy_39 : decode cX7_stonesBy 39 = .ok (.iload_n 3, 1) := by decide +kernel
theorem dX7_stonesBy_40 : decode cX7_stonesBy 40 = .ok (.iastore, 1) := by decide +kernel
theorem dX7_stonesBy_41 : decode cX7_stonesBy 41 = .ok (.return_, 1) := by decide +kernel
theorem dX7_putsIn_0 : decode cX7_putsIn 0 = .ok (.iconst 0, 1) := by decide +kernel
theorem dX7_putsIn_1 : decode cX7_putsIn 1 = .ok (.istore_n 2, 1) := by decide +kernel
theorem dX7_putsIn_2 : decode cX7_putsIn 2 = .ok (.iload_n 2, 1) := by decide +kernel
theorem dX7_putsIn_3 : decode cX7_putsIn 3 = .ok (.iload_n 1, 1) := by decide +kernel
theorem dX7_putsIn_4 : decode cX7_putsIn 4 = .ok (.if_icmp .ge 61, 3) := by decide +kernel
theorem dX7_putsIn_7 : decode cX7_putsIn 7 = .ok (.iconst 0, 1) := by decide +kernel
theorem dX7_putsIn_8 : decode cX7_putsIn 8 = .ok (.istore_n 3, 1) := by decide +kernel
theorem dX7_putsIn_9 : decode cX7_putsIn 9 = .ok (.iconst 1, 1) := by decide +kernel
theorem dX7_putsIn_10 : decode cX7_putsIn 10 = .ok (.istore 4, 2) := by decide +kernel
theorem dX7_putsIn_12 : decode cX7_putsIn 12 = .ok (.iload 4, 2) := by decide +kernel
theorem dX7_putsIn_14 : decode cX7_putsIn 14 = .ok (.iconst 4, 1) := by decide +kernel
theorem dX7_putsIn_15 : decode cX7_putsIn 15 = .ok (.if_icmp .ge 38, 3) := by decide +kernel
theorem dX7_putsIn_18 : decode cX7_putsIn 18 = .ok (.aload_n 0, 1) := by decide +kernel
theorem dX7_putsIn_19 : decode cX7_putsIn 19 = .ok (.getfield 7, 3) := by decide +kernel
theorem dX7_putsIn_22 : decode cX7_putsIn 22 = .ok (.bipush 7, 2) := by decide +kernel
theorem dX7_putsIn_24 : decode cX7_putsIn 24 = .ok (.iload 4, 2) := by decide +kernel
theorem dX7_putsIn_26 : decode cX7_putsIn 26 = .ok (.iadd, 1) := by decide +kernel
theorem dX7_putsIn_27 : decode cX7_putsIn 27 = .ok (.iaload, 1) := by decide +kernel
theorem dX7_putsIn_28 : decode cX7_putsIn 28 = .ok (.aload_n 0, 1) := by decide +kernel
theorem dX7_putsIn_29 : decode cX7_putsIn 29 = .ok (.getfield 7, 3) := by decide +kernel
theorem dX7_putsIn_32 : decode cX7_putsIn 32 = .ok (.bipush 7, 2) := by decide +kernel
theorem dX7_putsIn_34 : decode cX7_putsIn 34 = .ok (.iload_n 3, 1) := by decide +kernel
theorem dX7_putsIn_35 : decode cX7_putsIn 35 = .ok (.iadd, 1) := by decide +kernel
theorem dX7_putsIn_36 : decode cX7_putsIn 36 = .ok (.iaload, 1) := by decide +kernel
theorem dX7_putsIn_37 : decode cX7_putsIn 37 = .ok (.if_icmp .ge 8, 3) := by decide +kernel
theorem dX7_putsIn_40 : decode cX7_putsIn 40 = .ok (.iload 4, 2) := by decide +kernel
theorem dX7_putsIn_42 : decode cX7_putsIn 42 = .ok (.goto 4, 3) := by decide +kernel
theorem dX7_putsIn_45 : decode cX7_putsIn 45 = .ok (.iload_n 3, 1) := by decide +kernel
theorem dX7_putsIn_46 : decode cX7_putsIn 46 = .ok (.istore_n 3, 1) := by decide +kernel
theorem dX7_putsIn_47 : decode cX7_putsIn 47 = .ok (.iinc 4 1, 3) := by decide +kernel
theorem dX7_putsIn_50 : decode cX7_putsIn 50 = .ok (.goto (-38), 3) := by decide +kernel
theorem dX7_putsIn_53 : decode cX7_putsIn 53 = .ok (.aload_n 0, 1) := by decide +kernel
theorem dX7_putsIn_54 : decode cX7_putsIn 54 = .ok (.iload_n 3, 1) := by decide +kernel
theorem dX7_putsIn_55 : decode cX7_putsIn 55 = .ok (.iconst 1, 1) := by decide +kernel
theorem dX7_putsIn_56 : decode cX7_putsIn 56 = .ok (.invokevirtual 54, 3) := by decide +kernel
theorem dX7_putsIn_59 : decode cX7_putsIn 59 = .ok (.iinc 2 1, 3) := by decide +kernel
theorem dX7_putsIn_62 : decode cX7_putsIn 62 = .ok (.goto (-60), 3) := by decide +kernel
theorem dX7_putsIn_65 : decode cX7_putsIn 65 = .ok (.return_, 1) := by decide +kernel
theorem dX7_goesOver_0 : decode cX7_goesOver 0 = .ok (.iconst 0, 1) := by decide +kernel
theorem dX7_goesOver_1 : decode cX7_goesOver 1 = .ok (.istore_n 2, 1) := by decide +kernel
theorem dX7_goesOver_2 : decode cX7_goesOver 2 = .ok (.iload_n 2, 1) := by decide +kernel
theorem dX7_goesOver_3 : decode cX7_goesOver 3 = .ok (.iconst 4, 1) := by decide +kernel
theorem dX7_goesOver_4 : decode cX7_goesOver 4 = .ok (.if_icmp .ge 58, 3) := by decide +kernel
theorem dX7_goesOver_7 : decode cX7_goesOver 7 = .ok (.aload_n 0, 1) := by decide +kernel
theorem dX7_goesOver_8 : decode cX7_goesOver 8 = .ok (.iload_n 1, 1) := by decide +kernel
theorem dX7_goesOver_9 : decode cX7_goesOver 9 = .ok (.iload_n 2, 1) := by decide +kernel
theorem dX7_goesOver_10 : decode cX7_goesOver 10 = .ok (.invokevirtual 58, 3) := by decide +kernel
theorem dX7_goesOver_13 : decode cX7_goesOver 13 = .ok (.istore_n 3, 1) := by decide +kernel
theorem dX7_goesOver_14 : decode cX7_goesOver 14 = .ok (.aload_n 0, 1) := by decide +kernel
theorem dX7_goesOver_15 : decode cX7_goesOver 15 = .ok (.getfield 7, 3) := by decide +kernel
theorem dX7_goesOver_18 : decode cX7_goesOver 18 = .ok (.bipush 7, 2) := by decide +kernel
theorem dX7_goesOver_20 : decode cX7_goesOver 20 = .ok (.iload_n 2, 1) := by decide +kernel
theorem dX7_goesOver_21 : decode cX7_goesOver 21 = .ok (.iadd, 1) := by decide +kernel
theorem dX7_goesOver_22 : decode cX7_goesOver 22 = .ok (.iaload, 1) := by decide +kernel
theorem dX7_goesOver_23 : decode cX7_goesOver 23 = .ok (.iload_n 3, 1) := by decide +kernel
theorem dX7_goesOver_24 : decode cX7_goesOver 24 = .ok (.if_icmp .gt 25, 3) := by decide +kernel
theorem dX7_goesOver_27 : decode cX7_goesOver 27 = .ok (.aload_n 0, 1) := by decide +kernel
theorem dX7_goesOver_28 : decode cX7_goesOver 28 = .ok (.getfield 7, 3) := by decide +kernel
theorem dX7_goesOver_31 : decode cX7_goesOver 31 = .ok (.bipush 7, 2) := by decide +kernel
theorem dX7_goesOver_33 : decode cX7_goesOver 33 = .ok (.iload_n 2, 1) := by decide +kernel
theorem dX7_goesOver_34 : decode cX7_goesOver 34 = .ok (.iadd, 1) := by decide +kernel
theorem dX7_goesOver_35 : decode cX7_goesOver 35 = .ok (.iconst 0, 1) := by decide +kernel
theorem dX7_goesOver_36 : decode cX7_goesOver 36 = .ok (.iastore, 1) := by decide +kernel
theorem dX7_goesOver_37 : decode cX7_goesOver 37 = .ok (.aload_n 0, 1) := by decide +kernel
theorem dX7_goesOver_38 : decode cX7_goesOver 38 = .ok (.getfield 7, 3) := by decide +kernel
theorem dX7_goesOver_41 : decode cX7_goesOver 41 = .ok (.iconst 5, 1) := by decide +kernel
theorem dX7_goesOver_42 : decode cX7_goesOver 42 = .ok (.dup2, 1) := by decide +kernel
theorem dX7_goesOver_43 : decode cX7_goesOver 43 = .ok (.iaload, 1) := by decide +kernel
theorem dX7_goesOver_44 : decode cX7_goesOver 44 = .ok (.iconst 1, 1) := by decide +kernel
theorem dX7_goesOver_45 : decode cX7_goesOver 45 = .ok (.iadd, 1) := by decide +kernel
theorem dX7_goesOver_46 : decode cX7_goesOver 46 = .ok (.iastore, 1) := by decide +kernel
theorem dX7_goesOver_47 : decode cX7_goesOver 47 = .ok (.iconst 1, 1) := by decide +kernel
theorem dX7_goesOver_48 : decode cX7_goesOver 48 = .ok (.ireturn, 1) := by decide +kernel
theorem dX7_goesOver_49 : decode cX7_goesOver 49 = .ok (.aload_n 0, 1) := by decide +kernel
theorem dX7_goesOver_50 : decode cX7_goesOver 50 = .ok (.iload_n 2, 1) := by decide +kernel
theorem dX7_goesOver_51 : decode cX7_goesOver 51 = .ok (.iload_n 3, 1) := by decide +kernel
theorem dX7_goesOver_52 : decode cX7_goesOver 52 = .ok (.ineg, 1) := by decide +kernel
theorem dX7_goesOver_53 : decode cX7_goesOver 53 = .ok (.invokevirtual 54, 3) := by decide +kernel
theorem dX7_goesOver_56 : decode cX7_goesOver 56 = .ok (.iinc 2 1, 3) := by decide +kernel
theorem dX7_goesOver_59 : decode cX7_goesOver 59 = .ok (.goto (-57), 3) := by decide +kernel
theorem dX7_goesOver_62 : decode cX7_goesOver 62 = .ok (.aload_n 0, 1) := by decide +kernel
theorem dX7_goesOver_63 : decode cX7_goesOver 63 = .ok (.getfield 7, 3) := by decide +kernel
theorem dX7_goesOver_66 : decode cX7_goesOver 66 = .ok (.iconst 3, 1) := by decide +kernel
theorem dX7_goesOver_67 : decode cX7_goesOver 67 = .ok (.dup2, 1) := by decide +kernel
theorem dX7_goesOver_68 : decode cX7_goesOver 68 = .ok (.iaload, 1) := by decide +kernel
theorem dX7_goesOver_69 : decode cX7_goesOver 69 = .ok (.iconst 1, 1) := by decide +kernel
theorem dX7_goesOver_70 : decode cX7_goesOver 70 = .ok (.iadd, 1) := by decide +kernel
theorem dX7_goesOver_71 : decode cX7_goesOver 71 = .ok (.iastore, 1) := by decide +kernel
theorem dX7_goesOver_72 : decode cX7_goesOver 72 = .ok (.iconst 0, 1) := by decide +kernel
theorem dX7_goesOver_73 : decode cX7_goesOver 73 = .ok (.ireturn, 1) := by decide +kernel
theorem dX7_goesBy_0 : decode cX7_goesBy 0 = .ok (.aload_n 0, 1) := by decide +kernel
theorem dX7_goesBy_1 : decode cX7_goesBy 1 = .ok (.iconst 0, 1) := by decide +kernel
theorem dX7_goesBy_2 : decode cX7_goesBy 2 = .ok (.putfield 61, 3) := by decide +kernel
theorem dX7_goesBy_5 : decode cX7_goesBy 5 = .ok (.iconst 0, 1) := by decide +kernel
theorem dX7_goesBy_6 : decode cX7_goesBy 6 = .ok (.istore_n 1, 1) := by decide +kernel
theorem dX7_goesBy_7 : decode cX7_goesBy 7 = .ok (.iload_n 1, 1) := by decide +kernel
theorem dX7_goesBy_8 : decode cX7_goesBy 8 = .ok (.aload_n 0, 1) := by decide +kernel
theorem dX7_goesBy_9 : decode cX7_goesBy 9 = .ok (.getfield 7, 3) := by decide +kernel
theorem dX7_goesBy_12 : decode cX7_goesBy 12 = .ok (.iconst 0, 1) := by decide +kernel
theorem dX7_goesBy_13 : decode cX7_goesBy 13 = .ok (.iaload, 1) := by decide +kernel
theorem dX7_goesBy_14 : decode cX7_goesBy 14 = .ok (.if_icmp .ge 79, 3) := by decide +kernel
theorem dX7_goesBy_17 : decode cX7_goesBy 17 = .ok (.aload_n 0, 1) := by decide +kernel
theorem dX7_goesBy_18 : decode cX7_goesBy 18 = .ok (.iload_n 1, 1) := by decide +kernel
theorem dX7_goesBy_19 : decode cX7_goesBy 19 = .ok (.invokevirtual 65, 3) := by decide +kernel
theorem dX7_goesBy_22 : decode cX7_goesBy 22 = .ok (.ifCond .eq 33, 3) := by decide +kernel
theorem dX7_goesBy_25 : decode cX7_goesBy 25 = .ok (.aload_n 0, 1) := by decide +kernel
theorem dX7_goesBy_26 : decode cX7_goesBy 26 = .ok (.iload_n 1, 1) := by decide +kernel
theorem dX7_goesBy_27 : decode cX7_goesBy 27 = .ok (.invokevirtual 69, 3) := by decide +kernel
theorem dX7_goesBy_30 : decode cX7_goesBy 30 = .ok (.ifCond .eq 25, 3) := by decide +kernel
theorem dX7_goesBy_33 : decode cX7_goesBy 33 = .ok (.aload_n 0, 1) := by decide +kernel
theorem dX7_goesBy_34 : decode cX7_goesBy 34 = .ok (.getfield 7, 3) := by decide +kernel
theorem dX7_goesBy_37 : decode cX7_goesBy 37 = .ok (.iconst 4, 1) := by decide +kernel
theorem dX7_goesBy_38 : decode cX7_goesBy 38 = .ok (.dup2, 1) := by decide +kernel
theorem dX7_goesBy_39 : decode cX7_goesBy 39 = .ok (.iaload, 1) := by decide +kernel
theorem dX7_goesBy_40 : decode cX7_goesBy 40 = .ok (.iconst 1, 1) := by decide +kernel
theorem dX7_goesBy_41 : decode cX7_goesBy 41 = .ok (.iadd, 1) := by decide +kernel
theorem dX7_goesBy_42 : decode cX7_goesBy 42 = .ok (.iastore, 1) := by decide +kernel
theorem dX7_goesBy_43 : decode cX7_goesBy 43 = .ok (.aload_n 0, 1) := by decide +kernel
theorem dX7_goesBy_44 : decode cX7_goesBy 44 = .ok (.aload_n 0, 1) := by decide +kernel
theorem dX7_goesBy_45 : decode cX7_goesBy 45 = .ok (.iload_n 1, 1) := by decide +kernel
theorem dX7_goesBy_46 : decode cX7_goesBy 46 = .ok (.invokevirtual 72, 3) := by decide +kernel
theorem dX7_goesBy_49 : decode cX7_goesBy 49 = .ok (.invokevirtual 76, 3) := by decide +kernel
theorem dX7_goesBy_52 : decode cX7_goesBy 52 = .ok (.goto 35, 3) := by decide +kernel
theorem dX7_goesBy_55 : decode cX7_goesBy 55 = .ok (.aload_n 0, 1) := by decide +kernel
theorem dX7_goesBy_56 : decode cX7_goesBy 56 = .ok (.iload_n 1, 1) := by decide +kernel
theorem dX7_goesBy_57 : decode cX7_goesBy 57 = .ok (.invokevirtual 65, 3) := by decide +kernel
theorem dX7_goesBy_60 : decode cX7_goesBy 60 = .ok (.ifCond .eq 27, 3) := by decide +kernel
theorem dX7_goesBy_63 : decode cX7_goesBy 63 = .ok (.aload_n 0, 1) := by decide +kernel
theorem dX7_goesBy_64 : decode cX7_goesBy 64 = .ok (.dup, 1) := by decide +kernel
theorem dX7_goesBy_65 : decode cX7_goesBy 65 = .ok (.getfield 61, 3) := by decide +kernel
theorem dX7_goesBy_68 : decode cX7_goesBy 68 = .ok (.aload_n 0, 1) := by decide +kernel
theorem dX7_goesBy_69 : decode cX7_goesBy 69 = .ok (.iload_n 1, 1) := by decide +kernel
theorem dX7_goesBy_70 : decode cX7_goesBy 70 = .ok (.invokevirtual 80, 3) := by decide +kernel
theorem dX7_goesBy_73 : decode cX7_goesBy 73 = .ok (.ifCond .eq 9, 3) := by decide +kernel
theorem dX7_goesBy_76 : decode cX7_goesBy 76 = .ok (.iconst 1, 1) := by decide +kernel
theorem dX7_goesBy_77 : decode cX7_goesBy 77 = .ok (.iload_n 1, 1) := by decide +kernel
theorem dX7_goesBy_78 : decode cX7_goesBy 78 = .ok (.ishl, 1) := by decide +kernel
theorem dX7_goesBy_79 : decode cX7_goesBy 79 = .ok (.goto 4, 3) := by decide +kernel
theorem dX7_goesBy_82 : decode cX7_goesBy 82 = .ok (.iconst 0, 1) := by decide +kernel
theorem dX7_goesBy_83 : decode cX7_goesBy 83 = .ok (.ior, 1) := by decide +kernel
theorem dX7_goesBy_84 : decode cX7_goesBy 84 = .ok (.putfield 61, 3) := by decide +kernel
theorem dX7_goesBy_87 : decode cX7_goesBy 87 = .ok (.iinc 1 1, 3) := by decide +kernel
theorem dX7_goesBy_90 : decode cX7_goesBy 90 = .ok (.goto (-83), 3) := by decide +kernel
theorem dX7_goesBy_93 : decode cX7_goesBy 93 = .ok (.aload_n 0, 1) := by decide +kernel
theorem dX7_goesBy_94 : decode cX7_goesBy 94 = .ok (.getfield 7, 3) := by decide +kernel
theorem dX7_goesBy_97 : decode cX7_goesBy 97 = .ok (.iconst 1, 1) := by decide +kernel
theorem dX7_goesBy_98 : decode cX7_goesBy 98 = .ok (.dup2, 1) := by decide +kernel
theorem dX7_goesBy_99 : decode cX7_goesBy 99 = .ok (.iaload, 1) := by decide +kernel
theorem dX7_goesBy_100 : decode cX7_goesBy 100 = .ok (.iconst 1, 1) := by decide +kernel
theorem dX7_goesBy_101 : decode cX7_goesBy 101 = .ok (.iadd, 1) := by decide +kernel
theorem dX7_goesBy_102 : decode cX7_goesBy 102 = .ok (.iastore, 1) := by decide +kernel
theorem dX7_goesBy_103 : decode cX7_goesBy 103 = .ok (.return_, 1) := by decide +kernel
theorem dX7_goesOn_0 : decode cX7_goesOn 0 = .ok (.iconst 0, 1) := by decide +kernel
theorem dX7_goesOn_1 : decode cX7_goesOn 1 = .ok (.istore_n 2, 1) := by decide +kernel
theorem dX7_goesOn_2 : decode cX7_goesOn 2 = .ok (.iload_n 2, 1) := by decide +kernel
theorem dX7_goesOn_3 : decode cX7_goesOn 3 = .ok (.iload_n 1, 1) := by decide +kernel
theorem dX7_goesOn_4 : decode cX7_goesOn 4 = .ok (.if_icmp .ge 13, 3) := by decide +kernel
theorem dX7_goesOn_7 : decode cX7_goesOn 7 = .ok (.aload_n 0, 1) := by decide +kernel
theorem dX7_goesOn_8 : decode cX7_goesOn 8 = .ok (.invokevirtual 83, 3) := by decide +kernel
theorem dX7_goesOn_11 : decode cX7_goesOn 11 = .ok (.iinc 2 1, 3) := by decide +kernel
theorem dX7_goesOn_14 : decode cX7_goesOn 14 = .ok (.goto (-12), 3) := by decide +kernel
theorem dX7_goesOn_17 : decode cX7_goesOn 17 = .ok (.return_, 1) := by decide +kernel
theorem dX7_personComes_0 : decode cX7_personComes 0 = .ok (.bipush 11, 2) := by decide +kernel
theorem dX7_personComes_2 : decode cX7_personComes 2 = .ok (.iconst 3, 1) := by decide +kernel
theorem dX7_personComes_3 : decode cX7_personComes 3 = .ok (.aload_n 0, 1) := by decide +kernel
theorem dX7_personComes_4 : decode cX7_personComes 4 = .ok (.getfield 7, 3) := by decide +kernel
theorem dX7_personComes_7 : decode cX7_personComes 7 = .ok (.iconst 0, 1) := by decide +kernel
theorem dX7_personComes_8 : decode cX7_personComes 8 = .ok (.iaload, 1) := by decide +kernel
theorem dX7_personComes_9 : decode cX7_personComes 9 = .ok (.imul, 1) := by decide +kernel
theorem dX7_personComes_10 : decode cX7_personComes 10 = .ok (.iadd, 1) := by decide +kernel
theorem dX7_personComes_11 : decode cX7_personComes 11 = .ok (.istore 4, 2) := by decide +kernel
theorem dX7_personComes_13 : decode cX7_personComes 13 = .ok (.aload_n 0, 1) := by decide +kernel
theorem dX7_personComes_14 : decode cX7_personComes 14 = .ok (.getfield 7, 3) := by decide +kernel
theorem dX7_personComes_17 : decode cX7_personComes 17 = .ok (.iload 4, 2) := by decide +kernel
theorem dX7_personComes_19 : decode cX7_personComes 19 = .ok (.iload_n 1, 1) := by decide +kernel
theorem dX7_personComes_20 : decode cX7_personComes 20 = .ok (.iastore, 1) := by decide +kernel
theorem dX7_personComes_21 : decode cX7_personComes 21 = .ok (.aload_n 0, 1) := by decide +kernel
theorem dX7_personComes_22 : decode cX7_personComes 22 = .ok (.getfield 7, 3) := by decide +kernel
theorem dX7_personComes_25 : decode cX7_personComes 25 = .ok (.iload 4, 2) := by decide +kernel
theorem dX7_personComes_27 : decode cX7_personComes 27 = .ok (.iconst 1, 1) := by decide +kernel
theorem dX7_personComes_28 : decode cX7_personComes 28 = .ok (.iadd, 1) := by decide +kernel
theorem dX7_personComes_29 : decode cX7_personComes 29 = .ok (.iload_n 2, 1) := by decide +kernel
theorem dX7_personComes_30 : decode cX7_personComes 30 = .ok (.iastore, 1) := by decide +kernel
theorem dX7_personComes_31 : decode cX7_personComes 31 = .ok (.aload_n 0, 1) := by decide +kernel
theorem dX7_personComes_32 : decode cX7_personComes 32 = .ok (.getfield 7, 3) := by decide +kernel
theorem dX7_personComes_35 : decode cX7_personComes 35 = .ok (.iload 4, 2) := by decide +kernel
theorem dX7_personComes_37 : decode cX7_personComes 37 = .ok (.iconst 2, 1) := by decide +kernel
theorem dX7_personComes_38 : decode cX7_personComes 38 = .ok (.iadd, 1) := by decide +kernel
theorem dX7_personComes_39 : decode cX7_personComes 39 = .ok (.iload_n 3, 1) := by decide +kernel
theorem dX7_personComes_40 : decode cX7_personComes 40 = .ok (.iastore, 1) := by decide +kernel
theorem dX7_personComes_41 : decode cX7_personComes 41 = .ok (.aload_n 0, 1) := by decide +kernel
theorem dX7_personComes_42 : decode cX7_personComes 42 = .ok (.getfield 7, 3) := by decide +kernel
theorem dX7_personComes_45 : decode cX7_personComes 45 = .ok (.iconst 0, 1) := by decide +kernel
theorem dX7_personComes_46 : decode cX7_personComes 46 = .ok (.dup2, 1) := by decide +kernel
theorem dX7_personComes_47 : decode cX7_personComes 47 = .ok (.iaload, 1) := by decide +kernel
theorem dX7_personComes_48 : decode cX7_personComes 48 = .ok (.iconst 1, 1) := by decide +kernel
theorem dX7_personComes_49 : decode cX7_personComes 49 = .ok (.iadd, 1) := by decide +kernel
theorem dX7_personComes_50 : decode cX7_personComes 50 = .ok (.iastore, 1) := by decide +kernel
theorem dX7_personComes_51 : decode cX7_personComes 51 = .ok (.aload_n 0, 1) := by decide +kernel
theorem dX7_personComes_52 : decode cX7_personComes 52 = .ok (.iconst 0, 1) := by decide +kernel
theorem dX7_personComes_53 : decode cX7_personComes 53 = .ok (.putfield 86, 3) := by decide +kernel
theorem dX7_personComes_56 : decode cX7_personComes 56 = .ok (.return_, 1) := by decide +kernel
theorem dX7_traveller_0 : decode cX7_traveller 0 = .ok (.iload_n 1, 1) := by decide +kernel
theorem dX7_traveller_1 : decode cX7_traveller 1 = .ok (.i2l, 1) := by decide +kernel
theorem dX7_traveller_2 : decode cX7_traveller 2 = .ok (.lconst 0, 1) := by decide +kernel
theorem dX7_traveller_3 : decode cX7_traveller 3 = .ok (.ldc2_w 89, 3) := by decide +kernel
theorem dX7_traveller_6 : decode cX7_traveller 6 = .ok (.invokestatic 44, 3) := by decide +kernel
theorem dX7_traveller_9 : decode cX7_traveller 9 = .ok (.ifCond .eq 27, 3) := by decide +kernel
theorem dX7_traveller_12 : decode cX7_traveller 12 = .ok (.iload_n 2, 1) := by decide +kernel
theorem dX7_traveller_13 : decode cX7_traveller 13 = .ok (.i2l, 1) := by decide +kernel
theorem dX7_traveller_14 : decode cX7_traveller 14 = .ok (.lconst 0, 1) := by decide +kernel
theorem dX7_traveller_15 : decode cX7_traveller 15 = .ok (.ldc2_w 91, 3) := by decide +kernel
theorem dX7_traveller_18 : decode cX7_traveller 18 = .ok (.invokestatic 44, 3) := by decide +kernel
theorem dX7_traveller_21 : decode cX7_traveller 21 = .ok (.ifCond .eq 15, 3) := by decide +kernel
theorem dX7_traveller_24 : decode cX7_traveller 24 = .ok (.iload_n 3, 1) := by decide +kernel
theorem dX7_traveller_25 : decode cX7_traveller 25 = .ok (.i2l, 1) := by decide +kernel
theorem dX7_traveller_26 : decode cX7_traveller 26 = .ok (.lconst 1, 1) := by decide +kernel
theorem dX7_traveller_27 : decode cX7_traveller 27 = .ok (.ldc2_w 93, 3) := by decide +kernel
theorem dX7_traveller_30 : decode cX7_traveller 30 = .ok (.invokestatic 44, 3) := by decide +kernel
theorem dX7_traveller_33 : decode cX7_traveller 33 = .ok (.ifCond .ne 5, 3) := by decide +kernel
theorem dX7_traveller_36 : decode cX7_traveller 36 = .ok (.iconst (-1), 1) := by decide +kernel
theorem dX7_traveller_37 : decode cX7_traveller 37 = .ok (.ireturn, 1) := by decide +kernel
theorem dX7_traveller_38 : decode cX7_traveller 38 = .ok (.aload_n 0, 1) := by decide +kernel
theorem dX7_traveller_39 : decode cX7_traveller 39 = .ok (.getfield 7, 3) := by decide +kernel
theorem dX7_traveller_42 : decode cX7_traveller 42 = .ok (.iconst 0, 1) := by decide +kernel
theorem dX7_traveller_43 : decode cX7_traveller 43 = .ok (.iaload, 1) := by decide +kernel
theorem dX7_traveller_44 : decode cX7_traveller 44 = .ok (.bipush 6, 2) := by decide +kernel
theorem dX7_traveller_46 : decode cX7_traveller 46 = .ok (.if_icmp .ne 6, 3) := by decide +kernel
theorem dX7_traveller_49 : decode cX7_traveller 49 = .ok (.bipush (-3), 2) := by decide +kernel
theorem dX7_traveller_51 : decode cX7_traveller 51 = .ok (.ireturn, 1) := by decide +kernel
theorem dX7_traveller_52 : decode cX7_traveller 52 = .ok (.aload_n 0, 1) := by decide +kernel
theorem dX7_traveller_53 : decode cX7_traveller 53 = .ok (.iload_n 1, 1) := by decide +kernel
theorem dX7_traveller_54 : decode cX7_traveller 54 = .ok (.iload_n 2, 1) := by decide +kernel
theorem dX7_traveller_55 : decode cX7_traveller 55 = .ok (.iload_n 3, 1) := by decide +kernel
theorem dX7_traveller_56 : decode cX7_traveller 56 = .ok (.invokevirtual 95, 3) := by decide +kernel
theorem dX7_traveller_59 : decode cX7_traveller 59 = .ok (.aload_n 0, 1) := by decide +kernel
theorem dX7_traveller_60 : decode cX7_traveller 60 = .ok (.getfield 7, 3) := by decide +kernel
theorem dX7_traveller_63 : decode cX7_traveller 63 = .ok (.iconst 0, 1) := by decide +kernel
theorem dX7_traveller_64 : decode cX7_traveller 64 = .ok (.iaload, 1) := by decide +kernel
theorem dX7_traveller_65 : decode cX7_traveller 65 = .ok (.iconst 1, 1) := by decide +kernel
theorem dX7_traveller_66 : decode cX7_traveller 66 = .ok (.isub, 1) := by decide +kernel
theorem dX7_traveller_67 : decode cX7_traveller 67 = .ok (.ireturn, 1) := by decide +kernel
theorem dX7_of_0 : decode cX7_of 0 = .ok (.aload_n 0, 1) := by decide +kernel
theorem dX7_of_1 : decode cX7_of 1 = .ok (.iload_n 1, 1) := by decide +kernel
theorem dX7_of_2 : decode cX7_of 2 = .ok (.invokevirtual 99, 3) := by decide +kernel
theorem dX7_of_5 : decode cX7_of 5 = .ok (.ifCond .ne 5, 3) := by decide +kernel
theorem dX7_of_8 : decode cX7_of 8 = .ok (.iconst (-1), 1) := by decide +kernel
theorem dX7_of_9 : decode cX7_of 9 = .ok (.ireturn, 1) := by decide +kernel
theorem dX7_of_10 : decode cX7_of 10 = .ok (.iload_n 2, 1) := by decide +kernel
theorem dX7_of_11 : decode cX7_of 11 = .ok (.tableswitch 78 0 5 #[37, 37, 37, 44, 58, 72], 37) := by decide +kernel
theorem dX7_of_48 : decode cX7_of 48 = .ok (.aload_n 0, 1) := by decide +kernel
theorem dX7_of_49 : decode cX7_of 49 = .ok (.iload_n 1, 1) := by decide +kernel
theorem dX7_of_50 : decode cX7_of 50 = .ok (.iload_n 2, 1) := by decide +kernel
theorem dX7_of_51 : decode cX7_of 51 = .ok (.invokevirtual 50, 3) := by decide +kernel
theorem dX7_of_54 : decode cX7_of 54 = .ok (.ireturn, 1) := by decide +kernel
theorem dX7_of_55 : decode cX7_of 55 = .ok (.aload_n 0, 1) := by decide +kernel
theorem dX7_of_56 : decode cX7_of 56 = .ok (.iload_n 1, 1) := by decide +kernel
theorem dX7_of_57 : decode cX7_of 57 = .ok (.invokevirtual 65, 3) := by decide +kernel
theorem dX7_of_60 : decode cX7_of 60 = .ok (.ifCond .eq 7, 3) := by decide +kernel
theorem dX7_of_63 : decode cX7_of 63 = .ok (.iconst 1, 1) := by decide +kernel
theorem dX7_of_64 : decode cX7_of 64 = .ok (.goto 4, 3) := by decide +kernel
theorem dX7_of_67 : decode cX7_of 67 = .ok (.iconst 0, 1) := by decide +kernel
theorem dX7_of_68 : decode cX7_of 68 = .ok (.ireturn, 1) := by decide +kernel
theorem dX7_of_69 : decode cX7_of 69 = .ok (.aload_n 0, 1) := by decide +kernel
theorem dX7_of_70 : decode cX7_of 70 = .ok (.iload_n 1, 1) := by decide +kernel
theorem dX7_of_71 : decode cX7_of 71 = .ok (.invokevirtual 69, 3) := by decide +kernel
theorem dX7_of_74 : decode cX7_of 74 = .ok (.ifCond .eq 7, 3) := by decide +kernel
theorem dX7_of_77 : decode cX7_of 77 = .ok (.iconst 1, 1) := by decide +kernel
theorem dX7_of_78 : decode cX7_of 78 = .ok (.goto 4, 3) := by decide +kernel
theorem dX7_of_81 : decode cX7_of 81 = .ok (.iconst 0, 1) := by decide +kernel
theorem dX7_of_82 : decode cX7_of 82 = .ok (.ireturn, 1) := by decide +kernel
theorem dX7_of_83 : decode cX7_of 83 = .ok (.aload_n 0, 1) := by decide +kernel
theorem dX7_of_84 : decode cX7_of 84 = .ok (.iload_n 1, 1) := by decide +kernel
theorem dX7_of_85 : decode cX7_of 85 = .ok (.invokevirtual 72, 3) := by decide +kernel
theorem dX7_of_88 : decode cX7_of 88 = .ok (.ireturn, 1) := by decide +kernel
theorem dX7_of_89 : decode cX7_of 89 = .ok (.iconst (-1), 1) := by decide +kernel
theorem dX7_of_90 : decode cX7_of 90 = .ok (.ireturn, 1) := by decide +kernel
theorem dX7_wears_0 : decode cX7_wears 0 = .ok (.aload_n 0, 1) := by decide +kernel
theorem dX7_wears_1 : decode cX7_wears 1 = .ok (.iload_n 1, 1) := by decide +kernel
theorem dX7_wears_2 : decode cX7_wears 2 = .ok (.invokevirtual 99, 3) := by decide +kernel
theorem dX7_wears_5 : decode cX7_wears 5 = .ok (.ifCond .eq 19, 3) := by decide +kernel
theorem dX7_wears_8 : decode cX7_wears 8 = .ok (.iload_n 2, 1) := by decide +kernel
theorem dX7_wears_9 : decode cX7_wears 9 = .ok (.invokestatic 102, 3) := by decide +kernel
theorem dX7_wears_12 : decode cX7_wears 12 = .ok (.ifCond .eq 12, 3) := by decide +kernel
theorem dX7_wears_15 : decode cX7_wears 15 = .ok (.aload_n 0, 1) := by decide +kernel
theorem dX7_wears_16 : decode cX7_wears 16 = .ok (.iload_n 1, 1) := by decide +kernel
theorem dX7_wears_17 : decode cX7_wears 17 = .ok (.iload_n 2, 1) := by decide +kernel
theorem dX7_wears_18 : decode cX7_wears 18 = .ok (.invokevirtual 58, 3) := by decide +kernel
theorem dX7_wears_21 : decode cX7_wears 21 = .ok (.goto 4, 3) := by decide +kernel
theorem dX7_wears_24 : decode cX7_wears 24 = .ok (.iconst (-1), 1) := by decide +kernel
theorem dX7_wears_25 : decode cX7_wears 25 = .ok (.ireturn, 1) := by decide +kernel
theorem dX7_stones_0 : decode cX7_stones 0 = .ok (.iload_n 1, 1) := by decide +kernel
theorem dX7_stones_1 : decode cX7_stones 1 = .ok (.invokestatic 102, 3) := by decide +kernel
theorem dX7_stones_4 : decode cX7_stones 4 = .ok (.ifCond .eq 15, 3) := by decide +kernel
theorem dX7_stones_7 : decode cX7_stones 7 = .ok (.aload_n 0, 1) := by decide +kernel
theorem dX7_stones_8 : decode cX7_stones 8 = .ok (.getfield 7, 3) := by decide +kernel
theorem dX7_stones_11 : decode cX7_stones 11 = .ok (.bipush 7, 2) := by decide +kernel
theorem dX7_stones_13 : decode cX7_stones 13 = .ok (.iload_n 1, 1) := by decide +kernel
theorem dX7_stones_14 : decode cX7_stones 14 = .ok (.iadd, 1) := by decide +kernel
theorem dX7_stones_15 : decode cX7_stones 15 = .ok (.iaload, 1) := by decide +kernel
theorem dX7_stones_16 : decode cX7_stones 16 = .ok (.goto 4, 3) := by decide +kernel
theorem dX7_stones_19 : decode cX7_stones 19 = .ok (.iconst (-1), 1) := by decide +kernel
theorem dX7_stones_20 : decode cX7_stones 20 = .ok (.ireturn, 1) := by decide +kernel
theorem dX7_holes_0 : decode cX7_holes 0 = .ok (.iconst 0, 1) := by decide +kernel
theorem dX7_holes_1 : decode cX7_holes 1 = .ok (.istore_n 1, 1) := by decide +kernel
theorem dX7_holes_2 : decode cX7_holes 2 = .ok (.iconst 0, 1) := by decide +kernel
theorem dX7_holes_3 : decode cX7_holes 3 = .ok (.istore_n 2, 1) := by decide +kernel
theorem dX7_holes_4 : decode cX7_holes 4 = .ok (.iload_n 2, 1) := by decide +kernel
theorem dX7_holes_5 : decode cX7_holes 5 = .ok (.iconst 4, 1) := by decide +kernel
theorem dX7_holes_6 : decode cX7_holes 6 = .ok (.if_icmp .ge 31, 3) := by decide +kernel
theorem dX7_holes_9 : decode cX7_holes 9 = .ok (.iload_n 1, 1) := by decide +kernel
theorem dX7_holes_10 : decode cX7_holes 10 = .ok (.aload_n 0, 1) := by decide +kernel
theorem dX7_holes_11 : decode cX7_holes 11 = .ok (.getfield 7, 3) := by decide +kernel
theorem dX7_holes_14 : decode cX7_holes 14 = .ok (.bipush 7, 2) := by decide +kernel
theorem dX7_holes_16 : decode cX7_holes 16 = .ok (.iload_n 2, 1) := by decide +kernel
theorem dX7_holes_17 : decode cX7_holes 17 = .ok (.iadd, 1) := by decide +kernel
theorem dX7_holes_18 : decode cX7_holes 18 = .ok (.iaload, 1) := by decide +kernel
theorem dX7_holes_19 : decode cX7_holes 19 = .ok (.ifCond .ne 9, 3) := by decide +kernel
theorem dX7_holes_22 : decode cX7_holes 22 = .ok (.iconst 1, 1) := by decide +kernel
theorem dX7_holes_23 : decode cX7_holes 23 = .ok (.iload_n 2, 1) := by decide +kernel
theorem dX7_holes_24 : decode cX7_holes 24 = .ok (.ishl, 1) := by decide +kernel
theorem dX7_holes_25 : decode cX7_holes 25 = .ok (.goto 4, 3) := by decide +kernel
theorem dX7_holes_28 : decode cX7_holes 28 = .ok (.iconst 0, 1) := by decide +kernel
theorem dX7_holes_29 : decode cX7_holes 29 = .ok (.ior, 1) := by decide +kernel
theorem dX7_holes_30 : decode cX7_holes 30 = .ok (.istore_n 1, 1) := by decide +kernel
theorem dX7_holes_31 : decode cX7_holes 31 = .ok (.iinc 2 1, 3) := by decide +kernel
theorem dX7_holes_34 : decode cX7_holes 34 = .ok (.goto (-30), 3) := by decide +kernel
theorem dX7_holes_37 : decode cX7_holes 37 = .ok (.iload_n 1, 1) := by decide +kernel
theorem dX7_holes_38 : decode cX7_holes 38 = .ok (.ireturn, 1) := by decide +kernel
theorem dX7_count_0 : decode cX7_count 0 = .ok (.iload_n 1, 1) := by decide +kernel
theorem dX7_count_1 : decode cX7_count 1 = .ok (.tableswitch 100 0 8 #[51, 51, 51, 51, 51, 51, 58, 90, 95], 51) := by decide +kernel
theorem dX7_count_52 : decode cX7_count 52 = .ok (.aload_n 0, 1) := by decide +kernel
theorem dX7_count_53 : decode cX7_count 53 = .ok (.getfield 7, 3) := by decide +kernel
theorem dX7_count_56 : decode cX7_count 56 = .ok (.iload_n 1, 1) := by decide +kernel
theorem dX7_count_57 : decode cX7_count 57 = .ok (.iaload, 1) := by decide +kernel
theorem dX7_count_58 : decode cX7_count 58 = .ok (.ireturn, 1) := by decide +kernel
theorem dX7_count_59 : decode cX7_count 59 = .ok (.aload_n 0, 1) := by decide +kernel
theorem dX7_count_60 : decode cX7_count 60 = .ok (.getfield 7, 3) := by decide +kernel
theorem dX7_count_63 : decode cX7_count 63 = .ok (.bipush 7, 2) := by decide +kernel
theorem dX7_count_65 : decode cX7_count 65 = .ok (.iaload, 1) := by decide +kernel
theorem dX7_count_66 : decode cX7_count 66 = .ok (.aload_n 0, 1) := by decide +kernel
theorem dX7_count_67 : decode cX7_count 67 = .ok (.getfield 7, 3) := by decide +kernel
theorem dX7_count_70 : decode cX7_count 70 = .ok (.bipush 8, 2) := by decide +kernel
theorem dX7_count_72 : decode cX7_count 72 = .ok (.iaload, 1) := by decide +kernel
theorem dX7_count_73 : decode cX7_count 73 = .ok (.iadd, 1) := by decide +kernel
theorem dX7_count_74 : decode cX7_count 74 = .ok (.aload_n 0, 1) := by decide +kernel
theorem dX7_count_75 : decode cX7_count 75 = .ok (.getfield 7, 3) := by decide +kernel
theorem dX7_count_78 : decode cX7_count 78 = .ok (.bipush 9, 2) := by decide +kernel
theorem dX7_count_80 : decode cX7_count 80 = .ok (.iaload, 1) := by decide +kernel
theorem dX7_count_81 : decode cX7_count 81 = .ok (.iadd, 1) := by decide +kernel
theorem dX7_count_82 : decode cX7_count 82 = .ok (.aload_n 0, 1) := by decide +kernel
theorem dX7_count_83 : decode cX7_count 83 = .ok (.getfield 7, 3) := by decide +kernel
theorem dX7_count_86 : decode cX7_count 86 = .ok (.bipush 10, 2) := by decide +kernel
theorem dX7_count_88 : decode cX7_count 88 = .ok (.iaload, 1) := by decide +kernel
theorem dX7_count_89 : decode cX7_count 89 = .ok (.iadd, 1) := by decide +kernel
theorem dX7_count_90 : decode cX7_count 90 = .ok (.ireturn, 1) := by decide +kernel
theorem dX7_count_91 : decode cX7_count 91 = .ok (.aload_n 0, 1) := by decide +kernel
theorem dX7_count_92 : decode cX7_count 92 = .ok (.invokevirtual 105, 3) := by decide +kernel
theorem dX7_count_95 : decode cX7_count 95 = .ok (.ireturn, 1) := by decide +kernel
theorem dX7_count_96 : decode cX7_count 96 = .ok (.aload_n 0, 1) := by decide +kernel
theorem dX7_count_97 : decode cX7_count 97 = .ok (.getfield 86, 3) := by decide +kernel
theorem dX7_count_100 : decode cX7_count 100 = .ok (.ireturn, 1) := by decide +kernel
theorem dX7_count_101 : decode cX7_count 101 = .ok (.iconst (-1), 1) := by decide +kernel
theorem dX7_count_102 : decode cX7_count 102 = .ok (.ireturn, 1) := by decide +kernel
theorem dX7_type_0 : decode cX7_type 0 = .ok (.iload_n 1, 1) := by decide +kernel
theorem dX7_type_1 : decode cX7_type 1 = .ok (.i2l, 1) := by decide +kernel
theorem dX7_type_2 : decode cX7_type 2 = .ok (.ldc2_w 109, 3) := by decide +kernel
theorem dX7_type_5 : decode cX7_type 5 = .ok (.ldc2_w 111, 3) := by decide +kernel
theorem dX7_type_8 : decode cX7_type 8 = .ok (.invokestatic 44, 3) := by decide +kernel
theorem dX7_type_11 : decode cX7_type 11 = .ok (.ifCond .ne 5, 3) := by decide +kernel
theorem dX7_type_14 : decode cX7_type 14 = .ok (.iconst (-1), 1) := by decide +kernel
theorem dX7_type_15 : decode cX7_type 15 = .ok (.ireturn, 1) := by decide +kernel
theorem dX7_type_16 : decode cX7_type 16 = .ok (.aload_n 0, 1) := by decide +kernel
theorem dX7_type_17 : decode cX7_type 17 = .ok (.getfield 113, 3) := by decide +kernel
theorem dX7_type_20 : decode cX7_type 20 = .ok (.bipush 80, 2) := by decide +kernel
theorem dX7_type_22 : decode cX7_type 22 = .ok (.if_icmp .ne 6, 3) := by decide +kernel
theorem dX7_type_25 : decode cX7_type 25 = .ok (.bipush (-3), 2) := by decide +kernel
theorem dX7_type_27 : decode cX7_type 27 = .ok (.ireturn, 1) := by decide +kernel
theorem dX7_type_28 : decode cX7_type 28 = .ok (.aload_n 0, 1) := by decide +kernel
theorem dX7_type_29 : decode cX7_type 29 = .ok (.getfield 13, 3) := by decide +kernel
theorem dX7_type_32 : decode cX7_type 32 = .ok (.aload_n 0, 1) := by decide +kernel
theorem dX7_type_33 : decode cX7_type 33 = .ok (.getfield 113, 3) := by decide +kernel
theorem dX7_type_36 : decode cX7_type 36 = .ok (.iload_n 1, 1) := by decide +kernel
theorem dX7_type_37 : decode cX7_type 37 = .ok (.iastore, 1) := by decide +kernel
theorem dX7_type_38 : decode cX7_type 38 = .ok (.aload_n 0, 1) := by decide +kernel
theorem dX7_type_39 : decode cX7_type 39 = .ok (.dup, 1) := by decide +kernel
theorem dX7_type_40 : decode cX7_type 40 = .ok (.getfield 113, 3) := by decide +kernel
theorem dX7_type_43 : decode cX7_type 43 = .ok (.iconst 1, 1) := by decide +kernel
theorem dX7_type_44 : decode cX7_type 44 = .ok (.iadd, 1) := by decide +kernel
theorem dX7_type_45 : decode cX7_type 45 = .ok (.putfield 113, 3) := by decide +kernel
theorem dX7_type_48 : decode cX7_type 48 = .ok (.aload_n 0, 1) := by decide +kernel
theorem dX7_type_49 : decode cX7_type 49 = .ok (.getfield 113, 3) := by decide +kernel
theorem dX7_type_52 : decode cX7_type 52 = .ok (.ireturn, 1) := by decide +kernel
theorem dX7_here_0 : decode cX7_here 0 = .ok (.aload_n 0, 1) := by decide +kernel
theorem dX7_here_1 : decode cX7_here 1 = .ok (.getfield 116, 3) := by decide +kernel
theorem dX7_here_4 : decode cX7_here 4 = .ok (.aload_n 0, 1) := by decide +kernel
theorem dX7_here_5 : decode cX7_here 5 = .ok (.getfield 113, 3) := by decide +kernel
theorem dX7_here_8 : decode cX7_here 8 = .ok (.if_icmp .ge 30, 3) := by decide +kernel
theorem dX7_here_11 : decode cX7_here 11 = .ok (.aload_n 0, 1) := by decide +kernel
theorem dX7_here_12 : decode cX7_here 12 = .ok (.getfield 13, 3) := by decide +kernel
theorem dX7_here_15 : decode cX7_here 15 = .ok (.aload_n 0, 1) := by decide +kernel
theorem dX7_here_16 : decode cX7_here 16 = .ok (.getfield 116, 3) := by decide +kernel
theorem dX7_here_19 : decode cX7_here 19 = .ok (.iaload, 1) := by decide +kernel
theorem dX7_here_20 : decode cX7_here 20 = .ok (.bipush 32, 2) := by decide +kernel
theorem dX7_here_22 : decode cX7_here 22 = .ok (.if_icmp .ne 16, 3) := by decide +kernel
theorem dX7_here_25 : decode cX7_here 25 = .ok (.aload_n 0, 1) := by decide +kernel
theorem dX7_here_26 : decode cX7_here 26 = .ok (.dup, 1) := by decide +kernel
theorem dX7_here_27 : decode cX7_here 27 = .ok (.getfield 116, 3) := by decide +kernel
theorem dX7_here_30 : decode cX7_here 30 = .ok (.iconst 1, 1) := by decide +kernel
theorem dX7_here_31 : decode cX7_here 31 = .ok (.iadd, 1) := by decide +kernel
theorem dX7_here_32 : decode cX7_here 32 = .ok (.putfield 116, 3) := by decide +kernel
theorem dX7_here_35 : decode cX7_here 35 = .ok (.goto (-35), 3) := by decide +kernel
theorem dX7_here_38 : decode cX7_here 38 = .ok (.aload_n 0, 1) := by decide +kernel
theorem dX7_here_39 : decode cX7_here 39 = .ok (.getfield 116, 3) := by decide +kernel
theorem dX7_here_42 : decode cX7_here 42 = .ok (.aload_n 0, 1) := by decide +kernel
theorem dX7_here_43 : decode cX7_here 43 = .ok (.getfield 113, 3) := by decide +kernel
theorem dX7_here_46 : decode cX7_here 46 = .ok (.if_icmp .ge 15, 3) := by decide +kernel
theorem dX7_here_49 : decode cX7_here 49 = .ok (.aload_n 0, 1) := by decide +kernel
theorem dX7_here_50 : decode cX7_here 50 = .ok (.getfield 13, 3) := by decide +kernel
theorem dX7_here_53 : decode cX7_here 53 = .ok (.aload_n 0, 1) := by decide +kernel
theorem dX7_here_54 : decode cX7_here 54 = .ok (.getfield 116, 3) := by decide +kernel
theorem dX7_here_57 : decode cX7_here 57 = .ok (.iaload, 1) := by decide +kernel
theorem dX7_here_58 : decode cX7_here 58 = .ok (.goto 4, 3) := by decide +kernel
theorem dX7_here_61 : decode cX7_here 61 = .ok (.iconst 0, 1) := by decide +kernel
theorem dX7_here_62 : decode cX7_here 62 = .ok (.ireturn, 1) := by decide +kernel
theorem dX7_must_0 : decode cX7_must 0 = .ok (.aload_n 0, 1) := by decide +kernel
theorem dX7_must_1 : decode cX7_must 1 = .ok (.aload_n 0, 1) := by decide +kernel
theorem dX7_must_2 : decode cX7_must 2 = .ok (.getfield 119, 3) := by decide +kernel
theorem dX7_must_5 : decode cX7_must 5 = .ok (.ifCond .ne 7, 3) := by decide +kernel
theorem dX7_must_8 : decode cX7_must 8 = .ok (.iload_n 1, 1) := by decide +kernel
theorem dX7_must_9 : decode cX7_must 9 = .ok (.ifCond .ne 7, 3) := by decide +kernel
theorem dX7_must_12 : decode cX7_must 12 = .ok (.iconst 1, 1) := by decide +kernel
theorem dX7_must_13 : decode cX7_must 13 = .ok (.goto 4, 3) := by decide +kernel
theorem dX7_must_16 : decode cX7_must 16 = .ok (.iconst 0, 1) := by decide +kernel
theorem dX7_must_17 : decode cX7_must 17 = .ok (.putfield 119, 3) := by decide +kernel
theorem dX7_must_20 : decode cX7_must 20 = .ok (.aload_n 0, 1) := by decide +kernel
theorem dX7_must_21 : decode cX7_must 21 = .ok (.dup, 1) := by decide +kernel
theorem dX7_must_22 : decode cX7_must 22 = .ok (.getfield 116, 3) := by decide +kernel
theorem dX7_must_25 : decode cX7_must 25 = .ok (.aload_n 0, 1) := by decide +kernel
theorem dX7_must_26 : decode cX7_must 26 = .ok (.getfield 119, 3) := by decide +kernel
theorem dX7_must_29 : decode cX7_must 29 = .ok (.ifCond .eq 7, 3) := by decide +kernel
theorem dX7_must_32 : decode cX7_must 32 = .ok (.iconst 0, 1) := by decide +kernel
theorem dX7_must_33 : decode cX7_must 33 = .ok (.goto 4, 3) := by decide +kernel
theorem dX7_must_36 : decode cX7_must 36 = .ok (.iconst 1, 1) := by decide +kernel
theorem dX7_must_37 : decode cX7_must 37 = .ok (.iadd, 1) := by decide +kernel
theorem dX7_must_38 : decode cX7_must 38 = .ok (.putfield 116, 3) := by decide +kernel
theorem dX7_must_41 : decode cX7_must 41 = .ok (.return_, 1) := by decide +kernel
theorem dX7_number_0 : decode cX7_number 0 = .ok (.aload_n 0, 1) := by decide +kernel
theorem dX7_number_1 : decode cX7_number 1 = .ok (.getfield 119, 3) := by decide +kernel
theorem dX7_number_4 : decode cX7_number 4 = .ok (.ifCond .eq 7, 3) := by decide +kernel
theorem dX7_number_7 : decode cX7_number 7 = .ok (.iconst 0, 1) := by decide +kernel
theorem dX7_number_8 : decode cX7_number 8 = .ok (.goto 7, 3) := by decide +kernel
theorem dX7_number_11 : decode cX7_number 11 = .ok (.aload_n 0, 1) := by decide +kernel
theorem dX7_number_12 : decode cX7_number 12 = .ok (.invokevirtual 123, 3) := by decide +kernel
theorem dX7_number_15 : decode cX7_number 15 = .ok (.istore_n 2, 1) := by decide +kernel
theorem dX7_number_16 : decode cX7_number 16 = .ok (.aload_n 0, 1) := by decide +kernel
theorem dX7_number_17 : decode cX7_number 17 = .ok (.getfield 116, 3) := by decide +kernel
theorem dX7_number_20 : decode cX7_number 20 = .ok (.istore_n 3, 1) := by decide +kernel
theorem dX7_number_21 : decode cX7_number 21 = .ok (.iconst 0, 1) := by decide +kernel
theorem dX7_number_22 : decode cX7_number 22 = .ok (.istore 4, 2) := by decide +kernel
theorem dX7_number_24 : decode cX7_number 24 = .ok (.aload_n 0, 1) := by decide +kernel
theorem dX7_number_25 : decode cX7_number 25 = .ok (.aload_n 0, 1) := by decide +kernel
theorem dX7_number_26 : decode cX7_number 26 = .ok (.getfield 119, 3) := by decide +kernel
theorem dX7_number_29 : decode cX7_number 29 = .ok (.ifCond .ne 17, 3) := by decide +kernel
theorem dX7_number_32 : decode cX7_number 32 = .ok (.iload_n 2, 1) := by decide +kernel
theorem dX7_number_33 : decode cX7_number 33 = .ok (.i2l, 1) := by decide +kernel
theorem dX7_number_34 : decode cX7_number 34 = .ok (.ldc2_w 126, 3) := by decide +kernel
theorem dX7_number_37 : decode cX7_number 37 = .ok (.ldc2_w 128, 3) := by decide +kernel
theorem dX7_number_40 : decode cX7_number 40 = .ok (.invokestatic 44, 3) := by decide +kernel
theorem dX7_number_43 : decode cX7_number 43 = .ok (.ifCond .ne 7, 3) := by decide +kernel
theorem dX7_number_46 : decode cX7_number 46 = .ok (.iconst 1, 1) := by decide +kernel
theorem dX7_number_47 : decode cX7_number 47 = .ok (.goto 4, 3) := by decide +kernel
theorem dX7_number_50 : decode cX7_number 50 = .ok (.iconst 0, 1) := by decide +kernel
theorem dX7_number_51 : decode cX7_number 51 = .ok (.putfield 119, 3) := by decide +kernel
theorem dX7_number_54 : decode cX7_number 54 = .ok (.aload_n 0, 1) := by decide +kernel
theorem dX7_number_55 : decode cX7_number 55 = .ok (.getfield 119, 3) := by decide +kernel
theorem dX7_number_58 : decode cX7_number 58 = .ok (.ifCond .ne 79, 3) := by decide +kernel
theorem dX7_number_61 : decode cX7_number 61 = .ok (.aload_n 0, 1) := by decide +kernel
theorem dX7_number_62 : decode cX7_number 62 = .ok (.getfield 116, 3) := by decide +kernel
theorem dX7_number_65 : decode cX7_number 65 = .ok (.aload_n 0, 1) := by decide +kernel
theorem dX7_number_66 : decode cX7_number 66 = .ok (.getfield 113, 3) := by decide +kernel
theorem dX7_number_69 : decode cX7_number 69 = .ok (.if_icmp .ge 68, 3) := by decide +kernel
theorem dX7_number_72 : decode cX7_number 72 = .ok (.aload_n 0, 1) := by decide +kernel
theorem dX7_number_73 : decode cX7_number 73 = .ok (.getfield 116, 3) := by decide +kernel
theorem dX7_number_76 : decode cX7_number 76 = .ok (.iload_n 3, 1) := by decide +kernel
theorem dX7_number_77 : decode cX7_number 77 = .ok (.isub, 1) := by decide +kernel
theorem dX7_number_78 : decode cX7_number 78 = .ok (.iconst 2, 1) := by decide +kernel
theorem dX7_number_79 : decode cX7_number 79 = .ok (.if_icmp .ge 58, 3) := by decide +kernel
theorem dX7_number_82 : decode cX7_number 82 = .ok (.aload_n 0, 1) := by decide +kernel
theorem dX7_number_83 : decode cX7_number 83 = .ok (.getfield 13, 3) := by decide +kernel
theorem dX7_number_86 : decode cX7_number 86 = .ok (.aload_n 0, 1) := by decide +kernel
theorem dX7_number_87 : decode cX7_number 87 = .ok (.getfield 116, 3) := by decide +kernel
theorem dX7_number_90 : decode cX7_number 90 = .ok (.iaload, 1) := by decide +kernel
theorem dX7_number_91 : decode cX7_number 91 = .ok (.i2l, 1) := by decide +kernel
theorem dX7_number_92 : decode cX7_number 92 = .ok (.ldc2_w 126, 3) := by decide +kernel
theorem dX7_number_95 : decode cX7_number 95 = .ok (.ldc2_w 128, 3) := by decide +kernel
theorem dX7_number_98 : decode cX7_number 98 = .ok (.invokestatic 44, 3) := by decide +kernel
theorem dX7_number_101 : decode cX7_number 101 = .ok (.ifCond .eq 36, 3) := by decide +kernel
theorem dX7_number_104 : decode cX7_number 104 = .ok (.bipush 10, 2) := by decide +kernel
theorem dX7_number_106 : decode cX7_number 106 = .ok (.iload 4, 2) := by decide +kernel
theorem dX7_number_108 : decode cX7_number 108 = .ok (.imul, 1) := by decide +kernel
theorem dX7_number_109 : decode cX7_number 109 = .ok (.aload_n 0, 1) := by decide +kernel
theorem dX7_number_110 : decode cX7_number 110 = .ok (.getfield 13, 3) := by decide +kernel
theorem dX7_number_113 : decode cX7_number 113 = .ok (.aload_n 0, 1) := by decide +kernel
theorem dX7_number_114 : decode cX7_number 114 = .ok (.getfield 116, 3) := by decide +kernel
theorem dX7_number_117 : decode cX7_number 117 = .ok (.iaload, 1) := by decide +kernel
theorem dX7_number_118 : decode cX7_number 118 = .ok (.iadd, 1) := by decide +kernel
theorem dX7_number_119 : decode cX7_number 119 = .ok (.bipush 48, 2) := by decide +kernel
theorem dX7_number_121 : decode cX7_number 121 = .ok (.isub, 1) := by decide +kernel
theorem dX7_number_122 : decode cX7_number 122 = .ok (.istore 4, 2) := by decide +kernel
theorem dX7_number_124 : decode cX7_number 124 = .ok (.aload_n 0, 1) := by decide +kernel
theorem dX7_number_125 : decode cX7_number 125 = .ok (.dup, 1) := by decide +kernel
theorem dX7_number_126 : decode cX7_number 126 = .ok (.getfield 116, 3) := by decide +kernel
theorem dX7_number_129 : decode cX7_number 129 = .ok (.iconst 1, 1) := by decide +kernel
theorem dX7_number_130 : decode cX7_number 130 = .ok (.iadd, 1) := by decide +kernel
theorem dX7_number_131 : decode cX7_number 131 = .ok (.putfield 116, 3) := by decide +kernel
theorem dX7_number_134 : decode cX7_number 134 = .ok (.goto (-80), 3) := by decide +kernel
theorem dX7_number_137 : decode cX7_number 137 = .ok (.aload_n 0, 1) := by decide +kernel
theorem dX7_number_138 : decode cX7_number 138 = .ok (.getfield 119, 3) := by decide +kernel
theorem dX7_number_141 : decode cX7_number 141 = .ok (.ifCond .ne 19, 3) := by decide +kernel
theorem dX7_number_144 : decode cX7_number 144 = .ok (.iload 4, 2) := by decide +kernel
theorem dX7_number_146 : decode cX7_number 146 = .ok (.iload_n 1, 1) := by decide +kernel
theorem dX7_number_147 : decode cX7_number 147 = .ok (.if_icmp .le 13, 3) := by decide +kernel
theorem dX7_number_150 : decode cX7_number 150 = .ok (.aload_n 0, 1) := by decide +kernel
theorem dX7_number_151 : decode cX7_number 151 = .ok (.iconst 1, 1) := by decide +kernel
theorem dX7_number_152 : decode cX7_number 152 = .ok (.putfield 119, 3) := by decide +kernel
theorem dX7_number_155 : decode cX7_number 155 = .ok (.aload_n 0, 1) := by decide +kernel
theorem dX7_number_156 : decode cX7_number 156 = .ok (.iload_n 3, 1) := by decide +kernel
theorem dX7_number_157 : decode cX7_number 157 = .ok (.putfield 116, 3) := by decide +kernel
theorem dX7_number_160 : decode cX7_number 160 = .ok (.iload 4, 2) := by decide +kernel
theorem dX7_number_162 : decode cX7_number 162 = .ok (.ireturn, 1) := by decide +kernel
theorem dX7_letters_0 : decode cX7_letters 0 = .ok (.iconst 0, 1) := by decide +kernel
theorem dX7_letters_1 : decode cX7_letters 1 = .ok (.istore_n 1, 1) := by decide +kernel
theorem dX7_letters_2 : decode cX7_letters 2 = .ok (.aload_n 0, 1) := by decide +kernel
theorem dX7_letters_3 : decode cX7_letters 3 = .ok (.getfield 119, 3) := by decide +kernel
theorem dX7_letters_6 : decode cX7_letters 6 = .ok (.ifCond .eq 7, 3) := by decide +kernel
theorem dX7_letters_9 : decode cX7_letters 9 = .ok (.iconst (-1), 1) := by decide +kernel
theorem dX7_letters_10 : decode cX7_letters 10 = .ok (.goto 10, 3) := by decide +kernel
theorem dX7_letters_13 : decode cX7_letters 13 = .ok (.aload_n 0, 1) := by decide +kernel
theorem dX7_letters_14 : decode cX7_letters 14 = .ok (.invokevirtual 123, 3) := by decide +kernel
theorem dX7_letters_17 : decode cX7_letters 17 = .ok (.bipush 97, 2) := by decide +kernel
theorem dX7_letters_19 : decode cX7_letters 19 = .ok (.isub, 1) := by decide +kernel
theorem dX7_letters_20 : decode cX7_letters 20 = .ok (.istore_n 2, 1) := by decide +kernel
theorem dX7_letters_21 : decode cX7_letters 21 = .ok (.iload_n 2, 1) := by decide +kernel
theorem dX7_letters_22 : decode cX7_letters 22 = .ok (.i2l, 1) := by decide +kernel
theorem dX7_letters_23 : decode cX7_letters 23 = .ok (.lconst 0, 1) := by decide +kernel
theorem dX7_letters_24 : decode cX7_letters 24 = .ok (.ldc2_w 130, 3) := by decide +kernel
theorem dX7_letters_27 : decode cX7_letters 27 = .ok (.invokestatic 44, 3) := by decide +kernel
theorem dX7_letters_30 : decode cX7_letters 30 = .ok (.ifCond .eq 37, 3) := by decide +kernel
theorem dX7_letters_33 : decode cX7_letters 33 = .ok (.iconst 1, 1) := by decide +kernel
theorem dX7_letters_34 : decode cX7_letters 34 = .ok (.iload_n 2, 1) := by decide +kernel
theorem dX7_letters_35 : decode cX7_letters 35 = .ok (.ishl, 1) := by decide +kernel
theorem dX7_letters_36 : decode cX7_letters 36 = .ok (.iload_n 1, 1) := by decide +kernel
theorem dX7_letters_37 : decode cX7_letters 37 = .ok (.if_icmp .le 30, 3) := by decide +kernel
theorem dX7_letters_40 : decode cX7_letters 40 = .ok (.iload_n 1, 1) := by decide +kernel
theorem dX7_letters_41 : decode cX7_letters 41 = .ok (.iconst 1, 1) := by decide +kernel
theorem dX7_letters_42 : decode cX7_letters 42 = .ok (.iload_n 2, 1) := by decide +kernel
theorem dX7_letters_43 : decode cX7_letters 43 = .ok (.ishl, 1) := by decide +kernel
theorem dX7_letters_44 : decode cX7_letters 44 = .ok (.ior, 1) := by decide +kernel
theorem dX7_letters_45 : decode cX7_letters 45 = .ok (.istore_n 1, 1) := by decide +kernel
theorem dX7_letters_46 : decode cX7_letters 46 = .ok (.aload_n 0, 1) := by decide +kernel
theorem dX7_letters_47 : decode cX7_letters 47 = .ok (.dup, 1) := by decide +kernel
theorem dX7_letters_48 : decode cX7_letters 48 = .ok (.getfield 116, 3) := by decide +kernel
theorem dX7_letters_51 : decode cX7_letters 51 = .ok (.iconst 1, 1) := by decide +kernel
theorem dX7_letters_52 : decode cX7_letters 52 = .ok (.iadd, 1) := by decide +kernel
theorem dX7_letters_53 : decode cX7_letters 53 = .ok (.putfield 116, 3) := by decide +kernel
theorem dX7_letters_56 : decode cX7_letters 56 = .ok (.aload_n 0, 1) := by decide +kernel
theorem dX7_letters_57 : decode cX7_letters 57 = .ok (.invokevirtual 123, 3) := by decide +kernel
theorem dX7_letters_60 : decode cX7_letters 60 = .ok (.bipush 97, 2) := by decide +kernel
theorem dX7_letters_62 : decode cX7_letters 62 = .ok (.isub, 1) := by decide +kernel
theorem dX7_letters_63 : decode cX7_letters 63 = .ok (.istore_n 2, 1) := by decide +kernel
theorem dX7_letters_64 : decode cX7_letters 64 = .ok (.goto (-43), 3) := by decide +kernel
theorem dX7_letters_67 : decode cX7_letters 67 = .ok (.iload_n 1, 1) := by decide +kernel
theorem dX7_letters_68 : decode cX7_letters 68 = .ok (.ireturn, 1) := by decide +kernel
theorem dX7_archesRead_0 : decode cX7_archesRead 0 = .ok (.iconst 0, 1) := by decide +kernel
theorem dX7_archesRead_1 : decode cX7_archesRead 1 = .ok (.istore_n 1, 1) := by decide +kernel
theorem dX7_archesRead_2 : decode cX7_archesRead 2 = .ok (.iload_n 1, 1) := by decide +kernel
theorem dX7_archesRead_3 : decode cX7_archesRead 3 = .ok (.iconst 4, 1) := by decide +kernel
theorem dX7_archesRead_4 : decode cX7_archesRead 4 = .ok (.if_icmp .ge 50, 3) := by decide +kernel
theorem dX7_archesRead_7 : decode cX7_archesRead 7 = .ok (.iload_n 1, 1) := by decide +kernel
theorem dX7_archesRead_8 : decode cX7_archesRead 8 = .ok (.ifCond .le 28, 3) := by decide +kernel
theorem dX7_archesRead_11 : decode cX7_archesRead 11 = .ok (.aload_n 0, 1) := by decide +kernel
theorem dX7_archesRead_12 : decode cX7_archesRead 12 = .ok (.aload_n 0, 1) := by decide +kernel
theorem dX7_archesRead_13 : decode cX7_archesRead 13 = .ok (.getfield 119, 3) := by decide +kernel
theorem dX7_archesRead_16 : decode cX7_archesRead 16 = .ok (.ifCond .ne 16, 3) := by decide +kernel
theorem dX7_archesRead_19 : decode cX7_archesRead 19 = .ok (.aload_n 0, 1) := by decide +kernel
theorem dX7_archesRead_20 : decode cX7_archesRead 20 = .ok (.invokevirtual 123, 3) := by decide +kernel
theorem dX7_archesRead_23 : decode cX7_archesRead 23 = .ok (.bipush 44, 2) := by decide +kernel
theorem dX7_archesRead_25 : decode cX7_archesRead 25 = .ok (.if_icmp .ne 7, 3) := by decide +kernel
theorem dX7_archesRead_28 : decode cX7_archesRead 28 = .ok (.iconst 1, 1) := by decide +kernel
theorem dX7_archesRead_29 : decode cX7_archesRead 29 = .ok (.goto 4, 3) := by decide +kernel
theorem dX7_archesRead_32 : decode cX7_archesRead 32 = .ok (.iconst 0, 1) := by decide +kernel
theorem dX7_archesRead_33 : decode cX7_archesRead 33 = .ok (.invokevirtual 132, 3) := by decide +kernel
theorem dX7_archesRead_36 : decode cX7_archesRead 36 = .ok (.aload_n 0, 1) := by decide +kernel
theorem dX7_archesRead_37 : decode cX7_archesRead 37 = .ok (.getfield 16, 3) := by decide +kernel
theorem dX7_archesRead_40 : decode cX7_archesRead 40 = .ok (.iload_n 1, 1) := by decide +kernel
theorem dX7_archesRead_41 : decode cX7_archesRead 41 = .ok (.aload_n 0, 1) := by decide +kernel
theorem dX7_archesRead_42 : decode cX7_archesRead 42 = .ok (.bipush 40, 2) := by decide +kernel
theorem dX7_archesRead_44 : decode cX7_archesRead 44 = .ok (.invokevirtual 136, 3) := by decide +kernel
theorem dX7_archesRead_47 : decode cX7_archesRead 47 = .ok (.iastore, 1) := by decide +kernel
theorem dX7_archesRead_48 : decode cX7_archesRead 48 = .ok (.iinc 1 1, 3) := by decide +kernel
theorem dX7_archesRead_51 : decode cX7_archesRead 51 = .ok (.goto (-49), 3) := by decide +kernel
theorem dX7_archesRead_54 : decode cX7_archesRead 54 = .ok (.aload_n 0, 1) := by decide +kernel
theorem dX7_archesRead_55 : decode cX7_archesRead 55 = .ok (.iconst 0, 1) := by decide +kernel
theorem dX7_archesRead_56 : decode cX7_archesRead 56 = .ok (.putfield 139, 3) := by decide +kernel
theorem dX7_archesRead_59 : decode cX7_archesRead 59 = .ok (.aload_n 0, 1) := by decide +kernel
theorem dX7_archesRead_60 : decode cX7_archesRead 60 = .ok (.getfield 119, 3) := by decide +kernel
theorem dX7_archesRead_63 : decode cX7_archesRead 63 = .ok (.ifCond .ne 46, 3) := by decide +kernel
theorem dX7_archesRead_66 : decode cX7_archesRead 66 = .ok (.aload_n 0, 1) := by decide +kernel
theorem dX7_archesRead_67 : decode cX7_archesRead 67 = .ok (.invokevirtual 123, 3) := by decide +kernel
theorem dX7_archesRead_70 : decode cX7_archesRead 70 = .ok (.bipush 33, 2) := by decide +kernel
theorem dX7_archesRead_72 : decode cX7_archesRead 72 = .ok (.if_icmp .ne 37, 3) := by decide +kernel
theorem dX7_archesRead_75 : decode cX7_archesRead 75 = .ok (.aload_n 0, 1) := by decide +kernel
theorem dX7_archesRead_76 : decode cX7_archesRead 76 = .ok (.dup, 1) := by decide +kernel
theorem dX7_archesRead_77 : decode cX7_archesRead 77 = .ok (.getfield 116, 3) := by decide +kernel
theorem dX7_archesRead_80 : decode cX7_archesRead 80 = .ok (.iconst 1, 1) := by decide +kernel
theorem dX7_archesRead_81 : decode cX7_archesRead 81 = .ok (.iadd, 1) := by decide +kernel
theorem dX7_archesRead_82 : decode cX7_archesRead 82 = .ok (.putfield 116, 3) := by decide +kernel
theorem dX7_archesRead_85 : decode cX7_archesRead 85 = .ok (.aload_n 0, 1) := by decide +kernel
theorem dX7_archesRead_86 : decode cX7_archesRead 86 = .ok (.aload_n 0, 1) := by decide +kernel
theorem dX7_archesRead_87 : decode cX7_archesRead 87 = .ok (.invokevirtual 142, 3) := by decide +kernel
theorem dX7_archesRead_90 : decode cX7_archesRead 90 = .ok (.putfield 139, 3) := by decide +kernel
theorem dX7_archesRead_93 : decode cX7_archesRead 93 = .ok (.aload_n 0, 1) := by decide +kernel
theorem dX7_archesRead_94 : decode cX7_archesRead 94 = .ok (.aload_n 0, 1) := by decide +kernel
theorem dX7_archesRead_95 : decode cX7_archesRead 95 = .ok (.getfield 139, 3) := by decide +kernel
theorem dX7_archesRead_98 : decode cX7_archesRead 98 = .ok (.ifCond .ne 7, 3) := by decide +kernel
theorem dX7_archesRead_101 : decode cX7_archesRead 101 = .ok (.iconst 1, 1) := by decide +kernel
theorem dX7_archesRead_102 : decode cX7_archesRead 102 = .ok (.goto 4, 3) := by decide +kernel
theorem dX7_archesRead_105 : decode cX7_archesRead 105 = .ok (.iconst 0, 1) := by decide +kernel
theorem dX7_archesRead_106 : decode cX7_archesRead 106 = .ok (.putfield 119, 3) := by decide +kernel
theorem dX7_archesRead_109 : decode cX7_archesRead 109 = .ok (.return_, 1) := by decide +kernel
theorem dX7_peopleRead_0 : decode cX7_peopleRead 0 = .ok (.iconst 0, 1) := by decide +kernel
theorem dX7_peopleRead_1 : decode cX7_peopleRead 1 = .ok (.istore_n 1, 1) := by decide +kernel
theorem dX7_peopleRead_2 : decode cX7_peopleRead 2 = .ok (.aload_n 0, 1) := by decide +kernel
theorem dX7_peopleRead_3 : decode cX7_peopleRead 3 = .ok (.getfield 119, 3) := by decide +kernel
theorem dX7_peopleRead_6 : decode cX7_peopleRead 6 = .ok (.ifCond .ne 202, 3) := by decide +kernel
theorem dX7_peopleRead_9 : decode cX7_peopleRead 9 = .ok (.iload_n 1, 1) := by decide +kernel
theorem dX7_peopleRead_10 : decode cX7_peopleRead 10 = .ok (.ifCond .eq 12, 3) := by decide +kernel
theorem dX7_peopleRead_13 : decode cX7_peopleRead 13 = .ok (.aload_n 0, 1) := by decide +kernel
theorem dX7_peopleRead_14 : decode cX7_peopleRead 14 = .ok (.invokevirtual 123, 3) := by decide +kernel
theorem dX7_peopleRead_17 : decode cX7_peopleRead 17 = .ok (.bipush 44, 2) := by decide +kernel
theorem dX7_peopleRead_19 : decode cX7_peopleRead 19 = .ok (.if_icmp .ne 189, 3) := by decide +kernel
theorem dX7_peopleRead_22 : decode cX7_peopleRead 22 = .ok (.iload_n 1, 1) := by decide +kernel
theorem dX7_peopleRead_23 : decode cX7_peopleRead 23 = .ok (.ifCond .le 18, 3) := by decide +kernel
theorem dX7_peopleRead_26 : decode cX7_peopleRead 26 = .ok (.aload_n 0, 1) := by decide +kernel
theorem dX7_peopleRead_27 : decode cX7_peopleRead 27 = .ok (.iload_n 1, 1) := by decide +kernel
theorem dX7_peopleRead_28 : decode cX7_peopleRead 28 = .ok (.bipush 6, 2) := by decide +kernel
theorem dX7_peopleRead_30 : decode cX7_peopleRead 30 = .ok (.if_icmp .ge 7, 3) := by decide +kernel
theorem dX7_peopleRead_33 : decode cX7_peopleRead 33 = .ok (.iconst 1, 1) := by decide +kernel
theorem dX7_peopleRead_34 : decode cX7_peopleRead 34 = .ok (.goto 4, 3) := by decide +kernel
theorem dX7_peopleRead_37 : decode cX7_peopleRead 37 = .ok (.iconst 0, 1) := by decide +kernel
theorem dX7_peopleRead_38 : decode cX7_peopleRead 38 = .ok (.invokevirtual 132, 3) := by decide +kernel
theorem dX7_peopleRead_41 : decode cX7_peopleRead 41 = .ok (.aload_n 0, 1) := by decide +kernel
theorem dX7_peopleRead_42 : decode cX7_peopleRead 42 = .ok (.getfield 119, 3) := by decide +kernel
theorem dX7_peopleRead_45 : decode cX7_peopleRead 45 = .ok (.ifCond .eq 7, 3) := by decide +kernel
theorem dX7_peopleRead_48 : decode cX7_peopleRead 48 = .ok (.iconst 0, 1) := by decide +kernel
theorem dX7_peopleRead_49 : decode cX7_peopleRead 49 = .ok (.goto 7, 3) := by decide +kernel
theorem dX7_peopleRead_52 : decode cX7_peopleRead 52 = .ok (.aload_n 0, 1) := by decide +kernel
theorem dX7_peopleRead_53 : decode cX7_peopleRead 53 = .ok (.invokevirtual 123, 3) := by decide +kernel
theorem dX7_peopleRead_56 : decode cX7_peopleRead 56 = .ok (.istore_n 2, 1) := by decide +kernel
theorem dX7_peopleRead_57 : decode cX7_peopleRead 57 = .ok (.iload_n 2, 1) := by decide +kernel
theorem dX7_peopleRead_58 : decode cX7_peopleRead 58 = .ok (.bipush 119, 2) := by decide +kernel
theorem dX7_peopleRead_60 : decode cX7_peopleRead 60 = .ok (.if_icmp .ne 7, 3) := by decide +kernel
theorem dX7_peopleRead_63 : decode cX7_peopleRead 63 = .ok (.iconst 0, 1) := by decide +kernel
theorem dX7_peopleRead_64 : decode cX7_peopleRead 64 = .ok (.goto 44, 3) := by decide +kernel
theorem dX7_peopleRead_67 : decode cX7_peopleRead 67 = .ok (.iload_n 2, 1) := by decide +kernel
theorem dX7_peopleRead_68 : decode cX7_peopleRead 68 = .ok (.bipush 99, 2) := by decide +kernel
theorem dX7_peopleRead_70 : decode cX7_peopleRead 70 = .ok (.if_icmp .ne 7, 3) := by decide +kernel
theorem dX7_peopleRead_73 : decode cX7_peopleRead 73 = .ok (.iconst 1, 1) := by decide +kernel
theorem dX7_peopleRead_74 : decode cX7_peopleRead 74 = .ok (.goto 34, 3) := by decide +kernel
theorem dX7_peopleRead_77 : decode cX7_peopleRead 77 = .ok (.iload_n 2, 1) := by decide +kernel
theorem dX7_peopleRead_78 : decode cX7_peopleRead 78 = .ok (.bipush 98, 2) := by decide +kernel
theorem dX7_peopleRead_80 : decode cX7_peopleRead 80 = .ok (.if_icmp .ne 7, 3) := by decide +kernel
theorem dX7_peopleRead_83 : decode cX7_peopleRead 83 = .ok (.iconst 2, 1) := by decide +kernel
theorem dX7_peopleRead_84 : decode cX7_peopleRead 84 = .ok (.goto 24, 3) := by decide +kernel
theorem dX7_peopleRead_87 : decode cX7_peopleRead 87 = .ok (.iload_n 2, 1) := by decide +kernel
theorem dX7_peopleRead_88 : decode cX7_peopleRead 88 = .ok (.bipush 100, 2) := by decide +kernel
theorem dX7_peopleRead_90 : decode cX7_peopleRead 90 = .ok (.if_icmp .ne 7, 3) := by decide +kernel
theorem dX7_peopleRead_93 : decode cX7_peopleRead 93 = .ok (.iconst 3, 1) := by decide +kernel
theorem dX7_peopleRead_94 : decode cX7_peopleRead 94 = .ok (.goto 14, 3) := by decide +kernel
theorem dX7_peopleRead_97 : decode cX7_peopleRead 97 = .ok (.iload_n 2, 1) := by decide +kernel
theorem dX7_peopleRead_98 : decode cX7_peopleRead 98 = .ok (.bipush 116, 2) := by decide +kernel
theorem dX7_peopleRead_100 : decode cX7_peopleRead 100 = .ok (.if_icmp .ne 7, 3) := by decide +kernel
theorem dX7_peopleRead_103 : decode cX7_peopleRead 103 = .ok (.iconst 4, 1) := by decide +kernel
theorem dX7_peopleRead_104 : decode cX7_peopleRead 104 = .ok (.goto 4, 3) := by decide +kernel
theorem dX7_peopleRead_107 : decode cX7_peopleRead 107 = .ok (.iconst (-1), 1) := by decide +kernel
theorem dX7_peopleRead_108 : decode cX7_peopleRead 108 = .ok (.istore_n 3, 1) := by decide +kernel
theorem dX7_peopleRead_109 : decode cX7_peopleRead 109 = .ok (.aload_n 0, 1) := by decide +kernel
theorem dX7_peopleRead_110 : decode cX7_peopleRead 110 = .ok (.iload_n 3, 1) := by decide +kernel
theorem dX7_peopleRead_111 : decode cX7_peopleRead 111 = .ok (.ifCond .lt 7, 3) := by decide +kernel
theorem dX7_peopleRead_114 : decode cX7_peopleRead 114 = .ok (.iconst 1, 1) := by decide +kernel
theorem dX7_peopleRead_115 : decode cX7_peopleRead 115 = .ok (.goto 4, 3) := by decide +kernel
theorem dX7_peopleRead_118 : decode cX7_peopleRead 118 = .ok (.iconst 0, 1) := by decide +kernel
theorem dX7_peopleRead_119 : decode cX7_peopleRead 119 = .ok (.invokevirtual 132, 3) := by decide +kernel
theorem dX7_peopleRead_122 : decode cX7_peopleRead 122 = .ok (.aload_n 0, 1) := by decide +kernel
theorem dX7_peopleRead_123 : decode cX7_peopleRead 123 = .ok (.getfield 119, 3) := by decide +kernel
theorem dX7_peopleRead_126 : decode cX7_peopleRead 126 = .ok (.ifCond .eq 7, 3) := by decide +kernel
theorem dX7_peopleRead_129 : decode cX7_peopleRead 129 = .ok (.iconst (-1), 1) := by decide +kernel
theorem dX7_peopleRead_130 : decode cX7_peopleRead 130 = .ok (.goto 10, 3) := by decide +kernel
theorem dX7_peopleRead_133 : decode cX7_peopleRead 133 = .ok (.aload_n 0, 1) := by decide +kernel
theorem dX7_peopleRead_134 : decode cX7_peopleRead 134 = .ok (.invokevirtual 123, 3) := by decide +kernel
theorem dX7_peopleRead_137 : decode cX7_peopleRead 137 = .ok (.bipush 48, 2) := by decide +kernel
theorem dX7_peopleRead_139 : decode cX7_peopleRead 139 = .ok (.isub, 1) := by decide +kernel
theorem dX7_peopleRead_140 : decode cX7_peopleRead 140 = .ok (.istore 4, 2) := by decide +kernel
theorem dX7_peopleRead_142 : decode cX7_peopleRead 142 = .ok (.aload_n 0, 1) := by decide +kernel
theorem dX7_peopleRead_143 : decode cX7_peopleRead 143 = .ok (.iload 4, 2) := by decide +kernel
theorem dX7_peopleRead_145 : decode cX7_peopleRead 145 = .ok (.i2l, 1) := by decide +kernel
theorem dX7_peopleRead_146 : decode cX7_peopleRead 146 = .ok (.lconst 1, 1) := by decide +kernel
theorem dX7_peopleRead_147 : decode cX7_peopleRead 147 = .ok (.ldc2_w 93, 3) := by decide +kernel
theorem dX7_peopleRead_150 : decode cX7_peopleRead 150 = .ok (.invokestatic 44, 3) := by decide +kernel
theorem dX7_peopleRead_153 : decode cX7_peopleRead 153 = .ok (.invokevirtual 132, 3) := by decide +kernel
theorem dX7_peopleRead_156 : decode cX7_peopleRead 156 = .ok (.aload_n 0, 1) := by decide +kernel
theorem dX7_peopleRead_157 : decode cX7_peopleRead 157 = .ok (.invokevirtual 142, 3) := by decide +kernel
theorem dX7_peopleRead_160 : decode cX7_peopleRead 160 = .ok (.istore 5, 2) := by decide +kernel
theorem dX7_peopleRead_162 : decode cX7_peopleRead 162 = .ok (.aload_n 0, 1) := by decide +kernel
theorem dX7_peopleRead_163 : decode cX7_peopleRead 163 = .ok (.getfield 119, 3) := by decide +kernel
theorem dX7_peopleRead_166 : decode cX7_peopleRead 166 = .ok (.ifCond .ne 36, 3) := by decide +kernel
theorem dX7_peopleRead_169 : decode cX7_peopleRead 169 = .ok (.aload_n 0, 1) := by decide +kernel
theorem dX7_peopleRead_170 : decode cX7_peopleRead 170 = .ok (.getfield 19, 3) := by decide +kernel
theorem dX7_peopleRead_173 : decode cX7_peopleRead 173 = .ok (.iconst 3, 1) := by decide +kernel
theorem dX7_peopleRead_174 : decode cX7_peopleRead 174 = .ok (.iload_n 1, 1) := by decide +kernel
theorem dX7_peopleRead_175 : decode cX7_peopleRead 175 = .ok (.imul, 1) := by decide +kernel
theorem dX7_peopleRead_176 : decode cX7_peopleRead 176 = .ok (.iload_n 3, 1) := by decide +kernel
theorem dX7_peopleRead_177 : decode cX7_peopleRead 177 = .ok (.iastore, 1) := by decide +kernel
theorem dX7_peopleRead_178 : decode cX7_peopleRead 178 = .ok (.aload_n 0, 1) := by decide +kernel
theorem dX7_peopleRead_179 : decode cX7_peopleRead 179 = .ok (.getfield 19, 3) := by decide +kernel
theorem dX7_peopleRead_182 : decode cX7_peopleRead 182 = .ok (.iconst 3, 1) := by decide +kernel
theorem dX7_peopleRead_183 : decode cX7_peopleRead 183 = .ok (.iload_n 1, 1) := by decide +kernel
theorem dX7_peopleRead_184 : decode cX7_peopleRead 184 = .ok (.imul, 1) := by decide +kernel
theorem dX7_peopleRead_185 : decode cX7_peopleRead 185 = .ok (.iconst 1, 1) := by decide +kernel
theorem dX7_peopleRead_186 : decode cX7_peopleRead 186 = .ok (.iadd, 1) := by decide +kernel
theorem dX7_peopleRead_187 : decode cX7_peopleRead 187 = .ok (.iload 5, 2) := by decide +kernel
theorem dX7_peopleRead_189 : decode cX7_peopleRead 189 = .ok (.iastore, 1) := by decide +kernel
theorem dX7_peopleRead_190 : decode cX7_peopleRead 190 = .ok (.aload_n 0, 1) := by decide +kernel
theorem dX7_peopleRead_191 : decode cX7_peopleRead 191 = .ok (.getfield 19, 3) := by decide +kernel
theorem dX7_peopleRead_194 : decode cX7_peopleRead 194 = .ok (.iconst 3, 1) := by decide +kernel
theorem dX7_peopleRead_195 : decode cX7_peopleRead 195 = .ok (.iload_n 1, 1) := by decide +kernel
theorem dX7_peopleRead_196 : decode cX7_peopleRead 196 = .ok (.imul, 1) := by decide +kernel
theorem dX7_peopleRead_197 : decode cX7_peopleRead 197 = .ok (.iconst 2, 1) := by decide +kernel
theorem dX7_peopleRead_198 : decode cX7_peopleRead 198 = .ok (.iadd, 1) := by decide +kernel
theorem dX7_peopleRead_199 : decode cX7_peopleRead 199 = .ok (.iload 4, 2) := by decide +kernel
theorem dX7_peopleRead_201 : decode cX7_peopleRead 201 = .ok (.iastore, 1) := by decide +kernel
theorem dX7_peopleRead_202 : decode cX7_peopleRead 202 = .ok (.iinc 1 1, 3) := by decide +kernel
theorem dX7_peopleRead_205 : decode cX7_peopleRead 205 = .ok (.goto (-203), 3) := by decide +kernel
theorem dX7_peopleRead_208 : decode cX7_peopleRead 208 = .ok (.iload_n 1, 1) := by decide +kernel
theorem dX7_peopleRead_209 : decode cX7_peopleRead 209 = .ok (.ireturn, 1) := by decide +kernel
theorem dX7_bridge_0 : decode cX7_bridge 0 = .ok (.aload_n 0, 1) := by decide +kernel
theorem dX7_bridge_1 : decode cX7_bridge 1 = .ok (.iconst 0, 1) := by decide +kernel
theorem dX7_bridge_2 : decode cX7_bridge 2 = .ok (.putfield 116, 3) := by decide +kernel
theorem dX7_bridge_5 : decode cX7_bridge 5 = .ok (.aload_n 0, 1) := by decide +kernel
theorem dX7_bridge_6 : decode cX7_bridge 6 = .ok (.iconst 0, 1) := by decide +kernel
theorem dX7_bridge_7 : decode cX7_bridge 7 = .ok (.putfield 119, 3) := by decide +kernel
theorem dX7_bridge_10 : decode cX7_bridge 10 = .ok (.aload_n 0, 1) := by decide +kernel
theorem dX7_bridge_11 : decode cX7_bridge 11 = .ok (.invokevirtual 145, 3) := by decide +kernel
theorem dX7_bridge_14 : decode cX7_bridge 14 = .ok (.iconst 0, 1) := by decide +kernel
theorem dX7_bridge_15 : decode cX7_bridge 15 = .ok (.istore_n 1, 1) := by decide +kernel
theorem dX7_bridge_16 : decode cX7_bridge 16 = .ok (.aload_n 0, 1) := by decide +kernel
theorem dX7_bridge_17 : decode cX7_bridge 17 = .ok (.getfield 119, 3) := by decide +kernel
theorem dX7_bridge_20 : decode cX7_bridge 20 = .ok (.ifCond .ne 27, 3) := by decide +kernel
theorem dX7_bridge_23 : decode cX7_bridge 23 = .ok (.aload_n 0, 1) := by decide +kernel
theorem dX7_bridge_24 : decode cX7_bridge 24 = .ok (.invokevirtual 123, 3) := by decide +kernel
theorem dX7_bridge_27 : decode cX7_bridge 27 = .ok (.bipush 59, 2) := by decide +kernel
theorem dX7_bridge_29 : decode cX7_bridge 29 = .ok (.if_icmp .ne 18, 3) := by decide +kernel
theorem dX7_bridge_32 : decode cX7_bridge 32 = .ok (.aload_n 0, 1) := by decide +kernel
theorem dX7_bridge_33 : decode cX7_bridge 33 = .ok (.dup, 1) := by decide +kernel
theorem dX7_bridge_34 : decode cX7_bridge 34 = .ok (.getfield 116, 3) := by decide +kernel
theorem dX7_bridge_37 : decode cX7_bridge 37 = .ok (.iconst 1, 1) := by decide +kernel
theorem dX7_bridge_38 : decode cX7_bridge 38 = .ok (.iadd, 1) := by decide +kernel
theorem dX7_bridge_39 : decode cX7_bridge 39 = .ok (.putfield 116, 3) := by decide +kernel
theorem dX7_bridge_42 : decode cX7_bridge 42 = .ok (.aload_n 0, 1) := by decide +kernel
theorem dX7_bridge_43 : decode cX7_bridge 43 = .ok (.invokevirtual 148, 3) := by decide +kernel
theorem dX7_bridge_46 : decode cX7_bridge 46 = .ok (.istore_n 1, 1) := by decide +kernel
theorem dX7_bridge_47 : decode cX7_bridge 47 = .ok (.aload_n 0, 1) := by decide +kernel
theorem dX7_bridge_48 : decode cX7_bridge 48 = .ok (.aload_n 0, 1) := by decide +kernel
theorem dX7_bridge_49 : decode cX7_bridge 49 = .ok (.getfield 119, 3) := by decide +kernel
theorem dX7_bridge_52 : decode cX7_bridge 52 = .ok (.ifCond .ne 10, 3) := by decide +kernel
theorem dX7_bridge_55 : decode cX7_bridge 55 = .ok (.aload_n 0, 1) := by decide +kernel
theorem dX7_bridge_56 : decode cX7_bridge 56 = .ok (.invokevirtual 123, 3) := by decide +kernel
theorem dX7_bridge_59 : decode cX7_bridge 59 = .ok (.ifCond .eq 7, 3) := by decide +kernel
theorem dX7_bridge_62 : decode cX7_bridge 62 = .ok (.iconst 1, 1) := by decide +kernel
theorem dX7_bridge_63 : decode cX7_bridge 63 = .ok (.goto 4, 3) := by decide +kernel
theorem dX7_bridge_66 : decode cX7_bridge 66 = .ok (.iconst 0, 1) := by decide +kernel
theorem dX7_bridge_67 : decode cX7_bridge 67 = .ok (.putfield 119, 3) := by decide +kernel
theorem dX7_bridge_70 : decode cX7_bridge 70 = .ok (.aload_n 0, 1) := by decide +kernel
theorem dX7_bridge_71 : decode cX7_bridge 71 = .ok (.iconst 0, 1) := by decide +kernel
theorem dX7_bridge_72 : decode cX7_bridge 72 = .ok (.putfield 113, 3) := by decide +kernel
theorem dX7_bridge_75 : decode cX7_bridge 75 = .ok (.aload_n 0, 1) := by decide +kernel
theorem dX7_bridge_76 : decode cX7_bridge 76 = .ok (.getfield 119, 3) := by decide +kernel
theorem dX7_bridge_79 : decode cX7_bridge 79 = .ok (.ifCond .eq 11, 3) := by decide +kernel
theorem dX7_bridge_82 : decode cX7_bridge 82 = .ok (.bipush (-20), 2) := by decide +kernel
theorem dX7_bridge_84 : decode cX7_bridge 84 = .ok (.aload_n 0, 1) := by decide +kernel
theorem dX7_bridge_85 : decode cX7_bridge 85 = .ok (.getfield 116, 3) := by decide +kernel
theorem dX7_bridge_88 : decode cX7_bridge 88 = .ok (.isub, 1) := by decide +kernel
theorem dX7_bridge_89 : decode cX7_bridge 89 = .ok (.ireturn, 1) := by decide +kernel
theorem dX7_bridge_90 : decode cX7_bridge 90 = .ok (.iconst 0, 1) := by decide +kernel
theorem dX7_bridge_91 : decode cX7_bridge 91 = .ok (.istore_n 2, 1) := by decide +kernel
theorem dX7_bridge_92 : decode cX7_bridge 92 = .ok (.iload_n 2, 1) := by decide +kernel
theorem dX7_bridge_93 : decode cX7_bridge 93 = .ok (.bipush 6, 2) := by decide +kernel
theorem dX7_bridge_95 : decode cX7_bridge 95 = .ok (.if_icmp .ge 16, 3) := by decide +kernel
theorem dX7_bridge_98 : decode cX7_bridge 98 = .ok (.aload_n 0, 1) := by decide +kernel
theorem dX7_bridge_99 : decode cX7_bridge 99 = .ok (.getfield 7, 3) := by decide +kernel
theorem dX7_bridge_102 : decode cX7_bridge 102 = .ok (.iload_n 2, 1) := by decide +kernel
theorem dX7_bridge_103 : decode cX7_bridge 103 = .ok (.iconst 0, 1) := by decide +kernel
theorem dX7_bridge_104 : decode cX7_bridge 104 = .ok (.iastore, 1) := by decide +kernel
theorem dX7_bridge_105 : decode cX7_bridge 105 = .ok (.iinc 2 1, 3) := by decide +kernel
theorem dX7_bridge_108 : decode cX7_bridge 108 = .ok (.goto (-16), 3) := by decide +kernel
theorem dX7_bridge_111 : decode cX7_bridge 111 = .ok (.aload_n 0, 1) := by decide +kernel
theorem dX7_bridge_112 : decode cX7_bridge 112 = .ok (.getfield 7, 3) := by decide +kernel
theorem dX7_bridge_115 : decode cX7_bridge 115 = .ok (.iconst 2, 1) := by decide +kernel
theorem dX7_bridge_116 : decode cX7_bridge 116 = .ok (.aload_n 0, 1) := by decide +kernel
theorem dX7_bridge_117 : decode cX7_bridge 117 = .ok (.getfield 139, 3) := by decide +kernel
theorem dX7_bridge_120 : decode cX7_bridge 120 = .ok (.iastore, 1) := by decide +kernel
theorem dX7_bridge_121 : decode cX7_bridge 121 = .ok (.aload_n 0, 1) := by decide +kernel
theorem dX7_bridge_122 : decode cX7_bridge 122 = .ok (.iconst 0, 1) := by decide +kernel
theorem dX7_bridge_123 : decode cX7_bridge 123 = .ok (.putfield 86, 3) := by decide +kernel
theorem dX7_bridge_126 : decode cX7_bridge 126 = .ok (.iconst 0, 1) := by decide +kernel
theorem dX7_bridge_127 : decode cX7_bridge 127 = .ok (.istore_n 2, 1) := by decide +kernel
theorem dX7_bridge_128 : decode cX7_bridge 128 = .ok (.iload_n 2, 1) := by decide +kernel
theorem dX7_bridge_129 : decode cX7_bridge 129 = .ok (.iconst 4, 1) := by decide +kernel
theorem dX7_bridge_130 : decode cX7_bridge 130 = .ok (.if_icmp .ge 24, 3) := by decide +kernel
theorem dX7_bridge_133 : decode cX7_bridge 133 = .ok (.aload_n 0, 1) := by decide +kernel
theorem dX7_bridge_134 : decode cX7_bridge 134 = .ok (.getfield 7, 3) := by decide +kernel
theorem dX7_bridge_137 : decode cX7_bridge 137 = .ok (.bipush 7, 2) := by decide +kernel
theorem dX7_bridge_139 : decode cX7_bridge 139 = .ok (.iload_n 2, 1) := by decide +kernel
theorem dX7_bridge_140 : decode cX7_bridge 140 = .ok (.iadd, 1) := by decide +kernel
theorem dX7_bridge_141 : decode cX7_bridge 141 = .ok (.aload_n 0, 1) := by decide +kernel
theorem dX7_bridge_142 : decode cX7_bridge 142 = .ok (.getfield 16, 3) := by decide +kernel
theorem dX7_bridge_145 : decode cX7_bridge 145 = .ok (.iload_n 2, 1) := by decide +kernel
theorem dX7_bridge_146 : decode cX7_bridge 146 = .ok (.iaload, 1) := by decide +kernel
theorem dX7_bridge_147 : decode cX7_bridge 147 = .ok (.iastore, 1) := by decide +kernel
theorem dX7_bridge_148 : decode cX7_bridge 148 = .ok (.iinc 2 1, 3) := by decide +kernel
theorem dX7_bridge_151 : decode cX7_bridge 151 = .ok (.goto (-23), 3) := by decide +kernel
theorem dX7_bridge_154 : decode cX7_bridge 154 = .ok (.iconst 0, 1) := by decide +kernel
theorem dX7_bridge_155 : decode cX7_bridge 155 = .ok (.istore_n 2, 1) := by decide +kernel
theorem dX7_bridge_156 : decode cX7_bridge 156 = .ok (.iload_n 2, 1) := by decide +kernel
theorem dX7_bridge_157 : decode cX7_bridge 157 = .ok (.iload_n 1, 1) := by decide +kernel
theorem dX7_bridge_158 : decode cX7_bridge 158 = .ok (.if_icmp .ge 41, 3) := by decide +kernel
theorem dX7_bridge_161 : decode cX7_bridge 161 = .ok (.aload_n 0, 1) := by decide +kernel
theorem dX7_bridge_162 : decode cX7_bridge 162 = .ok (.aload_n 0, 1) := by decide +kernel
theorem dX7_bridge_163 : decode cX7_bridge 163 = .ok (.getfield 19, 3) := by decide +kernel
theorem dX7_bridge_166 : decode cX7_bridge 166 = .ok (.iconst 3, 1) := by decide +kernel
theorem dX7_bridge_167 : decode cX7_bridge 167 = .ok (.iload_n 2, 1) := by decide +kernel
theorem dX7_bridge_168 : decode cX7_bridge 168 = .ok (.imul, 1) := by decide +kernel
theorem dX7_bridge_169 : decode cX7_bridge 169 = .ok (.iaload, 1) := by decide +kernel
theorem dX7_bridge_170 : decode cX7_bridge 170 = .ok (.aload_n 0, 1) := by decide +kernel
theorem dX7_bridge_171 : decode cX7_bridge 171 = .ok (.getfield 19, 3) := by decide +kernel
theorem dX7_bridge_174 : decode cX7_bridge 174 = .ok (.iconst 3, 1) := by decide +kernel
theorem dX7_bridge_175 : decode cX7_bridge 175 = .ok (.iload_n 2, 1) := by decide +kernel
theorem dX7_bridge_176 : decode cX7_bridge 176 = .ok (.imul, 1) := by decide +kernel
theorem dX7_bridge_177 : decode cX7_bridge 177 = .ok (.iconst 1, 1) := by decide +kernel
theorem dX7_bridge_178 : decode cX7_bridge 178 = .ok (.iadd, 1) := by decide +kernel
theorem dX7_bridge_179 : decode cX7_bridge 179 = .ok (.iaload, 1) := by decide +kernel
theorem dX7_bridge_180 : decode cX7_bridge 180 = .ok (.aload_n 0, 1) := by decide +kernel
theorem dX7_bridge_181 : decode cX7_bridge 181 = .ok (.getfield 19, 3) := by decide +kernel
theorem dX7_bridge_184 : decode cX7_bridge 184 = .ok (.iconst 3, 1) := by decide +kernel
theorem dX7_bridge_185 : decode cX7_bridge 185 = .ok (.iload_n 2, 1) := by decide +kernel
theorem dX7_bridge_186 : decode cX7_bridge 186 = .ok (.imul, 1) := by decide +kernel
theorem dX7_bridge_187 : decode cX7_bridge 187 = .ok (.iconst 2, 1) := by decide +kernel
theorem dX7_bridge_188 : decode cX7_bridge 188 = .ok (.iadd, 1) := by decide +kernel
theorem dX7_bridge_189 : decode cX7_bridge 189 = .ok (.iaload, 1) := by decide +kernel
theorem dX7_bridge_190 : decode cX7_bridge 190 = .ok (.invokevirtual 95, 3) := by decide +kernel
theorem dX7_bridge_193 : decode cX7_bridge 193 = .ok (.iinc 2 1, 3) := by decide +kernel
theorem dX7_bridge_196 : decode cX7_bridge 196 = .ok (.goto (-40), 3) := by decide +kernel
theorem dX7_bridge_199 : decode cX7_bridge 199 = .ok (.iload_n 1, 1) := by decide +kernel
theorem dX7_bridge_200 : decode cX7_bridge 200 = .ok (.ireturn, 1) := by decide +kernel
theorem dX7_notes_0 : decode cX7_notes 0 = .ok (.aload_n 0, 1) := by decide +kernel
theorem dX7_notes_1 : decode cX7_notes 1 = .ok (.getfield 86, 3) := by decide +kernel
theorem dX7_notes_4 : decode cX7_notes 4 = .ok (.bipush 8, 2) := by decide +kernel
theorem dX7_notes_6 : decode cX7_notes 6 = .ok (.if_icmp .ne 40, 3) := by decide +kernel
theorem dX7_notes_9 : decode cX7_notes 9 = .ok (.bipush 29, 2) := by decide +kernel
theorem dX7_notes_11 : decode cX7_notes 11 = .ok (.istore_n 1, 1) := by decide +kernel
theorem dX7_notes_12 : decode cX7_notes 12 = .ok (.iload_n 1, 1) := by decide +kernel
theorem dX7_notes_13 : decode cX7_notes 13 = .ok (.sipush 232, 3) := by decide +kernel
theorem dX7_notes_16 : decode cX7_notes 16 = .ok (.if_icmp .ge 24, 3) := by decide +kernel
theorem dX7_notes_19 : decode cX7_notes 19 = .ok (.aload_n 0, 1) := by decide +kernel
theorem dX7_notes_20 : decode cX7_notes 20 = .ok (.getfield 22, 3) := by decide +kernel
theorem dX7_notes_23 : decode cX7_notes 23 = .ok (.iload_n 1, 1) := by decide +kernel
theorem dX7_notes_24 : decode cX7_notes 24 = .ok (.bipush 29, 2) := by decide +kernel
theorem dX7_notes_26 : decode cX7_notes 26 = .ok (.isub, 1) := by decide +kernel
theorem dX7_notes_27 : decode cX7_notes 27 = .ok (.aload_n 0, 1) := by decide +kernel
theorem dX7_notes_28 : decode cX7_notes 28 = .ok (.getfield 22, 3) := by decide +kernel
theorem dX7_notes_31 : decode cX7_notes 31 = .ok (.iload_n 1, 1) := by decide +kernel
theorem dX7_notes_32 : decode cX7_notes 32 = .ok (.iaload, 1) := by decide +kernel
theorem dX7_notes_33 : decode cX7_notes 33 = .ok (.iastore, 1) := by decide +kernel
theorem dX7_notes_34 : decode cX7_notes 34 = .ok (.iinc 1 1, 3) := by decide +kernel
theorem dX7_notes_37 : decode cX7_notes 37 = .ok (.goto (-25), 3) := by decide +kernel
theorem dX7_notes_40 : decode cX7_notes 40 = .ok (.aload_n 0, 1) := by decide +kernel
theorem dX7_notes_41 : decode cX7_notes 41 = .ok (.bipush 7, 2) := by decide +kernel
theorem dX7_notes_43 : decode cX7_notes 43 = .ok (.putfield 86, 3) := by decide +kernel
theorem dX7_notes_46 : decode cX7_notes 46 = .ok (.iconst 0, 1) := by decide +kernel
theorem dX7_notes_47 : decode cX7_notes 47 = .ok (.istore_n 1, 1) := by decide +kernel
theorem dX7_notes_48 : decode cX7_notes 48 = .ok (.iload_n 1, 1) := by decide +kernel
theorem dX7_notes_49 : decode cX7_notes 49 = .ok (.bipush 29, 2) := by decide +kernel
theorem dX7_notes_51 : decode cX7_notes 51 = .ok (.if_icmp .ge 29, 3) := by decide +kernel
theorem dX7_notes_54 : decode cX7_notes 54 = .ok (.aload_n 0, 1) := by decide +kernel
theorem dX7_notes_55 : decode cX7_notes 55 = .ok (.getfield 22, 3) := by decide +kernel
theorem dX7_notes_58 : decode cX7_notes 58 = .ok (.bipush 29, 2) := by decide +kernel
theorem dX7_notes_60 : decode cX7_notes 60 = .ok (.aload_n 0, 1) := by decide +kernel
theorem dX7_notes_61 : decode cX7_notes 61 = .ok (.getfield 86, 3) := by decide +kernel
theorem dX7_notes_64 : decode cX7_notes 64 = .ok (.imul, 1) := by decide +kernel
theorem dX7_notes_65 : decode cX7_notes 65 = .ok (.iload_n 1, 1) := by decide +kernel
theorem dX7_notes_66 : decode cX7_notes 66 = .ok (.iadd, 1) := by decide +kernel
theorem dX7_notes_67 : decode cX7_notes 67 = .ok (.aload_n 0, 1) := by decide +kernel
theorem dX7_notes_68 : decode cX7_notes 68 = .ok (.getfield 7, 3) := by decide +kernel
theorem dX7_notes_71 : decode cX7_notes 71 = .ok (.iload_n 1, 1) := by decide +kernel
theorem dX7_notes_72 : decode cX7_notes 72 = .ok (.iaload, 1) := by decide +kernel
theorem dX7_notes_73 : decode cX7_notes 73 = .ok (.iastore, 1) := by decide +kernel
theorem dX7_notes_74 : decode cX7_notes 74 = .ok (.iinc 1 1, 3) := by decide +kernel
theorem dX7_notes_77 : decode cX7_notes 77 = .ok (.goto (-29), 3) := by decide +kernel
theorem dX7_notes_80 : decode cX7_notes 80 = .ok (.aload_n 0, 1) := by decide +kernel
theorem dX7_notes_81 : decode cX7_notes 81 = .ok (.dup, 1) := by decide +kernel
theorem dX7_notes_82 : decode cX7_notes 82 = .ok (.getfield 86, 3) := by decide +kernel
theorem dX7_notes_85 : decode cX7_notes 85 = .ok (.iconst 1, 1) := by decide +kernel
theorem dX7_notes_86 : decode cX7_notes 86 = .ok (.iadd, 1) := by decide +kernel
theorem dX7_notes_87 : decode cX7_notes 87 = .ok (.putfield 86, 3) := by decide +kernel
theorem dX7_notes_90 : decode cX7_notes 90 = .ok (.return_, 1) := by decide +kernel
theorem dX7_days_0 : decode cX7_days 0 = .ok (.iload_n 1, 1) := by decide +kernel
theorem dX7_days_1 : decode cX7_days 1 = .ok (.i2l, 1) := by decide +kernel
theorem dX7_days_2 : decode cX7_days 2 = .ok (.lconst 1, 1) := by decide +kernel
theorem dX7_days_3 : decode cX7_days 3 = .ok (.ldc2_w 151, 3) := by decide +kernel
theorem dX7_days_6 : decode cX7_days 6 = .ok (.invokestatic 44, 3) := by decide +kernel
theorem dX7_days_9 : decode cX7_days 9 = .ok (.ifCond .ne 5, 3) := by decide +kernel
theorem dX7_days_12 : decode cX7_days 12 = .ok (.iconst (-1), 1) := by decide +kernel
theorem dX7_days_13 : decode cX7_days 13 = .ok (.ireturn, 1) := by decide +kernel
theorem dX7_days_14 : decode cX7_days 14 = .ok (.aload_n 0, 1) := by decide +kernel
theorem dX7_days_15 : decode cX7_days 15 = .ok (.getfield 7, 3) := by decide +kernel
theorem dX7_days_18 : decode cX7_days 18 = .ok (.iconst 1, 1) := by decide +kernel
theorem dX7_days_19 : decode cX7_days 19 = .ok (.iaload, 1) := by decide +kernel
theorem dX7_days_20 : decode cX7_days 20 = .ok (.iload_n 1, 1) := by decide +kernel
theorem dX7_days_21 : decode cX7_days 21 = .ok (.iadd, 1) := by decide +kernel
theorem dX7_days_22 : decode cX7_days 22 = .ok (.sipush 9999, 3) := by decide +kernel
theorem dX7_days_25 : decode cX7_days 25 = .ok (.if_icmp .le 6, 3) := by decide +kernel
theorem dX7_days_28 : decode cX7_days 28 = .ok (.bipush (-3), 2) := by decide +kernel
theorem dX7_days_30 : decode cX7_days 30 = .ok (.ireturn, 1) := by decide +kernel
theorem dX7_days_31 : decode cX7_days 31 = .ok (.aload_n 0, 1) := by decide +kernel
theorem dX7_days_32 : decode cX7_days 32 = .ok (.getfield 7, 3) := by decide +kernel
theorem dX7_days_35 : decode cX7_days 35 = .ok (.iconst 5, 1) := by decide +kernel
theorem dX7_days_36 : decode cX7_days 36 = .ok (.iaload, 1) := by decide +kernel
theorem dX7_days_37 : decode cX7_days 37 = .ok (.istore_n 2, 1) := by decide +kernel
theorem dX7_days_38 : decode cX7_days 38 = .ok (.iconst 0, 1) := by decide +kernel
theorem dX7_days_39 : decode cX7_days 39 = .ok (.istore_n 3, 1) := by decide +kernel
theorem dX7_days_40 : decode cX7_days 40 = .ok (.iload_n 3, 1) := by decide +kernel
theorem dX7_days_41 : decode cX7_days 41 = .ok (.iload_n 1, 1) := by decide +kernel
theorem dX7_days_42 : decode cX7_days 42 = .ok (.if_icmp .ge 17, 3) := by decide +kernel
theorem dX7_days_45 : decode cX7_days 45 = .ok (.aload_n 0, 1) := by decide +kernel
theorem dX7_days_46 : decode cX7_days 46 = .ok (.invokevirtual 153, 3) := by decide +kernel
theorem dX7_days_49 : decode cX7_days 49 = .ok (.aload_n 0, 1) := by decide +kernel
theorem dX7_days_50 : decode cX7_days 50 = .ok (.invokevirtual 83, 3) := by decide +kernel
theorem dX7_days_53 : decode cX7_days 53 = .ok (.iinc 3 1, 3) := by decide +kernel
theorem dX7_days_56 : decode cX7_days 56 = .ok (.goto (-16), 3) := by decide +kernel
theorem dX7_days_59 : decode cX7_days 59 = .ok (.aload_n 0, 1) := by decide +kernel
theorem dX7_days_60 : decode cX7_days 60 = .ok (.getfield 7, 3) := by decide +kernel
theorem dX7_days_63 : decode cX7_days 63 = .ok (.iconst 5, 1) := by decide +kernel
theorem dX7_days_64 : decode cX7_days 64 = .ok (.iaload, 1) := by decide +kernel
theorem dX7_days_65 : decode cX7_days 65 = .ok (.iload_n 2, 1) := by decide +kernel
theorem dX7_days_66 : decode cX7_days 66 = .ok (.isub, 1) := by decide +kernel
theorem dX7_days_67 : decode cX7_days 67 = .ok (.ireturn, 1) := by decide +kernel
theorem dX7_list_0 : decode cX7_list 0 = .ok (.iload_n 1, 1) := by decide +kernel
theorem dX7_list_1 : decode cX7_list 1 = .ok (.i2l, 1) := by decide +kernel
theorem dX7_list_2 : decode cX7_list 2 = .ok (.lconst 0, 1) := by decide +kernel
theorem dX7_list_3 : decode cX7_list 3 = .ok (.ldc2_w 91, 3) := by decide +kernel
theorem dX7_list_6 : decode cX7_list 6 = .ok (.invokestatic 44, 3) := by decide +kernel
theorem dX7_list_9 : decode cX7_list 9 = .ok (.ifCond .ne 5, 3) := by decide +kernel
theorem dX7_list_12 : decode cX7_list 12 = .ok (.iconst (-1), 1) := by decide +kernel
theorem dX7_list_13 : decode cX7_list 13 = .ok (.ireturn, 1) := by decide +kernel
theorem dX7_list_14 : decode cX7_list 14 = .ok (.aload_n 0, 1) := by decide +kernel
theorem dX7_list_15 : decode cX7_list 15 = .ok (.getfield 7, 3) := by decide +kernel
theorem dX7_list_18 : decode cX7_list 18 = .ok (.iconst 2, 1) := by decide +kernel
theorem dX7_list_19 : decode cX7_list 19 = .ok (.iaload, 1) := by decide +kernel
theorem dX7_list_20 : decode cX7_list 20 = .ok (.istore_n 2, 1) := by decide +kernel
theorem dX7_list_21 : decode cX7_list 21 = .ok (.iload_n 2, 1) := by decide +kernel
theorem dX7_list_22 : decode cX7_list 22 = .ok (.iload_n 1, 1) := by decide +kernel
theorem dX7_list_23 : decode cX7_list 23 = .ok (.if_icmp .ne 6, 3) := by decide +kernel
theorem dX7_list_26 : decode cX7_list 26 = .ok (.bipush (-2), 2) := by decide +kernel
theorem dX7_list_28 : decode cX7_list 28 = .ok (.ireturn, 1) := by decide +kernel
theorem dX7_list_29 : decode cX7_list 29 = .ok (.aload_n 0, 1) := by decide +kernel
theorem dX7_list_30 : decode cX7_list 30 = .ok (.invokevirtual 153, 3) := by decide +kernel
theorem dX7_list_33 : decode cX7_list 33 = .ok (.aload_n 0, 1) := by decide +kernel
theorem dX7_list_34 : decode cX7_list 34 = .ok (.getfield 7, 3) := by decide +kernel
theorem dX7_list_37 : decode cX7_list 37 = .ok (.iconst 2, 1) := by decide +kernel
theorem dX7_list_38 : decode cX7_list 38 = .ok (.iload_n 1, 1) := by decide +kernel
theorem dX7_list_39 : decode cX7_list 39 = .ok (.iastore, 1) := by decide +kernel
theorem dX7_list_40 : decode cX7_list 40 = .ok (.iload_n 2, 1) := by decide +kernel
theorem dX7_list_41 : decode cX7_list 41 = .ok (.ireturn, 1) := by decide +kernel
theorem dX7_mend_0 : decode cX7_mend 0 = .ok (.iload_n 1, 1) := by decide +kernel
theorem dX7_mend_1 : decode cX7_mend 1 = .ok (.invokestatic 102, 3) := by decide +kernel
theorem dX7_mend_4 : decode cX7_mend 4 = .ok (.ifCond .eq 15, 3) := by decide +kernel
theorem dX7_mend_7 : decode cX7_mend 7 = .ok (.iload_n 2, 1) := by decide +kernel
theorem dX7_mend_8 : decode cX7_mend 8 = .ok (.i2l, 1) := by decide +kernel
theorem dX7_mend_9 : decode cX7_mend 9 = .ok (.lconst 1, 1) := by decide +kernel
theorem dX7_mend_10 : decode cX7_mend 10 = .ok (.ldc2_w 151, 3) := by decide +kernel
theorem dX7_mend_13 : decode cX7_mend 13 = .ok (.invokestatic 44, 3) := by decide +kernel
theorem dX7_mend_16 : decode cX7_mend 16 = .ok (.ifCond .ne 5, 3) := by decide +kernel
theorem dX7_mend_19 : decode cX7_mend 19 = .ok (.iconst (-1), 1) := by decide +kernel
theorem dX7_mend_20 : decode cX7_mend 20 = .ok (.ireturn, 1) := by decide +kernel
theorem dX7_mend_21 : decode cX7_mend 21 = .ok (.aload_n 0, 1) := by decide +kernel
theorem dX7_mend_22 : decode cX7_mend 22 = .ok (.getfield 7, 3) := by decide +kernel
theorem dX7_mend_25 : decode cX7_mend 25 = .ok (.bipush 7, 2) := by decide +kernel
theorem dX7_mend_27 : decode cX7_mend 27 = .ok (.iload_n 1, 1) := by decide +kernel
theorem dX7_mend_28 : decode cX7_mend 28 = .ok (.iadd, 1) := by decide +kernel
theorem dX7_mend_29 : decode cX7_mend 29 = .ok (.iaload, 1) := by decide +kernel
theorem dX7_mend_30 : decode cX7_mend 30 = .ok (.bipush 40, 2) := by decide +kernel
theorem dX7_mend_32 : decode cX7_mend 32 = .ok (.if_icmp .ne 6, 3) := by decide +kernel
theorem dX7_mend_35 : decode cX7_mend 35 = .ok (.bipush (-2), 2) := by decide +kernel
theorem dX7_mend_37 : decode cX7_mend 37 = .ok (.ireturn, 1) := by decide +kernel
theorem dX7_mend_38 : decode cX7_mend 38 = .ok (.aload_n 0, 1) := by decide +kernel
theorem dX7_mend_39 : decode cX7_mend 39 = .ok (.invokevirtual 153, 3) := by decide +kernel
theorem dX7_mend_42 : decode cX7_mend 42 = .ok (.aload_n 0, 1) := by decide +kernel
theorem dX7_mend_43 : decode cX7_mend 43 = .ok (.iload_n 1, 1) := by decide +kernel
theorem dX7_mend_44 : decode cX7_mend 44 = .ok (.iload_n 2, 1) := by decide +kernel
theorem dX7_mend_45 : decode cX7_mend 45 = .ok (.invokevirtual 54, 3) := by decide +kernel
theorem dX7_mend_48 : decode cX7_mend 48 = .ok (.aload_n 0, 1) := by decide +kernel
theorem dX7_mend_49 : decode cX7_mend 49 = .ok (.getfield 7, 3) := by decide +kernel
theorem dX7_mend_52 : decode cX7_mend 52 = .ok (.bipush 7, 2) := by decide +kernel
theorem dX7_mend_54 : decode cX7_mend 54 = .ok (.iload_n 1, 1) := by decide +kernel
theorem dX7_mend_55 : decode cX7_mend 55 = .ok (.iadd, 1) := by decide +kernel
theorem dX7_mend_56 : decode cX7_mend 56 = .ok (.iaload, 1) := by decide +kernel
theorem dX7_mend_57 : decode cX7_mend 57 = .ok (.ireturn, 1) := by decide +kernel
theorem dX7_floodBy_0 : decode cX7_floodBy 0 = .ok (.iconst 0, 1) := by decide +kernel
theorem dX7_floodBy_1 : decode cX7_floodBy 1 = .ok (.istore_n 2, 1) := by decide +kernel
theorem dX7_floodBy_2 : decode cX7_floodBy 2 = .ok (.iload_n 2, 1) := by decide +kernel
theorem dX7_floodBy_3 : decode cX7_floodBy 3 = .ok (.iconst 4, 1) := by decide +kernel
theorem dX7_floodBy_4 : decode cX7_floodBy 4 = .ok (.if_icmp .ge 16, 3) := by decide +kernel
theorem dX7_floodBy_7 : decode cX7_floodBy 7 = .ok (.aload_n 0, 1) := by decide +kernel
theorem dX7_floodBy_8 : decode cX7_floodBy 8 = .ok (.iload_n 2, 1) := by decide +kernel
theorem dX7_floodBy_9 : decode cX7_floodBy 9 = .ok (.iload_n 1, 1) := by decide +kernel
theorem dX7_floodBy_10 : decode cX7_floodBy 10 = .ok (.ineg, 1) := by decide +kernel
theorem dX7_floodBy_11 : decode cX7_floodBy 11 = .ok (.invokevirtual 54, 3) := by decide +kernel
theorem dX7_floodBy_14 : decode cX7_floodBy 14 = .ok (.iinc 2 1, 3) := by decide +kernel
theorem dX7_floodBy_17 : decode cX7_floodBy 17 = .ok (.goto (-15), 3) := by decide +kernel
theorem dX7_floodBy_20 : decode cX7_floodBy 20 = .ok (.return_, 1) := by decide +kernel
theorem dX7_flood_0 : decode cX7_flood 0 = .ok (.iload_n 1, 1) := by decide +kernel
theorem dX7_flood_1 : decode cX7_flood 1 = .ok (.i2l, 1) := by decide +kernel
theorem dX7_flood_2 : decode cX7_flood 2 = .ok (.lconst 1, 1) := by decide +kernel
theorem dX7_flood_3 : decode cX7_flood 3 = .ok (.ldc2_w 151, 3) := by decide +kernel
theorem dX7_flood_6 : decode cX7_flood 6 = .ok (.invokestatic 44, 3) := by decide +kernel
theorem dX7_flood_9 : decode cX7_flood 9 = .ok (.ifCond .ne 5, 3) := by decide +kernel
theorem dX7_flood_12 : decode cX7_flood 12 = .ok (.iconst (-1), 1) := by decide +kernel
theorem dX7_flood_13 : decode cX7_flood 13 = .ok (.ireturn, 1) := by decide +kernel
theorem dX7_flood_14 : decode cX7_flood 14 = .ok (.aload_n 0, 1) := by decide +kernel
theorem dX7_flood_15 : decode cX7_flood 15 = .ok (.invokevirtual 153, 3) := by decide +kernel
theorem dX7_flood_18 : decode cX7_flood 18 = .ok (.aload_n 0, 1) := by decide +kernel
theorem dX7_flood_19 : decode cX7_flood 19 = .ok (.iload_n 1, 1) := by decide +kernel
theorem dX7_flood_20 : decode cX7_flood 20 = .ok (.invokevirtual 156, 3) := by decide +kernel
theorem dX7_flood_23 : decode cX7_flood 23 = .ok (.aload_n 0, 1) := by decide +kernel
theorem dX7_flood_24 : decode cX7_flood 24 = .ok (.invokevirtual 105, 3) := by decide +kernel
theorem dX7_flood_27 : decode cX7_flood 27 = .ok (.ireturn, 1) := by decide +kernel
theorem dX7_drift_0 : decode cX7_drift 0 = .ok (.iload_n 1, 1) := by decide +kernel
theorem dX7_drift_1 : decode cX7_drift 1 = .ok (.i2l, 1) := by decide +kernel
theorem dX7_drift_2 : decode cX7_drift 2 = .ok (.lconst 1, 1) := by decide +kernel
theorem dX7_drift_3 : decode cX7_drift 3 = .ok (.ldc2_w 151, 3) := by decide +kernel
theorem dX7_drift_6 : decode cX7_drift 6 = .ok (.invokestatic 44, 3) := by decide +kernel
theorem dX7_drift_9 : decode cX7_drift 9 = .ok (.ifCond .ne 5, 3) := by decide +kernel
theorem dX7_drift_12 : decode cX7_drift 12 = .ok (.iconst (-1), 1) := by decide +kernel
theorem dX7_drift_13 : decode cX7_drift 13 = .ok (.ireturn, 1) := by decide +kernel
theorem dX7_drift_14 : decode cX7_drift 14 = .ok (.aload_n 0, 1) := by decide +kernel
theorem dX7_drift_15 : decode cX7_drift 15 = .ok (.getfield 7, 3) := by decide +kernel
theorem dX7_drift_18 : decode cX7_drift 18 = .ok (.iconst 1, 1) := by decide +kernel
theorem dX7_drift_19 : decode cX7_drift 19 = .ok (.iaload, 1) := by decide +kernel
theorem dX7_drift_20 : decode cX7_drift 20 = .ok (.iload_n 1, 1) := by decide +kernel
theorem dX7_drift_21 : decode cX7_drift 21 = .ok (.iadd, 1) := by decide +kernel
theorem dX7_drift_22 : decode cX7_drift 22 = .ok (.sipush 9999, 3) := by decide +kernel
theorem dX7_drift_25 : decode cX7_drift 25 = .ok (.if_icmp .le 6, 3) := by decide +kernel
theorem dX7_drift_28 : decode cX7_drift 28 = .ok (.bipush (-3), 2) := by decide +kernel
theorem dX7_drift_30 : decode cX7_drift 30 = .ok (.ireturn, 1) := by decide +kernel
theorem dX7_drift_31 : decode cX7_drift 31 = .ok (.aload_n 0, 1) := by decide +kernel
theorem dX7_drift_32 : decode cX7_drift 32 = .ok (.getfield 7, 3) := by decide +kernel
theorem dX7_drift_35 : decode cX7_drift 35 = .ok (.iconst 5, 1) := by decide +kernel
theorem dX7_drift_36 : decode cX7_drift 36 = .ok (.iaload, 1) := by decide +kernel
theorem dX7_drift_37 : decode cX7_drift 37 = .ok (.istore_n 2, 1) := by decide +kernel
theorem dX7_drift_38 : decode cX7_drift 38 = .ok (.iconst 0, 1) := by decide +kernel
theorem dX7_drift_39 : decode cX7_drift 39 = .ok (.istore_n 3, 1) := by decide +kernel
theorem dX7_drift_40 : decode cX7_drift 40 = .ok (.iload_n 3, 1) := by decide +kernel
theorem dX7_drift_41 : decode cX7_drift 41 = .ok (.iload_n 1, 1) := by decide +kernel
theorem dX7_drift_42 : decode cX7_drift 42 = .ok (.if_icmp .ge 85, 3) := by decide +kernel
theorem dX7_drift_45 : decode cX7_drift 45 = .ok (.aload_n 0, 1) := by decide +kernel
theorem dX7_drift_46 : decode cX7_drift 46 = .ok (.invokevirtual 153, 3) := by decide +kernel
theorem dX7_drift_49 : decode cX7_drift 49 = .ok (.aload_n 0, 1) := by decide +kernel
theorem dX7_drift_50 : decode cX7_drift 50 = .ok (.getfield 7, 3) := by decide +kernel
theorem dX7_drift_53 : decode cX7_drift 53 = .ok (.bipush 6, 2) := by decide +kernel
theorem dX7_drift_55 : decode cX7_drift 55 = .ok (.aload_n 0, 1) := by decide +kernel
theorem dX7_drift_56 : decode cX7_drift 56 = .ok (.getfield 7, 3) := by decide +kernel
theorem dX7_drift_59 : decode cX7_drift 59 = .ok (.bipush 6, 2) := by decide +kernel
theorem dX7_drift_61 : decode cX7_drift 61 = .ok (.iaload, 1) := by decide +kernel
theorem dX7_drift_62 : decode cX7_drift 62 = .ok (.i2l, 1) := by decide +kernel
theorem dX7_drift_63 : decode cX7_drift 63 = .ok (.ldc2_w 159, 3) := by decide +kernel
theorem dX7_drift_66 : decode cX7_drift 66 = .ok (.lmul, 1) := by decide +kernel
theorem dX7_drift_67 : decode cX7_drift 67 = .ok (.ldc2_w 161, 3) := by decide +kernel
theorem dX7_drift_70 : decode cX7_drift 70 = .ok (.ladd, 1) := by decide +kernel
theorem dX7_drift_71 : decode cX7_drift 71 = .ok (.ldc2_w 163, 3) := by decide +kernel
theorem dX7_drift_74 : decode cX7_drift 74 = .ok (.land, 1) := by decide +kernel
theorem dX7_drift_75 : decode cX7_drift 75 = .ok (.l2i, 1) := by decide +kernel
theorem dX7_drift_76 : decode cX7_drift 76 = .ok (.iastore, 1) := by decide +kernel
theorem dX7_drift_77 : decode cX7_drift 77 = .ok (.aload_n 0, 1) := by decide +kernel
theorem dX7_drift_78 : decode cX7_drift 78 = .ok (.getfield 7, 3) := by decide +kernel
theorem dX7_drift_81 : decode cX7_drift 81 = .ok (.bipush 6, 2) := by decide +kernel
theorem dX7_drift_83 : decode cX7_drift 83 = .ok (.iaload, 1) := by decide +kernel
theorem dX7_drift_84 : decode cX7_drift 84 = .ok (.ldc 165, 2) := by decide +kernel
theorem dX7_drift_86 : decode cX7_drift 86 = .ok (.idiv, 1) := by decide +kernel
theorem dX7_drift_87 : decode cX7_drift 87 = .ok (.iconst 5, 1) := by decide +kernel
theorem dX7_drift_88 : decode cX7_drift 88 = .ok (.irem, 1) := by decide +kernel
theorem dX7_drift_89 : decode cX7_drift 89 = .ok (.ifCond .ne 28, 3) := by decide +kernel
theorem dX7_drift_92 : decode cX7_drift 92 = .ok (.aload_n 0, 1) := by decide +kernel
theorem dX7_drift_93 : decode cX7_drift 93 = .ok (.getfield 7, 3) := by decide +kernel
theorem dX7_drift_96 : decode cX7_drift 96 = .ok (.iconst 2, 1) := by decide +kernel
theorem dX7_drift_97 : decode cX7_drift 97 = .ok (.dup2, 1) := by decide +kernel
theorem dX7_drift_98 : decode cX7_drift 98 = .ok (.iaload, 1) := by decide +kernel
theorem dX7_drift_99 : decode cX7_drift 99 = .ok (.iconst 1, 1) := by decide +kernel
theorem dX7_drift_100 : decode cX7_drift 100 = .ok (.aload_n 0, 1) := by decide +kernel
theorem dX7_drift_101 : decode cX7_drift 101 = .ok (.getfield 7, 3) := by decide +kernel
theorem dX7_drift_104 : decode cX7_drift 104 = .ok (.bipush 6, 2) := by decide +kernel
theorem dX7_drift_106 : decode cX7_drift 106 = .ok (.iaload, 1) := by decide +kernel
theorem dX7_drift_107 : decode cX7_drift 107 = .ok (.sipush 128, 3) := by decide +kernel
theorem dX7_drift_110 : decode cX7_drift 110 = .ok (.idiv, 1) := by decide +kernel
theorem dX7_drift_111 : decode cX7_drift 111 = .ok (.bipush 6, 2) := by decide +kernel
theorem dX7_drift_113 : decode cX7_drift 113 = .ok (.irem, 1) := by decide +kernel
theorem dX7_drift_114 : decode cX7_drift 114 = .ok (.ishl, 1) := by decide +kernel
theorem dX7_drift_115 : decode cX7_drift 115 = .ok (.ixor, 1) := by decide +kernel
theorem dX7_drift_116 : decode cX7_drift 116 = .ok (.iastore, 1) := by decide +kernel
theorem dX7_drift_117 : decode cX7_drift 117 = .ok (.aload_n 0, 1) := by decide +kernel
theorem dX7_drift_118 : decode cX7_drift 118 = .ok (.invokevirtual 83, 3) := by decide +kernel
theorem dX7_drift_121 : decode cX7_drift 121 = .ok (.iinc 3 1, 3) := by decide +kernel
theorem dX7_drift_124 : decode cX7_drift 124 = .ok (.goto (-84), 3) := by decide +kernel
theorem dX7_drift_127 : decode cX7_drift 127 = .ok (.aload_n 0, 1) := by decide +kernel
theorem dX7_drift_128 : decode cX7_drift 128 = .ok (.getfield 7, 3) := by decide +kernel
theorem dX7_drift_131 : decode cX7_drift 131 = .ok (.iconst 5, 1) := by decide +kernel
theorem dX7_drift_132 : decode cX7_drift 132 = .ok (.iaload, 1) := by decide +kernel
theorem dX7_drift_133 : decode cX7_drift 133 = .ok (.iload_n 2, 1) := by decide +kernel
theorem dX7_drift_134 : decode cX7_drift 134 = .ok (.isub, 1) := by decide +kernel
theorem dX7_drift_135 : decode cX7_drift 135 = .ok (.ireturn, 1) := by decide +kernel
theorem dX7_undo_0 : decode cX7_undo 0 = .ok (.aload_n 0, 1) := by decide +kernel
theorem dX7_undo_1 : decode cX7_undo 1 = .ok (.getfield 86, 3) := by decide +kernel
theorem dX7_undo_4 : decode cX7_undo 4 = .ok (.ifCond .ne 6, 3) := by decide +kernel
theorem dX7_undo_7 : decode cX7_undo 7 = .ok (.bipush (-4), 2) := by decide +kernel
theorem dX7_undo_9 : decode cX7_undo 9 = .ok (.ireturn, 1) := by decide +kernel
theorem dX7_undo_10 : decode cX7_undo 10 = .ok (.aload_n 0, 1) := by decide +kernel
theorem dX7_undo_11 : decode cX7_undo 11 = .ok (.dup, 1) := by decide +kernel
theorem dX7_undo_12 : decode cX7_undo 12 = .ok (.getfield 86, 3) := by decide +kernel
theorem dX7_undo_15 : decode cX7_undo 15 = .ok (.iconst 1, 1) := by decide +kernel
theorem dX7_undo_16 : decode cX7_undo 16 = .ok (.isub, 1) := by decide +kernel
theorem dX7_undo_17 : decode cX7_undo 17 = .ok (.putfield 86, 3) := by decide +kernel
theorem dX7_undo_20 : decode cX7_undo 20 = .ok (.iconst 0, 1) := by decide +kernel
theorem dX7_undo_21 : decode cX7_undo 21 = .ok (.istore_n 1, 1) := by decide +kernel
theorem dX7_undo_22 : decode cX7_undo 22 = .ok (.iload_n 1, 1) := by decide +kernel
theorem dX7_undo_23 : decode cX7_undo 23 = .ok (.bipush 29, 2) := by decide +kernel
theorem dX7_undo_25 : decode cX7_undo 25 = .ok (.if_icmp .ge 29, 3) := by decide +kernel
theorem dX7_undo_28 : decode cX7_undo 28 = .ok (.aload_n 0, 1) := by decide +kernel
theorem dX7_undo_29 : decode cX7_undo 29 = .ok (.getfield 7, 3) := by decide +kernel
theorem dX7_undo_32 : decode cX7_undo 32 = .ok (.iload_n 1, 1) := by decide +kernel
theorem dX7_undo_33 : decode cX7_undo 33 = .ok (.aload_n 0, 1) := by decide +kernel
theorem dX7_undo_34 : decode cX7_undo 34 = .ok (.getfield 22, 3) := by decide +kernel
theorem dX7_undo_37 : decode cX7_undo 37 = .ok (.bipush 29, 2) := by decide +kernel
theorem dX7_undo_39 : decode cX7_undo 39 = .ok (.aload_n 0, 1) := by decide +kernel
theorem dX7_undo_40 : decode cX7_undo 40 = .ok (.getfield 86, 3) := by decide +kernel
theorem dX7_undo_43 : decode cX7_undo 43 = .ok (.imul, 1) := by decide +kernel
theorem dX7_undo_44 : decode cX7_undo 44 = .ok (.iload_n 1, 1) := by decide +kernel
theorem dX7_undo_45 : decode cX7_undo 45 = .ok (.iadd, 1) := by decide +kernel
theorem dX7_undo_46 : decode cX7_undo 46 = .ok (.iaload, 1) := by decide +kernel
theorem dX7_undo_47 : decode cX7_undo 47 = .ok (.iastore, 1) := by decide +kernel
theorem dX7_undo_48 : decode cX7_undo 48 = .ok (.iinc 1 1, 3) := by decide +kernel
theorem dX7_undo_51 : decode cX7_undo 51 = .ok (.goto (-29), 3) := by decide +kernel
theorem dX7_undo_54 : decode cX7_undo 54 = .ok (.aload_n 0, 1) := by decide +kernel
theorem dX7_undo_55 : decode cX7_undo 55 = .ok (.getfield 86, 3) := by decide +kernel
theorem dX7_undo_58 : decode cX7_undo 58 = .ok (.ireturn, 1) := by decide +kernel
theorem dX7_seed_0 : decode cX7_seed 0 = .ok (.iload_n 1, 1) := by decide +kernel
theorem dX7_seed_1 : decode cX7_seed 1 = .ok (.ifCond .ge 5, 3) := by decide +kernel
theorem dX7_seed_4 : decode cX7_seed 4 = .ok (.iconst (-1), 1) := by decide +kernel
theorem dX7_seed_5 : decode cX7_seed 5 = .ok (.ireturn, 1) := by decide +kernel
theorem dX7_seed_6 : decode cX7_seed 6 = .ok (.aload_n 0, 1) := by decide +kernel
theorem dX7_seed_7 : decode cX7_seed 7 = .ok (.getfield 7, 3) := by decide +kernel
theorem dX7_seed_10 : decode cX7_seed 10 = .ok (.bipush 6, 2) := by decide +kernel
theorem dX7_seed_12 : decode cX7_seed 12 = .ok (.iaload, 1) := by decide +kernel
theorem dX7_seed_13 : decode cX7_seed 13 = .ok (.istore_n 2, 1) := by decide +kernel
theorem dX7_seed_14 : decode cX7_seed 14 = .ok (.aload_n 0, 1) := by decide +kernel
theorem dX7_seed_15 : decode cX7_seed 15 = .ok (.getfield 7, 3) := by decide +kernel
theorem dX7_seed_18 : decode cX7_seed 18 = .ok (.bipush 6, 2) := by decide +kernel
theorem dX7_seed_20 : decode cX7_seed 20 = .ok (.iload_n 1, 1) := by decide +kernel
theorem dX7_seed_21 : decode cX7_seed 21 = .ok (.iastore, 1) := by decide +kernel
theorem dX7_seed_22 : decode cX7_seed 22 = .ok (.iload_n 2, 1) := by decide +kernel
theorem dX7_seed_23 : decode cX7_seed 23 = .ok (.ireturn, 1) := by decide +kernel
theorem dX7_asides_0 : decode cX7_asides 0 = .ok (.iconst 0, 1) := by decide +kernel
theorem dX7_asides_1 : decode cX7_asides 1 = .ok (.istore_n 1, 1) := by decide +kernel
theorem dX7_asides_2 : decode cX7_asides 2 = .ok (.iload_n 1, 1) := by decide +kernel
theorem dX7_asides_3 : decode cX7_asides 3 = .ok (.bipush 29, 2) := by decide +kernel
theorem dX7_asides_5 : decode cX7_asides 5 = .ok (.if_icmp .ge 21, 3) := by decide +kernel
theorem dX7_asides_8 : decode cX7_asides 8 = .ok (.aload_n 0, 1) := by decide +kernel
theorem dX7_asides_9 : decode cX7_asides 9 = .ok (.getfield 25, 3) := by decide +kernel
theorem dX7_asides_12 : decode cX7_asides 12 = .ok (.iload_n 1, 1) := by decide +kernel
theorem dX7_asides_13 : decode cX7_asides 13 = .ok (.aload_n 0, 1) := by decide +kernel
theorem dX7_asides_14 : decode cX7_asides 14 = .ok (.getfield 7, 3) := by decide +kernel
theorem dX7_asides_17 : decode cX7_asides 17 = .ok (.iload_n 1, 1) := by decide +kernel
theorem dX7_asides_18 : decode cX7_asides 18 = .ok (.iaload, 1) := by decide +kernel
theorem dX7_asides_19 : decode cX7_asides 19 = .ok (.iastore, 1) := by decide +kernel
theorem dX7_asides_20 : decode cX7_asides 20 = .ok (.iinc 1 1, 3) := by decide +kernel
theorem dX7_asides_23 : decode cX7_asides 23 = .ok (.goto (-21), 3) := by decide +kernel
theorem dX7_asides_26 : decode cX7_asides 26 = .ok (.return_, 1) := by decide +kernel
theorem dX7_backs_0 : decode cX7_backs 0 = .ok (.iconst 0, 1) := by decide +kernel
theorem dX7_backs_1 : decode cX7_backs 1 = .ok (.istore_n 1, 1) := by decide +kernel
theorem dX7_backs_2 : decode cX7_backs 2 = .ok (.iload_n 1, 1) := by decide +kernel
theorem dX7_backs_3 : decode cX7_backs 3 = .ok (.bipush 29, 2) := by decide +kernel
theorem dX7_backs_5 : decode cX7_backs 5 = .ok (.if_icmp .ge 21, 3) := by decide +kernel
theorem dX7_backs_8 : decode cX7_backs 8 = .ok (.aload_n 0, 1) := by decide +kernel
theorem dX7_backs_9 : decode cX7_backs 9 = .ok (.getfield 7, 3) := by decide +kernel
theorem dX7_backs_12 : decode cX7_backs 12 = .ok (.iload_n 1, 1) := by decide +kernel
theorem dX7_backs_13 : decode cX7_backs 13 = .ok (.aload_n 0, 1) := by decide +kernel
theorem dX7_backs_14 : decode cX7_backs 14 = .ok (.getfield 25, 3) := by decide +kernel
theorem dX7_backs_17 : decode cX7_backs 17 = .ok (.iload_n 1, 1) := by decide +kernel
theorem dX7_backs_18 : decode cX7_backs 18 = .ok (.iaload, 1) := by decide +kernel
theorem dX7_backs_19 : decode cX7_backs 19 = .ok (.iastore, 1) := by decide +kernel
theorem dX7_backs_20 : decode cX7_backs 20 = .ok (.iinc 1 1, 3) := by decide +kernel
theorem dX7_backs_23 : decode cX7_backs 23 = .ok (.goto (-21), 3) := by decide +kernel
theorem dX7_backs_26 : decode cX7_backs 26 = .ok (.return_, 1) := by decide +kernel
theorem dX7_ahead_0 : decode cX7_ahead 0 = .ok (.iload_n 1, 1) := by decide +kernel
theorem dX7_ahead_1 : decode cX7_ahead 1 = .ok (.invokestatic 102, 3) := by decide +kernel
theorem dX7_ahead_4 : decode cX7_ahead 4 = .ok (.ifCond .eq 15, 3) := by decide +kernel
theorem dX7_ahead_7 : decode cX7_ahead 7 = .ok (.iload_n 2, 1) := by decide +kernel
theorem dX7_ahead_8 : decode cX7_ahead 8 = .ok (.i2l, 1) := by decide +kernel
theorem dX7_ahead_9 : decode cX7_ahead 9 = .ok (.lconst 0, 1) := by decide +kernel
theorem dX7_ahead_10 : decode cX7_ahead 10 = .ok (.ldc2_w 166, 3) := by decide +kernel
theorem dX7_ahead_13 : decode cX7_ahead 13 = .ok (.invokestatic 44, 3) := by decide +kernel
theorem dX7_ahead_16 : decode cX7_ahead 16 = .ok (.ifCond .ne 5, 3) := by decide +kernel
theorem dX7_ahead_19 : decode cX7_ahead 19 = .ok (.iconst (-1), 1) := by decide +kernel
theorem dX7_ahead_20 : decode cX7_ahead 20 = .ok (.ireturn, 1) := by decide +kernel
theorem dX7_ahead_21 : decode cX7_ahead 21 = .ok (.aload_n 0, 1) := by decide +kernel
theorem dX7_ahead_22 : decode cX7_ahead 22 = .ok (.invokevirtual 168, 3) := by decide +kernel
theorem dX7_ahead_25 : decode cX7_ahead 25 = .ok (.aload_n 0, 1) := by decide +kernel
theorem dX7_ahead_26 : decode cX7_ahead 26 = .ok (.iload_n 2, 1) := by decide +kernel
theorem dX7_ahead_27 : decode cX7_ahead 27 = .ok (.invokevirtual 171, 3) := by decide +kernel
theorem dX7_ahead_30 : decode cX7_ahead 30 = .ok (.aload_n 0, 1) := by decide +kernel
theorem dX7_ahead_31 : decode cX7_ahead 31 = .ok (.getfield 7, 3) := by decide +kernel
theorem dX7_ahead_34 : decode cX7_ahead 34 = .ok (.bipush 7, 2) := by decide +kernel
theorem dX7_ahead_36 : decode cX7_ahead 36 = .ok (.iload_n 1, 1) := by decide +kernel
theorem dX7_ahead_37 : decode cX7_ahead 37 = .ok (.iadd, 1) := by decide +kernel
theorem dX7_ahead_38 : decode cX7_ahead 38 = .ok (.iaload, 1) := by decide +kernel
theorem dX7_ahead_39 : decode cX7_ahead 39 = .ok (.istore_n 3, 1) := by decide +kernel
theorem dX7_ahead_40 : decode cX7_ahead 40 = .ok (.aload_n 0, 1) := by decide +kernel
theorem dX7_ahead_41 : decode cX7_ahead 41 = .ok (.invokevirtual 174, 3) := by decide +kernel
theorem dX7_ahead_44 : decode cX7_ahead 44 = .ok (.iload_n 3, 1) := by decide +kernel
theorem dX7_ahead_45 : decode cX7_ahead 45 = .ok (.ireturn, 1) := by decide +kernel
theorem dX7_then_0 : decode cX7_then 0 = .ok (.iload_n 1, 1) := by decide +kernel
theorem dX7_then_1 : decode cX7_then 1 = .ok (.i2l, 1) := by decide +kernel
theorem dX7_then_2 : decode cX7_then 2 = .ok (.lconst 0, 1) := by decide +kernel
theorem dX7_then_3 : decode cX7_then 3 = .ok (.ldc2_w 166, 3) := by decide +kernel
theorem dX7_then_6 : decode cX7_then 6 = .ok (.invokestatic 44, 3) := by decide +kernel
theorem dX7_then_9 : decode cX7_then 9 = .ok (.ifCond .eq 15, 3) := by decide +kernel
theorem dX7_then_12 : decode cX7_then 12 = .ok (.iload_n 2, 1) := by decide +kernel
theorem dX7_then_13 : decode cX7_then 13 = .ok (.i2l, 1) := by decide +kernel
theorem dX7_then_14 : decode cX7_then 14 = .ok (.lconst 0, 1) := by decide +kernel
theorem dX7_then_15 : decode cX7_then 15 = .ok (.ldc2_w 177, 3) := by decide +kernel
theorem dX7_then_18 : decode cX7_then 18 = .ok (.invokestatic 44, 3) := by decide +kernel
theorem dX7_then_21 : decode cX7_then 21 = .ok (.ifCond .ne 5, 3) := by decide +kernel
theorem dX7_then_24 : decode cX7_then 24 = .ok (.iconst (-1), 1) := by decide +kernel
theorem dX7_then_25 : decode cX7_then 25 = .ok (.ireturn, 1) := by decide +kernel
theorem dX7_then_26 : decode cX7_then 26 = .ok (.aload_n 0, 1) := by decide +kernel
theorem dX7_then_27 : decode cX7_then 27 = .ok (.invokevirtual 168, 3) := by decide +kernel
theorem dX7_then_30 : decode cX7_then 30 = .ok (.aload_n 0, 1) := by decide +kernel
theorem dX7_then_31 : decode cX7_then 31 = .ok (.iload_n 1, 1) := by decide +kernel
theorem dX7_then_32 : decode cX7_then 32 = .ok (.invokevirtual 171, 3) := by decide +kernel
theorem dX7_then_35 : decode cX7_then 35 = .ok (.aload_n 0, 1) := by decide +kernel
theorem dX7_then_36 : decode cX7_then 36 = .ok (.getfield 7, 3) := by decide +kernel
theorem dX7_then_39 : decode cX7_then 39 = .ok (.iconst 3, 1) := by decide +kernel
theorem dX7_then_40 : decode cX7_then 40 = .ok (.iload_n 2, 1) := by decide +kernel
theorem dX7_then_41 : decode cX7_then 41 = .ok (.iadd, 1) := by decide +kernel
theorem dX7_then_42 : decode cX7_then 42 = .ok (.iaload, 1) := by decide +kernel
theorem dX7_then_43 : decode cX7_then 43 = .ok (.istore_n 3, 1) := by decide +kernel
theorem dX7_then_44 : decode cX7_then 44 = .ok (.aload_n 0, 1) := by decide +kernel
theorem dX7_then_45 : decode cX7_then 45 = .ok (.invokevirtual 174, 3) := by decide +kernel
theorem dX7_then_48 : decode cX7_then 48 = .ok (.iload_n 3, 1) := by decide +kernel
theorem dX7_then_49 : decode cX7_then 49 = .ok (.ireturn, 1) := by decide +kernel
theorem dX7_holeFirst_0 : decode cX7_holeFirst 0 = .ok (.iconst 0, 1) := by decide +kernel
theorem dX7_holeFirst_1 : decode cX7_holeFirst 1 = .ok (.istore_n 1, 1) := by decide +kernel
theorem dX7_holeFirst_2 : decode cX7_holeFirst 2 = .ok (.iload_n 1, 1) := by decide +kernel
theorem dX7_holeFirst_3 : decode cX7_holeFirst 3 = .ok (.bipush 61, 2) := by decide +kernel
theorem dX7_holeFirst_5 : decode cX7_holeFirst 5 = .ok (.if_icmp .ge 20, 3) := by decide +kernel
theorem dX7_holeFirst_8 : decode cX7_holeFirst 8 = .ok (.aload_n 0, 1) := by decide +kernel
theorem dX7_holeFirst_9 : decode cX7_holeFirst 9 = .ok (.invokevirtual 105, 3) := by decide +kernel
theorem dX7_holeFirst_12 : decode cX7_holeFirst 12 = .ok (.ifCond .ne 13, 3) := by decide +kernel
theorem dX7_holeFirst_15 : decode cX7_holeFirst 15 = .ok (.aload_n 0, 1) := by decide +kernel
theorem dX7_holeFirst_16 : decode cX7_holeFirst 16 = .ok (.invokevirtual 83, 3) := by decide +kernel
theorem dX7_holeFirst_19 : decode cX7_holeFirst 19 = .ok (.iinc 1 1, 3) := by decide +kernel
theorem dX7_holeFirst_22 : decode cX7_holeFirst 22 = .ok (.goto (-20), 3) := by decide +kernel
theorem dX7_holeFirst_25 : decode cX7_holeFirst 25 = .ok (.aload_n 0, 1) := by decide +kernel
theorem dX7_holeFirst_26 : decode cX7_holeFirst 26 = .ok (.invokevirtual 174, 3) := by decide +kernel
theorem dX7_holeFirst_29 : decode cX7_holeFirst 29 = .ok (.iload_n 1, 1) := by decide +kernel
theorem dX7_holeFirst_30 : decode cX7_holeFirst 30 = .ok (.bipush 61, 2) := by decide +kernel
theorem dX7_holeFirst_32 : decode cX7_holeFirst 32 = .ok (.if_icmp .ge 7, 3) := by decide +kernel
theorem dX7_holeFirst_35 : decode cX7_holeFirst 35 = .ok (.iload_n 1, 1) := by decide +kernel
theorem dX7_holeFirst_36 : decode cX7_holeFirst 36 = .ok (.goto 5, 3) := by decide +kernel
theorem dX7_holeFirst_39 : decode cX7_holeFirst 39 = .ok (.bipush (-4), 2) := by decide +kernel
theorem dX7_holeFirst_41 : decode cX7_holeFirst 41 = .ok (.ireturn, 1) := by decide +kernel
theorem dX7_hole_0 : decode cX7_hole 0 = .ok (.aload_n 0, 1) := by decide +kernel
theorem dX7_hole_1 : decode cX7_hole 1 = .ok (.invokevirtual 168, 3) := by decide +kernel
theorem dX7_hole_4 : decode cX7_hole 4 = .ok (.aload_n 0, 1) := by decide +kernel
theorem dX7_hole_5 : decode cX7_hole 5 = .ok (.invokevirtual 179, 3) := by decide +kernel
theorem dX7_hole_8 : decode cX7_hole 8 = .ok (.ireturn, 1) := by decide +kernel
theorem dX7_stands_0 : decode cX7_stands 0 = .ok (.iload_n 1, 1) := by decide +kernel
theorem dX7_stands_1 : decode cX7_stands 1 = .ok (.i2l, 1) := by decide +kernel
theorem dX7_stands_2 : decode cX7_stands 2 = .ok (.lconst 0, 1) := by decide +kernel
theorem dX7_stands_3 : decode cX7_stands 3 = .ok (.ldc2_w 91, 3) := by decide +kernel
theorem dX7_stands_6 : decode cX7_stands 6 = .ok (.invokestatic 44, 3) := by decide +kernel
theorem dX7_stands_9 : decode cX7_stands 9 = .ok (.ifCond .ne 5, 3) := by decide +kernel
theorem dX7_stands_12 : decode cX7_stands 12 = .ok (.iconst (-1), 1) := by decide +kernel
theorem dX7_stands_13 : decode cX7_stands 13 = .ok (.ireturn, 1) := by decide +kernel
theorem dX7_stands_14 : decode cX7_stands 14 = .ok (.aload_n 0, 1) := by decide +kernel
theorem dX7_stands_15 : decode cX7_stands 15 = .ok (.invokevirtual 168, 3) := by decide +kernel
theorem dX7_stands_18 : decode cX7_stands 18 = .ok (.aload_n 0, 1) := by decide +kernel
theorem dX7_stands_19 : decode cX7_stands 19 = .ok (.getfield 7, 3) := by decide +kernel
theorem dX7_stands_22 : decode cX7_stands 22 = .ok (.iconst 2, 1) := by decide +kernel
theorem dX7_stands_23 : decode cX7_stands 23 = .ok (.iload_n 1, 1) := by decide +kernel
theorem dX7_stands_24 : decode cX7_stands 24 = .ok (.iastore, 1) := by decide +kernel
theorem dX7_stands_25 : decode cX7_stands 25 = .ok (.aload_n 0, 1) := by decide +kernel
theorem dX7_stands_26 : decode cX7_stands 26 = .ok (.invokevirtual 179, 3) := by decide +kernel
theorem dX7_stands_29 : decode cX7_stands 29 = .ok (.ireturn, 1) := by decide +kernel
theorem dX7_first_0 : decode cX7_first 0 = .ok (.aload_n 0, 1) := by decide +kernel
theorem dX7_first_1 : decode cX7_first 1 = .ok (.iload_n 1, 1) := by decide +kernel
theorem dX7_first_2 : decode cX7_first 2 = .ok (.invokevirtual 99, 3) := by decide +kernel
theorem dX7_first_5 : decode cX7_first 5 = .ok (.ifCond .ne 5, 3) := by decide +kernel
theorem dX7_first_8 : decode cX7_first 8 = .ok (.iconst (-1), 1) := by decide +kernel
theorem dX7_first_9 : decode cX7_first 9 = .ok (.ireturn, 1) := by decide +kernel
theorem dX7_first_10 : decode cX7_first 10 = .ok (.aload_n 0, 1) := by decide +kernel
theorem dX7_first_11 : decode cX7_first 11 = .ok (.invokevirtual 168, 3) := by decide +kernel
theorem dX7_first_14 : decode cX7_first 14 = .ok (.bipush (-4), 2) := by decide +kernel
theorem dX7_first_16 : decode cX7_first 16 = .ok (.istore_n 2, 1) := by decide +kernel
theorem dX7_first_17 : decode cX7_first 17 = .ok (.iconst 1, 1) := by decide +kernel
theorem dX7_first_18 : decode cX7_first 18 = .ok (.istore_n 3, 1) := by decide +kernel
theorem dX7_first_19 : decode cX7_first 19 = .ok (.iload_n 3, 1) := by decide +kernel
theorem dX7_first_20 : decode cX7_first 20 = .ok (.bipush 61, 2) := by decide +kernel
theorem dX7_first_22 : decode cX7_first 22 = .ok (.if_icmp .ge 38, 3) := by decide +kernel
theorem dX7_first_25 : decode cX7_first 25 = .ok (.iload_n 2, 1) := by decide +kernel
theorem dX7_first_26 : decode cX7_first 26 = .ok (.bipush (-4), 2) := by decide +kernel
theorem dX7_first_28 : decode cX7_first 28 = .ok (.if_icmp .ne 32, 3) := by decide +kernel
theorem dX7_first_31 : decode cX7_first 31 = .ok (.aload_n 0, 1) := by decide +kernel
theorem dX7_first_32 : decode cX7_first 32 = .ok (.invokevirtual 83, 3) := by decide +kernel
theorem dX7_first_35 : decode cX7_first 35 = .ok (.aload_n 0, 1) := by decide +kernel
theorem dX7_first_36 : decode cX7_first 36 = .ok (.getfield 61, 3) := by decide +kernel
theorem dX7_first_39 : decode cX7_first 39 = .ok (.iload_n 1, 1) := by decide +kernel
theorem dX7_first_40 : decode cX7_first 40 = .ok (.ishr, 1) := by decide +kernel
theorem dX7_first_41 : decode cX7_first 41 = .ok (.iconst 1, 1) := by decide +kernel
theorem dX7_first_42 : decode cX7_first 42 = .ok (.iand, 1) := by decide +kernel
theorem dX7_first_43 : decode cX7_first 43 = .ok (.iconst 1, 1) := by decide +kernel
theorem dX7_first_44 : decode cX7_first 44 = .ok (.if_icmp .ne 7, 3) := by decide +kernel
theorem dX7_first_47 : decode cX7_first 47 = .ok (.iload_n 3, 1) := by decide +kernel
theorem dX7_first_48 : decode cX7_first 48 = .ok (.goto 5, 3) := by decide +kernel
theorem dX7_first_51 : decode cX7_first 51 = .ok (.bipush (-4), 2) := by decide +kernel
theorem dX7_first_53 : decode cX7_first 53 = .ok (.istore_n 2, 1) := by decide +kernel
theorem dX7_first_54 : decode cX7_first 54 = .ok (.iinc 3 1, 3) := by decide +kernel
theorem dX7_first_57 : decode cX7_first 57 = .ok (.goto (-38), 3) := by decide +kernel
theorem dX7_first_60 : decode cX7_first 60 = .ok (.aload_n 0, 1) := by decide +kernel
theorem dX7_first_61 : decode cX7_first 61 = .ok (.invokevirtual 174, 3) := by decide +kernel
theorem dX7_first_64 : decode cX7_first 64 = .ok (.iload_n 2, 1) := by decide +kernel
theorem dX7_first_65 : decode cX7_first 65 = .ok (.ireturn, 1) := by decide +kernel
theorem dX7_isBetter_0 : decode cX7_isBetter 0 = .ok (.aload_n 0, 1) := by decide +kernel
theorem dX7_isBetter_1 : decode cX7_isBetter 1 = .ok (.getfield 7, 3) := by decide +kernel
theorem dX7_isBetter_4 : decode cX7_isBetter 4 = .ok (.iconst 2, 1) := by decide +kernel
theorem dX7_isBetter_5 : decode cX7_isBetter 5 = .ok (.iload_n 1, 1) := by decide +kernel
theorem dX7_isBetter_6 : decode cX7_isBetter 6 = .ok (.iastore, 1) := by decide +kernel
theorem dX7_isBetter_7 : decode cX7_isBetter 7 = .ok (.aload_n 0, 1) := by decide +kernel
theorem dX7_isBetter_8 : decode cX7_isBetter 8 = .ok (.iload_n 2, 1) := by decide +kernel
theorem dX7_isBetter_9 : decode cX7_isBetter 9 = .ok (.invokevirtual 171, 3) := by decide +kernel
theorem dX7_isBetter_12 : decode cX7_isBetter 12 = .ok (.aload_n 0, 1) := by decide +kernel
theorem dX7_isBetter_13 : decode cX7_isBetter 13 = .ok (.aload_n 0, 1) := by decide +kernel
theorem dX7_isBetter_14 : decode cX7_isBetter 14 = .ok (.getfield 7, 3) := by decide +kernel
theorem dX7_isBetter_17 : decode cX7_isBetter 17 = .ok (.iconst 5, 1) := by decide +kernel
theorem dX7_isBetter_18 : decode cX7_isBetter 18 = .ok (.iaload, 1) := by decide +kernel
theorem dX7_isBetter_19 : decode cX7_isBetter 19 = .ok (.aload_n 0, 1) := by decide +kernel
theorem dX7_isBetter_20 : decode cX7_isBetter 20 = .ok (.getfield 25, 3) := by decide +kernel
theorem dX7_isBetter_23 : decode cX7_isBetter 23 = .ok (.iconst 5, 1) := by decide +kernel
theorem dX7_isBetter_24 : decode cX7_isBetter 24 = .ok (.iaload, 1) := by decide +kernel
theorem dX7_isBetter_25 : decode cX7_isBetter 25 = .ok (.isub, 1) := by decide +kernel
theorem dX7_isBetter_26 : decode cX7_isBetter 26 = .ok (.putfield 182, 3) := by decide +kernel
theorem dX7_isBetter_29 : decode cX7_isBetter 29 = .ok (.aload_n 0, 1) := by decide +kernel
theorem dX7_isBetter_30 : decode cX7_isBetter 30 = .ok (.aload_n 0, 1) := by decide +kernel
theorem dX7_isBetter_31 : decode cX7_isBetter 31 = .ok (.getfield 7, 3) := by decide +kernel
theorem dX7_isBetter_34 : decode cX7_isBetter 34 = .ok (.iconst 3, 1) := by decide +kernel
theorem dX7_isBetter_35 : decode cX7_isBetter 35 = .ok (.iaload, 1) := by decide +kernel
theorem dX7_isBetter_36 : decode cX7_isBetter 36 = .ok (.aload_n 0, 1) := by decide +kernel
theorem dX7_isBetter_37 : decode cX7_isBetter 37 = .ok (.getfield 25, 3) := by decide +kernel
theorem dX7_isBetter_40 : decode cX7_isBetter 40 = .ok (.iconst 3, 1) := by decide +kernel
theorem dX7_isBetter_41 : decode cX7_isBetter 41 = .ok (.iaload, 1) := by decide +kernel
theorem dX7_isBetter_42 : decode cX7_isBetter 42 = .ok (.isub, 1) := by decide +kernel
theorem dX7_isBetter_43 : decode cX7_isBetter 43 = .ok (.putfield 185, 3) := by decide +kernel
theorem dX7_isBetter_46 : decode cX7_isBetter 46 = .ok (.aload_n 0, 1) := by decide +kernel
theorem dX7_isBetter_47 : decode cX7_isBetter 47 = .ok (.invokevirtual 174, 3) := by decide +kernel
theorem dX7_isBetter_50 : decode cX7_isBetter 50 = .ok (.iload_n 3, 1) := by decide +kernel
theorem dX7_isBetter_51 : decode cX7_isBetter 51 = .ok (.ifCond .eq 36, 3) := by decide +kernel
theorem dX7_isBetter_54 : decode cX7_isBetter 54 = .ok (.aload_n 0, 1) := by decide +kernel
theorem dX7_isBetter_55 : decode cX7_isBetter 55 = .ok (.getfield 182, 3) := by decide +kernel
theorem dX7_isBetter_58 : decode cX7_isBetter 58 = .ok (.aload_n 0, 1) := by decide +kernel
theorem dX7_isBetter_59 : decode cX7_isBetter 59 = .ok (.getfield 188, 3) := by decide +kernel
theorem dX7_isBetter_62 : decode cX7_isBetter 62 = .ok (.if_icmp .lt 25, 3) := by decide +kernel
theorem dX7_isBetter_65 : decode cX7_isBetter 65 = .ok (.aload_n 0, 1) := by decide +kernel
theorem dX7_isBetter_66 : decode cX7_isBetter 66 = .ok (.getfield 182, 3) := by decide +kernel
theorem dX7_isBetter_69 : decode cX7_isBetter 69 = .ok (.aload_n 0, 1) := by decide +kernel
theorem dX7_isBetter_70 : decode cX7_isBetter 70 = .ok (.getfield 188, 3) := by decide +kernel
theorem dX7_isBetter_73 : decode cX7_isBetter 73 = .ok (.if_icmp .ne 18, 3) := by decide +kernel
theorem dX7_isBetter_76 : decode cX7_isBetter 76 = .ok (.aload_n 0, 1) := by decide +kernel
theorem dX7_isBetter_77 : decode cX7_isBetter 77 = .ok (.getfield 185, 3) := by decide +kernel
theorem dX7_isBetter_80 : decode cX7_isBetter 80 = .ok (.aload_n 0, 1) := by decide +kernel
theorem dX7_isBetter_81 : decode cX7_isBetter 81 = .ok (.getfield 191, 3) := by decide +kernel
theorem dX7_isBetter_84 : decode cX7_isBetter 84 = .ok (.if_icmp .le 7, 3) := by decide +kernel
theorem dX7_isBetter_87 : decode cX7_isBetter 87 = .ok (.iconst 1, 1) := by decide +kernel
theorem dX7_isBetter_88 : decode cX7_isBetter 88 = .ok (.goto 4, 3) := by decide +kernel
theorem dX7_isBetter_91 : decode cX7_isBetter 91 = .ok (.iconst 0, 1) := by decide +kernel
theorem dX7_isBetter_92 : decode cX7_isBetter 92 = .ok (.istore 4, 2) := by decide +kernel
theorem dX7_isBetter_94 : decode cX7_isBetter 94 = .ok (.aload_n 0, 1) := by decide +kernel
theorem dX7_isBetter_95 : decode cX7_isBetter 95 = .ok (.iload 4, 2) := by decide +kernel
theorem dX7_isBetter_97 : decode cX7_isBetter 97 = .ok (.ifCond .eq 10, 3) := by decide +kernel
theorem dX7_isBetter_100 : decode cX7_isBetter 100 = .ok (.aload_n 0, 1) := by decide +kernel
theorem dX7_isBetter_101 : decode cX7_isBetter 101 = .ok (.getfield 182, 3) := by decide +kernel
theorem dX7_isBetter_104 : decode cX7_isBetter 104 = .ok (.goto 7, 3) := by decide +kernel
theorem dX7_isBetter_107 : decode cX7_isBetter 107 = .ok (.aload_n 0, 1) := by decide +kernel
theorem dX7_isBetter_108 : decode cX7_isBetter 108 = .ok (.getfield 188, 3) := by decide +kernel
theorem dX7_isBetter_111 : decode cX7_isBetter 111 = .ok (.putfield 188, 3) := by decide +kernel
theorem dX7_isBetter_114 : decode cX7_isBetter 114 = .ok (.aload_n 0, 1) := by decide +kernel
theorem dX7_isBetter_115 : decode cX7_isBetter 115 = .ok (.iload 4, 2) := by decide +kernel
theorem dX7_isBetter_117 : decode cX7_isBetter 117 = .ok (.ifCond .eq 10, 3) := by decide +kernel
theorem dX7_isBetter_120 : decode cX7_isBetter 120 = .ok (.aload_n 0, 1) := by decide +kernel
theorem dX7_isBetter_121 : decode cX7_isBetter 121 = .ok (.getfield 185, 3) := by decide +kernel
theorem dX7_isBetter_124 : decode cX7_isBetter 124 = .ok (.goto 7, 3) := by decide +kernel
theorem dX7_isBetter_127 : decode cX7_isBetter 127 = .ok (.aload_n 0, 1) := by decide +kernel
theorem dX7_isBetter_128 : decode cX7_isBetter 128 = .ok (.getfield 191, 3) := by decide +kernel
theorem dX7_isBetter_131 : decode cX7_isBetter 131 = .ok (.putfield 191, 3) := by decide +kernel
theorem dX7_isBetter_134 : decode cX7_isBetter 134 = .ok (.iload 4, 2) := by decide +kernel
theorem dX7_isBetter_136 : decode cX7_isBetter 136 = .ok (.ireturn, 1) := by decide +kernel
theorem dX7_wise_0 : decode cX7_wise 0 = .ok (.iload_n 1, 1) := by decide +kernel
theorem dX7_wise_1 : decode cX7_wise 1 = .ok (.i2l, 1) := by decide +kernel
theorem dX7_wise_2 : decode cX7_wise 2 = .ok (.lconst 1, 1) := by decide +kernel
theorem dX7_wise_3 : decode cX7_wise 3 = .ok (.ldc2_w 151, 3) := by decide +kernel
theorem dX7_wise_6 : decode cX7_wise 6 = .ok (.invokestatic 44, 3) := by decide +kernel
theorem dX7_wise_9 : decode cX7_wise 9 = .ok (.ifCond .eq 15, 3) := by decide +kernel
theorem dX7_wise_12 : decode cX7_wise 12 = .ok (.iload_n 2, 1) := by decide +kernel
theorem dX7_wise_13 : decode cX7_wise 13 = .ok (.i2l, 1) := by decide +kernel
theorem dX7_wise_14 : decode cX7_wise 14 = .ok (.lconst 0, 1) := by decide +kernel
theorem dX7_wise_15 : decode cX7_wise 15 = .ok (.ldc2_w 177, 3) := by decide +kernel
theorem dX7_wise_18 : decode cX7_wise 18 = .ok (.invokestatic 44, 3) := by decide +kernel
theorem dX7_wise_21 : decode cX7_wise 21 = .ok (.ifCond .ne 5, 3) := by decide +kernel
theorem dX7_wise_24 : decode cX7_wise 24 = .ok (.iconst (-1), 1) := by decide +kernel
theorem dX7_wise_25 : decode cX7_wise 25 = .ok (.ireturn, 1) := by decide +kernel
theorem dX7_wise_26 : decode cX7_wise 26 = .ok (.iconst 0, 1) := by decide +kernel
theorem dX7_wise_27 : decode cX7_wise 27 = .ok (.istore_n 3, 1) := by decide +kernel
theorem dX7_wise_28 : decode cX7_wise 28 = .ok (.aload_n 0, 1) := by decide +kernel
theorem dX7_wise_29 : decode cX7_wise 29 = .ok (.invokevirtual 168, 3) := by decide +kernel
theorem dX7_wise_32 : decode cX7_wise 32 = .ok (.iconst 0, 1) := by decide +kernel
theorem dX7_wise_33 : decode cX7_wise 33 = .ok (.istore 4, 2) := by decide +kernel
theorem dX7_wise_35 : decode cX7_wise 35 = .ok (.iload 4, 2) := by decide +kernel
theorem dX7_wise_37 : decode cX7_wise 37 = .ok (.bipush 64, 2) := by decide +kernel
theorem dX7_wise_39 : decode cX7_wise 39 = .ok (.if_icmp .ge 36, 3) := by decide +kernel
theorem dX7_wise_42 : decode cX7_wise 42 = .ok (.aload_n 0, 1) := by decide +kernel
theorem dX7_wise_43 : decode cX7_wise 43 = .ok (.iload 4, 2) := by decide +kernel
theorem dX7_wise_45 : decode cX7_wise 45 = .ok (.iload_n 1, 1) := by decide +kernel
theorem dX7_wise_46 : decode cX7_wise 46 = .ok (.iload 4, 2) := by decide +kernel
theorem dX7_wise_48 : decode cX7_wise 48 = .ok (.ifCond .le 7, 3) := by decide +kernel
theorem dX7_wise_51 : decode cX7_wise 51 = .ok (.iconst 1, 1) := by decide +kernel
theorem dX7_wise_52 : decode cX7_wise 52 = .ok (.goto 4, 3) := by decide +kernel
theorem dX7_wise_55 : decode cX7_wise 55 = .ok (.iconst 0, 1) := by decide +kernel
theorem dX7_wise_56 : decode cX7_wise 56 = .ok (.invokevirtual 194, 3) := by decide +kernel
theorem dX7_wise_59 : decode cX7_wise 59 = .ok (.ifCond .eq 8, 3) := by decide +kernel
theorem dX7_wise_62 : decode cX7_wise 62 = .ok (.iload 4, 2) := by decide +kernel
theorem dX7_wise_64 : decode cX7_wise 64 = .ok (.goto 4, 3) := by decide +kernel
theorem dX7_wise_67 : decode cX7_wise 67 = .ok (.iload_n 3, 1) := by decide +kernel
theorem dX7_wise_68 : decode cX7_wise 68 = .ok (.istore_n 3, 1) := by decide +kernel
theorem dX7_wise_69 : decode cX7_wise 69 = .ok (.iinc 4 1, 3) := by decide +kernel
theorem dX7_wise_72 : decode cX7_wise 72 = .ok (.goto (-37), 3) := by decide +kernel
theorem dX7_wise_75 : decode cX7_wise 75 = .ok (.iload_n 2, 1) := by decide +kernel
theorem dX7_wise_76 : decode cX7_wise 76 = .ok (.ifCond .ne 7, 3) := by decide +kernel
theorem dX7_wise_79 : decode cX7_wise 79 = .ok (.iload_n 3, 1) := by decide +kernel
theorem dX7_wise_80 : decode cX7_wise 80 = .ok (.goto 19, 3) := by decide +kernel
theorem dX7_wise_83 : decode cX7_wise 83 = .ok (.iload_n 2, 1) := by decide +kernel
theorem dX7_wise_84 : decode cX7_wise 84 = .ok (.iconst 1, 1) := by decide +kernel
theorem dX7_wise_85 : decode cX7_wise 85 = .ok (.if_icmp .ne 10, 3) := by decide +kernel
theorem dX7_wise_88 : decode cX7_wise 88 = .ok (.aload_n 0, 1) := by decide +kernel
theorem dX7_wise_89 : decode cX7_wise 89 = .ok (.getfield 188, 3) := by decide +kernel
theorem dX7_wise_92 : decode cX7_wise 92 = .ok (.goto 7, 3) := by decide +kernel
theorem dX7_wise_95 : decode cX7_wise 95 = .ok (.aload_n 0, 1) := by decide +kernel
theorem dX7_wise_96 : decode cX7_wise 96 = .ok (.getfield 191, 3) := by decide +kernel
theorem dX7_wise_99 : decode cX7_wise 99 = .ok (.ireturn, 1) := by decide +kernel
theorem dX7_otherwise_0 : decode cX7_otherwise 0 = .ok (.bipush (-4), 2) := by decide +kernel
theorem dX7_otherwise_2 : decode cX7_otherwise 2 = .ok (.istore_n 3, 1) := by decide +kernel
theorem dX7_otherwise_3 : decode cX7_otherwise 3 = .ok (.aload_n 0, 1) := by decide +kernel
theorem dX7_otherwise_4 : decode cX7_otherwise 4 = .ok (.invokevirtual 168, 3) := by decide +kernel
theorem dX7_otherwise_7 : decode cX7_otherwise 7 = .ok (.iconst 0, 1) := by decide +kernel
theorem dX7_otherwise_8 : decode cX7_otherwise 8 = .ok (.istore 4, 2) := by decide +kernel
theorem dX7_otherwise_10 : decode cX7_otherwise 10 = .ok (.iload 4, 2) := by decide +kernel
theorem dX7_otherwise_12 : decode cX7_otherwise 12 = .ok (.bipush 6, 2) := by decide +kernel
theorem dX7_otherwise_14 : decode cX7_otherwise 14 = .ok (.if_icmp .ge 61, 3) := by decide +kernel
theorem dX7_otherwise_17 : decode cX7_otherwise 17 = .ok (.aload_n 0, 1) := by decide +kernel
theorem dX7_otherwise_18 : decode cX7_otherwise 18 = .ok (.getfield 7, 3) := by decide +kernel
theorem dX7_otherwise_21 : decode cX7_otherwise 21 = .ok (.iconst 2, 1) := by decide +kernel
theorem dX7_otherwise_22 : decode cX7_otherwise 22 = .ok (.iaload, 1) := by decide +kernel
theorem dX7_otherwise_23 : decode cX7_otherwise 23 = .ok (.iload 4, 2) := by decide +kernel
theorem dX7_otherwise_25 : decode cX7_otherwise 25 = .ok (.ishr, 1) := by decide +kernel
theorem dX7_otherwise_26 : decode cX7_otherwise 26 = .ok (.iconst 1, 1) := by decide +kernel
theorem dX7_otherwise_27 : decode cX7_otherwise 27 = .ok (.iand, 1) := by decide +kernel
theorem dX7_otherwise_28 : decode cX7_otherwise 28 = .ok (.iload_n 2, 1) := by decide +kernel
theorem dX7_otherwise_29 : decode cX7_otherwise 29 = .ok (.if_icmp .ne 40, 3) := by decide +kernel
theorem dX7_otherwise_32 : decode cX7_otherwise 32 = .ok (.aload_n 0, 1) := by decide +kernel
theorem dX7_otherwise_33 : decode cX7_otherwise 33 = .ok (.aload_n 0, 1) := by decide +kernel
theorem dX7_otherwise_34 : decode cX7_otherwise 34 = .ok (.getfield 7, 3) := by decide +kernel
theorem dX7_otherwise_37 : decode cX7_otherwise 37 = .ok (.iconst 2, 1) := by decide +kernel
theorem dX7_otherwise_38 : decode cX7_otherwise 38 = .ok (.iaload, 1) := by decide +kernel
theorem dX7_otherwise_39 : decode cX7_otherwise 39 = .ok (.iconst 1, 1) := by decide +kernel
theorem dX7_otherwise_40 : decode cX7_otherwise 40 = .ok (.iload 4, 2) := by decide +kernel
theorem dX7_otherwise_42 : decode cX7_otherwise 42 = .ok (.ishl, 1) := by decide +kernel
theorem dX7_otherwise_43 : decode cX7_otherwise 43 = .ok (.ixor, 1) := by decide +kernel
theorem dX7_otherwise_44 : decode cX7_otherwise 44 = .ok (.iload_n 1, 1) := by decide +kernel
theorem dX7_otherwise_45 : decode cX7_otherwise 45 = .ok (.iload_n 3, 1) := by decide +kernel
theorem dX7_otherwise_46 : decode cX7_otherwise 46 = .ok (.bipush (-4), 2) := by decide +kernel
theorem dX7_otherwise_48 : decode cX7_otherwise 48 = .ok (.if_icmp .eq 7, 3) := by decide +kernel
theorem dX7_otherwise_51 : decode cX7_otherwise 51 = .ok (.iconst 1, 1) := by decide +kernel
theorem dX7_otherwise_52 : decode cX7_otherwise 52 = .ok (.goto 4, 3) := by decide +kernel
theorem dX7_otherwise_55 : decode cX7_otherwise 55 = .ok (.iconst 0, 1) := by decide +kernel
theorem dX7_otherwise_56 : decode cX7_otherwise 56 = .ok (.invokevirtual 194, 3) := by decide +kernel
theorem dX7_otherwise_59 : decode cX7_otherwise 59 = .ok (.ifCond .eq 8, 3) := by decide +kernel
theorem dX7_otherwise_62 : decode cX7_otherwise 62 = .ok (.iload 4, 2) := by decide +kernel
theorem dX7_otherwise_64 : decode cX7_otherwise 64 = .ok (.goto 4, 3) := by decide +kernel
theorem dX7_otherwise_67 : decode cX7_otherwise 67 = .ok (.iload_n 3, 1) := by decide +kernel
theorem dX7_otherwise_68 : decode cX7_otherwise 68 = .ok (.istore_n 3, 1) := by decide +kernel
theorem dX7_otherwise_69 : decode cX7_otherwise 69 = .ok (.iinc 4 1, 3) := by decide +kernel
theorem dX7_otherwise_72 : decode cX7_otherwise 72 = .ok (.goto (-62), 3) := by decide +kernel
theorem dX7_otherwise_75 : decode cX7_otherwise 75 = .ok (.iload_n 3, 1) := by decide +kernel
theorem dX7_otherwise_76 : decode cX7_otherwise 76 = .ok (.ireturn, 1) := by decide +kernel
theorem dX7_more_0 : decode cX7_more 0 = .ok (.iload_n 1, 1) := by decide +kernel
theorem dX7_more_1 : decode cX7_more 1 = .ok (.i2l, 1) := by decide +kernel
theorem dX7_more_2 : decode cX7_more 2 = .ok (.lconst 1, 1) := by decide +kernel
theorem dX7_more_3 : decode cX7_more 3 = .ok (.ldc2_w 151, 3) := by decide +kernel
theorem dX7_more_6 : decode cX7_more 6 = .ok (.invokestatic 44, 3) := by decide +kernel
theorem dX7_more_9 : decode cX7_more 9 = .ok (.ifCond .eq 12, 3) := by decide +kernel
theorem dX7_more_12 : decode cX7_more 12 = .ok (.aload_n 0, 1) := by decide +kernel
theorem dX7_more_13 : decode cX7_more 13 = .ok (.iload_n 1, 1) := by decide +kernel
theorem dX7_more_14 : decode cX7_more 14 = .ok (.iconst 0, 1) := by decide +kernel
theorem dX7_more_15 : decode cX7_more 15 = .ok (.invokevirtual 198, 3) := by decide +kernel
theorem dX7_more_18 : decode cX7_more 18 = .ok (.goto 4, 3) := by decide +kernel
theorem dX7_more_21 : decode cX7_more 21 = .ok (.iconst (-1), 1) := by decide +kernel
theorem dX7_more_22 : decode cX7_more 22 = .ok (.ireturn, 1) := by decide +kernel
theorem dX7_less_0 : decode cX7_less 0 = .ok (.iload_n 1, 1) := by decide +kernel
theorem dX7_less_1 : decode cX7_less 1 = .ok (.i2l, 1) := by decide +kernel
theorem dX7_less_2 : decode cX7_less 2 = .ok (.lconst 1, 1) := by decide +kernel
theorem dX7_less_3 : decode cX7_less 3 = .ok (.ldc2_w 151, 3) := by decide +kernel
theorem dX7_less_6 : decode cX7_less 6 = .ok (.invokestatic 44, 3) := by decide +kernel
theorem dX7_less_9 : decode cX7_less 9 = .ok (.ifCond .eq 12, 3) := by decide +kernel
theorem dX7_less_12 : decode cX7_less 12 = .ok (.aload_n 0, 1) := by decide +kernel
theorem dX7_less_13 : decode cX7_less 13 = .ok (.iload_n 1, 1) := by decide +kernel
theorem dX7_less_14 : decode cX7_less 14 = .ok (.iconst 1, 1) := by decide +kernel
theorem dX7_less_15 : decode cX7_less 15 = .ok (.invokevirtual 198, 3) := by decide +kernel
theorem dX7_less_18 : decode cX7_less 18 = .ok (.goto 4, 3) := by decide +kernel
theorem dX7_less_21 : decode cX7_less 21 = .ok (.iconst (-1), 1) := by decide +kernel
theorem dX7_less_22 : decode cX7_less 22 = .ok (.ireturn, 1) := by decide +kernel
theorem dX7_bears_0 : decode cX7_bears 0 = .ok (.iload_n 1, 1) := by decide +kernel
theorem dX7_bears_1 : decode cX7_bears 1 = .ok (.i2l, 1) := by decide +kernel
theorem dX7_bears_2 : decode cX7_bears 2 = .ok (.lconst 1, 1) := by decide +kernel
theorem dX7_bears_3 : decode cX7_bears 3 = .ok (.ldc2_w 151, 3) := by decide +kernel
theorem dX7_bears_6 : decode cX7_bears 6 = .ok (.invokestatic 44, 3) := by decide +kernel
theorem dX7_bears_9 : decode cX7_bears 9 = .ok (.ifCond .ne 5, 3) := by decide +kernel
theorem dX7_bears_12 : decode cX7_bears 12 = .ok (.iconst (-1), 1) := by decide +kernel
theorem dX7_bears_13 : decode cX7_bears 13 = .ok (.ireturn, 1) := by decide +kernel
theorem dX7_bears_14 : decode cX7_bears 14 = .ok (.bipush (-4), 2) := by decide +kernel
theorem dX7_bears_16 : decode cX7_bears 16 = .ok (.istore_n 2, 1) := by decide +kernel
theorem dX7_bears_17 : decode cX7_bears 17 = .ok (.aload_n 0, 1) := by decide +kernel
theorem dX7_bears_18 : decode cX7_bears 18 = .ok (.invokevirtual 168, 3) := by decide +kernel
theorem dX7_bears_21 : decode cX7_bears 21 = .ok (.iconst 0, 1) := by decide +kernel
theorem dX7_bears_22 : decode cX7_bears 22 = .ok (.istore_n 3, 1) := by decide +kernel
theorem dX7_bears_23 : decode cX7_bears 23 = .ok (.iload_n 3, 1) := by decide +kernel
theorem dX7_bears_24 : decode cX7_bears 24 = .ok (.bipush 41, 2) := by decide +kernel
theorem dX7_bears_26 : decode cX7_bears 26 = .ok (.if_icmp .ge 44, 3) := by decide +kernel
theorem dX7_bears_29 : decode cX7_bears 29 = .ok (.aload_n 0, 1) := by decide +kernel
theorem dX7_bears_30 : decode cX7_bears 30 = .ok (.iload_n 3, 1) := by decide +kernel
theorem dX7_bears_31 : decode cX7_bears 31 = .ok (.invokevirtual 156, 3) := by decide +kernel
theorem dX7_bears_34 : decode cX7_bears 34 = .ok (.aload_n 0, 1) := by decide +kernel
theorem dX7_bears_35 : decode cX7_bears 35 = .ok (.iload_n 1, 1) := by decide +kernel
theorem dX7_bears_36 : decode cX7_bears 36 = .ok (.invokevirtual 171, 3) := by decide +kernel
theorem dX7_bears_39 : decode cX7_bears 39 = .ok (.aload_n 0, 1) := by decide +kernel
theorem dX7_bears_40 : decode cX7_bears 40 = .ok (.getfield 7, 3) := by decide +kernel
theorem dX7_bears_43 : decode cX7_bears 43 = .ok (.iconst 5, 1) := by decide +kernel
theorem dX7_bears_44 : decode cX7_bears 44 = .ok (.iaload, 1) := by decide +kernel
theorem dX7_bears_45 : decode cX7_bears 45 = .ok (.aload_n 0, 1) := by decide +kernel
theorem dX7_bears_46 : decode cX7_bears 46 = .ok (.getfield 25, 3) := by decide +kernel
theorem dX7_bears_49 : decode cX7_bears 49 = .ok (.iconst 5, 1) := by decide +kernel
theorem dX7_bears_50 : decode cX7_bears 50 = .ok (.iaload, 1) := by decide +kernel
theorem dX7_bears_51 : decode cX7_bears 51 = .ok (.if_icmp .ne 7, 3) := by decide +kernel
theorem dX7_bears_54 : decode cX7_bears 54 = .ok (.iload_n 3, 1) := by decide +kernel
theorem dX7_bears_55 : decode cX7_bears 55 = .ok (.goto 4, 3) := by decide +kernel
theorem dX7_bears_58 : decode cX7_bears 58 = .ok (.iload_n 2, 1) := by decide +kernel
theorem dX7_bears_59 : decode cX7_bears 59 = .ok (.istore_n 2, 1) := by decide +kernel
theorem dX7_bears_60 : decode cX7_bears 60 = .ok (.aload_n 0, 1) := by decide +kernel
theorem dX7_bears_61 : decode cX7_bears 61 = .ok (.invokevirtual 174, 3) := by decide +kernel
theorem dX7_bears_64 : decode cX7_bears 64 = .ok (.iinc 3 1, 3) := by decide +kernel
theorem dX7_bears_67 : decode cX7_bears 67 = .ok (.goto (-44), 3) := by decide +kernel
theorem dX7_bears_70 : decode cX7_bears 70 = .ok (.iload_n 2, 1) := by decide +kernel
theorem dX7_bears_71 : decode cX7_bears 71 = .ok (.ireturn, 1) := by decide +kernel
theorem dX7_floods_0 : decode cX7_floods 0 = .ok (.iload_n 1, 1) := by decide +kernel
theorem dX7_floods_1 : decode cX7_floods 1 = .ok (.i2l, 1) := by decide +kernel
theorem dX7_floods_2 : decode cX7_floods 2 = .ok (.lconst 0, 1) := by decide +kernel
theorem dX7_floods_3 : decode cX7_floods 3 = .ok (.ldc2_w 201, 3) := by decide +kernel
theorem dX7_floods_6 : decode cX7_floods 6 = .ok (.invokestatic 44, 3) := by decide +kernel
theorem dX7_floods_9 : decode cX7_floods 9 = .ok (.ifCond .eq 13, 3) := by decide +kernel
theorem dX7_floods_12 : decode cX7_floods 12 = .ok (.iload_n 2, 1) := by decide +kernel
theorem dX7_floods_13 : decode cX7_floods 13 = .ok (.i2l, 1) := by decide +kernel
theorem dX7_floods_14 : decode cX7_floods 14 = .ok (.lconst 0, 1) := by decide +kernel
theorem dX7_floods_15 : decode cX7_floods 15 = .ok (.lconst 1, 1) := by decide +kernel
theorem dX7_floods_16 : decode cX7_floods 16 = .ok (.invokestatic 44, 3) := by decide +kernel
theorem dX7_floods_19 : decode cX7_floods 19 = .ok (.ifCond .ne 5, 3) := by decide +kernel
theorem dX7_floods_22 : decode cX7_floods 22 = .ok (.iconst (-1), 1) := by decide +kernel
theorem dX7_floods_23 : decode cX7_floods 23 = .ok (.ireturn, 1) := by decide +kernel
theorem dX7_floods_24 : decode cX7_floods 24 = .ok (.iconst 0, 1) := by decide +kernel
theorem dX7_floods_25 : decode cX7_floods 25 = .ok (.istore_n 3, 1) := by decide +kernel
theorem dX7_floods_26 : decode cX7_floods 26 = .ok (.iconst 0, 1) := by decide +kernel
theorem dX7_floods_27 : decode cX7_floods 27 = .ok (.istore 4, 2) := by decide +kernel
theorem dX7_floods_29 : decode cX7_floods 29 = .ok (.aload_n 0, 1) := by decide +kernel
theorem dX7_floods_30 : decode cX7_floods 30 = .ok (.invokevirtual 168, 3) := by decide +kernel
theorem dX7_floods_33 : decode cX7_floods 33 = .ok (.iconst 0, 1) := by decide +kernel
theorem dX7_floods_34 : decode cX7_floods 34 = .ok (.istore 5, 2) := by decide +kernel
theorem dX7_floods_36 : decode cX7_floods 36 = .ok (.iload 5, 2) := by decide +kernel
theorem dX7_floods_38 : decode cX7_floods 38 = .ok (.bipush 16, 2) := by decide +kernel
theorem dX7_floods_40 : decode cX7_floods 40 = .ok (.if_icmp .ge 111, 3) := by decide +kernel
theorem dX7_floods_43 : decode cX7_floods 43 = .ok (.iconst 1, 1) := by decide +kernel
theorem dX7_floods_44 : decode cX7_floods 44 = .ok (.istore 6, 2) := by decide +kernel
theorem dX7_floods_46 : decode cX7_floods 46 = .ok (.iconst 0, 1) := by decide +kernel
theorem dX7_floods_47 : decode cX7_floods 47 = .ok (.istore 7, 2) := by decide +kernel
theorem dX7_floods_49 : decode cX7_floods 49 = .ok (.iload 7, 2) := by decide +kernel
theorem dX7_floods_51 : decode cX7_floods 51 = .ok (.iconst 4, 1) := by decide +kernel
theorem dX7_floods_52 : decode cX7_floods 52 = .ok (.if_icmp .ge 62, 3) := by decide +kernel
theorem dX7_floods_55 : decode cX7_floods 55 = .ok (.iload 5, 2) := by decide +kernel
theorem dX7_floods_57 : decode cX7_floods 57 = .ok (.iload 7, 2) := by decide +kernel
theorem dX7_floods_59 : decode cX7_floods 59 = .ok (.ishr, 1) := by decide +kernel
theorem dX7_floods_60 : decode cX7_floods 60 = .ok (.iconst 1, 1) := by decide +kernel
theorem dX7_floods_61 : decode cX7_floods 61 = .ok (.iand, 1) := by decide +kernel
theorem dX7_floods_62 : decode cX7_floods 62 = .ok (.iconst 1, 1) := by decide +kernel
theorem dX7_floods_63 : decode cX7_floods 63 = .ok (.if_icmp .ne 7, 3) := by decide +kernel
theorem dX7_floods_66 : decode cX7_floods 66 = .ok (.iconst 1, 1) := by decide +kernel
theorem dX7_floods_67 : decode cX7_floods 67 = .ok (.goto 4, 3) := by decide +kernel
theorem dX7_floods_70 : decode cX7_floods 70 = .ok (.iconst 0, 1) := by decide +kernel
theorem dX7_floods_71 : decode cX7_floods 71 = .ok (.istore 8, 2) := by decide +kernel
theorem dX7_floods_73 : decode cX7_floods 73 = .ok (.iload 6, 2) := by decide +kernel
theorem dX7_floods_75 : decode cX7_floods 75 = .ok (.iload 8, 2) := by decide +kernel
theorem dX7_floods_77 : decode cX7_floods 77 = .ok (.ifCond .eq 7, 3) := by decide +kernel
theorem dX7_floods_80 : decode cX7_floods 80 = .ok (.iload_n 1, 1) := by decide +kernel
theorem dX7_floods_81 : decode cX7_floods 81 = .ok (.goto 7, 3) := by decide +kernel
theorem dX7_floods_84 : decode cX7_floods 84 = .ok (.bipush 10, 2) := by decide +kernel
theorem dX7_floods_86 : decode cX7_floods 86 = .ok (.iload_n 1, 1) := by decide +kernel
theorem dX7_floods_87 : decode cX7_floods 87 = .ok (.isub, 1) := by decide +kernel
theorem dX7_floods_88 : decode cX7_floods 88 = .ok (.imul, 1) := by decide +kernel
theorem dX7_floods_89 : decode cX7_floods 89 = .ok (.istore 6, 2) := by decide +kernel
theorem dX7_floods_91 : decode cX7_floods 91 = .ok (.aload_n 0, 1) := by decide +kernel
theorem dX7_floods_92 : decode cX7_floods 92 = .ok (.iload 7, 2) := by decide +kernel
theorem dX7_floods_94 : decode cX7_floods 94 = .ok (.iload 8, 2) := by decide +kernel
theorem dX7_floods_96 : decode cX7_floods 96 = .ok (.ifCond .eq 8, 3) := by decide +kernel
theorem dX7_floods_99 : decode cX7_floods 99 = .ok (.bipush (-5), 2) := by decide +kernel
theorem dX7_floods_101 : decode cX7_floods 101 = .ok (.goto 4, 3) := by decide +kernel
theorem dX7_floods_104 : decode cX7_floods 104 = .ok (.iconst 0, 1) := by decide +kernel
theorem dX7_floods_105 : decode cX7_floods 105 = .ok (.invokevirtual 54, 3) := by decide +kernel
theorem dX7_floods_108 : decode cX7_floods 108 = .ok (.iinc 7 1, 3) := by decide +kernel
theorem dX7_floods_111 : decode cX7_floods 111 = .ok (.goto (-62), 3) := by decide +kernel
theorem dX7_floods_114 : decode cX7_floods 114 = .ok (.aload_n 0, 1) := by decide +kernel
theorem dX7_floods_115 : decode cX7_floods 115 = .ok (.invokevirtual 83, 3) := by decide +kernel
theorem dX7_floods_118 : decode cX7_floods 118 = .ok (.iload 4, 2) := by decide +kernel
theorem dX7_floods_120 : decode cX7_floods 120 = .ok (.iload 6, 2) := by decide +kernel
theorem dX7_floods_122 : decode cX7_floods 122 = .ok (.iadd, 1) := by decide +kernel
theorem dX7_floods_123 : decode cX7_floods 123 = .ok (.istore 4, 2) := by decide +kernel
theorem dX7_floods_125 : decode cX7_floods 125 = .ok (.iload_n 3, 1) := by decide +kernel
theorem dX7_floods_126 : decode cX7_floods 126 = .ok (.aload_n 0, 1) := by decide +kernel
theorem dX7_floods_127 : decode cX7_floods 127 = .ok (.getfield 61, 3) := by decide +kernel
theorem dX7_floods_130 : decode cX7_floods 130 = .ok (.ifCond .ne 8, 3) := by decide +kernel
theorem dX7_floods_133 : decode cX7_floods 133 = .ok (.iload 6, 2) := by decide +kernel
theorem dX7_floods_135 : decode cX7_floods 135 = .ok (.goto 4, 3) := by decide +kernel
theorem dX7_floods_138 : decode cX7_floods 138 = .ok (.iconst 0, 1) := by decide +kernel
theorem dX7_floods_139 : decode cX7_floods 139 = .ok (.iadd, 1) := by decide +kernel
theorem dX7_floods_140 : decode cX7_floods 140 = .ok (.istore_n 3, 1) := by decide +kernel
theorem dX7_floods_141 : decode cX7_floods 141 = .ok (.aload_n 0, 1) := by decide +kernel
theorem dX7_floods_142 : decode cX7_floods 142 = .ok (.invokevirtual 174, 3) := by decide +kernel
theorem dX7_floods_145 : decode cX7_floods 145 = .ok (.iinc 5 1, 3) := by decide +kernel
theorem dX7_floods_148 : decode cX7_floods 148 = .ok (.goto (-112), 3) := by decide +kernel
theorem dX7_floods_151 : decode cX7_floods 151 = .ok (.iload_n 3, 1) := by decide +kernel
theorem dX7_floods_152 : decode cX7_floods 152 = .ok (.istore 5, 2) := by decide +kernel
theorem dX7_floods_154 : decode cX7_floods 154 = .ok (.iload 4, 2) := by decide +kernel
theorem dX7_floods_156 : decode cX7_floods 156 = .ok (.istore 6, 2) := by decide +kernel
theorem dX7_floods_158 : decode cX7_floods 158 = .ok (.iload 6, 2) := by decide +kernel
theorem dX7_floods_160 : decode cX7_floods 160 = .ok (.ifCond .eq 21, 3) := by decide +kernel
theorem dX7_floods_163 : decode cX7_floods 163 = .ok (.iload 5, 2) := by decide +kernel
theorem dX7_floods_165 : decode cX7_floods 165 = .ok (.iload 6, 2) := by decide +kernel
theorem dX7_floods_167 : decode cX7_floods 167 = .ok (.irem, 1) := by decide +kernel
theorem dX7_floods_168 : decode cX7_floods 168 = .ok (.istore 7, 2) := by decide +kernel
theorem dX7_floods_170 : decode cX7_floods 170 = .ok (.iload 6, 2) := by decide +kernel
theorem dX7_floods_172 : decode cX7_floods 172 = .ok (.istore 5, 2) := by decide +kernel
theorem dX7_floods_174 : decode cX7_floods 174 = .ok (.iload 7, 2) := by decide +kernel
theorem dX7_floods_176 : decode cX7_floods 176 = .ok (.istore 6, 2) := by decide +kernel
theorem dX7_floods_178 : decode cX7_floods 178 = .ok (.goto (-20), 3) := by decide +kernel
theorem dX7_floods_181 : decode cX7_floods 181 = .ok (.iload_n 2, 1) := by decide +kernel
theorem dX7_floods_182 : decode cX7_floods 182 = .ok (.ifCond .ne 10, 3) := by decide +kernel
theorem dX7_floods_185 : decode cX7_floods 185 = .ok (.iload_n 3, 1) := by decide +kernel
theorem dX7_floods_186 : decode cX7_floods 186 = .ok (.iload 5, 2) := by decide +kernel
theorem dX7_floods_188 : decode cX7_floods 188 = .ok (.idiv, 1) := by decide +kernel
theorem dX7_floods_189 : decode cX7_floods 189 = .ok (.goto 8, 3) := by decide +kernel
theorem dX7_floods_192 : decode cX7_floods 192 = .ok (.iload 4, 2) := by decide +kernel
theorem dX7_floods_194 : decode cX7_floods 194 = .ok (.iload 5, 2) := by decide +kernel
theorem dX7_floods_196 : decode cX7_floods 196 = .ok (.idiv, 1) := by decide +kernel
theorem dX7_floods_197 : decode cX7_floods 197 = .ok (.ireturn, 1) := by decide +kernel
theorem dX7_image_0 : decode cX7_image 0 = .ok (.iconst 0, 1) := by decide +kernel
theorem dX7_image_1 : decode cX7_image 1 = .ok (.istore_n 1, 1) := by decide +kernel
theorem dX7_image_2 : decode cX7_image 2 = .ok (.iload_n 1, 1) := by decide +kernel
theorem dX7_image_3 : decode cX7_image 3 = .ok (.bipush 29, 2) := by decide +kernel
theorem dX7_image_5 : decode cX7_image 5 = .ok (.if_icmp .ge 21, 3) := by decide +kernel
theorem dX7_image_8 : decode cX7_image 8 = .ok (.aload_n 0, 1) := by decide +kernel
theorem dX7_image_9 : decode cX7_image 9 = .ok (.getfield 28, 3) := by decide +kernel
theorem dX7_image_12 : decode cX7_image 12 = .ok (.iload_n 1, 1) := by decide +kernel
theorem dX7_image_13 : decode cX7_image 13 = .ok (.aload_n 0, 1) := by decide +kernel
theorem dX7_image_14 : decode cX7_image 14 = .ok (.getfield 7, 3) := by decide +kernel
theorem dX7_image_17 : decode cX7_image 17 = .ok (.iload_n 1, 1) := by decide +kernel
theorem dX7_image_18 : decode cX7_image 18 = .ok (.iaload, 1) := by decide +kernel
theorem dX7_image_19 : decode cX7_image 19 = .ok (.iastore, 1) := by decide +kernel
theorem dX7_image_20 : decode cX7_image 20 = .ok (.iinc 1 1, 3) := by decide +kernel
theorem dX7_image_23 : decode cX7_image 23 = .ok (.goto (-21), 3) := by decide +kernel
theorem dX7_image_26 : decode cX7_image 26 = .ok (.iconst 0, 1) := by decide +kernel
theorem dX7_image_27 : decode cX7_image 27 = .ok (.istore_n 1, 1) := by decide +kernel
theorem dX7_image_28 : decode cX7_image 28 = .ok (.iload_n 1, 1) := by decide +kernel
theorem dX7_image_29 : decode cX7_image 29 = .ok (.sipush 232, 3) := by decide +kernel
theorem dX7_image_32 : decode cX7_image 32 = .ok (.if_icmp .ge 24, 3) := by decide +kernel
theorem dX7_image_35 : decode cX7_image 35 = .ok (.aload_n 0, 1) := by decide +kernel
theorem dX7_image_36 : decode cX7_image 36 = .ok (.getfield 28, 3) := by decide +kernel
theorem dX7_image_39 : decode cX7_image 39 = .ok (.bipush 29, 2) := by decide +kernel
theorem dX7_image_41 : decode cX7_image 41 = .ok (.iload_n 1, 1) := by decide +kernel
theorem dX7_image_42 : decode cX7_image 42 = .ok (.iadd, 1) := by decide +kernel
theorem dX7_image_43 : decode cX7_image 43 = .ok (.aload_n 0, 1) := by decide +kernel
theorem dX7_image_44 : decode cX7_image 44 = .ok (.getfield 22, 3) := by decide +kernel
theorem dX7_image_47 : decode cX7_image 47 = .ok (.iload_n 1, 1) := by decide +kernel
theorem dX7_image_48 : decode cX7_image 48 = .ok (.iaload, 1) := by decide +kernel
theorem dX7_image_49 : decode cX7_image 49 = .ok (.iastore, 1) := by decide +kernel
theorem dX7_image_50 : decode cX7_image 50 = .ok (.iinc 1 1, 3) := by decide +kernel
theorem dX7_image_53 : decode cX7_image 53 = .ok (.goto (-25), 3) := by decide +kernel
theorem dX7_image_56 : decode cX7_image 56 = .ok (.aload_n 0, 1) := by decide +kernel
theorem dX7_image_57 : decode cX7_image 57 = .ok (.aload_n 0, 1) := by decide +kernel
theorem dX7_image_58 : decode cX7_image 58 = .ok (.getfield 86, 3) := by decide +kernel
theorem dX7_image_61 : decode cX7_image 61 = .ok (.putfield 203, 3) := by decide +kernel
theorem dX7_image_64 : decode cX7_image 64 = .ok (.aload_n 0, 1) := by decide +kernel
theorem dX7_image_65 : decode cX7_image 65 = .ok (.iconst 1, 1) := by decide +kernel
theorem dX7_image_66 : decode cX7_image 66 = .ok (.putfield 206, 3) := by decide +kernel
theorem dX7_image_69 : decode cX7_image 69 = .ok (.iconst 1, 1) := by decide +kernel
theorem dX7_image_70 : decode cX7_image 70 = .ok (.ireturn, 1) := by decide +kernel
theorem dX7_restore_0 : decode cX7_restore 0 = .ok (.aload_n 0, 1) := by decide +kernel
theorem dX7_restore_1 : decode cX7_restore 1 = .ok (.getfield 206, 3) := by decide +kernel
theorem dX7_restore_4 : decode cX7_restore 4 = .ok (.ifCond .ne 6, 3) := by decide +kernel
theorem dX7_restore_7 : decode cX7_restore 7 = .ok (.bipush (-4), 2) := by decide +kernel
theorem dX7_restore_9 : decode cX7_restore 9 = .ok (.ireturn, 1) := by decide +kernel
theorem dX7_restore_10 : decode cX7_restore 10 = .ok (.iconst 0, 1) := by decide +kernel
theorem dX7_restore_11 : decode cX7_restore 11 = .ok (.istore_n 1, 1) := by decide +kernel
theorem dX7_restore_12 : decode cX7_restore 12 = .ok (.iload_n 1, 1) := by decide +kernel
theorem dX7_restore_13 : decode cX7_restore 13 = .ok (.bipush 29, 2) := by decide +kernel
theorem dX7_restore_15 : decode cX7_restore 15 = .ok (.if_icmp .ge 21, 3) := by decide +kernel
theorem dX7_restore_18 : decode cX7_restore 18 = .ok (.aload_n 0, 1) := by decide +kernel
theorem dX7_restore_19 : decode cX7_restore 19 = .ok (.getfield 7, 3) := by decide +kernel
theorem dX7_restore_22 : decode cX7_restore 22 = .ok (.iload_n 1, 1) := by decide +kernel
theorem dX7_restore_23 : decode cX7_restore 23 = .ok (.aload_n 0, 1) := by decide +kernel
theorem dX7_restore_24 : decode cX7_restore 24 = .ok (.getfield 28, 3) := by decide +kernel
theorem dX7_restore_27 : decode cX7_restore 27 = .ok (.iload_n 1, 1) := by decide +kernel
theorem dX7_restore_28 : decode cX7_restore 28 = .ok (.iaload, 1) := by decide +kernel
theorem dX7_restore_29 : decode cX7_restore 29 = .ok (.iastore, 1) := by decide +kernel
theorem dX7_restore_30 : decode cX7_restore 30 = .ok (.iinc 1 1, 3) := by decide +kernel
theorem dX7_restore_33 : decode cX7_restore 33 = .ok (.goto (-21), 3) := by decide +kernel
theorem dX7_restore_36 : decode cX7_restore 36 = .ok (.iconst 0, 1) := by decide +kernel
theorem dX7_restore_37 : decode cX7_restore 37 = .ok (.istore_n 1, 1) := by decide +kernel
theorem dX7_restore_38 : decode cX7_restore 38 = .ok (.iload_n 1, 1) := by decide +kernel
theorem dX7_restore_39 : decode cX7_restore 39 = .ok (.sipush 232, 3) := by decide +kernel
theorem dX7_restore_42 : decode cX7_restore 42 = .ok (.if_icmp .ge 24, 3) := by decide +kernel
theorem dX7_restore_45 : decode cX7_restore 45 = .ok (.aload_n 0, 1) := by decide +kernel
theorem dX7_restore_46 : decode cX7_restore 46 = .ok (.getfield 22, 3) := by decide +kernel
theorem dX7_restore_49 : decode cX7_restore 49 = .ok (.iload_n 1, 1) := by decide +kernel
theorem dX7_restore_50 : decode cX7_restore 50 = .ok (.aload_n 0, 1) := by decide +kernel
theorem dX7_restore_51 : decode cX7_restore 51 = .ok (.getfield 28, 3) := by decide +kernel
theorem dX7_restore_54 : decode cX7_restore 54 = .ok (.bipush 29, 2) := by decide +kernel
theorem dX7_restore_56 : decode cX7_restore 56 = .ok (.iload_n 1, 1) := by decide +kernel
theorem dX7_restore_57 : decode cX7_restore 57 = .ok (.iadd, 1) := by decide +kernel
theorem dX7_restore_58 : decode cX7_restore 58 = .ok (.iaload, 1) := by decide +kernel
theorem dX7_restore_59 : decode cX7_restore 59 = .ok (.iastore, 1) := by decide +kernel
theorem dX7_restore_60 : decode cX7_restore 60 = .ok (.iinc 1 1, 3) := by decide +kernel
theorem dX7_restore_63 : decode cX7_restore 63 = .ok (.goto (-25), 3) := by decide +kernel
theorem dX7_restore_66 : decode cX7_restore 66 = .ok (.aload_n 0, 1) := by decide +kernel
theorem dX7_restore_67 : decode cX7_restore 67 = .ok (.aload_n 0, 1) := by decide +kernel
theorem dX7_restore_68 : decode cX7_restore 68 = .ok (.getfield 203, 3) := by decide +kernel
theorem dX7_restore_71 : decode cX7_restore 71 = .ok (.putfield 86, 3) := by decide +kernel
theorem dX7_restore_74 : decode cX7_restore 74 = .ok (.iconst 1, 1) := by decide +kernel
theorem dX7_restore_75 : decode cX7_restore 75 = .ok (.ireturn, 1) := by decide +kernel
theorem dX7_isSheet_0 : decode cX7_isSheet 0 = .ok (.iload_n 0, 1) := by decide +kernel
theorem dX7_isSheet_1 : decode cX7_isSheet 1 = .ok (.i2l, 1) := by decide +kernel
theorem dX7_isSheet_2 : decode cX7_isSheet 2 = .ok (.lconst 0, 1) := by decide +kernel
theorem dX7_isSheet_3 : decode cX7_isSheet 3 = .ok (.ldc2_w 48, 3) := by decide +kernel
theorem dX7_isSheet_6 : decode cX7_isSheet 6 = .ok (.invokestatic 44, 3) := by decide +kernel
theorem dX7_isSheet_9 : decode cX7_isSheet 9 = .ok (.ireturn, 1) := by decide +kernel
theorem dX7_isLane_0 : decode cX7_isLane 0 = .ok (.iload_n 0, 1) := by decide +kernel
theorem dX7_isLane_1 : decode cX7_isLane 1 = .ok (.i2l, 1) := by decide +kernel
theorem dX7_isLane_2 : decode cX7_isLane 2 = .ok (.lconst 0, 1) := by decide +kernel
theorem dX7_isLane_3 : decode cX7_isLane 3 = .ok (.ldc2_w 48, 3) := by decide +kernel
theorem dX7_isLane_6 : decode cX7_isLane 6 = .ok (.invokestatic 44, 3) := by decide +kernel
theorem dX7_isLane_9 : decode cX7_isLane 9 = .ok (.ireturn, 1) := by decide +kernel
theorem dX7_why_0 : decode cX7_why 0 = .ok (.aload_n 0, 1) := by decide +kernel
theorem dX7_why_1 : decode cX7_why 1 = .ok (.getfield 31, 3) := by decide +kernel
theorem dX7_why_4 : decode cX7_why 4 = .ok (.iload_n 1, 1) := by decide +kernel
theorem dX7_why_5 : decode cX7_why 5 = .ok (.iaload, 1) := by decide +kernel
theorem dX7_why_6 : decode cX7_why 6 = .ok (.ifCond .ge 6, 3) := by decide +kernel
theorem dX7_why_9 : decode cX7_why 9 = .ok (.bipush (-11), 2) := by decide +kernel
theorem dX7_why_11 : decode cX7_why 11 = .ok (.ireturn, 1) := by decide +kernel
theorem dX7_why_12 : decode cX7_why 12 = .ok (.aload_n 0, 1) := by decide +kernel
theorem dX7_why_13 : decode cX7_why 13 = .ok (.getfield 31, 3) := by decide +kernel
theorem dX7_why_16 : decode cX7_why 16 = .ok (.iload_n 1, 1) := by decide +kernel
theorem dX7_why_17 : decode cX7_why 17 = .ok (.iaload, 1) := by decide +kernel
theorem dX7_why_18 : decode cX7_why 18 = .ok (.iload_n 2, 1) := by decide +kernel
theorem dX7_why_19 : decode cX7_why 19 = .ok (.if_icmp .eq 6, 3) := by decide +kernel
theorem dX7_why_22 : decode cX7_why 22 = .ok (.bipush (-12), 2) := by decide +kernel
theorem dX7_why_24 : decode cX7_why 24 = .ok (.ireturn, 1) := by decide +kernel
theorem dX7_why_25 : decode cX7_why 25 = .ok (.iload_n 3, 1) := by decide +kernel
theorem dX7_why_26 : decode cX7_why 26 = .ok (.ifCond .lt 25, 3) := by decide +kernel
theorem dX7_why_29 : decode cX7_why 29 = .ok (.iload 4, 2) := by decide +kernel
theorem dX7_why_31 : decode cX7_why 31 = .ok (.ifCond .lt 20, 3) := by decide +kernel
theorem dX7_why_34 : decode cX7_why 34 = .ok (.iload_n 3, 1) := by decide +kernel
theorem dX7_why_35 : decode cX7_why 35 = .ok (.i2l, 1) := by decide +kernel
theorem dX7_why_36 : decode cX7_why 36 = .ok (.iload 4, 2) := by decide +kernel
theorem dX7_why_38 : decode cX7_why 38 = .ok (.i2l, 1) := by decide +kernel
theorem dX7_why_39 : decode cX7_why 39 = .ok (.ladd, 1) := by decide +kernel
theorem dX7_why_40 : decode cX7_why 40 = .ok (.aload_n 0, 1) := by decide +kernel
theorem dX7_why_41 : decode cX7_why 41 = .ok (.getfield 34, 3) := by decide +kernel
theorem dX7_why_44 : decode cX7_why 44 = .ok (.iload_n 1, 1) := by decide +kernel
theorem dX7_why_45 : decode cX7_why 45 = .ok (.iaload, 1) := by decide +kernel
theorem dX7_why_46 : decode cX7_why 46 = .ok (.i2l, 1) := by decide +kernel
theorem dX7_why_47 : decode cX7_why 47 = .ok (.lcmp, 1) := by decide +kernel
theorem dX7_why_48 : decode cX7_why 48 = .ok (.ifCond .le 8, 3) := by decide +kernel
theorem dX7_why_51 : decode cX7_why 51 = .ok (.bipush (-13), 2) := by decide +kernel
theorem dX7_why_53 : decode cX7_why 53 = .ok (.goto 4, 3) := by decide +kernel
theorem dX7_why_56 : decode cX7_why 56 = .ok (.iconst 0, 1) := by decide +kernel
theorem dX7_why_57 : decode cX7_why 57 = .ok (.ireturn, 1) := by decide +kernel
theorem dX7_isSo_0 : decode cX7_isSo 0 = .ok (.iconst 1, 1) := by decide +kernel
theorem dX7_isSo_1 : decode cX7_isSo 1 = .ok (.istore 4, 2) := by decide +kernel
theorem dX7_isSo_3 : decode cX7_isSo 3 = .ok (.iconst 0, 1) := by decide +kernel
theorem dX7_isSo_4 : decode cX7_isSo 4 = .ok (.istore 5, 2) := by decide +kernel
theorem dX7_isSo_6 : decode cX7_isSo 6 = .ok (.iload 5, 2) := by decide +kernel
theorem dX7_isSo_8 : decode cX7_isSo 8 = .ok (.iload_n 3, 1) := by decide +kernel
theorem dX7_isSo_9 : decode cX7_isSo 9 = .ok (.if_icmp .ge 48, 3) := by decide +kernel
theorem dX7_isSo_12 : decode cX7_isSo 12 = .ok (.aload_n 0, 1) := by decide +kernel
theorem dX7_isSo_13 : decode cX7_isSo 13 = .ok (.invokevirtual 83, 3) := by decide +kernel
theorem dX7_isSo_16 : decode cX7_isSo 16 = .ok (.iload 4, 2) := by decide +kernel
theorem dX7_isSo_18 : decode cX7_isSo 18 = .ok (.ifCond .eq 30, 3) := by decide +kernel
theorem dX7_isSo_21 : decode cX7_isSo 21 = .ok (.aload_n 0, 1) := by decide +kernel
theorem dX7_isSo_22 : decode cX7_isSo 22 = .ok (.getfield 7, 3) := by decide +kernel
theorem dX7_isSo_25 : decode cX7_isSo 25 = .ok (.bipush 7, 2) := by decide +kernel
theorem dX7_isSo_27 : decode cX7_isSo 27 = .ok (.iload_n 1, 1) := by decide +kernel
theorem dX7_isSo_28 : decode cX7_isSo 28 = .ok (.iadd, 1) := by decide +kernel
theorem dX7_isSo_29 : decode cX7_isSo 29 = .ok (.iaload, 1) := by decide +kernel
theorem dX7_isSo_30 : decode cX7_isSo 30 = .ok (.i2l, 1) := by decide +kernel
theorem dX7_isSo_31 : decode cX7_isSo 31 = .ok (.aload_n 0, 1) := by decide +kernel
theorem dX7_isSo_32 : decode cX7_isSo 32 = .ok (.getfield 37, 3) := by decide +kernel
theorem dX7_isSo_35 : decode cX7_isSo 35 = .ok (.iload_n 2, 1) := by decide +kernel
theorem dX7_isSo_36 : decode cX7_isSo 36 = .ok (.iload 5, 2) := by decide +kernel
theorem dX7_isSo_38 : decode cX7_isSo 38 = .ok (.iadd, 1) := by decide +kernel
theorem dX7_isSo_39 : decode cX7_isSo 39 = .ok (.laload, 1) := by decide +kernel
theorem dX7_isSo_40 : decode cX7_isSo 40 = .ok (.lcmp, 1) := by decide +kernel
theorem dX7_isSo_41 : decode cX7_isSo 41 = .ok (.ifCond .ne 7, 3) := by decide +kernel
theorem dX7_isSo_44 : decode cX7_isSo 44 = .ok (.iconst 1, 1) := by decide +kernel
theorem dX7_isSo_45 : decode cX7_isSo 45 = .ok (.goto 4, 3) := by decide +kernel
theorem dX7_isSo_48 : decode cX7_isSo 48 = .ok (.iconst 0, 1) := by decide +kernel
theorem dX7_isSo_49 : decode cX7_isSo 49 = .ok (.istore 4, 2) := by decide +kernel
theorem dX7_isSo_51 : decode cX7_isSo 51 = .ok (.iinc 5 1, 3) := by decide +kernel
theorem dX7_isSo_54 : decode cX7_isSo 54 = .ok (.goto (-48), 3) := by decide +kernel
theorem dX7_isSo_57 : decode cX7_isSo 57 = .ok (.aload_n 0, 1) := by decide +kernel
theorem dX7_isSo_58 : decode cX7_isSo 58 = .ok (.invokevirtual 174, 3) := by decide +kernel
theorem dX7_isSo_61 : decode cX7_isSo 61 = .ok (.iload 4, 2) := by decide +kernel
theorem dX7_isSo_63 : decode cX7_isSo 63 = .ok (.ireturn, 1) := by decide +kernel
theorem dX7_lists_0 : decode cX7_lists 0 = .ok (.iload_n 1, 1) := by decide +kernel
theorem dX7_lists_1 : decode cX7_lists 1 = .ok (.invokestatic 102, 3) := by decide +kernel
theorem dX7_lists_4 : decode cX7_lists 4 = .ok (.ifCond .eq 41, 3) := by decide +kernel
theorem dX7_lists_7 : decode cX7_lists 7 = .ok (.iload_n 2, 1) := by decide +kernel
theorem dX7_lists_8 : decode cX7_lists 8 = .ok (.invokestatic 209, 3) := by decide +kernel
theorem dX7_lists_11 : decode cX7_lists 11 = .ok (.ifCond .eq 34, 3) := by decide +kernel
theorem dX7_lists_14 : decode cX7_lists 14 = .ok (.iload_n 3, 1) := by decide +kernel
theorem dX7_lists_15 : decode cX7_lists 15 = .ok (.invokestatic 212, 3) := by decide +kernel
theorem dX7_lists_18 : decode cX7_lists 18 = .ok (.ifCond .eq 27, 3) := by decide +kernel
theorem dX7_lists_21 : decode cX7_lists 21 = .ok (.iload 5, 2) := by decide +kernel
theorem dX7_lists_23 : decode cX7_lists 23 = .ok (.i2l, 1) := by decide +kernel
theorem dX7_lists_24 : decode cX7_lists 24 = .ok (.lconst 1, 1) := by decide +kernel
theorem dX7_lists_25 : decode cX7_lists 25 = .ok (.ldc2_w 215, 3) := by decide +kernel
theorem dX7_lists_28 : decode cX7_lists 28 = .ok (.invokestatic 44, 3) := by decide +kernel
theorem dX7_lists_31 : decode cX7_lists 31 = .ok (.ifCond .eq 14, 3) := by decide +kernel
theorem dX7_lists_34 : decode cX7_lists 34 = .ok (.iload 6, 2) := by decide +kernel
theorem dX7_lists_36 : decode cX7_lists 36 = .ok (.i2l, 1) := by decide +kernel
theorem dX7_lists_37 : decode cX7_lists 37 = .ok (.lconst 0, 1) := by decide +kernel
theorem dX7_lists_38 : decode cX7_lists 38 = .ok (.lconst 1, 1) := by decide +kernel
theorem dX7_lists_39 : decode cX7_lists 39 = .ok (.invokestatic 44, 3) := by decide +kernel
theorem dX7_lists_42 : decode cX7_lists 42 = .ok (.ifCond .ne 5, 3) := by decide +kernel
theorem dX7_lists_45 : decode cX7_lists 45 = .ok (.iconst (-1), 1) := by decide +kernel
theorem dX7_lists_46 : decode cX7_lists 46 = .ok (.ireturn, 1) := by decide +kernel
theorem dX7_lists_47 : decode cX7_lists 47 = .ok (.aload_n 0, 1) := by decide +kernel
theorem dX7_lists_48 : decode cX7_lists 48 = .ok (.iload_n 2, 1) := by decide +kernel
theorem dX7_lists_49 : decode cX7_lists 49 = .ok (.iload_n 3, 1) := by decide +kernel
theorem dX7_lists_50 : decode cX7_lists 50 = .ok (.iload 4, 2) := by decide +kernel
theorem dX7_lists_52 : decode cX7_lists 52 = .ok (.iload 5, 2) := by decide +kernel
theorem dX7_lists_54 : decode cX7_lists 54 = .ok (.invokevirtual 217, 3) := by decide +kernel
theorem dX7_lists_57 : decode cX7_lists 57 = .ok (.istore 7, 2) := by decide +kernel
theorem dX7_lists_59 : decode cX7_lists 59 = .ok (.iload 7, 2) := by decide +kernel
theorem dX7_lists_61 : decode cX7_lists 61 = .ok (.ifCond .ge 6, 3) := by decide +kernel
theorem dX7_lists_64 : decode cX7_lists 64 = .ok (.iload 7, 2) := by decide +kernel
theorem dX7_lists_66 : decode cX7_lists 66 = .ok (.ireturn, 1) := by decide +kernel
theorem dX7_lists_67 : decode cX7_lists 67 = .ok (.iconst 0, 1) := by decide +kernel
theorem dX7_lists_68 : decode cX7_lists 68 = .ok (.istore 8, 2) := by decide +kernel
theorem dX7_lists_70 : decode cX7_lists 70 = .ok (.bipush (-4), 2) := by decide +kernel
theorem dX7_lists_72 : decode cX7_lists 72 = .ok (.istore 9, 2) := by decide +kernel
theorem dX7_lists_74 : decode cX7_lists 74 = .ok (.aload_n 0, 1) := by decide +kernel
theorem dX7_lists_75 : decode cX7_lists 75 = .ok (.invokevirtual 168, 3) := by decide +kernel
theorem dX7_lists_78 : decode cX7_lists 78 = .ok (.iconst 0, 1) := by decide +kernel
theorem dX7_lists_79 : decode cX7_lists 79 = .ok (.istore 10, 2) := by decide +kernel
theorem dX7_lists_81 : decode cX7_lists 81 = .ok (.iload 10, 2) := by decide +kernel
theorem dX7_lists_83 : decode cX7_lists 83 = .ok (.bipush 64, 2) := by decide +kernel
theorem dX7_lists_85 : decode cX7_lists 85 = .ok (.if_icmp .ge 67, 3) := by decide +kernel
theorem dX7_lists_88 : decode cX7_lists 88 = .ok (.aload_n 0, 1) := by decide +kernel
theorem dX7_lists_89 : decode cX7_lists 89 = .ok (.getfield 7, 3) := by decide +kernel
theorem dX7_lists_92 : decode cX7_lists 92 = .ok (.iconst 2, 1) := by decide +kernel
theorem dX7_lists_93 : decode cX7_lists 93 = .ok (.iload 10, 2) := by decide +kernel
theorem dX7_lists_95 : decode cX7_lists 95 = .ok (.iastore, 1) := by decide +kernel
theorem dX7_lists_96 : decode cX7_lists 96 = .ok (.aload_n 0, 1) := by decide +kernel
theorem dX7_lists_97 : decode cX7_lists 97 = .ok (.iload_n 1, 1) := by decide +kernel
theorem dX7_lists_98 : decode cX7_lists 98 = .ok (.bipush 24, 2) := by decide +kernel
theorem dX7_lists_100 : decode cX7_lists 100 = .ok (.iload_n 2, 1) := by decide +kernel
theorem dX7_lists_101 : decode cX7_lists 101 = .ok (.imul, 1) := by decide +kernel
theorem dX7_lists_102 : decode cX7_lists 102 = .ok (.iload 4, 2) := by decide +kernel
theorem dX7_lists_104 : decode cX7_lists 104 = .ok (.iadd, 1) := by decide +kernel
theorem dX7_lists_105 : decode cX7_lists 105 = .ok (.iload 5, 2) := by decide +kernel
theorem dX7_lists_107 : decode cX7_lists 107 = .ok (.invokevirtual 221, 3) := by decide +kernel
theorem dX7_lists_110 : decode cX7_lists 110 = .ok (.istore 11, 2) := by decide +kernel
theorem dX7_lists_112 : decode cX7_lists 112 = .ok (.iload 11, 2) := by decide +kernel
theorem dX7_lists_114 : decode cX7_lists 114 = .ok (.ifCond .eq 13, 3) := by decide +kernel
theorem dX7_lists_117 : decode cX7_lists 117 = .ok (.iload 8, 2) := by decide +kernel
theorem dX7_lists_119 : decode cX7_lists 119 = .ok (.ifCond .ne 8, 3) := by decide +kernel
theorem dX7_lists_122 : decode cX7_lists 122 = .ok (.iload 10, 2) := by decide +kernel
theorem dX7_lists_124 : decode cX7_lists 124 = .ok (.goto 5, 3) := by decide +kernel
theorem dX7_lists_127 : decode cX7_lists 127 = .ok (.iload 9, 2) := by decide +kernel
theorem dX7_lists_129 : decode cX7_lists 129 = .ok (.istore 9, 2) := by decide +kernel
theorem dX7_lists_131 : decode cX7_lists 131 = .ok (.iload 8, 2) := by decide +kernel
theorem dX7_lists_133 : decode cX7_lists 133 = .ok (.iload 11, 2) := by decide +kernel
theorem dX7_lists_135 : decode cX7_lists 135 = .ok (.ifCond .eq 7, 3) := by decide +kernel
theorem dX7_lists_138 : decode cX7_lists 138 = .ok (.iconst 1, 1) := by decide +kernel
theorem dX7_lists_139 : decode cX7_lists 139 = .ok (.goto 4, 3) := by decide +kernel
theorem dX7_lists_142 : decode cX7_lists 142 = .ok (.iconst 0, 1) := by decide +kernel
theorem dX7_lists_143 : decode cX7_lists 143 = .ok (.iadd, 1) := by decide +kernel
theorem dX7_lists_144 : decode cX7_lists 144 = .ok (.istore 8, 2) := by decide +kernel
theorem dX7_lists_146 : decode cX7_lists 146 = .ok (.iinc 10 1, 3) := by decide +kernel
theorem dX7_lists_149 : decode cX7_lists 149 = .ok (.goto (-68), 3) := by decide +kernel
theorem dX7_lists_152 : decode cX7_lists 152 = .ok (.iload 6, 2) := by decide +kernel
theorem dX7_lists_154 : decode cX7_lists 154 = .ok (.ifCond .ne 8, 3) := by decide +kernel
theorem dX7_lists_157 : decode cX7_lists 157 = .ok (.iload 8, 2) := by decide +kernel
theorem dX7_lists_159 : decode cX7_lists 159 = .ok (.goto 5, 3) := by decide +kernel
theorem dX7_lists_162 : decode cX7_lists 162 = .ok (.iload 9, 2) := by decide +kernel
theorem dX7_lists_164 : decode cX7_lists 164 = .ok (.ireturn, 1) := by decide +kernel
theorem dX7_seen_0 : decode cX7_seen 0 = .ok (.iload_n 1, 1) := by decide +kernel
theorem dX7_seen_1 : decode cX7_seen 1 = .ok (.invokestatic 102, 3) := by decide +kernel
theorem dX7_seen_4 : decode cX7_seen 4 = .ok (.ifCond .eq 50, 3) := by decide +kernel
theorem dX7_seen_7 : decode cX7_seen 7 = .ok (.aload_n 0, 1) := by decide +kernel
theorem dX7_seen_8 : decode cX7_seen 8 = .ok (.iload_n 2, 1) := by decide +kernel
theorem dX7_seen_9 : decode cX7_seen 9 = .ok (.invokevirtual 99, 3) := by decide +kernel
theorem dX7_seen_12 : decode cX7_seen 12 = .ok (.ifCond .eq 42, 3) := by decide +kernel
theorem dX7_seen_15 : decode cX7_seen 15 = .ok (.iload_n 3, 1) := by decide +kernel
theorem dX7_seen_16 : decode cX7_seen 16 = .ok (.invokestatic 209, 3) := by decide +kernel
theorem dX7_seen_19 : decode cX7_seen 19 = .ok (.ifCond .eq 35, 3) := by decide +kernel
theorem dX7_seen_22 : decode cX7_seen 22 = .ok (.iload 4, 2) := by decide +kernel
theorem dX7_seen_24 : decode cX7_seen 24 = .ok (.invokestatic 212, 3) := by decide +kernel
theorem dX7_seen_27 : decode cX7_seen 27 = .ok (.ifCond .eq 27, 3) := by decide +kernel
theorem dX7_seen_30 : decode cX7_seen 30 = .ok (.iload 6, 2) := by decide +kernel
theorem dX7_seen_32 : decode cX7_seen 32 = .ok (.i2l, 1) := by decide +kernel
theorem dX7_seen_33 : decode cX7_seen 33 = .ok (.lconst 1, 1) := by decide +kernel
theorem dX7_seen_34 : decode cX7_seen 34 = .ok (.ldc2_w 215, 3) := by decide +kernel
theorem dX7_seen_37 : decode cX7_seen 37 = .ok (.invokestatic 44, 3) := by decide +kernel
theorem dX7_seen_40 : decode cX7_seen 40 = .ok (.ifCond .eq 14, 3) := by decide +kernel
theorem dX7_seen_43 : decode cX7_seen 43 = .ok (.iload 7, 2) := by decide +kernel
theorem dX7_seen_45 : decode cX7_seen 45 = .ok (.i2l, 1) := by decide +kernel
theorem dX7_seen_46 : decode cX7_seen 46 = .ok (.lconst 0, 1) := by decide +kernel
theorem dX7_seen_47 : decode cX7_seen 47 = .ok (.lconst 1, 1) := by decide +kernel
theorem dX7_seen_48 : decode cX7_seen 48 = .ok (.invokestatic 44, 3) := by decide +kernel
theorem dX7_seen_51 : decode cX7_seen 51 = .ok (.ifCond .ne 5, 3) := by decide +kernel
theorem dX7_seen_54 : decode cX7_seen 54 = .ok (.iconst (-1), 1) := by decide +kernel
theorem dX7_seen_55 : decode cX7_seen 55 = .ok (.ireturn, 1) := by decide +kernel
theorem dX7_seen_56 : decode cX7_seen 56 = .ok (.aload_n 0, 1) := by decide +kernel
theorem dX7_seen_57 : decode cX7_seen 57 = .ok (.iload_n 3, 1) := by decide +kernel
theorem dX7_seen_58 : decode cX7_seen 58 = .ok (.iload 4, 2) := by decide +kernel
theorem dX7_seen_60 : decode cX7_seen 60 = .ok (.iload 5, 2) := by decide +kernel
theorem dX7_seen_62 : decode cX7_seen 62 = .ok (.iload 6, 2) := by decide +kernel
theorem dX7_seen_64 : decode cX7_seen 64 = .ok (.invokevirtual 217, 3) := by decide +kernel
theorem dX7_seen_67 : decode cX7_seen 67 = .ok (.istore 8, 2) := by decide +kernel
theorem dX7_seen_69 : decode cX7_seen 69 = .ok (.iload 8, 2) := by decide +kernel
theorem dX7_seen_71 : decode cX7_seen 71 = .ok (.ifCond .ge 6, 3) := by decide +kernel
theorem dX7_seen_74 : decode cX7_seen 74 = .ok (.iload 8, 2) := by decide +kernel
theorem dX7_seen_76 : decode cX7_seen 76 = .ok (.ireturn, 1) := by decide +kernel
theorem dX7_seen_77 : decode cX7_seen 77 = .ok (.iconst 0, 1) := by decide +kernel
theorem dX7_seen_78 : decode cX7_seen 78 = .ok (.istore 9, 2) := by decide +kernel
theorem dX7_seen_80 : decode cX7_seen 80 = .ok (.bipush 11, 2) := by decide +kernel
theorem dX7_seen_82 : decode cX7_seen 82 = .ok (.iconst 3, 1) := by decide +kernel
theorem dX7_seen_83 : decode cX7_seen 83 = .ok (.iload_n 2, 1) := by decide +kernel
theorem dX7_seen_84 : decode cX7_seen 84 = .ok (.imul, 1) := by decide +kernel
theorem dX7_seen_85 : decode cX7_seen 85 = .ok (.iadd, 1) := by decide +kernel
theorem dX7_seen_86 : decode cX7_seen 86 = .ok (.iconst 2, 1) := by decide +kernel
theorem dX7_seen_87 : decode cX7_seen 87 = .ok (.iload 7, 2) := by decide +kernel
theorem dX7_seen_89 : decode cX7_seen 89 = .ok (.imul, 1) := by decide +kernel
theorem dX7_seen_90 : decode cX7_seen 90 = .ok (.iadd, 1) := by decide +kernel
theorem dX7_seen_91 : decode cX7_seen 91 = .ok (.istore 10, 2) := by decide +kernel
theorem dX7_seen_93 : decode cX7_seen 93 = .ok (.aload_n 0, 1) := by decide +kernel
theorem dX7_seen_94 : decode cX7_seen 94 = .ok (.invokevirtual 168, 3) := by decide +kernel
theorem dX7_seen_97 : decode cX7_seen 97 = .ok (.iload 7, 2) := by decide +kernel
theorem dX7_seen_99 : decode cX7_seen 99 = .ok (.istore 11, 2) := by decide +kernel
theorem dX7_seen_101 : decode cX7_seen 101 = .ok (.iload 11, 2) := by decide +kernel
theorem dX7_seen_103 : decode cX7_seen 103 = .ok (.iload 7, 2) := by decide +kernel
theorem dX7_seen_105 : decode cX7_seen 105 = .ok (.ifCond .ne 7, 3) := by decide +kernel
theorem dX7_seen_108 : decode cX7_seen 108 = .ok (.iconst 5, 1) := by decide +kernel
theorem dX7_seen_109 : decode cX7_seen 109 = .ok (.goto 5, 3) := by decide +kernel
theorem dX7_seen_112 : decode cX7_seen 112 = .ok (.bipush 10, 2) := by decide +kernel
theorem dX7_seen_114 : decode cX7_seen 114 = .ok (.if_icmp .ge 48, 3) := by decide +kernel
theorem dX7_seen_117 : decode cX7_seen 117 = .ok (.aload_n 0, 1) := by decide +kernel
theorem dX7_seen_118 : decode cX7_seen 118 = .ok (.getfield 7, 3) := by decide +kernel
theorem dX7_seen_121 : decode cX7_seen 121 = .ok (.iload 10, 2) := by decide +kernel
theorem dX7_seen_123 : decode cX7_seen 123 = .ok (.iload 11, 2) := by decide +kernel
theorem dX7_seen_125 : decode cX7_seen 125 = .ok (.iastore, 1) := by decide +kernel
theorem dX7_seen_126 : decode cX7_seen 126 = .ok (.iload 9, 2) := by decide +kernel
theorem dX7_seen_128 : decode cX7_seen 128 = .ok (.aload_n 0, 1) := by decide +kernel
theorem dX7_seen_129 : decode cX7_seen 129 = .ok (.iload_n 1, 1) := by decide +kernel
theorem dX7_seen_130 : decode cX7_seen 130 = .ok (.bipush 24, 2) := by decide +kernel
theorem dX7_seen_132 : decode cX7_seen 132 = .ok (.iload_n 3, 1) := by decide +kernel
theorem dX7_seen_133 : decode cX7_seen 133 = .ok (.imul, 1) := by decide +kernel
theorem dX7_seen_134 : decode cX7_seen 134 = .ok (.iload 5, 2) := by decide +kernel
theorem dX7_seen_136 : decode cX7_seen 136 = .ok (.iadd, 1) := by decide +kernel
theorem dX7_seen_137 : decode cX7_seen 137 = .ok (.iload 6, 2) := by decide +kernel
theorem dX7_seen_139 : decode cX7_seen 139 = .ok (.invokevirtual 221, 3) := by decide +kernel
theorem dX7_seen_142 : decode cX7_seen 142 = .ok (.ifCond .eq 10, 3) := by decide +kernel
theorem dX7_seen_145 : decode cX7_seen 145 = .ok (.iconst 1, 1) := by decide +kernel
theorem dX7_seen_146 : decode cX7_seen 146 = .ok (.iload 11, 2) := by decide +kernel
theorem dX7_seen_148 : decode cX7_seen 148 = .ok (.ishl, 1) := by decide +kernel
theorem dX7_seen_149 : decode cX7_seen 149 = .ok (.goto 4, 3) := by decide +kernel
theorem dX7_seen_152 : decode cX7_seen 152 = .ok (.iconst 0, 1) := by decide +kernel
theorem dX7_seen_153 : decode cX7_seen 153 = .ok (.ior, 1) := by decide +kernel
theorem dX7_seen_154 : decode cX7_seen 154 = .ok (.istore 9, 2) := by decide +kernel
theorem dX7_seen_156 : decode cX7_seen 156 = .ok (.iinc 11 1, 3) := by decide +kernel
theorem dX7_seen_159 : decode cX7_seen 159 = .ok (.goto (-58), 3) := by decide +kernel
theorem dX7_seen_162 : decode cX7_seen 162 = .ok (.iload 9, 2) := by decide +kernel
theorem dX7_seen_164 : decode cX7_seen 164 = .ok (.ireturn, 1) := by decide +kernel
theorem dX7_film_0 : decode cX7_film 0 = .ok (.iload_n 1, 1) := by decide +kernel
theorem dX7_film_1 : decode cX7_film 1 = .ok (.invokestatic 102, 3) := by decide +kernel
theorem dX7_film_4 : decode cX7_film 4 = .ok (.ifCond .eq 30, 3) := by decide +kernel
theorem dX7_film_7 : decode cX7_film 7 = .ok (.iload_n 2, 1) := by decide +kernel
theorem dX7_film_8 : decode cX7_film 8 = .ok (.i2l, 1) := by decide +kernel
theorem dX7_film_9 : decode cX7_film 9 = .ok (.lconst 1, 1) := by decide +kernel
theorem dX7_film_10 : decode cX7_film 10 = .ok (.ldc2_w 225, 3) := by decide +kernel
theorem dX7_film_13 : decode cX7_film 13 = .ok (.invokestatic 44, 3) := by decide +kernel
theorem dX7_film_16 : decode cX7_film 16 = .ok (.ifCond .eq 18, 3) := by decide +kernel
theorem dX7_film_19 : decode cX7_film 19 = .ok (.iload_n 3, 1) := by decide +kernel
theorem dX7_film_20 : decode cX7_film 20 = .ok (.invokestatic 209, 3) := by decide +kernel
theorem dX7_film_23 : decode cX7_film 23 = .ok (.ifCond .eq 11, 3) := by decide +kernel
theorem dX7_film_26 : decode cX7_film 26 = .ok (.iload 4, 2) := by decide +kernel
theorem dX7_film_28 : decode cX7_film 28 = .ok (.invokestatic 212, 3) := by decide +kernel
theorem dX7_film_31 : decode cX7_film 31 = .ok (.ifCond .ne 5, 3) := by decide +kernel
theorem dX7_film_34 : decode cX7_film 34 = .ok (.iconst (-1), 1) := by decide +kernel
theorem dX7_film_35 : decode cX7_film 35 = .ok (.ireturn, 1) := by decide +kernel
theorem dX7_film_36 : decode cX7_film 36 = .ok (.aload_n 0, 1) := by decide +kernel
theorem dX7_film_37 : decode cX7_film 37 = .ok (.iload_n 3, 1) := by decide +kernel
theorem dX7_film_38 : decode cX7_film 38 = .ok (.iload 4, 2) := by decide +kernel
theorem dX7_film_40 : decode cX7_film 40 = .ok (.iload 5, 2) := by decide +kernel
theorem dX7_film_42 : decode cX7_film 42 = .ok (.iload_n 2, 1) := by decide +kernel
theorem dX7_film_43 : decode cX7_film 43 = .ok (.invokevirtual 217, 3) := by decide +kernel
theorem dX7_film_46 : decode cX7_film 46 = .ok (.istore 6, 2) := by decide +kernel
theorem dX7_film_48 : decode cX7_film 48 = .ok (.iload 6, 2) := by decide +kernel
theorem dX7_film_50 : decode cX7_film 50 = .ok (.ifCond .ge 6, 3) := by decide +kernel
theorem dX7_film_53 : decode cX7_film 53 = .ok (.iload 6, 2) := by decide +kernel
theorem dX7_film_55 : decode cX7_film 55 = .ok (.ireturn, 1) := by decide +kernel
theorem dX7_film_56 : decode cX7_film 56 = .ok (.aload_n 0, 1) := by decide +kernel
theorem dX7_film_57 : decode cX7_film 57 = .ok (.invokevirtual 168, 3) := by decide +kernel
theorem dX7_film_60 : decode cX7_film 60 = .ok (.iconst 0, 1) := by decide +kernel
theorem dX7_film_61 : decode cX7_film 61 = .ok (.istore 7, 2) := by decide +kernel
theorem dX7_film_63 : decode cX7_film 63 = .ok (.iload 7, 2) := by decide +kernel
theorem dX7_film_65 : decode cX7_film 65 = .ok (.iload_n 2, 1) := by decide +kernel
theorem dX7_film_66 : decode cX7_film 66 = .ok (.if_icmp .ge 38, 3) := by decide +kernel
theorem dX7_film_69 : decode cX7_film 69 = .ok (.aload_n 0, 1) := by decide +kernel
theorem dX7_film_70 : decode cX7_film 70 = .ok (.invokevirtual 83, 3) := by decide +kernel
theorem dX7_film_73 : decode cX7_film 73 = .ok (.aload_n 0, 1) := by decide +kernel
theorem dX7_film_74 : decode cX7_film 74 = .ok (.getfield 37, 3) := by decide +kernel
theorem dX7_film_77 : decode cX7_film 77 = .ok (.bipush 24, 2) := by decide +kernel
theorem dX7_film_79 : decode cX7_film 79 = .ok (.iload_n 3, 1) := by decide +kernel
theorem dX7_film_80 : decode cX7_film 80 = .ok (.imul, 1) := by decide +kernel
theorem dX7_film_81 : decode cX7_film 81 = .ok (.iload 5, 2) := by decide +kernel
theorem dX7_film_83 : decode cX7_film 83 = .ok (.iadd, 1) := by decide +kernel
theorem dX7_film_84 : decode cX7_film 84 = .ok (.iload 7, 2) := by decide +kernel
theorem dX7_film_86 : decode cX7_film 86 = .ok (.iadd, 1) := by decide +kernel
theorem dX7_film_87 : decode cX7_film 87 = .ok (.aload_n 0, 1) := by decide +kernel
theorem dX7_film_88 : decode cX7_film 88 = .ok (.getfield 7, 3) := by decide +kernel
theorem dX7_film_91 : decode cX7_film 91 = .ok (.bipush 7, 2) := by decide +kernel
theorem dX7_film_93 : decode cX7_film 93 = .ok (.iload_n 1, 1) := by decide +kernel
theorem dX7_film_94 : decode cX7_film 94 = .ok (.iadd, 1) := by decide +kernel
theorem dX7_film_95 : decode cX7_film 95 = .ok (.iaload, 1) := by decide +kernel
theorem dX7_film_96 : decode cX7_film 96 = .ok (.i2l, 1) := by decide +kernel
theorem dX7_film_97 : decode cX7_film 97 = .ok (.lastore, 1) := by decide +kernel
theorem dX7_film_98 : decode cX7_film 98 = .ok (.iinc 7 1, 3) := by decide +kernel
theorem dX7_film_101 : decode cX7_film 101 = .ok (.goto (-38), 3) := by decide +kernel
theorem dX7_film_104 : decode cX7_film 104 = .ok (.aload_n 0, 1) := by decide +kernel
theorem dX7_film_105 : decode cX7_film 105 = .ok (.invokevirtual 174, 3) := by decide +kernel
theorem dX7_film_108 : decode cX7_film 108 = .ok (.iload_n 2, 1) := by decide +kernel
theorem dX7_film_109 : decode cX7_film 109 = .ok (.ireturn, 1) := by decide +kernel
theorem dX7_sheet_0 : decode cX7_sheet 0 = .ok (.iload_n 1, 1) := by decide +kernel
theorem dX7_sheet_1 : decode cX7_sheet 1 = .ok (.invokestatic 209, 3) := by decide +kernel
theorem dX7_sheet_4 : decode cX7_sheet 4 = .ok (.ifCond .eq 16, 3) := by decide +kernel
theorem dX7_sheet_7 : decode cX7_sheet 7 = .ok (.iload_n 2, 1) := by decide +kernel
theorem dX7_sheet_8 : decode cX7_sheet 8 = .ok (.invokestatic 212, 3) := by decide +kernel
theorem dX7_sheet_11 : decode cX7_sheet 11 = .ok (.ifCond .eq 9, 3) := by decide +kernel
theorem dX7_sheet_14 : decode cX7_sheet 14 = .ok (.iload_n 3, 1) := by decide +kernel
theorem dX7_sheet_15 : decode cX7_sheet 15 = .ok (.bipush 24, 2) := by decide +kernel
theorem dX7_sheet_17 : decode cX7_sheet 17 = .ok (.if_icmp .le 5, 3) := by decide +kernel
theorem dX7_sheet_20 : decode cX7_sheet 20 = .ok (.iconst (-1), 1) := by decide +kernel
theorem dX7_sheet_21 : decode cX7_sheet 21 = .ok (.ireturn, 1) := by decide +kernel
theorem dX7_sheet_22 : decode cX7_sheet 22 = .ok (.iload_n 3, 1) := by decide +kernel
theorem dX7_sheet_23 : decode cX7_sheet 23 = .ok (.ifCond .ge 6, 3) := by decide +kernel
theorem dX7_sheet_26 : decode cX7_sheet 26 = .ok (.bipush (-14), 2) := by decide +kernel
theorem dX7_sheet_28 : decode cX7_sheet 28 = .ok (.ireturn, 1) := by decide +kernel
theorem dX7_sheet_29 : decode cX7_sheet 29 = .ok (.aload_n 0, 1) := by decide +kernel
theorem dX7_sheet_30 : decode cX7_sheet 30 = .ok (.getfield 31, 3) := by decide +kernel
theorem dX7_sheet_33 : decode cX7_sheet 33 = .ok (.iload_n 1, 1) := by decide +kernel
theorem dX7_sheet_34 : decode cX7_sheet 34 = .ok (.iload_n 2, 1) := by decide +kernel
theorem dX7_sheet_35 : decode cX7_sheet 35 = .ok (.iastore, 1) := by decide +kernel
theorem dX7_sheet_36 : decode cX7_sheet 36 = .ok (.aload_n 0, 1) := by decide +kernel
theorem dX7_sheet_37 : decode cX7_sheet 37 = .ok (.getfield 34, 3) := by decide +kernel
theorem dX7_sheet_40 : decode cX7_sheet 40 = .ok (.iload_n 1, 1) := by decide +kernel
theorem dX7_sheet_41 : decode cX7_sheet 41 = .ok (.iload_n 3, 1) := by decide +kernel
theorem dX7_sheet_42 : decode cX7_sheet 42 = .ok (.iastore, 1) := by decide +kernel
theorem dX7_sheet_43 : decode cX7_sheet 43 = .ok (.iconst 0, 1) := by decide +kernel
theorem dX7_sheet_44 : decode cX7_sheet 44 = .ok (.istore 4, 2) := by decide +kernel
theorem dX7_sheet_46 : decode cX7_sheet 46 = .ok (.iload 4, 2) := by decide +kernel
theorem dX7_sheet_48 : decode cX7_sheet 48 = .ok (.bipush 24, 2) := by decide +kernel
theorem dX7_sheet_50 : decode cX7_sheet 50 = .ok (.if_icmp .ge 22, 3) := by decide +kernel
theorem dX7_sheet_53 : decode cX7_sheet 53 = .ok (.aload_n 0, 1) := by decide +kernel
theorem dX7_sheet_54 : decode cX7_sheet 54 = .ok (.getfield 37, 3) := by decide +kernel
theorem dX7_sheet_57 : decode cX7_sheet 57 = .ok (.bipush 24, 2) := by decide +kernel
theorem dX7_sheet_59 : decode cX7_sheet 59 = .ok (.iload_n 1, 1) := by decide +kernel
theorem dX7_sheet_60 : decode cX7_sheet 60 = .ok (.imul, 1) := by decide +kernel
theorem dX7_sheet_61 : decode cX7_sheet 61 = .ok (.iload 4, 2) := by decide +kernel
theorem dX7_sheet_63 : decode cX7_sheet 63 = .ok (.iadd, 1) := by decide +kernel
theorem dX7_sheet_64 : decode cX7_sheet 64 = .ok (.lconst 0, 1) := by decide +kernel
theorem dX7_sheet_65 : decode cX7_sheet 65 = .ok (.lastore, 1) := by decide +kernel
theorem dX7_sheet_66 : decode cX7_sheet 66 = .ok (.iinc 4 1, 3) := by decide +kernel
theorem dX7_sheet_69 : decode cX7_sheet 69 = .ok (.goto (-23), 3) := by decide +kernel
theorem dX7_sheet_72 : decode cX7_sheet 72 = .ok (.iload_n 3, 1) := by decide +kernel
theorem dX7_sheet_73 : decode cX7_sheet 73 = .ok (.ireturn, 1) := by decide +kernel
theorem dX7_drop_0 : decode cX7_drop 0 = .ok (.iload_n 1, 1) := by decide +kernel
theorem dX7_drop_1 : decode cX7_drop 1 = .ok (.invokestatic 209, 3) := by decide +kernel
theorem dX7_drop_4 : decode cX7_drop 4 = .ok (.ifCond .ne 5, 3) := by decide +kernel
theorem dX7_drop_7 : decode cX7_drop 7 = .ok (.iconst (-1), 1) := by decide +kernel
theorem dX7_drop_8 : decode cX7_drop 8 = .ok (.ireturn, 1) := by decide +kernel
theorem dX7_drop_9 : decode cX7_drop 9 = .ok (.aload_n 0, 1) := by decide +kernel
theorem dX7_drop_10 : decode cX7_drop 10 = .ok (.getfield 31, 3) := by decide +kernel
theorem dX7_drop_13 : decode cX7_drop 13 = .ok (.iload_n 1, 1) := by decide +kernel
theorem dX7_drop_14 : decode cX7_drop 14 = .ok (.iaload, 1) := by decide +kernel
theorem dX7_drop_15 : decode cX7_drop 15 = .ok (.ifCond .ge 6, 3) := by decide +kernel
theorem dX7_drop_18 : decode cX7_drop 18 = .ok (.bipush (-11), 2) := by decide +kernel
theorem dX7_drop_20 : decode cX7_drop 20 = .ok (.ireturn, 1) := by decide +kernel
theorem dX7_drop_21 : decode cX7_drop 21 = .ok (.aload_n 0, 1) := by decide +kernel
theorem dX7_drop_22 : decode cX7_drop 22 = .ok (.getfield 31, 3) := by decide +kernel
theorem dX7_drop_25 : decode cX7_drop 25 = .ok (.iload_n 1, 1) := by decide +kernel
theorem dX7_drop_26 : decode cX7_drop 26 = .ok (.iconst (-1), 1) := by decide +kernel
theorem dX7_drop_27 : decode cX7_drop 27 = .ok (.iastore, 1) := by decide +kernel
theorem dX7_drop_28 : decode cX7_drop 28 = .ok (.aload_n 0, 1) := by decide +kernel
theorem dX7_drop_29 : decode cX7_drop 29 = .ok (.getfield 34, 3) := by decide +kernel
theorem dX7_drop_32 : decode cX7_drop 32 = .ok (.iload_n 1, 1) := by decide +kernel
theorem dX7_drop_33 : decode cX7_drop 33 = .ok (.iaload, 1) := by decide +kernel
theorem dX7_drop_34 : decode cX7_drop 34 = .ok (.ireturn, 1) := by decide +kernel
theorem dX7_item_0 : decode cX7_item 0 = .ok (.iload_n 1, 1) := by decide +kernel
theorem dX7_item_1 : decode cX7_item 1 = .ok (.invokestatic 209, 3) := by decide +kernel
theorem dX7_item_4 : decode cX7_item 4 = .ok (.ifCond .eq 10, 3) := by decide +kernel
theorem dX7_item_7 : decode cX7_item 7 = .ok (.iload_n 2, 1) := by decide +kernel
theorem dX7_item_8 : decode cX7_item 8 = .ok (.invokestatic 212, 3) := by decide +kernel
theorem dX7_item_11 : decode cX7_item 11 = .ok (.ifCond .ne 5, 3) := by decide +kernel
theorem dX7_item_14 : decode cX7_item 14 = .ok (.iconst (-1), 1) := by decide +kernel
theorem dX7_item_15 : decode cX7_item 15 = .ok (.ireturn, 1) := by decide +kernel
theorem dX7_item_16 : decode cX7_item 16 = .ok (.aload_n 0, 1) := by decide +kernel
theorem dX7_item_17 : decode cX7_item 17 = .ok (.iload_n 1, 1) := by decide +kernel
theorem dX7_item_18 : decode cX7_item 18 = .ok (.iload_n 2, 1) := by decide +kernel
theorem dX7_item_19 : decode cX7_item 19 = .ok (.iload_n 3, 1) := by decide +kernel
theorem dX7_item_20 : decode cX7_item 20 = .ok (.iconst 1, 1) := by decide +kernel
theorem dX7_item_21 : decode cX7_item 21 = .ok (.invokevirtual 217, 3) := by decide +kernel
theorem dX7_item_24 : decode cX7_item 24 = .ok (.istore 6, 2) := by decide +kernel
theorem dX7_item_26 : decode cX7_item 26 = .ok (.iload 6, 2) := by decide +kernel
theorem dX7_item_28 : decode cX7_item 28 = .ok (.ifCond .ge 6, 3) := by decide +kernel
theorem dX7_item_31 : decode cX7_item 31 = .ok (.iload 6, 2) := by decide +kernel
theorem dX7_item_33 : decode cX7_item 33 = .ok (.ireturn, 1) := by decide +kernel
theorem dX7_item_34 : decode cX7_item 34 = .ok (.aload_n 0, 1) := by decide +kernel
theorem dX7_item_35 : decode cX7_item 35 = .ok (.getfield 37, 3) := by decide +kernel
theorem dX7_item_38 : decode cX7_item 38 = .ok (.bipush 24, 2) := by decide +kernel
theorem dX7_item_40 : decode cX7_item 40 = .ok (.iload_n 1, 1) := by decide +kernel
theorem dX7_item_41 : decode cX7_item 41 = .ok (.imul, 1) := by decide +kernel
theorem dX7_item_42 : decode cX7_item 42 = .ok (.iload_n 3, 1) := by decide +kernel
theorem dX7_item_43 : decode cX7_item 43 = .ok (.iadd, 1) := by decide +kernel
theorem dX7_item_44 : decode cX7_item 44 = .ok (.iload_n 2, 1) := by decide +kernel
theorem dX7_item_45 : decode cX7_item 45 = .ok (.ifCond .ne 11, 3) := by decide +kernel
theorem dX7_item_48 : decode cX7_item 48 = .ok (.lload 4, 2) := by decide +kernel
theorem dX7_item_50 : decode cX7_item 50 = .ok (.l2i, 1) := by decide +kernel
theorem dX7_item_51 : decode cX7_item 51 = .ok (.i2b, 1) := by decide +kernel
theorem dX7_item_52 : decode cX7_item 52 = .ok (.i2l, 1) := by decide +kernel
theorem dX7_item_53 : decode cX7_item 53 = .ok (.goto 30, 3) := by decide +kernel
theorem dX7_item_56 : decode cX7_item 56 = .ok (.iload_n 2, 1) := by decide +kernel
theorem dX7_item_57 : decode cX7_item 57 = .ok (.iconst 1, 1) := by decide +kernel
theorem dX7_item_58 : decode cX7_item 58 = .ok (.if_icmp .ne 11, 3) := by decide +kernel
theorem dX7_item_61 : decode cX7_item 61 = .ok (.lload 4, 2) := by decide +kernel
theorem dX7_item_63 : decode cX7_item 63 = .ok (.l2i, 1) := by decide +kernel
theorem dX7_item_64 : decode cX7_item 64 = .ok (.i2s, 1) := by decide +kernel
theorem dX7_item_65 : decode cX7_item 65 = .ok (.i2l, 1) := by decide +kernel
theorem dX7_item_66 : decode cX7_item 66 = .ok (.goto 17, 3) := by decide +kernel
theorem dX7_item_69 : decode cX7_item 69 = .ok (.iload_n 2, 1) := by decide +kernel
theorem dX7_item_70 : decode cX7_item 70 = .ok (.iconst 2, 1) := by decide +kernel
theorem dX7_item_71 : decode cX7_item 71 = .ok (.if_icmp .ne 10, 3) := by decide +kernel
theorem dX7_item_74 : decode cX7_item 74 = .ok (.lload 4, 2) := by decide +kernel
theorem dX7_item_76 : decode cX7_item 76 = .ok (.l2i, 1) := by decide +kernel
theorem dX7_item_77 : decode cX7_item 77 = .ok (.i2l, 1) := by decide +kernel
theorem dX7_item_78 : decode cX7_item 78 = .ok (.goto 5, 3) := by decide +kernel
theorem dX7_item_81 : decode cX7_item 81 = .ok (.lload 4, 2) := by decide +kernel
theorem dX7_item_83 : decode cX7_item 83 = .ok (.lastore, 1) := by decide +kernel
theorem dX7_item_84 : decode cX7_item 84 = .ok (.iconst 1, 1) := by decide +kernel
theorem dX7_item_85 : decode cX7_item 85 = .ok (.ireturn, 1) := by decide +kernel
theorem dX7_copy_0 : decode cX7_copy 0 = .ok (.iload_n 1, 1) := by decide +kernel
theorem dX7_copy_1 : decode cX7_copy 1 = .ok (.invokestatic 209, 3) := by decide +kernel
theorem dX7_copy_4 : decode cX7_copy 4 = .ok (.ifCond .eq 10, 3) := by decide +kernel
theorem dX7_copy_7 : decode cX7_copy 7 = .ok (.iload_n 3, 1) := by decide +kernel
theorem dX7_copy_8 : decode cX7_copy 8 = .ok (.invokestatic 209, 3) := by decide +kernel
theorem dX7_copy_11 : decode cX7_copy 11 = .ok (.ifCond .ne 5, 3) := by decide +kernel
theorem dX7_copy_14 : decode cX7_copy 14 = .ok (.iconst (-1), 1) := by decide +kernel
theorem dX7_copy_15 : decode cX7_copy 15 = .ok (.ireturn, 1) := by decide +kernel
theorem dX7_copy_16 : decode cX7_copy 16 = .ok (.aload_n 0, 1) := by decide +kernel
theorem dX7_copy_17 : decode cX7_copy 17 = .ok (.getfield 31, 3) := by decide +kernel
theorem dX7_copy_20 : decode cX7_copy 20 = .ok (.iload_n 1, 1) := by decide +kernel
theorem dX7_copy_21 : decode cX7_copy 21 = .ok (.iaload, 1) := by decide +kernel
theorem dX7_copy_22 : decode cX7_copy 22 = .ok (.ifCond .lt 12, 3) := by decide +kernel
theorem dX7_copy_25 : decode cX7_copy 25 = .ok (.aload_n 0, 1) := by decide +kernel
theorem dX7_copy_26 : decode cX7_copy 26 = .ok (.getfield 31, 3) := by decide +kernel
theorem dX7_copy_29 : decode cX7_copy 29 = .ok (.iload_n 3, 1) := by decide +kernel
theorem dX7_copy_30 : decode cX7_copy 30 = .ok (.iaload, 1) := by decide +kernel
theorem dX7_copy_31 : decode cX7_copy 31 = .ok (.ifCond .ge 6, 3) := by decide +kernel
theorem dX7_copy_34 : decode cX7_copy 34 = .ok (.bipush (-11), 2) := by decide +kernel
theorem dX7_copy_36 : decode cX7_copy 36 = .ok (.ireturn, 1) := by decide +kernel
theorem dX7_copy_37 : decode cX7_copy 37 = .ok (.aload_n 0, 1) := by decide +kernel
theorem dX7_copy_38 : decode cX7_copy 38 = .ok (.iload_n 3, 1) := by decide +kernel
theorem dX7_copy_39 : decode cX7_copy 39 = .ok (.aload_n 0, 1) := by decide +kernel
theorem dX7_copy_40 : decode cX7_copy 40 = .ok (.getfield 31, 3) := by decide +kernel
theorem dX7_copy_43 : decode cX7_copy 43 = .ok (.iload_n 1, 1) := by decide +kernel
theorem dX7_copy_44 : decode cX7_copy 44 = .ok (.iaload, 1) := by decide +kernel
theorem dX7_copy_45 : decode cX7_copy 45 = .ok (.iload 4, 2) := by decide +kernel
theorem dX7_copy_47 : decode cX7_copy 47 = .ok (.iload 5, 2) := by decide +kernel
theorem dX7_copy_49 : decode cX7_copy 49 = .ok (.invokevirtual 217, 3) := by decide +kernel
theorem dX7_copy_52 : decode cX7_copy 52 = .ok (.istore 6, 2) := by decide +kernel
theorem dX7_copy_54 : decode cX7_copy 54 = .ok (.iload 6, 2) := by decide +kernel
theorem dX7_copy_56 : decode cX7_copy 56 = .ok (.ifCond .ne 20, 3) := by decide +kernel
theorem dX7_copy_59 : decode cX7_copy 59 = .ok (.aload_n 0, 1) := by decide +kernel
theorem dX7_copy_60 : decode cX7_copy 60 = .ok (.iload_n 1, 1) := by decide +kernel
theorem dX7_copy_61 : decode cX7_copy 61 = .ok (.aload_n 0, 1) := by decide +kernel
theorem dX7_copy_62 : decode cX7_copy 62 = .ok (.getfield 31, 3) := by decide +kernel
theorem dX7_copy_65 : decode cX7_copy 65 = .ok (.iload_n 1, 1) := by decide +kernel
theorem dX7_copy_66 : decode cX7_copy 66 = .ok (.iaload, 1) := by decide +kernel
theorem dX7_copy_67 : decode cX7_copy 67 = .ok (.iload_n 2, 1) := by decide +kernel
theorem dX7_copy_68 : decode cX7_copy 68 = .ok (.iload 5, 2) := by decide +kernel
theorem dX7_copy_70 : decode cX7_copy 70 = .ok (.invokevirtual 217, 3) := by decide +kernel
theorem dX7_copy_73 : decode cX7_copy 73 = .ok (.goto 5, 3) := by decide +kernel
theorem dX7_copy_76 : decode cX7_copy 76 = .ok (.iload 6, 2) := by decide +kernel
theorem dX7_copy_78 : decode cX7_copy 78 = .ok (.istore 6, 2) := by decide +kernel
theorem dX7_copy_80 : decode cX7_copy 80 = .ok (.iload 6, 2) := by decide +kernel
theorem dX7_copy_82 : decode cX7_copy 82 = .ok (.ifCond .ge 6, 3) := by decide +kernel
theorem dX7_copy_85 : decode cX7_copy 85 = .ok (.iload 6, 2) := by decide +kernel
theorem dX7_copy_87 : decode cX7_copy 87 = .ok (.ireturn, 1) := by decide +kernel
theorem dX7_copy_88 : decode cX7_copy 88 = .ok (.iconst 0, 1) := by decide +kernel
theorem dX7_copy_89 : decode cX7_copy 89 = .ok (.istore 7, 2) := by decide +kernel
theorem dX7_copy_91 : decode cX7_copy 91 = .ok (.iload 7, 2) := by decide +kernel
theorem dX7_copy_93 : decode cX7_copy 93 = .ok (.iload 5, 2) := by decide +kernel
theorem dX7_copy_95 : decode cX7_copy 95 = .ok (.if_icmp .ge 30, 3) := by decide +kernel
theorem dX7_copy_98 : decode cX7_copy 98 = .ok (.aload_n 0, 1) := by decide +kernel
theorem dX7_copy_99 : decode cX7_copy 99 = .ok (.getfield 41, 3) := by decide +kernel
theorem dX7_copy_102 : decode cX7_copy 102 = .ok (.iload 7, 2) := by decide +kernel
theorem dX7_copy_104 : decode cX7_copy 104 = .ok (.aload_n 0, 1) := by decide +kernel
theorem dX7_copy_105 : decode cX7_copy 105 = .ok (.getfield 37, 3) := by decide +kernel
theorem dX7_copy_108 : decode cX7_copy 108 = .ok (.bipush 24, 2) := by decide +kernel
theorem dX7_copy_110 : decode cX7_copy 110 = .ok (.iload_n 1, 1) := by decide +kernel
theorem dX7_copy_111 : decode cX7_copy 111 = .ok (.imul, 1) := by decide +kernel
theorem dX7_copy_112 : decode cX7_copy 112 = .ok (.iload_n 2, 1) := by decide +kernel
theorem dX7_copy_113 : decode cX7_copy 113 = .ok (.iadd, 1) := by decide +kernel
theorem dX7_copy_114 : decode cX7_copy 114 = .ok (.iload 7, 2) := by decide +kernel
theorem dX7_copy_116 : decode cX7_copy 116 = .ok (.iadd, 1) := by decide +kernel
theorem dX7_copy_117 : decode cX7_copy 117 = .ok (.laload, 1) := by decide +kernel
theorem dX7_copy_118 : decode cX7_copy 118 = .ok (.lastore, 1) := by decide +kernel
theorem dX7_copy_119 : decode cX7_copy 119 = .ok (.iinc 7 1, 3) := by decide +kernel
theorem dX7_copy_122 : decode cX7_copy 122 = .ok (.goto (-31), 3) := by decide +kernel
theorem dX7_copy_125 : decode cX7_copy 125 = .ok (.iconst 0, 1) := by decide +kernel
theorem dX7_copy_126 : decode cX7_copy 126 = .ok (.istore 7, 2) := by decide +kernel
theorem dX7_copy_128 : decode cX7_copy 128 = .ok (.iload 7, 2) := by decide +kernel
theorem dX7_copy_130 : decode cX7_copy 130 = .ok (.iload 5, 2) := by decide +kernel
theorem dX7_copy_132 : decode cX7_copy 132 = .ok (.if_icmp .ge 31, 3) := by decide +kernel
theorem dX7_copy_135 : decode cX7_copy 135 = .ok (.aload_n 0, 1) := by decide +kernel
theorem dX7_copy_136 : decode cX7_copy 136 = .ok (.getfield 37, 3) := by decide +kernel
theorem dX7_copy_139 : decode cX7_copy 139 = .ok (.bipush 24, 2) := by decide +kernel
theorem dX7_copy_141 : decode cX7_copy 141 = .ok (.iload_n 3, 1) := by decide +kernel
theorem dX7_copy_142 : decode cX7_copy 142 = .ok (.imul, 1) := by decide +kernel
theorem dX7_copy_143 : decode cX7_copy 143 = .ok (.iload 4, 2) := by decide +kernel
theorem dX7_copy_145 : decode cX7_copy 145 = .ok (.iadd, 1) := by decide +kernel
theorem dX7_copy_146 : decode cX7_copy 146 = .ok (.iload 7, 2) := by decide +kernel
theorem dX7_copy_148 : decode cX7_copy 148 = .ok (.iadd, 1) := by decide +kernel
theorem dX7_copy_149 : decode cX7_copy 149 = .ok (.aload_n 0, 1) := by decide +kernel
theorem dX7_copy_150 : decode cX7_copy 150 = .ok (.getfield 41, 3) := by decide +kernel
theorem dX7_copy_153 : decode cX7_copy 153 = .ok (.iload 7, 2) := by decide +kernel
theorem dX7_copy_155 : decode cX7_copy 155 = .ok (.laload, 1) := by decide +kernel
theorem dX7_copy_156 : decode cX7_copy 156 = .ok (.lastore, 1) := by decide +kernel
theorem dX7_copy_157 : decode cX7_copy 157 = .ok (.iinc 7 1, 3) := by decide +kernel
theorem dX7_copy_160 : decode cX7_copy 160 = .ok (.goto (-32), 3) := by decide +kernel
theorem dX7_copy_163 : decode cX7_copy 163 = .ok (.iload 5, 2) := by decide +kernel
theorem dX7_copy_165 : decode cX7_copy 165 = .ok (.ireturn, 1) := by decide +kernel

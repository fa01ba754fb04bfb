theorem dX6_init_0 : decode cX6_init 0 = .ok (.aload_n 0, 1) := by decide +kernel
theorem dX6_init_1 : decode cX6_init 1 = .ok (.invokespecial 1, 3) := by decide +kernel
theorem dX6_init_4 : decode cX6_init 4 = .ok (.aload_n 0, 1) := by decide +kernel
theorem dX6_init_5 : decode cX6_init 5 = .ok (.new 7, 3) := by decide +kernel
theorem dX6_init_8 : decode cX6_init 8 = .ok (.dup, 1) := by decide +kernel
theorem dX6_init_9 : decode cX6_init 9 = .ok (.invokespecial 9, 3) := by decide +kernel
theorem dX6_init_12 : decode cX6_init 12 = .ok (.putfield 10, 3) := by decide +kernel
theorem dX6_init_15 : decode cX6_init 15 = .ok (.aload_n 0, 1) := by decide +kernel
theorem dX6_init_16 : decode cX6_init 16 = .ok (.new 7, 3) := by decide +kernel
theorem dX6_init_19 : decode cX6_init 19 = .ok (.dup, 1) := by decide +kernel
theorem dX6_init_20 : decode cX6_init 20 = .ok (.invokespecial 9, 3) := by decide +kernel
theorem dX6_init_23 : decode cX6_init 23 = .ok (.putfield 16, 3) := by decide +kernel
theorem dX6_init_26 : decode cX6_init 26 = .ok (.aload_n 0, 1) := by decide +kernel
theorem dX6_init_27 : decode cX6_init 27 = .ok (.iconst 0, 1) := by decide +kernel
theorem dX6_init_28 : decode cX6_init 28 = .ok (.putfield 19, 3) := by decide +kernel
theorem dX6_init_31 : decode cX6_init 31 = .ok (.aload_n 0, 1) := by decide +kernel
theorem dX6_init_32 : decode cX6_init 32 = .ok (.new 23, 3) := by decide +kernel
theorem dX6_init_35 : decode cX6_init 35 = .ok (.dup, 1) := by decide +kernel
theorem dX6_init_36 : decode cX6_init 36 = .ok (.invokespecial 25, 3) := by decide +kernel
theorem dX6_init_39 : decode cX6_init 39 = .ok (.putfield 26, 3) := by decide +kernel
theorem dX6_init_42 : decode cX6_init 42 = .ok (.aload_n 0, 1) := by decide +kernel
theorem dX6_init_43 : decode cX6_init 43 = .ok (.iconst 4, 1) := by decide +kernel
theorem dX6_init_44 : decode cX6_init 44 = .ok (.anewarray 30, 3) := by decide +kernel
theorem dX6_init_47 : decode cX6_init 47 = .ok (.putfield 32, 3) := by decide +kernel
theorem dX6_init_50 : decode cX6_init 50 = .ok (.iconst 0, 1) := by decide +kernel
theorem dX6_init_51 : decode cX6_init 51 = .ok (.istore_n 1, 1) := by decide +kernel
theorem dX6_init_52 : decode cX6_init 52 = .ok (.iload_n 1, 1) := by decide +kernel
theorem dX6_init_53 : decode cX6_init 53 = .ok (.iconst 4, 1) := by decide +kernel
theorem dX6_init_54 : decode cX6_init 54 = .ok (.if_icmp .ge 22, 3) := by decide +kernel
theorem dX6_init_57 : decode cX6_init 57 = .ok (.aload_n 0, 1) := by decide +kernel
theorem dX6_init_58 : decode cX6_init 58 = .ok (.getfield 32, 3) := by decide +kernel
theorem dX6_init_61 : decode cX6_init 61 = .ok (.iload_n 1, 1) := by decide +kernel
theorem dX6_init_62 : decode cX6_init 62 = .ok (.new 30, 3) := by decide +kernel
theorem dX6_init_65 : decode cX6_init 65 = .ok (.dup, 1) := by decide +kernel
theorem dX6_init_66 : decode cX6_init 66 = .ok (.invokespecial 36, 3) := by decide +kernel
theorem dX6_init_69 : decode cX6_init 69 = .ok (.aastore, 1) := by decide +kernel
theorem dX6_init_70 : decode cX6_init 70 = .ok (.iinc 1 1, 3) := by decide +kernel
theorem dX6_init_73 : decode cX6_init 73 = .ok (.goto (-21), 3) := by decide +kernel
theorem dX6_init_76 : decode cX6_init 76 = .ok (.aload_n 0, 1) := by decide +kernel
theorem dX6_init_77 : decode cX6_init 77 = .ok (.new 37, 3) := by decide +kernel
theorem dX6_init_80 : decode cX6_init 80 = .ok (.dup, 1) := by decide +kernel
theorem dX6_init_81 : decode cX6_init 81 = .ok (.invokespecial 39, 3) := by decide +kernel
theorem dX6_init_84 : decode cX6_init 84 = .ok (.putfield 40, 3) := by decide +kernel
theorem dX6_init_87 : decode cX6_init 87 = .ok (.aload_n 0, 1) := by decide +kernel
theorem dX6_init_88 : decode cX6_init 88 = .ok (.new 44, 3) := by decide +kernel
theorem dX6_init_91 : decode cX6_init 91 = .ok (.dup, 1) := by decide +kernel
theorem dX6_init_92 : decode cX6_init 92 = .ok (.invokespecial 46, 3) := by decide +kernel
theorem dX6_init_95 : decode cX6_init 95 = .ok (.putfield 47, 3) := by decide +kernel
theorem dX6_init_98 : decode cX6_init 98 = .ok (.aload_n 0, 1) := by decide +kernel
theorem dX6_init_99 : decode cX6_init 99 = .ok (.new 51, 3) := by decide +kernel
theorem dX6_init_102 : decode cX6_init 102 = .ok (.dup, 1) := by decide +kernel
theorem dX6_init_103 : decode cX6_init 103 = .ok (.invokespecial 53, 3) := by decide +kernel
theorem dX6_init_106 : decode cX6_init 106 = .ok (.putfield 54, 3) := by decide +kernel
theorem dX6_init_109 : decode cX6_init 109 = .ok (.return_, 1) := by decide +kernel
theorem dX6_traveller_0 : decode cX6_traveller 0 = .ok (.iload_n 1, 1) := by decide +kernel
theorem dX6_traveller_1 : decode cX6_traveller 1 = .ok (.iconst 5, 1) := by decide +kernel
theorem dX6_traveller_2 : decode cX6_traveller 2 = .ok (.invokestatic 58, 3) := by decide +kernel
theorem dX6_traveller_5 : decode cX6_traveller 5 = .ok (.ifCond .eq 22, 3) := by decide +kernel
theorem dX6_traveller_8 : decode cX6_traveller 8 = .ok (.iload_n 2, 1) := by decide +kernel
theorem dX6_traveller_9 : decode cX6_traveller 9 = .ok (.bipush 64, 2) := by decide +kernel
theorem dX6_traveller_11 : decode cX6_traveller 11 = .ok (.invokestatic 58, 3) := by decide +kernel
theorem dX6_traveller_14 : decode cX6_traveller 14 = .ok (.ifCond .eq 13, 3) := by decide +kernel
theorem dX6_traveller_17 : decode cX6_traveller 17 = .ok (.iload_n 3, 1) := by decide +kernel
theorem dX6_traveller_18 : decode cX6_traveller 18 = .ok (.iconst 1, 1) := by decide +kernel
theorem dX6_traveller_19 : decode cX6_traveller 19 = .ok (.bipush 9, 2) := by decide +kernel
theorem dX6_traveller_21 : decode cX6_traveller 21 = .ok (.invokestatic 62, 3) := by decide +kernel
theorem dX6_traveller_24 : decode cX6_traveller 24 = .ok (.ifCond .ne 5, 3) := by decide +kernel
theorem dX6_traveller_27 : decode cX6_traveller 27 = .ok (.iconst (-1), 1) := by decide +kernel
theorem dX6_traveller_28 : decode cX6_traveller 28 = .ok (.ireturn, 1) := by decide +kernel
theorem dX6_traveller_29 : decode cX6_traveller 29 = .ok (.aload_n 0, 1) := by decide +kernel
theorem dX6_traveller_30 : decode cX6_traveller 30 = .ok (.getfield 10, 3) := by decide +kernel
theorem dX6_traveller_33 : decode cX6_traveller 33 = .ok (.getfield 66, 3) := by decide +kernel
theorem dX6_traveller_36 : decode cX6_traveller 36 = .ok (.invokevirtual 69, 3) := by decide +kernel
theorem dX6_traveller_39 : decode cX6_traveller 39 = .ok (.ifCond .ne 6, 3) := by decide +kernel
theorem dX6_traveller_42 : decode cX6_traveller 42 = .ok (.bipush (-3), 2) := by decide +kernel
theorem dX6_traveller_44 : decode cX6_traveller 44 = .ok (.ireturn, 1) := by decide +kernel
theorem dX6_traveller_45 : decode cX6_traveller 45 = .ok (.aload_n 0, 1) := by decide +kernel
theorem dX6_traveller_46 : decode cX6_traveller 46 = .ok (.getfield 10, 3) := by decide +kernel
theorem dX6_traveller_49 : decode cX6_traveller 49 = .ok (.getfield 66, 3) := by decide +kernel
theorem dX6_traveller_52 : decode cX6_traveller 52 = .ok (.iload_n 1, 1) := by decide +kernel
theorem dX6_traveller_53 : decode cX6_traveller 53 = .ok (.iload_n 2, 1) := by decide +kernel
theorem dX6_traveller_54 : decode cX6_traveller 54 = .ok (.iload_n 3, 1) := by decide +kernel
theorem dX6_traveller_55 : decode cX6_traveller 55 = .ok (.invokevirtual 73, 3) := by decide +kernel
theorem dX6_traveller_58 : decode cX6_traveller 58 = .ok (.aload_n 0, 1) := by decide +kernel
theorem dX6_traveller_59 : decode cX6_traveller 59 = .ok (.getfield 10, 3) := by decide +kernel
theorem dX6_traveller_62 : decode cX6_traveller 62 = .ok (.invokevirtual 77, 3) := by decide +kernel
theorem dX6_traveller_65 : decode cX6_traveller 65 = .ok (.aload_n 0, 1) := by decide +kernel
theorem dX6_traveller_66 : decode cX6_traveller 66 = .ok (.getfield 10, 3) := by decide +kernel
theorem dX6_traveller_69 : decode cX6_traveller 69 = .ok (.getfield 66, 3) := by decide +kernel
theorem dX6_traveller_72 : decode cX6_traveller 72 = .ok (.getfield 80, 3) := by decide +kernel
theorem dX6_traveller_75 : decode cX6_traveller 75 = .ok (.iconst 1, 1) := by decide +kernel
theorem dX6_traveller_76 : decode cX6_traveller 76 = .ok (.isub, 1) := by decide +kernel
theorem dX6_traveller_77 : decode cX6_traveller 77 = .ok (.ireturn, 1) := by decide +kernel
theorem dX6_of_0 : decode cX6_of 0 = .ok (.aload_n 0, 1) := by decide +kernel
theorem dX6_of_1 : decode cX6_of 1 = .ok (.iload_n 1, 1) := by decide +kernel
theorem dX6_of_2 : decode cX6_of 2 = .ok (.invokevirtual 84, 3) := by decide +kernel
theorem dX6_of_5 : decode cX6_of 5 = .ok (.ifCond .ne 5, 3) := by decide +kernel
theorem dX6_of_8 : decode cX6_of 8 = .ok (.iconst (-1), 1) := by decide +kernel
theorem dX6_of_9 : decode cX6_of 9 = .ok (.ireturn, 1) := by decide +kernel
theorem dX6_of_10 : decode cX6_of 10 = .ok (.aload_n 0, 1) := by decide +kernel
theorem dX6_of_11 : decode cX6_of 11 = .ok (.getfield 10, 3) := by decide +kernel
theorem dX6_of_14 : decode cX6_of 14 = .ok (.getfield 66, 3) := by decide +kernel
theorem dX6_of_17 : decode cX6_of 17 = .ok (.astore_n 3, 1) := by decide +kernel
theorem dX6_of_18 : decode cX6_of 18 = .ok (.aload_n 0, 1) := by decide +kernel
theorem dX6_of_19 : decode cX6_of 19 = .ok (.getfield 10, 3) := by decide +kernel
theorem dX6_of_22 : decode cX6_of 22 = .ok (.getfield 88, 3) := by decide +kernel
theorem dX6_of_25 : decode cX6_of 25 = .ok (.astore 4, 2) := by decide +kernel
theorem dX6_of_27 : decode cX6_of 27 = .ok (.iload_n 2, 1) := by decide +kernel
theorem dX6_of_28 : decode cX6_of 28 = .ok (.tableswitch 104 0 5 #[40, 47, 54, 61, 75, 89], 40) := by decide +kernel
theorem dX6_of_68 : decode cX6_of 68 = .ok (.aload_n 3, 1) := by decide +kernel
theorem dX6_of_69 : decode cX6_of 69 = .ok (.getfield 91, 3) := by decide +kernel
theorem dX6_of_72 : decode cX6_of 72 = .ok (.iload_n 1, 1) := by decide +kernel
theorem dX6_of_73 : decode cX6_of 73 = .ok (.iaload, 1) := by decide +kernel
theorem dX6_of_74 : decode cX6_of 74 = .ok (.ireturn, 1) := by decide +kernel
theorem dX6_of_75 : decode cX6_of 75 = .ok (.aload_n 3, 1) := by decide +kernel
theorem dX6_of_76 : decode cX6_of 76 = .ok (.getfield 95, 3) := by decide +kernel
theorem dX6_of_79 : decode cX6_of 79 = .ok (.iload_n 1, 1) := by decide +kernel
theorem dX6_of_80 : decode cX6_of 80 = .ok (.iaload, 1) := by decide +kernel
theorem dX6_of_81 : decode cX6_of 81 = .ok (.ireturn, 1) := by decide +kernel
theorem dX6_of_82 : decode cX6_of 82 = .ok (.aload_n 3, 1) := by decide +kernel
theorem dX6_of_83 : decode cX6_of 83 = .ok (.getfield 98, 3) := by decide +kernel
theorem dX6_of_86 : decode cX6_of 86 = .ok (.iload_n 1, 1) := by decide +kernel
theorem dX6_of_87 : decode cX6_of 87 = .ok (.iaload, 1) := by decide +kernel
theorem dX6_of_88 : decode cX6_of 88 = .ok (.ireturn, 1) := by decide +kernel
theorem dX6_of_89 : decode cX6_of 89 = .ok (.aload_n 3, 1) := by decide +kernel
theorem dX6_of_90 : decode cX6_of 90 = .ok (.iload_n 1, 1) := by decide +kernel
theorem dX6_of_91 : decode cX6_of 91 = .ok (.aload 4, 2) := by decide +kernel
theorem dX6_of_93 : decode cX6_of 93 = .ok (.getfield 101, 3) := by decide +kernel
theorem dX6_of_96 : decode cX6_of 96 = .ok (.invokevirtual 104, 3) := by decide +kernel
theorem dX6_of_99 : decode cX6_of 99 = .ok (.invokestatic 107, 3) := by decide +kernel
theorem dX6_of_102 : decode cX6_of 102 = .ok (.ireturn, 1) := by decide +kernel
theorem dX6_of_103 : decode cX6_of 103 = .ok (.aload_n 3, 1) := by decide +kernel
theorem dX6_of_104 : decode cX6_of 104 = .ok (.iload_n 1, 1) := by decide +kernel
theorem dX6_of_105 : decode cX6_of 105 = .ok (.aload 4, 2) := by decide +kernel
theorem dX6_of_107 : decode cX6_of 107 = .ok (.getfield 111, 3) := by decide +kernel
theorem dX6_of_110 : decode cX6_of 110 = .ok (.invokevirtual 114, 3) := by decide +kernel
theorem dX6_of_113 : decode cX6_of 113 = .ok (.invokestatic 107, 3) := by decide +kernel
theorem dX6_of_116 : decode cX6_of 116 = .ok (.ireturn, 1) := by decide +kernel
theorem dX6_of_117 : decode cX6_of 117 = .ok (.aload_n 3, 1) := by decide +kernel
theorem dX6_of_118 : decode cX6_of 118 = .ok (.getfield 91, 3) := by decide +kernel
theorem dX6_of_121 : decode cX6_of 121 = .ok (.iload_n 1, 1) := by decide +kernel
theorem dX6_of_122 : decode cX6_of 122 = .ok (.iaload, 1) := by decide +kernel
theorem dX6_of_123 : decode cX6_of 123 = .ok (.aload 4, 2) := by decide +kernel
theorem dX6_of_125 : decode cX6_of 125 = .ok (.getfield 101, 3) := by decide +kernel
theorem dX6_of_128 : decode cX6_of 128 = .ok (.invokestatic 117, 3) := by decide +kernel
theorem dX6_of_131 : decode cX6_of 131 = .ok (.ireturn, 1) := by decide +kernel
theorem dX6_of_132 : decode cX6_of 132 = .ok (.iconst (-1), 1) := by decide +kernel
theorem dX6_of_133 : decode cX6_of 133 = .ok (.ireturn, 1) := by decide +kernel
theorem dX6_wears_0 : decode cX6_wears 0 = .ok (.aload_n 0, 1) := by decide +kernel
theorem dX6_wears_1 : decode cX6_wears 1 = .ok (.iload_n 1, 1) := by decide +kernel
theorem dX6_wears_2 : decode cX6_wears 2 = .ok (.invokevirtual 84, 3) := by decide +kernel
theorem dX6_wears_5 : decode cX6_wears 5 = .ok (.ifCond .eq 11, 3) := by decide +kernel
theorem dX6_wears_8 : decode cX6_wears 8 = .ok (.iload_n 2, 1) := by decide +kernel
theorem dX6_wears_9 : decode cX6_wears 9 = .ok (.iconst 4, 1) := by decide +kernel
theorem dX6_wears_10 : decode cX6_wears 10 = .ok (.invokestatic 58, 3) := by decide +kernel
theorem dX6_wears_13 : decode cX6_wears 13 = .ok (.ifCond .ne 5, 3) := by decide +kernel
theorem dX6_wears_16 : decode cX6_wears 16 = .ok (.iconst (-1), 1) := by decide +kernel
theorem dX6_wears_17 : decode cX6_wears 17 = .ok (.ireturn, 1) := by decide +kernel
theorem dX6_wears_18 : decode cX6_wears 18 = .ok (.aload_n 0, 1) := by decide +kernel
theorem dX6_wears_19 : decode cX6_wears 19 = .ok (.getfield 10, 3) := by decide +kernel
theorem dX6_wears_22 : decode cX6_wears 22 = .ok (.getfield 66, 3) := by decide +kernel
theorem dX6_wears_25 : decode cX6_wears 25 = .ok (.getfield 91, 3) := by decide +kernel
theorem dX6_wears_28 : decode cX6_wears 28 = .ok (.iload_n 1, 1) := by decide +kernel
theorem dX6_wears_29 : decode cX6_wears 29 = .ok (.iaload, 1) := by decide +kernel
theorem dX6_wears_30 : decode cX6_wears 30 = .ok (.iload_n 2, 1) := by decide +kernel
theorem dX6_wears_31 : decode cX6_wears 31 = .ok (.aload_n 0, 1) := by decide +kernel
theorem dX6_wears_32 : decode cX6_wears 32 = .ok (.getfield 10, 3) := by decide +kernel
theorem dX6_wears_35 : decode cX6_wears 35 = .ok (.getfield 88, 3) := by decide +kernel
theorem dX6_wears_38 : decode cX6_wears 38 = .ok (.getfield 101, 3) := by decide +kernel
theorem dX6_wears_41 : decode cX6_wears 41 = .ok (.invokestatic 121, 3) := by decide +kernel
theorem dX6_wears_44 : decode cX6_wears 44 = .ok (.ireturn, 1) := by decide +kernel
theorem dX6_stones_0 : decode cX6_stones 0 = .ok (.iload_n 1, 1) := by decide +kernel
theorem dX6_stones_1 : decode cX6_stones 1 = .ok (.iconst 4, 1) := by decide +kernel
theorem dX6_stones_2 : decode cX6_stones 2 = .ok (.invokestatic 58, 3) := by decide +kernel
theorem dX6_stones_5 : decode cX6_stones 5 = .ok (.ifCond .eq 18, 3) := by decide +kernel
theorem dX6_stones_8 : decode cX6_stones 8 = .ok (.aload_n 0, 1) := by decide +kernel
theorem dX6_stones_9 : decode cX6_stones 9 = .ok (.getfield 10, 3) := by decide +kernel
theorem dX6_stones_12 : decode cX6_stones 12 = .ok (.getfield 88, 3) := by decide +kernel
theorem dX6_stones_15 : decode cX6_stones 15 = .ok (.getfield 125, 3) := by decide +kernel
theorem dX6_stones_18 : decode cX6_stones 18 = .ok (.iload_n 1, 1) := by decide +kernel
theorem dX6_stones_19 : decode cX6_stones 19 = .ok (.iaload, 1) := by decide +kernel
theorem dX6_stones_20 : decode cX6_stones 20 = .ok (.goto 4, 3) := by decide +kernel
theorem dX6_stones_23 : decode cX6_stones 23 = .ok (.iconst (-1), 1) := by decide +kernel
theorem dX6_stones_24 : decode cX6_stones 24 = .ok (.ireturn, 1) := by decide +kernel
theorem dX6_type_0 : decode cX6_type 0 = .ok (.iload_n 1, 1) := by decide +kernel
theorem dX6_type_1 : decode cX6_type 1 = .ok (.bipush 32, 2) := by decide +kernel
theorem dX6_type_3 : decode cX6_type 3 = .ok (.bipush 126, 2) := by decide +kernel
theorem dX6_type_5 : decode cX6_type 5 = .ok (.invokestatic 62, 3) := by decide +kernel
theorem dX6_type_8 : decode cX6_type 8 = .ok (.ifCond .ne 5, 3) := by decide +kernel
theorem dX6_type_11 : decode cX6_type 11 = .ok (.iconst (-1), 1) := by decide +kernel
theorem dX6_type_12 : decode cX6_type 12 = .ok (.ireturn, 1) := by decide +kernel
theorem dX6_type_13 : decode cX6_type 13 = .ok (.aload_n 0, 1) := by decide +kernel
theorem dX6_type_14 : decode cX6_type 14 = .ok (.getfield 26, 3) := by decide +kernel
theorem dX6_type_17 : decode cX6_type 17 = .ok (.invokevirtual 128, 3) := by decide +kernel
theorem dX6_type_20 : decode cX6_type 20 = .ok (.ifCond .ne 6, 3) := by decide +kernel
theorem dX6_type_23 : decode cX6_type 23 = .ok (.bipush (-3), 2) := by decide +kernel
theorem dX6_type_25 : decode cX6_type 25 = .ok (.ireturn, 1) := by decide +kernel
theorem dX6_type_26 : decode cX6_type 26 = .ok (.aload_n 0, 1) := by decide +kernel
theorem dX6_type_27 : decode cX6_type 27 = .ok (.getfield 26, 3) := by decide +kernel
theorem dX6_type_30 : decode cX6_type 30 = .ok (.iload_n 1, 1) := by decide +kernel
theorem dX6_type_31 : decode cX6_type 31 = .ok (.i2c, 1) := by decide +kernel
theorem dX6_type_32 : decode cX6_type 32 = .ok (.invokevirtual 129, 3) := by decide +kernel
theorem dX6_type_35 : decode cX6_type 35 = .ok (.aload_n 0, 1) := by decide +kernel
theorem dX6_type_36 : decode cX6_type 36 = .ok (.getfield 26, 3) := by decide +kernel
theorem dX6_type_39 : decode cX6_type 39 = .ok (.getfield 133, 3) := by decide +kernel
theorem dX6_type_42 : decode cX6_type 42 = .ok (.ireturn, 1) := by decide +kernel
theorem dX6_bridge_0 : decode cX6_bridge 0 = .ok (.aload_n 0, 1) := by decide +kernel
theorem dX6_bridge_1 : decode cX6_bridge 1 = .ok (.getfield 26, 3) := by decide +kernel
theorem dX6_bridge_4 : decode cX6_bridge 4 = .ok (.aload_n 0, 1) := by decide +kernel
theorem dX6_bridge_5 : decode cX6_bridge 5 = .ok (.getfield 40, 3) := by decide +kernel
theorem dX6_bridge_8 : decode cX6_bridge 8 = .ok (.aload_n 0, 1) := by decide +kernel
theorem dX6_bridge_9 : decode cX6_bridge 9 = .ok (.getfield 47, 3) := by decide +kernel
theorem dX6_bridge_12 : decode cX6_bridge 12 = .ok (.invokevirtual 136, 3) := by decide +kernel
theorem dX6_bridge_15 : decode cX6_bridge 15 = .ok (.istore_n 1, 1) := by decide +kernel
theorem dX6_bridge_16 : decode cX6_bridge 16 = .ok (.aload_n 0, 1) := by decide +kernel
theorem dX6_bridge_17 : decode cX6_bridge 17 = .ok (.getfield 26, 3) := by decide +kernel
theorem dX6_bridge_20 : decode cX6_bridge 20 = .ok (.getfield 140, 3) := by decide +kernel
theorem dX6_bridge_23 : decode cX6_bridge 23 = .ok (.istore_n 2, 1) := by decide +kernel
theorem dX6_bridge_24 : decode cX6_bridge 24 = .ok (.aload_n 0, 1) := by decide +kernel
theorem dX6_bridge_25 : decode cX6_bridge 25 = .ok (.getfield 26, 3) := by decide +kernel
theorem dX6_bridge_28 : decode cX6_bridge 28 = .ok (.invokevirtual 143, 3) := by decide +kernel
theorem dX6_bridge_31 : decode cX6_bridge 31 = .ok (.iload_n 1, 1) := by decide +kernel
theorem dX6_bridge_32 : decode cX6_bridge 32 = .ok (.ifCond .ne 8, 3) := by decide +kernel
theorem dX6_bridge_35 : decode cX6_bridge 35 = .ok (.bipush (-20), 2) := by decide +kernel
theorem dX6_bridge_37 : decode cX6_bridge 37 = .ok (.iload_n 2, 1) := by decide +kernel
theorem dX6_bridge_38 : decode cX6_bridge 38 = .ok (.isub, 1) := by decide +kernel
theorem dX6_bridge_39 : decode cX6_bridge 39 = .ok (.ireturn, 1) := by decide +kernel
theorem dX6_bridge_40 : decode cX6_bridge 40 = .ok (.aload_n 0, 1) := by decide +kernel
theorem dX6_bridge_41 : decode cX6_bridge 41 = .ok (.getfield 10, 3) := by decide +kernel
theorem dX6_bridge_44 : decode cX6_bridge 44 = .ok (.aload_n 0, 1) := by decide +kernel
theorem dX6_bridge_45 : decode cX6_bridge 45 = .ok (.getfield 40, 3) := by decide +kernel
theorem dX6_bridge_48 : decode cX6_bridge 48 = .ok (.aload_n 0, 1) := by decide +kernel
theorem dX6_bridge_49 : decode cX6_bridge 49 = .ok (.getfield 47, 3) := by decide +kernel
theorem dX6_bridge_52 : decode cX6_bridge 52 = .ok (.invokevirtual 146, 3) := by decide +kernel
theorem dX6_bridge_55 : decode cX6_bridge 55 = .ok (.aload_n 0, 1) := by decide +kernel
theorem dX6_bridge_56 : decode cX6_bridge 56 = .ok (.getfield 10, 3) := by decide +kernel
theorem dX6_bridge_59 : decode cX6_bridge 59 = .ok (.getfield 66, 3) := by decide +kernel
theorem dX6_bridge_62 : decode cX6_bridge 62 = .ok (.getfield 80, 3) := by decide +kernel
theorem dX6_bridge_65 : decode cX6_bridge 65 = .ok (.ireturn, 1) := by decide +kernel
theorem dX6_count_0 : decode cX6_count 0 = .ok (.aload_n 0, 1) := by decide +kernel
theorem dX6_count_1 : decode cX6_count 1 = .ok (.getfield 10, 3) := by decide +kernel
theorem dX6_count_4 : decode cX6_count 4 = .ok (.getfield 88, 3) := by decide +kernel
theorem dX6_count_7 : decode cX6_count 7 = .ok (.astore_n 2, 1) := by decide +kernel
theorem dX6_count_8 : decode cX6_count 8 = .ok (.iload_n 1, 1) := by decide +kernel
theorem dX6_count_9 : decode cX6_count 9 = .ok (.tableswitch 105 0 8 #[51, 62, 67, 72, 77, 82, 87, 92, 97], 51) := by decide +kernel
theorem dX6_count_60 : decode cX6_count 60 = .ok (.aload_n 0, 1) := by decide +kernel
theorem dX6_count_61 : decode cX6_count 61 = .ok (.getfield 10, 3) := by decide +kernel
theorem dX6_count_64 : decode cX6_count 64 = .ok (.getfield 66, 3) := by decide +kernel
theorem dX6_count_67 : decode cX6_count 67 = .ok (.getfield 80, 3) := by decide +kernel
theorem dX6_count_70 : decode cX6_count 70 = .ok (.ireturn, 1) := by decide +kernel
theorem dX6_count_71 : decode cX6_count 71 = .ok (.aload_n 2, 1) := by decide +kernel
theorem dX6_count_72 : decode cX6_count 72 = .ok (.getfield 101, 3) := by decide +kernel
theorem dX6_count_75 : decode cX6_count 75 = .ok (.ireturn, 1) := by decide +kernel
theorem dX6_count_76 : decode cX6_count 76 = .ok (.aload_n 2, 1) := by decide +kernel
theorem dX6_count_77 : decode cX6_count 77 = .ok (.getfield 111, 3) := by decide +kernel
theorem dX6_count_80 : decode cX6_count 80 = .ok (.ireturn, 1) := by decide +kernel
theorem dX6_count_81 : decode cX6_count 81 = .ok (.aload_n 2, 1) := by decide +kernel
theorem dX6_count_82 : decode cX6_count 82 = .ok (.getfield 150, 3) := by decide +kernel
theorem dX6_count_85 : decode cX6_count 85 = .ok (.ireturn, 1) := by decide +kernel
theorem dX6_count_86 : decode cX6_count 86 = .ok (.aload_n 2, 1) := by decide +kernel
theorem dX6_count_87 : decode cX6_count 87 = .ok (.getfield 153, 3) := by decide +kernel
theorem dX6_count_90 : decode cX6_count 90 = .ok (.ireturn, 1) := by decide +kernel
theorem dX6_count_91 : decode cX6_count 91 = .ok (.aload_n 2, 1) := by decide +kernel
theorem dX6_count_92 : decode cX6_count 92 = .ok (.getfield 156, 3) := by decide +kernel
theorem dX6_count_95 : decode cX6_count 95 = .ok (.ireturn, 1) := by decide +kernel
theorem dX6_count_96 : decode cX6_count 96 = .ok (.aload_n 2, 1) := by decide +kernel
theorem dX6_count_97 : decode cX6_count 97 = .ok (.invokevirtual 159, 3) := by decide +kernel
theorem dX6_count_100 : decode cX6_count 100 = .ok (.ireturn, 1) := by decide +kernel
theorem dX6_count_101 : decode cX6_count 101 = .ok (.aload_n 2, 1) := by decide +kernel
theorem dX6_count_102 : decode cX6_count 102 = .ok (.invokevirtual 163, 3) := by decide +kernel
theorem dX6_count_105 : decode cX6_count 105 = .ok (.ireturn, 1) := by decide +kernel
theorem dX6_count_106 : decode cX6_count 106 = .ok (.aload_n 0, 1) := by decide +kernel
theorem dX6_count_107 : decode cX6_count 107 = .ok (.getfield 10, 3) := by decide +kernel
theorem dX6_count_110 : decode cX6_count 110 = .ok (.getfield 166, 3) := by decide +kernel
theorem dX6_count_113 : decode cX6_count 113 = .ok (.ireturn, 1) := by decide +kernel
theorem dX6_count_114 : decode cX6_count 114 = .ok (.iconst (-1), 1) := by decide +kernel
theorem dX6_count_115 : decode cX6_count 115 = .ok (.ireturn, 1) := by decide +kernel
theorem dX6_days_0 : decode cX6_days 0 = .ok (.aload_n 0, 1) := by decide +kernel
theorem dX6_days_1 : decode cX6_days 1 = .ok (.iload_n 1, 1) := by decide +kernel
theorem dX6_days_2 : decode cX6_days 2 = .ok (.iconst 0, 1) := by decide +kernel
theorem dX6_days_3 : decode cX6_days 3 = .ok (.invokevirtual 169, 3) := by decide +kernel
theorem dX6_days_6 : decode cX6_days 6 = .ok (.ireturn, 1) := by decide +kernel
theorem dX6_list_0 : decode cX6_list 0 = .ok (.iload_n 1, 1) := by decide +kernel
theorem dX6_list_1 : decode cX6_list 1 = .ok (.bipush 64, 2) := by decide +kernel
theorem dX6_list_3 : decode cX6_list 3 = .ok (.invokestatic 58, 3) := by decide +kernel
theorem dX6_list_6 : decode cX6_list 6 = .ok (.ifCond .ne 5, 3) := by decide +kernel
theorem dX6_list_9 : decode cX6_list 9 = .ok (.iconst (-1), 1) := by decide +kernel
theorem dX6_list_10 : decode cX6_list 10 = .ok (.ireturn, 1) := by decide +kernel
theorem dX6_list_11 : decode cX6_list 11 = .ok (.aload_n 0, 1) := by decide +kernel
theorem dX6_list_12 : decode cX6_list 12 = .ok (.getfield 10, 3) := by decide +kernel
theorem dX6_list_15 : decode cX6_list 15 = .ok (.getfield 88, 3) := by decide +kernel
theorem dX6_list_18 : decode cX6_list 18 = .ok (.getfield 111, 3) := by decide +kernel
theorem dX6_list_21 : decode cX6_list 21 = .ok (.istore_n 2, 1) := by decide +kernel
theorem dX6_list_22 : decode cX6_list 22 = .ok (.iload_n 2, 1) := by decide +kernel
theorem dX6_list_23 : decode cX6_list 23 = .ok (.iload_n 1, 1) := by decide +kernel
theorem dX6_list_24 : decode cX6_list 24 = .ok (.if_icmp .ne 6, 3) := by decide +kernel
theorem dX6_list_27 : decode cX6_list 27 = .ok (.bipush (-2), 2) := by decide +kernel
theorem dX6_list_29 : decode cX6_list 29 = .ok (.ireturn, 1) := by decide +kernel
theorem dX6_list_30 : decode cX6_list 30 = .ok (.aload_n 0, 1) := by decide +kernel
theorem dX6_list_31 : decode cX6_list 31 = .ok (.getfield 10, 3) := by decide +kernel
theorem dX6_list_34 : decode cX6_list 34 = .ok (.invokevirtual 173, 3) := by decide +kernel
theorem dX6_list_37 : decode cX6_list 37 = .ok (.aload_n 0, 1) := by decide +kernel
theorem dX6_list_38 : decode cX6_list 38 = .ok (.getfield 10, 3) := by decide +kernel
theorem dX6_list_41 : decode cX6_list 41 = .ok (.getfield 88, 3) := by decide +kernel
theorem dX6_list_44 : decode cX6_list 44 = .ok (.iload_n 1, 1) := by decide +kernel
theorem dX6_list_45 : decode cX6_list 45 = .ok (.putfield 111, 3) := by decide +kernel
theorem dX6_list_48 : decode cX6_list 48 = .ok (.iload_n 2, 1) := by decide +kernel
theorem dX6_list_49 : decode cX6_list 49 = .ok (.ireturn, 1) := by decide +kernel
theorem dX6_mend_0 : decode cX6_mend 0 = .ok (.iload_n 1, 1) := by decide +kernel
theorem dX6_mend_1 : decode cX6_mend 1 = .ok (.iconst 4, 1) := by decide +kernel
theorem dX6_mend_2 : decode cX6_mend 2 = .ok (.invokestatic 58, 3) := by decide +kernel
theorem dX6_mend_5 : decode cX6_mend 5 = .ok (.ifCond .eq 13, 3) := by decide +kernel
theorem dX6_mend_8 : decode cX6_mend 8 = .ok (.iload_n 2, 1) := by decide +kernel
theorem dX6_mend_9 : decode cX6_mend 9 = .ok (.iconst 1, 1) := by decide +kernel
theorem dX6_mend_10 : decode cX6_mend 10 = .ok (.bipush 40, 2) := by decide +kernel
theorem dX6_mend_12 : decode cX6_mend 12 = .ok (.invokestatic 62, 3) := by decide +kernel
theorem dX6_mend_15 : decode cX6_mend 15 = .ok (.ifCond .ne 5, 3) := by decide +kernel
theorem dX6_mend_18 : decode cX6_mend 18 = .ok (.iconst (-1), 1) := by decide +kernel
theorem dX6_mend_19 : decode cX6_mend 19 = .ok (.ireturn, 1) := by decide +kernel
theorem dX6_mend_20 : decode cX6_mend 20 = .ok (.aload_n 0, 1) := by decide +kernel
theorem dX6_mend_21 : decode cX6_mend 21 = .ok (.getfield 10, 3) := by decide +kernel
theorem dX6_mend_24 : decode cX6_mend 24 = .ok (.getfield 88, 3) := by decide +kernel
theorem dX6_mend_27 : decode cX6_mend 27 = .ok (.astore_n 3, 1) := by decide +kernel
theorem dX6_mend_28 : decode cX6_mend 28 = .ok (.aload_n 3, 1) := by decide +kernel
theorem dX6_mend_29 : decode cX6_mend 29 = .ok (.getfield 125, 3) := by decide +kernel
theorem dX6_mend_32 : decode cX6_mend 32 = .ok (.iload_n 1, 1) := by decide +kernel
theorem dX6_mend_33 : decode cX6_mend 33 = .ok (.iaload, 1) := by decide +kernel
theorem dX6_mend_34 : decode cX6_mend 34 = .ok (.bipush 40, 2) := by decide +kernel
theorem dX6_mend_36 : decode cX6_mend 36 = .ok (.if_icmp .lt 6, 3) := by decide +kernel
theorem dX6_mend_39 : decode cX6_mend 39 = .ok (.bipush (-2), 2) := by decide +kernel
theorem dX6_mend_41 : decode cX6_mend 41 = .ok (.ireturn, 1) := by decide +kernel
theorem dX6_mend_42 : decode cX6_mend 42 = .ok (.aload_n 0, 1) := by decide +kernel
theorem dX6_mend_43 : decode cX6_mend 43 = .ok (.getfield 10, 3) := by decide +kernel
theorem dX6_mend_46 : decode cX6_mend 46 = .ok (.invokevirtual 173, 3) := by decide +kernel
theorem dX6_mend_49 : decode cX6_mend 49 = .ok (.aload_n 3, 1) := by decide +kernel
theorem dX6_mend_50 : decode cX6_mend 50 = .ok (.getfield 125, 3) := by decide +kernel
theorem dX6_mend_53 : decode cX6_mend 53 = .ok (.iload_n 1, 1) := by decide +kernel
theorem dX6_mend_54 : decode cX6_mend 54 = .ok (.bipush 40, 2) := by decide +kernel
theorem dX6_mend_56 : decode cX6_mend 56 = .ok (.aload_n 3, 1) := by decide +kernel
theorem dX6_mend_57 : decode cX6_mend 57 = .ok (.getfield 125, 3) := by decide +kernel
theorem dX6_mend_60 : decode cX6_mend 60 = .ok (.iload_n 1, 1) := by decide +kernel
theorem dX6_mend_61 : decode cX6_mend 61 = .ok (.iaload, 1) := by decide +kernel
theorem dX6_mend_62 : decode cX6_mend 62 = .ok (.iload_n 2, 1) := by decide +kernel
theorem dX6_mend_63 : decode cX6_mend 63 = .ok (.iadd, 1) := by decide +kernel
theorem dX6_mend_64 : decode cX6_mend 64 = .ok (.invokestatic 176, 3) := by decide +kernel
theorem dX6_mend_67 : decode cX6_mend 67 = .ok (.iastore, 1) := by decide +kernel
theorem dX6_mend_68 : decode cX6_mend 68 = .ok (.aload_n 3, 1) := by decide +kernel
theorem dX6_mend_69 : decode cX6_mend 69 = .ok (.getfield 125, 3) := by decide +kernel
theorem dX6_mend_72 : decode cX6_mend 72 = .ok (.iload_n 1, 1) := by decide +kernel
theorem dX6_mend_73 : decode cX6_mend 73 = .ok (.iaload, 1) := by decide +kernel
theorem dX6_mend_74 : decode cX6_mend 74 = .ok (.ireturn, 1) := by decide +kernel
theorem dX6_flood_0 : decode cX6_flood 0 = .ok (.iload_n 1, 1) := by decide +kernel
theorem dX6_flood_1 : decode cX6_flood 1 = .ok (.iconst 1, 1) := by decide +kernel
theorem dX6_flood_2 : decode cX6_flood 2 = .ok (.bipush 40, 2) := by decide +kernel
theorem dX6_flood_4 : decode cX6_flood 4 = .ok (.invokestatic 62, 3) := by decide +kernel
theorem dX6_flood_7 : decode cX6_flood 7 = .ok (.ifCond .ne 5, 3) := by decide +kernel
theorem dX6_flood_10 : decode cX6_flood 10 = .ok (.iconst (-1), 1) := by decide +kernel
theorem dX6_flood_11 : decode cX6_flood 11 = .ok (.ireturn, 1) := by decide +kernel
theorem dX6_flood_12 : decode cX6_flood 12 = .ok (.aload_n 0, 1) := by decide +kernel
theorem dX6_flood_13 : decode cX6_flood 13 = .ok (.getfield 10, 3) := by decide +kernel
theorem dX6_flood_16 : decode cX6_flood 16 = .ok (.invokevirtual 173, 3) := by decide +kernel
theorem dX6_flood_19 : decode cX6_flood 19 = .ok (.aload_n 0, 1) := by decide +kernel
theorem dX6_flood_20 : decode cX6_flood 20 = .ok (.getfield 10, 3) := by decide +kernel
theorem dX6_flood_23 : decode cX6_flood 23 = .ok (.getfield 88, 3) := by decide +kernel
theorem dX6_flood_26 : decode cX6_flood 26 = .ok (.iload_n 1, 1) := by decide +kernel
theorem dX6_flood_27 : decode cX6_flood 27 = .ok (.invokevirtual 181, 3) := by decide +kernel
theorem dX6_flood_30 : decode cX6_flood 30 = .ok (.aload_n 0, 1) := by decide +kernel
theorem dX6_flood_31 : decode cX6_flood 31 = .ok (.getfield 10, 3) := by decide +kernel
theorem dX6_flood_34 : decode cX6_flood 34 = .ok (.getfield 88, 3) := by decide +kernel
theorem dX6_flood_37 : decode cX6_flood 37 = .ok (.invokevirtual 163, 3) := by decide +kernel
theorem dX6_flood_40 : decode cX6_flood 40 = .ok (.ireturn, 1) := by decide +kernel
theorem dX6_drift_0 : decode cX6_drift 0 = .ok (.aload_n 0, 1) := by decide +kernel
theorem dX6_drift_1 : decode cX6_drift 1 = .ok (.iload_n 1, 1) := by decide +kernel
theorem dX6_drift_2 : decode cX6_drift 2 = .ok (.iconst 1, 1) := by decide +kernel
theorem dX6_drift_3 : decode cX6_drift 3 = .ok (.invokevirtual 169, 3) := by decide +kernel
theorem dX6_drift_6 : decode cX6_drift 6 = .ok (.ireturn, 1) := by decide +kernel
theorem dX6_undo_0 : decode cX6_undo 0 = .ok (.aload_n 0, 1) := by decide +kernel
theorem dX6_undo_1 : decode cX6_undo 1 = .ok (.getfield 10, 3) := by decide +kernel
theorem dX6_undo_4 : decode cX6_undo 4 = .ok (.getfield 166, 3) := by decide +kernel
theorem dX6_undo_7 : decode cX6_undo 7 = .ok (.ifCond .ne 6, 3) := by decide +kernel
theorem dX6_undo_10 : decode cX6_undo 10 = .ok (.bipush (-4), 2) := by decide +kernel
theorem dX6_undo_12 : decode cX6_undo 12 = .ok (.ireturn, 1) := by decide +kernel
theorem dX6_undo_13 : decode cX6_undo 13 = .ok (.aload_n 0, 1) := by decide +kernel
theorem dX6_undo_14 : decode cX6_undo 14 = .ok (.getfield 10, 3) := by decide +kernel
theorem dX6_undo_17 : decode cX6_undo 17 = .ok (.invokevirtual 185, 3) := by decide +kernel
theorem dX6_undo_20 : decode cX6_undo 20 = .ok (.aload_n 0, 1) := by decide +kernel
theorem dX6_undo_21 : decode cX6_undo 21 = .ok (.getfield 10, 3) := by decide +kernel
theorem dX6_undo_24 : decode cX6_undo 24 = .ok (.getfield 166, 3) := by decide +kernel
theorem dX6_undo_27 : decode cX6_undo 27 = .ok (.ireturn, 1) := by decide +kernel
theorem dX6_seed_0 : decode cX6_seed 0 = .ok (.iload_n 1, 1) := by decide +kernel
theorem dX6_seed_1 : decode cX6_seed 1 = .ok (.ifCond .ge 5, 3) := by decide +kernel
theorem dX6_seed_4 : decode cX6_seed 4 = .ok (.iconst (-1), 1) := by decide +kernel
theorem dX6_seed_5 : decode cX6_seed 5 = .ok (.ireturn, 1) := by decide +kernel
theorem dX6_seed_6 : decode cX6_seed 6 = .ok (.aload_n 0, 1) := by decide +kernel
theorem dX6_seed_7 : decode cX6_seed 7 = .ok (.getfield 10, 3) := by decide +kernel
theorem dX6_seed_10 : decode cX6_seed 10 = .ok (.getfield 88, 3) := by decide +kernel
theorem dX6_seed_13 : decode cX6_seed 13 = .ok (.getfield 188, 3) := by decide +kernel
theorem dX6_seed_16 : decode cX6_seed 16 = .ok (.istore_n 2, 1) := by decide +kernel
theorem dX6_seed_17 : decode cX6_seed 17 = .ok (.aload_n 0, 1) := by decide +kernel
theorem dX6_seed_18 : decode cX6_seed 18 = .ok (.getfield 10, 3) := by decide +kernel
theorem dX6_seed_21 : decode cX6_seed 21 = .ok (.getfield 88, 3) := by decide +kernel
theorem dX6_seed_24 : decode cX6_seed 24 = .ok (.iload_n 1, 1) := by decide +kernel
theorem dX6_seed_25 : decode cX6_seed 25 = .ok (.putfield 188, 3) := by decide +kernel
theorem dX6_seed_28 : decode cX6_seed 28 = .ok (.iload_n 2, 1) := by decide +kernel
theorem dX6_seed_29 : decode cX6_seed 29 = .ok (.ireturn, 1) := by decide +kernel
theorem dX6_live_0 : decode cX6_live 0 = .ok (.iload_n 1, 1) := by decide +kernel
theorem dX6_live_1 : decode cX6_live 1 = .ok (.iconst 1, 1) := by decide +kernel
theorem dX6_live_2 : decode cX6_live 2 = .ok (.bipush 40, 2) := by decide +kernel
theorem dX6_live_4 : decode cX6_live 4 = .ok (.invokestatic 62, 3) := by decide +kernel
theorem dX6_live_7 : decode cX6_live 7 = .ok (.ifCond .ne 5, 3) := by decide +kernel
theorem dX6_live_10 : decode cX6_live 10 = .ok (.iconst (-1), 1) := by decide +kernel
theorem dX6_live_11 : decode cX6_live 11 = .ok (.ireturn, 1) := by decide +kernel
theorem dX6_live_12 : decode cX6_live 12 = .ok (.aload_n 0, 1) := by decide +kernel
theorem dX6_live_13 : decode cX6_live 13 = .ok (.getfield 10, 3) := by decide +kernel
theorem dX6_live_16 : decode cX6_live 16 = .ok (.getfield 88, 3) := by decide +kernel
theorem dX6_live_19 : decode cX6_live 19 = .ok (.getfield 101, 3) := by decide +kernel
theorem dX6_live_22 : decode cX6_live 22 = .ok (.iload_n 1, 1) := by decide +kernel
theorem dX6_live_23 : decode cX6_live 23 = .ok (.iadd, 1) := by decide +kernel
theorem dX6_live_24 : decode cX6_live 24 = .ok (.sipush 9999, 3) := by decide +kernel
theorem dX6_live_27 : decode cX6_live 27 = .ok (.if_icmp .le 6, 3) := by decide +kernel
theorem dX6_live_30 : decode cX6_live 30 = .ok (.bipush (-3), 2) := by decide +kernel
theorem dX6_live_32 : decode cX6_live 32 = .ok (.ireturn, 1) := by decide +kernel
theorem dX6_live_33 : decode cX6_live 33 = .ok (.aload_n 0, 1) := by decide +kernel
theorem dX6_live_34 : decode cX6_live 34 = .ok (.getfield 10, 3) := by decide +kernel
theorem dX6_live_37 : decode cX6_live 37 = .ok (.getfield 88, 3) := by decide +kernel
theorem dX6_live_40 : decode cX6_live 40 = .ok (.getfield 156, 3) := by decide +kernel
theorem dX6_live_43 : decode cX6_live 43 = .ok (.istore_n 3, 1) := by decide +kernel
theorem dX6_live_44 : decode cX6_live 44 = .ok (.iconst 0, 1) := by decide +kernel
theorem dX6_live_45 : decode cX6_live 45 = .ok (.istore 4, 2) := by decide +kernel
theorem dX6_live_47 : decode cX6_live 47 = .ok (.iload 4, 2) := by decide +kernel
theorem dX6_live_49 : decode cX6_live 49 = .ok (.iload_n 1, 1) := by decide +kernel
theorem dX6_live_50 : decode cX6_live 50 = .ok (.if_icmp .ge 48, 3) := by decide +kernel
theorem dX6_live_53 : decode cX6_live 53 = .ok (.aload_n 0, 1) := by decide +kernel
theorem dX6_live_54 : decode cX6_live 54 = .ok (.getfield 10, 3) := by decide +kernel
theorem dX6_live_57 : decode cX6_live 57 = .ok (.invokevirtual 173, 3) := by decide +kernel
theorem dX6_live_60 : decode cX6_live 60 = .ok (.iload_n 2, 1) := by decide +kernel
theorem dX6_live_61 : decode cX6_live 61 = .ok (.ifCond .eq 13, 3) := by decide +kernel
theorem dX6_live_64 : decode cX6_live 64 = .ok (.aload_n 0, 1) := by decide +kernel
theorem dX6_live_65 : decode cX6_live 65 = .ok (.getfield 10, 3) := by decide +kernel
theorem dX6_live_68 : decode cX6_live 68 = .ok (.getfield 88, 3) := by decide +kernel
theorem dX6_live_71 : decode cX6_live 71 = .ok (.invokevirtual 191, 3) := by decide +kernel
theorem dX6_live_74 : decode cX6_live 74 = .ok (.aload_n 0, 1) := by decide +kernel
theorem dX6_live_75 : decode cX6_live 75 = .ok (.getfield 10, 3) := by decide +kernel
theorem dX6_live_78 : decode cX6_live 78 = .ok (.getfield 88, 3) := by decide +kernel
theorem dX6_live_81 : decode cX6_live 81 = .ok (.aload_n 0, 1) := by decide +kernel
theorem dX6_live_82 : decode cX6_live 82 = .ok (.getfield 10, 3) := by decide +kernel
theorem dX6_live_85 : decode cX6_live 85 = .ok (.getfield 66, 3) := by decide +kernel
theorem dX6_live_88 : decode cX6_live 88 = .ok (.invokevirtual 194, 3) := by decide +kernel
theorem dX6_live_91 : decode cX6_live 91 = .ok (.pop, 1) := by decide +kernel
theorem dX6_live_92 : decode cX6_live 92 = .ok (.iinc 4 1, 3) := by decide +kernel
theorem dX6_live_95 : decode cX6_live 95 = .ok (.goto (-48), 3) := by decide +kernel
theorem dX6_live_98 : decode cX6_live 98 = .ok (.aload_n 0, 1) := by decide +kernel
theorem dX6_live_99 : decode cX6_live 99 = .ok (.getfield 10, 3) := by decide +kernel
theorem dX6_live_102 : decode cX6_live 102 = .ok (.getfield 88, 3) := by decide +kernel
theorem dX6_live_105 : decode cX6_live 105 = .ok (.getfield 156, 3) := by decide +kernel
theorem dX6_live_108 : decode cX6_live 108 = .ok (.iload_n 3, 1) := by decide +kernel
theorem dX6_live_109 : decode cX6_live 109 = .ok (.isub, 1) := by decide +kernel
theorem dX6_live_110 : decode cX6_live 110 = .ok (.ireturn, 1) := by decide +kernel
theorem dX6_ahead_0 : decode cX6_ahead 0 = .ok (.iload_n 1, 1) := by decide +kernel
theorem dX6_ahead_1 : decode cX6_ahead 1 = .ok (.iconst 4, 1) := by decide +kernel
theorem dX6_ahead_2 : decode cX6_ahead 2 = .ok (.invokestatic 58, 3) := by decide +kernel
theorem dX6_ahead_5 : decode cX6_ahead 5 = .ok (.ifCond .eq 13, 3) := by decide +kernel
theorem dX6_ahead_8 : decode cX6_ahead 8 = .ok (.iload_n 2, 1) := by decide +kernel
theorem dX6_ahead_9 : decode cX6_ahead 9 = .ok (.iconst 0, 1) := by decide +kernel
theorem dX6_ahead_10 : decode cX6_ahead 10 = .ok (.bipush 60, 2) := by decide +kernel
theorem dX6_ahead_12 : decode cX6_ahead 12 = .ok (.invokestatic 62, 3) := by decide +kernel
theorem dX6_ahead_15 : decode cX6_ahead 15 = .ok (.ifCond .ne 5, 3) := by decide +kernel
theorem dX6_ahead_18 : decode cX6_ahead 18 = .ok (.iconst (-1), 1) := by decide +kernel
theorem dX6_ahead_19 : decode cX6_ahead 19 = .ok (.ireturn, 1) := by decide +kernel
theorem dX6_ahead_20 : decode cX6_ahead 20 = .ok (.aload_n 0, 1) := by decide +kernel
theorem dX6_ahead_21 : decode cX6_ahead 21 = .ok (.aload_n 0, 1) := by decide +kernel
theorem dX6_ahead_22 : decode cX6_ahead 22 = .ok (.getfield 10, 3) := by decide +kernel
theorem dX6_ahead_25 : decode cX6_ahead 25 = .ok (.getfield 88, 3) := by decide +kernel
theorem dX6_ahead_28 : decode cX6_ahead 28 = .ok (.getfield 111, 3) := by decide +kernel
theorem dX6_ahead_31 : decode cX6_ahead 31 = .ok (.iload_n 2, 1) := by decide +kernel
theorem dX6_ahead_32 : decode cX6_ahead 32 = .ok (.invokevirtual 198, 3) := by decide +kernel
theorem dX6_ahead_35 : decode cX6_ahead 35 = .ok (.aload_n 0, 1) := by decide +kernel
theorem dX6_ahead_36 : decode cX6_ahead 36 = .ok (.getfield 40, 3) := by decide +kernel
theorem dX6_ahead_39 : decode cX6_ahead 39 = .ok (.getfield 125, 3) := by decide +kernel
theorem dX6_ahead_42 : decode cX6_ahead 42 = .ok (.iload_n 1, 1) := by decide +kernel
theorem dX6_ahead_43 : decode cX6_ahead 43 = .ok (.iaload, 1) := by decide +kernel
theorem dX6_ahead_44 : decode cX6_ahead 44 = .ok (.ireturn, 1) := by decide +kernel
theorem dX6_then_0 : decode cX6_then 0 = .ok (.iload_n 1, 1) := by decide +kernel
theorem dX6_then_1 : decode cX6_then 1 = .ok (.iconst 0, 1) := by decide +kernel
theorem dX6_then_2 : decode cX6_then 2 = .ok (.bipush 60, 2) := by decide +kernel
theorem dX6_then_4 : decode cX6_then 4 = .ok (.invokestatic 62, 3) := by decide +kernel
theorem dX6_then_7 : decode cX6_then 7 = .ok (.ifCond .eq 11, 3) := by decide +kernel
theorem dX6_then_10 : decode cX6_then 10 = .ok (.iload_n 2, 1) := by decide +kernel
theorem dX6_then_11 : decode cX6_then 11 = .ok (.iconst 3, 1) := by decide +kernel
theorem dX6_then_12 : decode cX6_then 12 = .ok (.invokestatic 58, 3) := by decide +kernel
theorem dX6_then_15 : decode cX6_then 15 = .ok (.ifCond .ne 5, 3) := by decide +kernel
theorem dX6_then_18 : decode cX6_then 18 = .ok (.iconst (-1), 1) := by decide +kernel
theorem dX6_then_19 : decode cX6_then 19 = .ok (.ireturn, 1) := by decide +kernel
theorem dX6_then_20 : decode cX6_then 20 = .ok (.aload_n 0, 1) := by decide +kernel
theorem dX6_then_21 : decode cX6_then 21 = .ok (.aload_n 0, 1) := by decide +kernel
theorem dX6_then_22 : decode cX6_then 22 = .ok (.getfield 10, 3) := by decide +kernel
theorem dX6_then_25 : decode cX6_then 25 = .ok (.getfield 88, 3) := by decide +kernel
theorem dX6_then_28 : decode cX6_then 28 = .ok (.getfield 111, 3) := by decide +kernel
theorem dX6_then_31 : decode cX6_then 31 = .ok (.iload_n 1, 1) := by decide +kernel
theorem dX6_then_32 : decode cX6_then 32 = .ok (.invokevirtual 198, 3) := by decide +kernel
theorem dX6_then_35 : decode cX6_then 35 = .ok (.iload_n 2, 1) := by decide +kernel
theorem dX6_then_36 : decode cX6_then 36 = .ok (.lookupswitch 44 #[(0, 28), (1, 36)], 28) := by decide +kernel
theorem dX6_then_64 : decode cX6_then 64 = .ok (.aload_n 0, 1) := by decide +kernel
theorem dX6_then_65 : decode cX6_then 65 = .ok (.getfield 40, 3) := by decide +kernel
theorem dX6_then_68 : decode cX6_then 68 = .ok (.getfield 150, 3) := by decide +kernel
theorem dX6_then_71 : decode cX6_then 71 = .ok (.ireturn, 1) := by decide +kernel
theorem dX6_then_72 : decode cX6_then 72 = .ok (.aload_n 0, 1) := by decide +kernel
theorem dX6_then_73 : decode cX6_then 73 = .ok (.getfield 40, 3) := by decide +kernel
theorem dX6_then_76 : decode cX6_then 76 = .ok (.getfield 153, 3) := by decide +kernel
theorem dX6_then_79 : decode cX6_then 79 = .ok (.ireturn, 1) := by decide +kernel
theorem dX6_then_80 : decode cX6_then 80 = .ok (.aload_n 0, 1) := by decide +kernel
theorem dX6_then_81 : decode cX6_then 81 = .ok (.getfield 40, 3) := by decide +kernel
theorem dX6_then_84 : decode cX6_then 84 = .ok (.getfield 156, 3) := by decide +kernel
theorem dX6_then_87 : decode cX6_then 87 = .ok (.ireturn, 1) := by decide +kernel
theorem dX6_hole_0 : decode cX6_hole 0 = .ok (.aload_n 0, 1) := by decide +kernel
theorem dX6_hole_1 : decode cX6_hole 1 = .ok (.aload_n 0, 1) := by decide +kernel
theorem dX6_hole_2 : decode cX6_hole 2 = .ok (.getfield 10, 3) := by decide +kernel
theorem dX6_hole_5 : decode cX6_hole 5 = .ok (.getfield 88, 3) := by decide +kernel
theorem dX6_hole_8 : decode cX6_hole 8 = .ok (.getfield 111, 3) := by decide +kernel
theorem dX6_hole_11 : decode cX6_hole 11 = .ok (.invokevirtual 202, 3) := by decide +kernel
theorem dX6_hole_14 : decode cX6_hole 14 = .ok (.ireturn, 1) := by decide +kernel
theorem dX6_first_0 : decode cX6_first 0 = .ok (.aload_n 0, 1) := by decide +kernel
theorem dX6_first_1 : decode cX6_first 1 = .ok (.iload_n 1, 1) := by decide +kernel
theorem dX6_first_2 : decode cX6_first 2 = .ok (.invokevirtual 84, 3) := by decide +kernel
theorem dX6_first_5 : decode cX6_first 5 = .ok (.ifCond .ne 5, 3) := by decide +kernel
theorem dX6_first_8 : decode cX6_first 8 = .ok (.iconst (-1), 1) := by decide +kernel
theorem dX6_first_9 : decode cX6_first 9 = .ok (.ireturn, 1) := by decide +kernel
theorem dX6_first_10 : decode cX6_first 10 = .ok (.aload_n 0, 1) := by decide +kernel
theorem dX6_first_11 : decode cX6_first 11 = .ok (.getfield 40, 3) := by decide +kernel
theorem dX6_first_14 : decode cX6_first 14 = .ok (.aload_n 0, 1) := by decide +kernel
theorem dX6_first_15 : decode cX6_first 15 = .ok (.getfield 10, 3) := by decide +kernel
theorem dX6_first_18 : decode cX6_first 18 = .ok (.getfield 88, 3) := by decide +kernel
theorem dX6_first_21 : decode cX6_first 21 = .ok (.invokevirtual 206, 3) := by decide +kernel
theorem dX6_first_24 : decode cX6_first 24 = .ok (.iconst 1, 1) := by decide +kernel
theorem dX6_first_25 : decode cX6_first 25 = .ok (.istore_n 2, 1) := by decide +kernel
theorem dX6_first_26 : decode cX6_first 26 = .ok (.iload_n 2, 1) := by decide +kernel
theorem dX6_first_27 : decode cX6_first 27 = .ok (.bipush 60, 2) := by decide +kernel
theorem dX6_first_29 : decode cX6_first 29 = .ok (.if_icmp .gt 34, 3) := by decide +kernel
theorem dX6_first_32 : decode cX6_first 32 = .ok (.aload_n 0, 1) := by decide +kernel
theorem dX6_first_33 : decode cX6_first 33 = .ok (.getfield 40, 3) := by decide +kernel
theorem dX6_first_36 : decode cX6_first 36 = .ok (.aload_n 0, 1) := by decide +kernel
theorem dX6_first_37 : decode cX6_first 37 = .ok (.getfield 10, 3) := by decide +kernel
theorem dX6_first_40 : decode cX6_first 40 = .ok (.getfield 66, 3) := by decide +kernel
theorem dX6_first_43 : decode cX6_first 43 = .ok (.invokevirtual 194, 3) := by decide +kernel
theorem dX6_first_46 : decode cX6_first 46 = .ok (.istore_n 3, 1) := by decide +kernel
theorem dX6_first_47 : decode cX6_first 47 = .ok (.iload_n 1, 1) := by decide +kernel
theorem dX6_first_48 : decode cX6_first 48 = .ok (.iload_n 3, 1) := by decide +kernel
theorem dX6_first_49 : decode cX6_first 49 = .ok (.invokestatic 210, 3) := by decide +kernel
theorem dX6_first_52 : decode cX6_first 52 = .ok (.ifCond .eq 5, 3) := by decide +kernel
theorem dX6_first_55 : decode cX6_first 55 = .ok (.iload_n 2, 1) := by decide +kernel
theorem dX6_first_56 : decode cX6_first 56 = .ok (.ireturn, 1) := by decide +kernel
theorem dX6_first_57 : decode cX6_first 57 = .ok (.iinc 2 1, 3) := by decide +kernel
theorem dX6_first_60 : decode cX6_first 60 = .ok (.goto (-34), 3) := by decide +kernel
theorem dX6_first_63 : decode cX6_first 63 = .ok (.bipush (-4), 2) := by decide +kernel
theorem dX6_first_65 : decode cX6_first 65 = .ok (.ireturn, 1) := by decide +kernel
theorem dX6_wise_0 : decode cX6_wise 0 = .ok (.iload_n 1, 1) := by decide +kernel
theorem dX6_wise_1 : decode cX6_wise 1 = .ok (.iconst 1, 1) := by decide +kernel
theorem dX6_wise_2 : decode cX6_wise 2 = .ok (.bipush 40, 2) := by decide +kernel
theorem dX6_wise_4 : decode cX6_wise 4 = .ok (.invokestatic 62, 3) := by decide +kernel
theorem dX6_wise_7 : decode cX6_wise 7 = .ok (.ifCond .eq 11, 3) := by decide +kernel
theorem dX6_wise_10 : decode cX6_wise 10 = .ok (.iload_n 2, 1) := by decide +kernel
theorem dX6_wise_11 : decode cX6_wise 11 = .ok (.iconst 3, 1) := by decide +kernel
theorem dX6_wise_12 : decode cX6_wise 12 = .ok (.invokestatic 58, 3) := by decide +kernel
theorem dX6_wise_15 : decode cX6_wise 15 = .ok (.ifCond .ne 5, 3) := by decide +kernel
theorem dX6_wise_18 : decode cX6_wise 18 = .ok (.iconst (-1), 1) := by decide +kernel
theorem dX6_wise_19 : decode cX6_wise 19 = .ok (.ireturn, 1) := by decide +kernel
theorem dX6_wise_20 : decode cX6_wise 20 = .ok (.aload_n 0, 1) := by decide +kernel
theorem dX6_wise_21 : decode cX6_wise 21 = .ok (.getfield 54, 3) := by decide +kernel
theorem dX6_wise_24 : decode cX6_wise 24 = .ok (.invokevirtual 213, 3) := by decide +kernel
theorem dX6_wise_27 : decode cX6_wise 27 = .ok (.iconst 0, 1) := by decide +kernel
theorem dX6_wise_28 : decode cX6_wise 28 = .ok (.istore_n 3, 1) := by decide +kernel
theorem dX6_wise_29 : decode cX6_wise 29 = .ok (.iload_n 3, 1) := by decide +kernel
theorem dX6_wise_30 : decode cX6_wise 30 = .ok (.bipush 64, 2) := by decide +kernel
theorem dX6_wise_32 : decode cX6_wise 32 = .ok (.if_icmp .ge 16, 3) := by decide +kernel
theorem dX6_wise_35 : decode cX6_wise 35 = .ok (.aload_n 0, 1) := by decide +kernel
theorem dX6_wise_36 : decode cX6_wise 36 = .ok (.iload_n 3, 1) := by decide +kernel
theorem dX6_wise_37 : decode cX6_wise 37 = .ok (.iload_n 3, 1) := by decide +kernel
theorem dX6_wise_38 : decode cX6_wise 38 = .ok (.iload_n 1, 1) := by decide +kernel
theorem dX6_wise_39 : decode cX6_wise 39 = .ok (.invokevirtual 214, 3) := by decide +kernel
theorem dX6_wise_42 : decode cX6_wise 42 = .ok (.iinc 3 1, 3) := by decide +kernel
theorem dX6_wise_45 : decode cX6_wise 45 = .ok (.goto (-16), 3) := by decide +kernel
theorem dX6_wise_48 : decode cX6_wise 48 = .ok (.iload_n 2, 1) := by decide +kernel
theorem dX6_wise_49 : decode cX6_wise 49 = .ok (.lookupswitch 43 #[(0, 27), (1, 35)], 27) := by decide +kernel
theorem dX6_wise_76 : decode cX6_wise 76 = .ok (.aload_n 0, 1) := by decide +kernel
theorem dX6_wise_77 : decode cX6_wise 77 = .ok (.getfield 54, 3) := by decide +kernel
theorem dX6_wise_80 : decode cX6_wise 80 = .ok (.getfield 217, 3) := by decide +kernel
theorem dX6_wise_83 : decode cX6_wise 83 = .ok (.ireturn, 1) := by decide +kernel
theorem dX6_wise_84 : decode cX6_wise 84 = .ok (.aload_n 0, 1) := by decide +kernel
theorem dX6_wise_85 : decode cX6_wise 85 = .ok (.getfield 54, 3) := by decide +kernel
theorem dX6_wise_88 : decode cX6_wise 88 = .ok (.getfield 220, 3) := by decide +kernel
theorem dX6_wise_91 : decode cX6_wise 91 = .ok (.ireturn, 1) := by decide +kernel
theorem dX6_wise_92 : decode cX6_wise 92 = .ok (.aload_n 0, 1) := by decide +kernel
theorem dX6_wise_93 : decode cX6_wise 93 = .ok (.getfield 54, 3) := by decide +kernel
theorem dX6_wise_96 : decode cX6_wise 96 = .ok (.getfield 223, 3) := by decide +kernel
theorem dX6_wise_99 : decode cX6_wise 99 = .ok (.ireturn, 1) := by decide +kernel
theorem dX6_more_0 : decode cX6_more 0 = .ok (.aload_n 0, 1) := by decide +kernel
theorem dX6_more_1 : decode cX6_more 1 = .ok (.iload_n 1, 1) := by decide +kernel
theorem dX6_more_2 : decode cX6_more 2 = .ok (.iconst 0, 1) := by decide +kernel
theorem dX6_more_3 : decode cX6_more 3 = .ok (.invokevirtual 226, 3) := by decide +kernel
theorem dX6_more_6 : decode cX6_more 6 = .ok (.ireturn, 1) := by decide +kernel
theorem dX6_less_0 : decode cX6_less 0 = .ok (.aload_n 0, 1) := by decide +kernel
theorem dX6_less_1 : decode cX6_less 1 = .ok (.iload_n 1, 1) := by decide +kernel
theorem dX6_less_2 : decode cX6_less 2 = .ok (.iconst 1, 1) := by decide +kernel
theorem dX6_less_3 : decode cX6_less 3 = .ok (.invokevirtual 226, 3) := by decide +kernel
theorem dX6_less_6 : decode cX6_less 6 = .ok (.ireturn, 1) := by decide +kernel
theorem dX6_stands_0 : decode cX6_stands 0 = .ok (.iload_n 1, 1) := by decide +kernel
theorem dX6_stands_1 : decode cX6_stands 1 = .ok (.bipush 64, 2) := by decide +kernel
theorem dX6_stands_3 : decode cX6_stands 3 = .ok (.invokestatic 58, 3) := by decide +kernel
theorem dX6_stands_6 : decode cX6_stands 6 = .ok (.ifCond .eq 11, 3) := by decide +kernel
theorem dX6_stands_9 : decode cX6_stands 9 = .ok (.aload_n 0, 1) := by decide +kernel
theorem dX6_stands_10 : decode cX6_stands 10 = .ok (.iload_n 1, 1) := by decide +kernel
theorem dX6_stands_11 : decode cX6_stands 11 = .ok (.invokevirtual 202, 3) := by decide +kernel
theorem dX6_stands_14 : decode cX6_stands 14 = .ok (.goto 4, 3) := by decide +kernel
theorem dX6_stands_17 : decode cX6_stands 17 = .ok (.iconst (-1), 1) := by decide +kernel
theorem dX6_stands_18 : decode cX6_stands 18 = .ok (.ireturn, 1) := by decide +kernel
theorem dX6_bears_0 : decode cX6_bears 0 = .ok (.iload_n 1, 1) := by decide +kernel
theorem dX6_bears_1 : decode cX6_bears 1 = .ok (.iconst 1, 1) := by decide +kernel
theorem dX6_bears_2 : decode cX6_bears 2 = .ok (.bipush 40, 2) := by decide +kernel
theorem dX6_bears_4 : decode cX6_bears 4 = .ok (.invokestatic 62, 3) := by decide +kernel
theorem dX6_bears_7 : decode cX6_bears 7 = .ok (.ifCond .ne 5, 3) := by decide +kernel
theorem dX6_bears_10 : decode cX6_bears 10 = .ok (.iconst (-1), 1) := by decide +kernel
theorem dX6_bears_11 : decode cX6_bears 11 = .ok (.ireturn, 1) := by decide +kernel
theorem dX6_bears_12 : decode cX6_bears 12 = .ok (.bipush 40, 2) := by decide +kernel
theorem dX6_bears_14 : decode cX6_bears 14 = .ok (.istore_n 2, 1) := by decide +kernel
theorem dX6_bears_15 : decode cX6_bears 15 = .ok (.iload_n 2, 1) := by decide +kernel
theorem dX6_bears_16 : decode cX6_bears 16 = .ok (.ifCond .lt 41, 3) := by decide +kernel
theorem dX6_bears_19 : decode cX6_bears 19 = .ok (.aload_n 0, 1) := by decide +kernel
theorem dX6_bears_20 : decode cX6_bears 20 = .ok (.getfield 40, 3) := by decide +kernel
theorem dX6_bears_23 : decode cX6_bears 23 = .ok (.aload_n 0, 1) := by decide +kernel
theorem dX6_bears_24 : decode cX6_bears 24 = .ok (.getfield 10, 3) := by decide +kernel
theorem dX6_bears_27 : decode cX6_bears 27 = .ok (.getfield 88, 3) := by decide +kernel
theorem dX6_bears_30 : decode cX6_bears 30 = .ok (.invokevirtual 206, 3) := by decide +kernel
theorem dX6_bears_33 : decode cX6_bears 33 = .ok (.aload_n 0, 1) := by decide +kernel
theorem dX6_bears_34 : decode cX6_bears 34 = .ok (.getfield 40, 3) := by decide +kernel
theorem dX6_bears_37 : decode cX6_bears 37 = .ok (.iload_n 2, 1) := by decide +kernel
theorem dX6_bears_38 : decode cX6_bears 38 = .ok (.invokevirtual 181, 3) := by decide +kernel
theorem dX6_bears_41 : decode cX6_bears 41 = .ok (.aload_n 0, 1) := by decide +kernel
theorem dX6_bears_42 : decode cX6_bears 42 = .ok (.iload_n 1, 1) := by decide +kernel
theorem dX6_bears_43 : decode cX6_bears 43 = .ok (.invokevirtual 229, 3) := by decide +kernel
theorem dX6_bears_46 : decode cX6_bears 46 = .ok (.ifCond .eq 5, 3) := by decide +kernel
theorem dX6_bears_49 : decode cX6_bears 49 = .ok (.iload_n 2, 1) := by decide +kernel
theorem dX6_bears_50 : decode cX6_bears 50 = .ok (.ireturn, 1) := by decide +kernel
theorem dX6_bears_51 : decode cX6_bears 51 = .ok (.iinc 2 (-1), 3) := by decide +kernel
theorem dX6_bears_54 : decode cX6_bears 54 = .ok (.goto (-39), 3) := by decide +kernel
theorem dX6_bears_57 : decode cX6_bears 57 = .ok (.bipush (-4), 2) := by decide +kernel
theorem dX6_bears_59 : decode cX6_bears 59 = .ok (.ireturn, 1) := by decide +kernel
theorem dX6_floods_0 : decode cX6_floods 0 = .ok (.iload_n 1, 1) := by decide +kernel
theorem dX6_floods_1 : decode cX6_floods 1 = .ok (.iconst 0, 1) := by decide +kernel
theorem dX6_floods_2 : decode cX6_floods 2 = .ok (.bipush 10, 2) := by decide +kernel
theorem dX6_floods_4 : decode cX6_floods 4 = .ok (.invokestatic 62, 3) := by decide +kernel
theorem dX6_floods_7 : decode cX6_floods 7 = .ok (.ifCond .eq 11, 3) := by decide +kernel
theorem dX6_floods_10 : decode cX6_floods 10 = .ok (.iload_n 2, 1) := by decide +kernel
theorem dX6_floods_11 : decode cX6_floods 11 = .ok (.iconst 2, 1) := by decide +kernel
theorem dX6_floods_12 : decode cX6_floods 12 = .ok (.invokestatic 58, 3) := by decide +kernel
theorem dX6_floods_15 : decode cX6_floods 15 = .ok (.ifCond .ne 5, 3) := by decide +kernel
theorem dX6_floods_18 : decode cX6_floods 18 = .ok (.iconst (-1), 1) := by decide +kernel
theorem dX6_floods_19 : decode cX6_floods 19 = .ok (.ireturn, 1) := by decide +kernel
theorem dX6_floods_20 : decode cX6_floods 20 = .ok (.iconst 0, 1) := by decide +kernel
theorem dX6_floods_21 : decode cX6_floods 21 = .ok (.istore_n 3, 1) := by decide +kernel
theorem dX6_floods_22 : decode cX6_floods 22 = .ok (.iconst 0, 1) := by decide +kernel
theorem dX6_floods_23 : decode cX6_floods 23 = .ok (.istore 4, 2) := by decide +kernel
theorem dX6_floods_25 : decode cX6_floods 25 = .ok (.iconst 0, 1) := by decide +kernel
theorem dX6_floods_26 : decode cX6_floods 26 = .ok (.istore 5, 2) := by decide +kernel
theorem dX6_floods_28 : decode cX6_floods 28 = .ok (.iload 5, 2) := by decide +kernel
theorem dX6_floods_30 : decode cX6_floods 30 = .ok (.bipush 16, 2) := by decide +kernel
theorem dX6_floods_32 : decode cX6_floods 32 = .ok (.if_icmp .ge 38, 3) := by decide +kernel
theorem dX6_floods_35 : decode cX6_floods 35 = .ok (.iload 5, 2) := by decide +kernel
theorem dX6_floods_37 : decode cX6_floods 37 = .ok (.iload_n 1, 1) := by decide +kernel
theorem dX6_floods_38 : decode cX6_floods 38 = .ok (.invokestatic 232, 3) := by decide +kernel
theorem dX6_floods_41 : decode cX6_floods 41 = .ok (.istore 6, 2) := by decide +kernel
theorem dX6_floods_43 : decode cX6_floods 43 = .ok (.iload 4, 2) := by decide +kernel
theorem dX6_floods_45 : decode cX6_floods 45 = .ok (.iload 6, 2) := by decide +kernel
theorem dX6_floods_47 : decode cX6_floods 47 = .ok (.iadd, 1) := by decide +kernel
theorem dX6_floods_48 : decode cX6_floods 48 = .ok (.istore 4, 2) := by decide +kernel
theorem dX6_floods_50 : decode cX6_floods 50 = .ok (.aload_n 0, 1) := by decide +kernel
theorem dX6_floods_51 : decode cX6_floods 51 = .ok (.iload 5, 2) := by decide +kernel
theorem dX6_floods_53 : decode cX6_floods 53 = .ok (.invokevirtual 235, 3) := by decide +kernel
theorem dX6_floods_56 : decode cX6_floods 56 = .ok (.ifCond .eq 8, 3) := by decide +kernel
theorem dX6_floods_59 : decode cX6_floods 59 = .ok (.iload_n 3, 1) := by decide +kernel
theorem dX6_floods_60 : decode cX6_floods 60 = .ok (.iload 6, 2) := by decide +kernel
theorem dX6_floods_62 : decode cX6_floods 62 = .ok (.iadd, 1) := by decide +kernel
theorem dX6_floods_63 : decode cX6_floods 63 = .ok (.istore_n 3, 1) := by decide +kernel
theorem dX6_floods_64 : decode cX6_floods 64 = .ok (.iinc 5 1, 3) := by decide +kernel
theorem dX6_floods_67 : decode cX6_floods 67 = .ok (.goto (-39), 3) := by decide +kernel
theorem dX6_floods_70 : decode cX6_floods 70 = .ok (.iload_n 3, 1) := by decide +kernel
theorem dX6_floods_71 : decode cX6_floods 71 = .ok (.iload 4, 2) := by decide +kernel
theorem dX6_floods_73 : decode cX6_floods 73 = .ok (.invokestatic 238, 3) := by decide +kernel
theorem dX6_floods_76 : decode cX6_floods 76 = .ok (.istore 5, 2) := by decide +kernel
theorem dX6_floods_78 : decode cX6_floods 78 = .ok (.iload 5, 2) := by decide +kernel
theorem dX6_floods_80 : decode cX6_floods 80 = .ok (.iconst 1, 1) := by decide +kernel
theorem dX6_floods_81 : decode cX6_floods 81 = .ok (.if_icmp .ge 6, 3) := by decide +kernel
theorem dX6_floods_84 : decode cX6_floods 84 = .ok (.iconst 1, 1) := by decide +kernel
theorem dX6_floods_85 : decode cX6_floods 85 = .ok (.istore 5, 2) := by decide +kernel
theorem dX6_floods_87 : decode cX6_floods 87 = .ok (.iload_n 2, 1) := by decide +kernel
theorem dX6_floods_88 : decode cX6_floods 88 = .ok (.ifCond .ne 10, 3) := by decide +kernel
theorem dX6_floods_91 : decode cX6_floods 91 = .ok (.iload_n 3, 1) := by decide +kernel
theorem dX6_floods_92 : decode cX6_floods 92 = .ok (.iload 5, 2) := by decide +kernel
theorem dX6_floods_94 : decode cX6_floods 94 = .ok (.idiv, 1) := by decide +kernel
theorem dX6_floods_95 : decode cX6_floods 95 = .ok (.goto 8, 3) := by decide +kernel
theorem dX6_floods_98 : decode cX6_floods 98 = .ok (.iload 4, 2) := by decide +kernel
theorem dX6_floods_100 : decode cX6_floods 100 = .ok (.iload 5, 2) := by decide +kernel
theorem dX6_floods_102 : decode cX6_floods 102 = .ok (.idiv, 1) := by decide +kernel
theorem dX6_floods_103 : decode cX6_floods 103 = .ok (.ireturn, 1) := by decide +kernel
theorem dX6_image_0 : decode cX6_image 0 = .ok (.aload_n 0, 1) := by decide +kernel
theorem dX6_image_1 : decode cX6_image 1 = .ok (.getfield 16, 3) := by decide +kernel
theorem dX6_image_4 : decode cX6_image 4 = .ok (.aload_n 0, 1) := by decide +kernel
theorem dX6_image_5 : decode cX6_image 5 = .ok (.getfield 10, 3) := by decide +kernel
theorem dX6_image_8 : decode cX6_image 8 = .ok (.invokevirtual 241, 3) := by decide +kernel
theorem dX6_image_11 : decode cX6_image 11 = .ok (.aload_n 0, 1) := by decide +kernel
theorem dX6_image_12 : decode cX6_image 12 = .ok (.iconst 1, 1) := by decide +kernel
theorem dX6_image_13 : decode cX6_image 13 = .ok (.putfield 19, 3) := by decide +kernel
theorem dX6_image_16 : decode cX6_image 16 = .ok (.iconst 1, 1) := by decide +kernel
theorem dX6_image_17 : decode cX6_image 17 = .ok (.ireturn, 1) := by decide +kernel
theorem dX6_restore_0 : decode cX6_restore 0 = .ok (.aload_n 0, 1) := by decide +kernel
theorem dX6_restore_1 : decode cX6_restore 1 = .ok (.getfield 19, 3) := by decide +kernel
theorem dX6_restore_4 : decode cX6_restore 4 = .ok (.ifCond .ne 6, 3) := by decide +kernel
theorem dX6_restore_7 : decode cX6_restore 7 = .ok (.bipush (-4), 2) := by decide +kernel
theorem dX6_restore_9 : decode cX6_restore 9 = .ok (.ireturn, 1) := by decide +kernel
theorem dX6_restore_10 : decode cX6_restore 10 = .ok (.aload_n 0, 1) := by decide +kernel
theorem dX6_restore_11 : decode cX6_restore 11 = .ok (.getfield 10, 3) := by decide +kernel
theorem dX6_restore_14 : decode cX6_restore 14 = .ok (.aload_n 0, 1) := by decide +kernel
theorem dX6_restore_15 : decode cX6_restore 15 = .ok (.getfield 16, 3) := by decide +kernel
theorem dX6_restore_18 : decode cX6_restore 18 = .ok (.invokevirtual 241, 3) := by decide +kernel
theorem dX6_restore_21 : decode cX6_restore 21 = .ok (.iconst 1, 1) := by decide +kernel
theorem dX6_restore_22 : decode cX6_restore 22 = .ok (.ireturn, 1) := by decide +kernel
theorem dX6_foretell_0 : decode cX6_foretell 0 = .ok (.aload_n 0, 1) := by decide +kernel
theorem dX6_foretell_1 : decode cX6_foretell 1 = .ok (.getfield 40, 3) := by decide +kernel
theorem dX6_foretell_4 : decode cX6_foretell 4 = .ok (.aload_n 0, 1) := by decide +kernel
theorem dX6_foretell_5 : decode cX6_foretell 5 = .ok (.getfield 10, 3) := by decide +kernel
theorem dX6_foretell_8 : decode cX6_foretell 8 = .ok (.getfield 88, 3) := by decide +kernel
theorem dX6_foretell_11 : decode cX6_foretell 11 = .ok (.invokevirtual 206, 3) := by decide +kernel
theorem dX6_foretell_14 : decode cX6_foretell 14 = .ok (.aload_n 0, 1) := by decide +kernel
theorem dX6_foretell_15 : decode cX6_foretell 15 = .ok (.getfield 40, 3) := by decide +kernel
theorem dX6_foretell_18 : decode cX6_foretell 18 = .ok (.iload_n 1, 1) := by decide +kernel
theorem dX6_foretell_19 : decode cX6_foretell 19 = .ok (.putfield 111, 3) := by decide +kernel
theorem dX6_foretell_22 : decode cX6_foretell 22 = .ok (.iconst 0, 1) := by decide +kernel
theorem dX6_foretell_23 : decode cX6_foretell 23 = .ok (.istore_n 3, 1) := by decide +kernel
theorem dX6_foretell_24 : decode cX6_foretell 24 = .ok (.iload_n 3, 1) := by decide +kernel
theorem dX6_foretell_25 : decode cX6_foretell 25 = .ok (.iload_n 2, 1) := by decide +kernel
theorem dX6_foretell_26 : decode cX6_foretell 26 = .ok (.if_icmp .ge 24, 3) := by decide +kernel
theorem dX6_foretell_29 : decode cX6_foretell 29 = .ok (.aload_n 0, 1) := by decide +kernel
theorem dX6_foretell_30 : decode cX6_foretell 30 = .ok (.getfield 40, 3) := by decide +kernel
theorem dX6_foretell_33 : decode cX6_foretell 33 = .ok (.aload_n 0, 1) := by decide +kernel
theorem dX6_foretell_34 : decode cX6_foretell 34 = .ok (.getfield 10, 3) := by decide +kernel
theorem dX6_foretell_37 : decode cX6_foretell 37 = .ok (.getfield 66, 3) := by decide +kernel
theorem dX6_foretell_40 : decode cX6_foretell 40 = .ok (.invokevirtual 194, 3) := by decide +kernel
theorem dX6_foretell_43 : decode cX6_foretell 43 = .ok (.pop, 1) := by decide +kernel
theorem dX6_foretell_44 : decode cX6_foretell 44 = .ok (.iinc 3 1, 3) := by decide +kernel
theorem dX6_foretell_47 : decode cX6_foretell 47 = .ok (.goto (-23), 3) := by decide +kernel
theorem dX6_foretell_50 : decode cX6_foretell 50 = .ok (.return_, 1) := by decide +kernel
theorem dX6_nobodyFalls_0 : decode cX6_nobodyFalls 0 = .ok (.iconst 0, 1) := by decide +kernel
theorem dX6_nobodyFalls_1 : decode cX6_nobodyFalls 1 = .ok (.istore_n 2, 1) := by decide +kernel
theorem dX6_nobodyFalls_2 : decode cX6_nobodyFalls 2 = .ok (.iload_n 2, 1) := by decide +kernel
theorem dX6_nobodyFalls_3 : decode cX6_nobodyFalls 3 = .ok (.iload_n 1, 1) := by decide +kernel
theorem dX6_nobodyFalls_4 : decode cX6_nobodyFalls 4 = .ok (.if_icmp .ge 28, 3) := by decide +kernel
theorem dX6_nobodyFalls_7 : decode cX6_nobodyFalls 7 = .ok (.aload_n 0, 1) := by decide +kernel
theorem dX6_nobodyFalls_8 : decode cX6_nobodyFalls 8 = .ok (.getfield 40, 3) := by decide +kernel
theorem dX6_nobodyFalls_11 : decode cX6_nobodyFalls 11 = .ok (.aload_n 0, 1) := by decide +kernel
theorem dX6_nobodyFalls_12 : decode cX6_nobodyFalls 12 = .ok (.getfield 10, 3) := by decide +kernel
theorem dX6_nobodyFalls_15 : decode cX6_nobodyFalls 15 = .ok (.getfield 66, 3) := by decide +kernel
theorem dX6_nobodyFalls_18 : decode cX6_nobodyFalls 18 = .ok (.invokevirtual 194, 3) := by decide +kernel
theorem dX6_nobodyFalls_21 : decode cX6_nobodyFalls 21 = .ok (.ifCond .eq 5, 3) := by decide +kernel
theorem dX6_nobodyFalls_24 : decode cX6_nobodyFalls 24 = .ok (.iconst 0, 1) := by decide +kernel
theorem dX6_nobodyFalls_25 : decode cX6_nobodyFalls 25 = .ok (.ireturn, 1) := by decide +kernel
theorem dX6_nobodyFalls_26 : decode cX6_nobodyFalls 26 = .ok (.iinc 2 1, 3) := by decide +kernel
theorem dX6_nobodyFalls_29 : decode cX6_nobodyFalls 29 = .ok (.goto (-27), 3) := by decide +kernel
theorem dX6_nobodyFalls_32 : decode cX6_nobodyFalls 32 = .ok (.iconst 1, 1) := by decide +kernel
theorem dX6_nobodyFalls_33 : decode cX6_nobodyFalls 33 = .ok (.ireturn, 1) := by decide +kernel
theorem dX6_firstHole_0 : decode cX6_firstHole 0 = .ok (.aload_n 0, 1) := by decide +kernel
theorem dX6_firstHole_1 : decode cX6_firstHole 1 = .ok (.getfield 40, 3) := by decide +kernel
theorem dX6_firstHole_4 : decode cX6_firstHole 4 = .ok (.aload_n 0, 1) := by decide +kernel
theorem dX6_firstHole_5 : decode cX6_firstHole 5 = .ok (.getfield 10, 3) := by decide +kernel
theorem dX6_firstHole_8 : decode cX6_firstHole 8 = .ok (.getfield 88, 3) := by decide +kernel
theorem dX6_firstHole_11 : decode cX6_firstHole 11 = .ok (.invokevirtual 206, 3) := by decide +kernel
theorem dX6_firstHole_14 : decode cX6_firstHole 14 = .ok (.aload_n 0, 1) := by decide +kernel
theorem dX6_firstHole_15 : decode cX6_firstHole 15 = .ok (.getfield 40, 3) := by decide +kernel
theorem dX6_firstHole_18 : decode cX6_firstHole 18 = .ok (.iload_n 1, 1) := by decide +kernel
theorem dX6_firstHole_19 : decode cX6_firstHole 19 = .ok (.putfield 111, 3) := by decide +kernel
theorem dX6_firstHole_22 : decode cX6_firstHole 22 = .ok (.iconst 0, 1) := by decide +kernel
theorem dX6_firstHole_23 : decode cX6_firstHole 23 = .ok (.istore_n 2, 1) := by decide +kernel
theorem dX6_firstHole_24 : decode cX6_firstHole 24 = .ok (.iload_n 2, 1) := by decide +kernel
theorem dX6_firstHole_25 : decode cX6_firstHole 25 = .ok (.bipush 60, 2) := by decide +kernel
theorem dX6_firstHole_27 : decode cX6_firstHole 27 = .ok (.if_icmp .gt 36, 3) := by decide +kernel
theorem dX6_firstHole_30 : decode cX6_firstHole 30 = .ok (.aload_n 0, 1) := by decide +kernel
theorem dX6_firstHole_31 : decode cX6_firstHole 31 = .ok (.getfield 40, 3) := by decide +kernel
theorem dX6_firstHole_34 : decode cX6_firstHole 34 = .ok (.invokevirtual 163, 3) := by decide +kernel
theorem dX6_firstHole_37 : decode cX6_firstHole 37 = .ok (.ifCond .eq 5, 3) := by decide +kernel
theorem dX6_firstHole_40 : decode cX6_firstHole 40 = .ok (.iload_n 2, 1) := by decide +kernel
theorem dX6_firstHole_41 : decode cX6_firstHole 41 = .ok (.ireturn, 1) := by decide +kernel
theorem dX6_firstHole_42 : decode cX6_firstHole 42 = .ok (.aload_n 0, 1) := by decide +kernel
theorem dX6_firstHole_43 : decode cX6_firstHole 43 = .ok (.getfield 40, 3) := by decide +kernel
theorem dX6_firstHole_46 : decode cX6_firstHole 46 = .ok (.aload_n 0, 1) := by decide +kernel
theorem dX6_firstHole_47 : decode cX6_firstHole 47 = .ok (.getfield 10, 3) := by decide +kernel
theorem dX6_firstHole_50 : decode cX6_firstHole 50 = .ok (.getfield 66, 3) := by decide +kernel
theorem dX6_firstHole_53 : decode cX6_firstHole 53 = .ok (.invokevirtual 194, 3) := by decide +kernel
theorem dX6_firstHole_56 : decode cX6_firstHole 56 = .ok (.pop, 1) := by decide +kernel
theorem dX6_firstHole_57 : decode cX6_firstHole 57 = .ok (.iinc 2 1, 3) := by decide +kernel
theorem dX6_firstHole_60 : decode cX6_firstHole 60 = .ok (.goto (-36), 3) := by decide +kernel
theorem dX6_firstHole_63 : decode cX6_firstHole 63 = .ok (.bipush (-4), 2) := by decide +kernel
theorem dX6_firstHole_65 : decode cX6_firstHole 65 = .ok (.ireturn, 1) := by decide +kernel
theorem dX6_weigh_0 : decode cX6_weigh 0 = .ok (.aload_n 0, 1) := by decide +kernel
theorem dX6_weigh_1 : decode cX6_weigh 1 = .ok (.iload_n 2, 1) := by decide +kernel
theorem dX6_weigh_2 : decode cX6_weigh 2 = .ok (.iload_n 3, 1) := by decide +kernel
theorem dX6_weigh_3 : decode cX6_weigh 3 = .ok (.invokevirtual 198, 3) := by decide +kernel
theorem dX6_weigh_6 : decode cX6_weigh 6 = .ok (.aload_n 0, 1) := by decide +kernel
theorem dX6_weigh_7 : decode cX6_weigh 7 = .ok (.getfield 54, 3) := by decide +kernel
theorem dX6_weigh_10 : decode cX6_weigh 10 = .ok (.iload_n 1, 1) := by decide +kernel
theorem dX6_weigh_11 : decode cX6_weigh 11 = .ok (.aload_n 0, 1) := by decide +kernel
theorem dX6_weigh_12 : decode cX6_weigh 12 = .ok (.getfield 40, 3) := by decide +kernel
theorem dX6_weigh_15 : decode cX6_weigh 15 = .ok (.getfield 156, 3) := by decide +kernel
theorem dX6_weigh_18 : decode cX6_weigh 18 = .ok (.aload_n 0, 1) := by decide +kernel
theorem dX6_weigh_19 : decode cX6_weigh 19 = .ok (.getfield 10, 3) := by decide +kernel
theorem dX6_weigh_22 : decode cX6_weigh 22 = .ok (.getfield 88, 3) := by decide +kernel
theorem dX6_weigh_25 : decode cX6_weigh 25 = .ok (.getfield 156, 3) := by decide +kernel
theorem dX6_weigh_28 : decode cX6_weigh 28 = .ok (.isub, 1) := by decide +kernel
theorem dX6_weigh_29 : decode cX6_weigh 29 = .ok (.aload_n 0, 1) := by decide +kernel
theorem dX6_weigh_30 : decode cX6_weigh 30 = .ok (.getfield 40, 3) := by decide +kernel
theorem dX6_weigh_33 : decode cX6_weigh 33 = .ok (.getfield 150, 3) := by decide +kernel
theorem dX6_weigh_36 : decode cX6_weigh 36 = .ok (.aload_n 0, 1) := by decide +kernel
theorem dX6_weigh_37 : decode cX6_weigh 37 = .ok (.getfield 10, 3) := by decide +kernel
theorem dX6_weigh_40 : decode cX6_weigh 40 = .ok (.getfield 88, 3) := by decide +kernel
theorem dX6_weigh_43 : decode cX6_weigh 43 = .ok (.getfield 150, 3) := by decide +kernel
theorem dX6_weigh_46 : decode cX6_weigh 46 = .ok (.isub, 1) := by decide +kernel
theorem dX6_weigh_47 : decode cX6_weigh 47 = .ok (.invokevirtual 244, 3) := by decide +kernel
theorem dX6_weigh_50 : decode cX6_weigh 50 = .ok (.return_, 1) := by decide +kernel
theorem dX6_bestTurn_0 : decode cX6_bestTurn 0 = .ok (.iload_n 1, 1) := by decide +kernel
theorem dX6_bestTurn_1 : decode cX6_bestTurn 1 = .ok (.iconst 1, 1) := by decide +kernel
theorem dX6_bestTurn_2 : decode cX6_bestTurn 2 = .ok (.bipush 40, 2) := by decide +kernel
theorem dX6_bestTurn_4 : decode cX6_bestTurn 4 = .ok (.invokestatic 62, 3) := by decide +kernel
theorem dX6_bestTurn_7 : decode cX6_bestTurn 7 = .ok (.ifCond .ne 5, 3) := by decide +kernel
theorem dX6_bestTurn_10 : decode cX6_bestTurn 10 = .ok (.iconst (-1), 1) := by decide +kernel
theorem dX6_bestTurn_11 : decode cX6_bestTurn 11 = .ok (.ireturn, 1) := by decide +kernel
theorem dX6_bestTurn_12 : decode cX6_bestTurn 12 = .ok (.aload_n 0, 1) := by decide +kernel
theorem dX6_bestTurn_13 : decode cX6_bestTurn 13 = .ok (.getfield 10, 3) := by decide +kernel
theorem dX6_bestTurn_16 : decode cX6_bestTurn 16 = .ok (.getfield 88, 3) := by decide +kernel
theorem dX6_bestTurn_19 : decode cX6_bestTurn 19 = .ok (.getfield 111, 3) := by decide +kernel
theorem dX6_bestTurn_22 : decode cX6_bestTurn 22 = .ok (.istore_n 3, 1) := by decide +kernel
theorem dX6_bestTurn_23 : decode cX6_bestTurn 23 = .ok (.aload_n 0, 1) := by decide +kernel
theorem dX6_bestTurn_24 : decode cX6_bestTurn 24 = .ok (.getfield 54, 3) := by decide +kernel
theorem dX6_bestTurn_27 : decode cX6_bestTurn 27 = .ok (.invokevirtual 213, 3) := by decide +kernel
theorem dX6_bestTurn_30 : decode cX6_bestTurn 30 = .ok (.iconst 0, 1) := by decide +kernel
theorem dX6_bestTurn_31 : decode cX6_bestTurn 31 = .ok (.istore 4, 2) := by decide +kernel
theorem dX6_bestTurn_33 : decode cX6_bestTurn 33 = .ok (.iload 4, 2) := by decide +kernel
theorem dX6_bestTurn_35 : decode cX6_bestTurn 35 = .ok (.bipush 6, 2) := by decide +kernel
theorem dX6_bestTurn_37 : decode cX6_bestTurn 37 = .ok (.if_icmp .ge 32, 3) := by decide +kernel
theorem dX6_bestTurn_40 : decode cX6_bestTurn 40 = .ok (.iload 4, 2) := by decide +kernel
theorem dX6_bestTurn_42 : decode cX6_bestTurn 42 = .ok (.iload_n 3, 1) := by decide +kernel
theorem dX6_bestTurn_43 : decode cX6_bestTurn 43 = .ok (.invokestatic 210, 3) := by decide +kernel
theorem dX6_bestTurn_46 : decode cX6_bestTurn 46 = .ok (.iload_n 2, 1) := by decide +kernel
theorem dX6_bestTurn_47 : decode cX6_bestTurn 47 = .ok (.if_icmp .ne 16, 3) := by decide +kernel
theorem dX6_bestTurn_50 : decode cX6_bestTurn 50 = .ok (.aload_n 0, 1) := by decide +kernel
theorem dX6_bestTurn_51 : decode cX6_bestTurn 51 = .ok (.iload 4, 2) := by decide +kernel
theorem dX6_bestTurn_53 : decode cX6_bestTurn 53 = .ok (.iload_n 3, 1) := by decide +kernel
theorem dX6_bestTurn_54 : decode cX6_bestTurn 54 = .ok (.iconst 1, 1) := by decide +kernel
theorem dX6_bestTurn_55 : decode cX6_bestTurn 55 = .ok (.iload 4, 2) := by decide +kernel
theorem dX6_bestTurn_57 : decode cX6_bestTurn 57 = .ok (.ishl, 1) := by decide +kernel
theorem dX6_bestTurn_58 : decode cX6_bestTurn 58 = .ok (.ixor, 1) := by decide +kernel
theorem dX6_bestTurn_59 : decode cX6_bestTurn 59 = .ok (.iload_n 1, 1) := by decide +kernel
theorem dX6_bestTurn_60 : decode cX6_bestTurn 60 = .ok (.invokevirtual 214, 3) := by decide +kernel
theorem dX6_bestTurn_63 : decode cX6_bestTurn 63 = .ok (.iinc 4 1, 3) := by decide +kernel
theorem dX6_bestTurn_66 : decode cX6_bestTurn 66 = .ok (.goto (-33), 3) := by decide +kernel
theorem dX6_bestTurn_69 : decode cX6_bestTurn 69 = .ok (.aload_n 0, 1) := by decide +kernel
theorem dX6_bestTurn_70 : decode cX6_bestTurn 70 = .ok (.getfield 54, 3) := by decide +kernel
theorem dX6_bestTurn_73 : decode cX6_bestTurn 73 = .ok (.getfield 217, 3) := by decide +kernel
theorem dX6_bestTurn_76 : decode cX6_bestTurn 76 = .ok (.ireturn, 1) := by decide +kernel
theorem dX6_chance_0 : decode cX6_chance 0 = .ok (.iconst 1, 1) := by decide +kernel
theorem dX6_chance_1 : decode cX6_chance 1 = .ok (.istore_n 2, 1) := by decide +kernel
theorem dX6_chance_2 : decode cX6_chance 2 = .ok (.iconst 0, 1) := by decide +kernel
theorem dX6_chance_3 : decode cX6_chance 3 = .ok (.istore_n 3, 1) := by decide +kernel
theorem dX6_chance_4 : decode cX6_chance 4 = .ok (.iload_n 3, 1) := by decide +kernel
theorem dX6_chance_5 : decode cX6_chance 5 = .ok (.iconst 4, 1) := by decide +kernel
theorem dX6_chance_6 : decode cX6_chance 6 = .ok (.if_icmp .ge 28, 3) := by decide +kernel
theorem dX6_chance_9 : decode cX6_chance 9 = .ok (.iload_n 2, 1) := by decide +kernel
theorem dX6_chance_10 : decode cX6_chance 10 = .ok (.iload_n 3, 1) := by decide +kernel
theorem dX6_chance_11 : decode cX6_chance 11 = .ok (.iload_n 0, 1) := by decide +kernel
theorem dX6_chance_12 : decode cX6_chance 12 = .ok (.invokestatic 210, 3) := by decide +kernel
theorem dX6_chance_15 : decode cX6_chance 15 = .ok (.ifCond .eq 7, 3) := by decide +kernel
theorem dX6_chance_18 : decode cX6_chance 18 = .ok (.iload_n 1, 1) := by decide +kernel
theorem dX6_chance_19 : decode cX6_chance 19 = .ok (.goto 7, 3) := by decide +kernel
theorem dX6_chance_22 : decode cX6_chance 22 = .ok (.bipush 10, 2) := by decide +kernel
theorem dX6_chance_24 : decode cX6_chance 24 = .ok (.iload_n 1, 1) := by decide +kernel
theorem dX6_chance_25 : decode cX6_chance 25 = .ok (.isub, 1) := by decide +kernel
theorem dX6_chance_26 : decode cX6_chance 26 = .ok (.imul, 1) := by decide +kernel
theorem dX6_chance_27 : decode cX6_chance 27 = .ok (.istore_n 2, 1) := by decide +kernel
theorem dX6_chance_28 : decode cX6_chance 28 = .ok (.iinc 3 1, 3) := by decide +kernel
theorem dX6_chance_31 : decode cX6_chance 31 = .ok (.goto (-27), 3) := by decide +kernel
theorem dX6_chance_34 : decode cX6_chance 34 = .ok (.iload_n 2, 1) := by decide +kernel
theorem dX6_chance_35 : decode cX6_chance 35 = .ok (.ireturn, 1) := by decide +kernel
theorem dX6_isDryAfter_0 : decode cX6_isDryAfter 0 = .ok (.aload_n 0, 1) := by decide +kernel
theorem dX6_isDryAfter_1 : decode cX6_isDryAfter 1 = .ok (.getfield 40, 3) := by decide +kernel
theorem dX6_isDryAfter_4 : decode cX6_isDryAfter 4 = .ok (.aload_n 0, 1) := by decide +kernel
theorem dX6_isDryAfter_5 : decode cX6_isDryAfter 5 = .ok (.getfield 10, 3) := by decide +kernel
theorem dX6_isDryAfter_8 : decode cX6_isDryAfter 8 = .ok (.getfield 88, 3) := by decide +kernel
theorem dX6_isDryAfter_11 : decode cX6_isDryAfter 11 = .ok (.invokevirtual 206, 3) := by decide +kernel
theorem dX6_isDryAfter_14 : decode cX6_isDryAfter 14 = .ok (.iconst 0, 1) := by decide +kernel
theorem dX6_isDryAfter_15 : decode cX6_isDryAfter 15 = .ok (.istore_n 2, 1) := by decide +kernel
theorem dX6_isDryAfter_16 : decode cX6_isDryAfter 16 = .ok (.iload_n 2, 1) := by decide +kernel
theorem dX6_isDryAfter_17 : decode cX6_isDryAfter 17 = .ok (.iconst 4, 1) := by decide +kernel
theorem dX6_isDryAfter_18 : decode cX6_isDryAfter 18 = .ok (.if_icmp .ge 26, 3) := by decide +kernel
theorem dX6_isDryAfter_21 : decode cX6_isDryAfter 21 = .ok (.iload_n 2, 1) := by decide +kernel
theorem dX6_isDryAfter_22 : decode cX6_isDryAfter 22 = .ok (.iload_n 1, 1) := by decide +kernel
theorem dX6_isDryAfter_23 : decode cX6_isDryAfter 23 = .ok (.invokestatic 210, 3) := by decide +kernel
theorem dX6_isDryAfter_26 : decode cX6_isDryAfter 26 = .ok (.ifCond .eq 12, 3) := by decide +kernel
theorem dX6_isDryAfter_29 : decode cX6_isDryAfter 29 = .ok (.aload_n 0, 1) := by decide +kernel
theorem dX6_isDryAfter_30 : decode cX6_isDryAfter 30 = .ok (.getfield 40, 3) := by decide +kernel
theorem dX6_isDryAfter_33 : decode cX6_isDryAfter 33 = .ok (.iload_n 2, 1) := by decide +kernel
theorem dX6_isDryAfter_34 : decode cX6_isDryAfter 34 = .ok (.iconst 5, 1) := by decide +kernel
theorem dX6_isDryAfter_35 : decode cX6_isDryAfter 35 = .ok (.invokevirtual 247, 3) := by decide +kernel
theorem dX6_isDryAfter_38 : decode cX6_isDryAfter 38 = .ok (.iinc 2 1, 3) := by decide +kernel
theorem dX6_isDryAfter_41 : decode cX6_isDryAfter 41 = .ok (.goto (-25), 3) := by decide +kernel
theorem dX6_isDryAfter_44 : decode cX6_isDryAfter 44 = .ok (.aload_n 0, 1) := by decide +kernel
theorem dX6_isDryAfter_45 : decode cX6_isDryAfter 45 = .ok (.iconst 1, 1) := by decide +kernel
theorem dX6_isDryAfter_46 : decode cX6_isDryAfter 46 = .ok (.invokevirtual 229, 3) := by decide +kernel
theorem dX6_isDryAfter_49 : decode cX6_isDryAfter 49 = .ok (.ireturn, 1) := by decide +kernel
theorem dX6_commonDivisor_0 : decode cX6_commonDivisor 0 = .ok (.iload_n 1, 1) := by decide +kernel
theorem dX6_commonDivisor_1 : decode cX6_commonDivisor 1 = .ok (.istore_n 2, 1) := by decide +kernel
theorem dX6_commonDivisor_2 : decode cX6_commonDivisor 2 = .ok (.iload_n 0, 1) := by decide +kernel
theorem dX6_commonDivisor_3 : decode cX6_commonDivisor 3 = .ok (.istore_n 3, 1) := by decide +kernel
theorem dX6_commonDivisor_4 : decode cX6_commonDivisor 4 = .ok (.iconst 0, 1) := by decide +kernel
theorem dX6_commonDivisor_5 : decode cX6_commonDivisor 5 = .ok (.istore 4, 2) := by decide +kernel
theorem dX6_commonDivisor_7 : decode cX6_commonDivisor 7 = .ok (.iload 4, 2) := by decide +kernel
theorem dX6_commonDivisor_9 : decode cX6_commonDivisor 9 = .ok (.bipush 100, 2) := by decide +kernel
theorem dX6_commonDivisor_11 : decode cX6_commonDivisor 11 = .ok (.if_icmp .ge 23, 3) := by decide +kernel
theorem dX6_commonDivisor_14 : decode cX6_commonDivisor 14 = .ok (.iload_n 3, 1) := by decide +kernel
theorem dX6_commonDivisor_15 : decode cX6_commonDivisor 15 = .ok (.ifCond .eq 19, 3) := by decide +kernel
theorem dX6_commonDivisor_18 : decode cX6_commonDivisor 18 = .ok (.iload_n 2, 1) := by decide +kernel
theorem dX6_commonDivisor_19 : decode cX6_commonDivisor 19 = .ok (.iload_n 3, 1) := by decide +kernel
theorem dX6_commonDivisor_20 : decode cX6_commonDivisor 20 = .ok (.irem, 1) := by decide +kernel
theorem dX6_commonDivisor_21 : decode cX6_commonDivisor 21 = .ok (.istore 5, 2) := by decide +kernel
theorem dX6_commonDivisor_23 : decode cX6_commonDivisor 23 = .ok (.iload_n 3, 1) := by decide +kernel
theorem dX6_commonDivisor_24 : decode cX6_commonDivisor 24 = .ok (.istore_n 2, 1) := by decide +kernel
theorem dX6_commonDivisor_25 : decode cX6_commonDivisor 25 = .ok (.iload 5, 2) := by decide +kernel
theorem dX6_commonDivisor_27 : decode cX6_commonDivisor 27 = .ok (.istore_n 3, 1) := by decide +kernel
theorem dX6_commonDivisor_28 : decode cX6_commonDivisor 28 = .ok (.iinc 4 1, 3) := by decide +kernel
theorem dX6_commonDivisor_31 : decode cX6_commonDivisor 31 = .ok (.goto (-24), 3) := by decide +kernel
theorem dX6_commonDivisor_34 : decode cX6_commonDivisor 34 = .ok (.iload_n 2, 1) := by decide +kernel
theorem dX6_commonDivisor_35 : decode cX6_commonDivisor 35 = .ok (.ireturn, 1) := by decide +kernel
theorem dX6_lists_0 : decode cX6_lists 0 = .ok (.iload_n 1, 1) := by decide +kernel
theorem dX6_lists_1 : decode cX6_lists 1 = .ok (.iconst 4, 1) := by decide +kernel
theorem dX6_lists_2 : decode cX6_lists 2 = .ok (.invokestatic 58, 3) := by decide +kernel
theorem dX6_lists_5 : decode cX6_lists 5 = .ok (.ifCond .eq 31, 3) := by decide +kernel
theorem dX6_lists_8 : decode cX6_lists 8 = .ok (.iload_n 2, 1) := by decide +kernel
theorem dX6_lists_9 : decode cX6_lists 9 = .ok (.iload_n 3, 1) := by decide +kernel
theorem dX6_lists_10 : decode cX6_lists 10 = .ok (.invokestatic 250, 3) := by decide +kernel
theorem dX6_lists_13 : decode cX6_lists 13 = .ok (.ifCond .eq 23, 3) := by decide +kernel
theorem dX6_lists_16 : decode cX6_lists 16 = .ok (.iload 5, 2) := by decide +kernel
theorem dX6_lists_18 : decode cX6_lists 18 = .ok (.iconst 1, 1) := by decide +kernel
theorem dX6_lists_19 : decode cX6_lists 19 = .ok (.bipush 8, 2) := by decide +kernel
theorem dX6_lists_21 : decode cX6_lists 21 = .ok (.invokestatic 62, 3) := by decide +kernel
theorem dX6_lists_24 : decode cX6_lists 24 = .ok (.ifCond .eq 12, 3) := by decide +kernel
theorem dX6_lists_27 : decode cX6_lists 27 = .ok (.iload 6, 2) := by decide +kernel
theorem dX6_lists_29 : decode cX6_lists 29 = .ok (.iconst 2, 1) := by decide +kernel
theorem dX6_lists_30 : decode cX6_lists 30 = .ok (.invokestatic 58, 3) := by decide +kernel
theorem dX6_lists_33 : decode cX6_lists 33 = .ok (.ifCond .ne 5, 3) := by decide +kernel
theorem dX6_lists_36 : decode cX6_lists 36 = .ok (.iconst (-1), 1) := by decide +kernel
theorem dX6_lists_37 : decode cX6_lists 37 = .ok (.ireturn, 1) := by decide +kernel
theorem dX6_lists_38 : decode cX6_lists 38 = .ok (.aload_n 0, 1) := by decide +kernel
theorem dX6_lists_39 : decode cX6_lists 39 = .ok (.getfield 32, 3) := by decide +kernel
theorem dX6_lists_42 : decode cX6_lists 42 = .ok (.iload_n 2, 1) := by decide +kernel
theorem dX6_lists_43 : decode cX6_lists 43 = .ok (.aaload, 1) := by decide +kernel
theorem dX6_lists_44 : decode cX6_lists 44 = .ok (.iload_n 3, 1) := by decide +kernel
theorem dX6_lists_45 : decode cX6_lists 45 = .ok (.iload 4, 2) := by decide +kernel
theorem dX6_lists_47 : decode cX6_lists 47 = .ok (.iload 5, 2) := by decide +kernel
theorem dX6_lists_49 : decode cX6_lists 49 = .ok (.invokevirtual 253, 3) := by decide +kernel
theorem dX6_lists_52 : decode cX6_lists 52 = .ok (.istore 7, 2) := by decide +kernel
theorem dX6_lists_54 : decode cX6_lists 54 = .ok (.iload 7, 2) := by decide +kernel
theorem dX6_lists_56 : decode cX6_lists 56 = .ok (.ifCond .eq 6, 3) := by decide +kernel
theorem dX6_lists_59 : decode cX6_lists 59 = .ok (.iload 7, 2) := by decide +kernel
theorem dX6_lists_61 : decode cX6_lists 61 = .ok (.ireturn, 1) := by decide +kernel
theorem dX6_lists_62 : decode cX6_lists 62 = .ok (.iconst 0, 1) := by decide +kernel
theorem dX6_lists_63 : decode cX6_lists 63 = .ok (.istore 8, 2) := by decide +kernel
theorem dX6_lists_65 : decode cX6_lists 65 = .ok (.bipush (-4), 2) := by decide +kernel
theorem dX6_lists_67 : decode cX6_lists 67 = .ok (.istore 9, 2) := by decide +kernel
theorem dX6_lists_69 : decode cX6_lists 69 = .ok (.bipush 63, 2) := by decide +kernel
theorem dX6_lists_71 : decode cX6_lists 71 = .ok (.istore 10, 2) := by decide +kernel
theorem dX6_lists_73 : decode cX6_lists 73 = .ok (.iload 10, 2) := by decide +kernel
theorem dX6_lists_75 : decode cX6_lists 75 = .ok (.ifCond .lt 43, 3) := by decide +kernel
theorem dX6_lists_78 : decode cX6_lists 78 = .ok (.aload_n 0, 1) := by decide +kernel
theorem dX6_lists_79 : decode cX6_lists 79 = .ok (.iload_n 1, 1) := by decide +kernel
theorem dX6_lists_80 : decode cX6_lists 80 = .ok (.aload_n 0, 1) := by decide +kernel
theorem dX6_lists_81 : decode cX6_lists 81 = .ok (.getfield 32, 3) := by decide +kernel
theorem dX6_lists_84 : decode cX6_lists 84 = .ok (.iload_n 2, 1) := by decide +kernel
theorem dX6_lists_85 : decode cX6_lists 85 = .ok (.aaload, 1) := by decide +kernel
theorem dX6_lists_86 : decode cX6_lists 86 = .ok (.iload 4, 2) := by decide +kernel
theorem dX6_lists_88 : decode cX6_lists 88 = .ok (.iload 5, 2) := by decide +kernel
theorem dX6_lists_90 : decode cX6_lists 90 = .ok (.iload 10, 2) := by decide +kernel
theorem dX6_lists_92 : decode cX6_lists 92 = .ok (.aload_n 0, 1) := by decide +kernel
theorem dX6_lists_93 : decode cX6_lists 93 = .ok (.getfield 10, 3) := by decide +kernel
theorem dX6_lists_96 : decode cX6_lists 96 = .ok (.getfield 66, 3) := by decide +kernel
theorem dX6_lists_99 : decode cX6_lists 99 = .ok (.invokevirtual 256, 3) := by decide +kernel
theorem dX6_lists_102 : decode cX6_lists 102 = .ok (.ifCond .eq 10, 3) := by decide +kernel
theorem dX6_lists_105 : decode cX6_lists 105 = .ok (.iinc 8 1, 3) := by decide +kernel
theorem dX6_lists_108 : decode cX6_lists 108 = .ok (.iload 10, 2) := by decide +kernel
theorem dX6_lists_110 : decode cX6_lists 110 = .ok (.istore 9, 2) := by decide +kernel
theorem dX6_lists_112 : decode cX6_lists 112 = .ok (.iinc 10 (-1), 3) := by decide +kernel
theorem dX6_lists_115 : decode cX6_lists 115 = .ok (.goto (-42), 3) := by decide +kernel
theorem dX6_lists_118 : decode cX6_lists 118 = .ok (.iload 6, 2) := by decide +kernel
theorem dX6_lists_120 : decode cX6_lists 120 = .ok (.ifCond .ne 8, 3) := by decide +kernel
theorem dX6_lists_123 : decode cX6_lists 123 = .ok (.iload 8, 2) := by decide +kernel
theorem dX6_lists_125 : decode cX6_lists 125 = .ok (.goto 5, 3) := by decide +kernel
theorem dX6_lists_128 : decode cX6_lists 128 = .ok (.iload 9, 2) := by decide +kernel
theorem dX6_lists_130 : decode cX6_lists 130 = .ok (.ireturn, 1) := by decide +kernel
theorem dX6_seen_0 : decode cX6_seen 0 = .ok (.iload_n 1, 1) := by decide +kernel
theorem dX6_seen_1 : decode cX6_seen 1 = .ok (.iconst 4, 1) := by decide +kernel
theorem dX6_seen_2 : decode cX6_seen 2 = .ok (.invokestatic 58, 3) := by decide +kernel
theorem dX6_seen_5 : decode cX6_seen 5 = .ok (.ifCond .eq 40, 3) := by decide +kernel
theorem dX6_seen_8 : decode cX6_seen 8 = .ok (.aload_n 0, 1) := by decide +kernel
theorem dX6_seen_9 : decode cX6_seen 9 = .ok (.iload_n 2, 1) := by decide +kernel
theorem dX6_seen_10 : decode cX6_seen 10 = .ok (.invokevirtual 84, 3) := by decide +kernel
theorem dX6_seen_13 : decode cX6_seen 13 = .ok (.ifCond .eq 32, 3) := by decide +kernel
theorem dX6_seen_16 : decode cX6_seen 16 = .ok (.iload_n 3, 1) := by decide +kernel
theorem dX6_seen_17 : decode cX6_seen 17 = .ok (.iload 4, 2) := by decide +kernel
theorem dX6_seen_19 : decode cX6_seen 19 = .ok (.invokestatic 250, 3) := by decide +kernel
theorem dX6_seen_22 : decode cX6_seen 22 = .ok (.ifCond .eq 23, 3) := by decide +kernel
theorem dX6_seen_25 : decode cX6_seen 25 = .ok (.iload 6, 2) := by decide +kernel
theorem dX6_seen_27 : decode cX6_seen 27 = .ok (.iconst 1, 1) := by decide +kernel
theorem dX6_seen_28 : decode cX6_seen 28 = .ok (.bipush 8, 2) := by decide +kernel
theorem dX6_seen_30 : decode cX6_seen 30 = .ok (.invokestatic 62, 3) := by decide +kernel
theorem dX6_seen_33 : decode cX6_seen 33 = .ok (.ifCond .eq 12, 3) := by decide +kernel
theorem dX6_seen_36 : decode cX6_seen 36 = .ok (.iload 7, 2) := by decide +kernel
theorem dX6_seen_38 : decode cX6_seen 38 = .ok (.iconst 2, 1) := by decide +kernel
theorem dX6_seen_39 : decode cX6_seen 39 = .ok (.invokestatic 58, 3) := by decide +kernel
theorem dX6_seen_42 : decode cX6_seen 42 = .ok (.ifCond .ne 5, 3) := by decide +kernel
theorem dX6_seen_45 : decode cX6_seen 45 = .ok (.iconst (-1), 1) := by decide +kernel
theorem dX6_seen_46 : decode cX6_seen 46 = .ok (.ireturn, 1) := by decide +kernel
theorem dX6_seen_47 : decode cX6_seen 47 = .ok (.aload_n 0, 1) := by decide +kernel
theorem dX6_seen_48 : decode cX6_seen 48 = .ok (.getfield 32, 3) := by decide +kernel
theorem dX6_seen_51 : decode cX6_seen 51 = .ok (.iload_n 3, 1) := by decide +kernel
theorem dX6_seen_52 : decode cX6_seen 52 = .ok (.aaload, 1) := by decide +kernel
theorem dX6_seen_53 : decode cX6_seen 53 = .ok (.iload 4, 2) := by decide +kernel
theorem dX6_seen_55 : decode cX6_seen 55 = .ok (.iload 5, 2) := by decide +kernel
theorem dX6_seen_57 : decode cX6_seen 57 = .ok (.iload 6, 2) := by decide +kernel
theorem dX6_seen_59 : decode cX6_seen 59 = .ok (.invokevirtual 253, 3) := by decide +kernel
theorem dX6_seen_62 : decode cX6_seen 62 = .ok (.istore 8, 2) := by decide +kernel
theorem dX6_seen_64 : decode cX6_seen 64 = .ok (.iload 8, 2) := by decide +kernel
theorem dX6_seen_66 : decode cX6_seen 66 = .ok (.ifCond .eq 6, 3) := by decide +kernel
theorem dX6_seen_69 : decode cX6_seen 69 = .ok (.iload 8, 2) := by decide +kernel
theorem dX6_seen_71 : decode cX6_seen 71 = .ok (.ireturn, 1) := by decide +kernel
theorem dX6_seen_72 : decode cX6_seen 72 = .ok (.iload 7, 2) := by decide +kernel
theorem dX6_seen_74 : decode cX6_seen 74 = .ok (.ifCond .ne 22, 3) := by decide +kernel
theorem dX6_seen_77 : decode cX6_seen 77 = .ok (.aload_n 0, 1) := by decide +kernel
theorem dX6_seen_78 : decode cX6_seen 78 = .ok (.iload_n 1, 1) := by decide +kernel
theorem dX6_seen_79 : decode cX6_seen 79 = .ok (.iload_n 2, 1) := by decide +kernel
theorem dX6_seen_80 : decode cX6_seen 80 = .ok (.aload_n 0, 1) := by decide +kernel
theorem dX6_seen_81 : decode cX6_seen 81 = .ok (.getfield 32, 3) := by decide +kernel
theorem dX6_seen_84 : decode cX6_seen 84 = .ok (.iload_n 3, 1) := by decide +kernel
theorem dX6_seen_85 : decode cX6_seen 85 = .ok (.aaload, 1) := by decide +kernel
theorem dX6_seen_86 : decode cX6_seen 86 = .ok (.iload 5, 2) := by decide +kernel
theorem dX6_seen_88 : decode cX6_seen 88 = .ok (.iload 6, 2) := by decide +kernel
theorem dX6_seen_90 : decode cX6_seen 90 = .ok (.invokevirtual 260, 3) := by decide +kernel
theorem dX6_seen_93 : decode cX6_seen 93 = .ok (.goto 19, 3) := by decide +kernel
theorem dX6_seen_96 : decode cX6_seen 96 = .ok (.aload_n 0, 1) := by decide +kernel
theorem dX6_seen_97 : decode cX6_seen 97 = .ok (.iload_n 1, 1) := by decide +kernel
theorem dX6_seen_98 : decode cX6_seen 98 = .ok (.iload_n 2, 1) := by decide +kernel
theorem dX6_seen_99 : decode cX6_seen 99 = .ok (.aload_n 0, 1) := by decide +kernel
theorem dX6_seen_100 : decode cX6_seen 100 = .ok (.getfield 32, 3) := by decide +kernel
theorem dX6_seen_103 : decode cX6_seen 103 = .ok (.iload_n 3, 1) := by decide +kernel
theorem dX6_seen_104 : decode cX6_seen 104 = .ok (.aaload, 1) := by decide +kernel
theorem dX6_seen_105 : decode cX6_seen 105 = .ok (.iload 5, 2) := by decide +kernel
theorem dX6_seen_107 : decode cX6_seen 107 = .ok (.iload 6, 2) := by decide +kernel
theorem dX6_seen_109 : decode cX6_seen 109 = .ok (.invokevirtual 264, 3) := by decide +kernel
theorem dX6_seen_112 : decode cX6_seen 112 = .ok (.ireturn, 1) := by decide +kernel
theorem dX6_film_0 : decode cX6_film 0 = .ok (.iload_n 1, 1) := by decide +kernel
theorem dX6_film_1 : decode cX6_film 1 = .ok (.iconst 4, 1) := by decide +kernel
theorem dX6_film_2 : decode cX6_film 2 = .ok (.invokestatic 58, 3) := by decide +kernel
theorem dX6_film_5 : decode cX6_film 5 = .ok (.ifCond .eq 22, 3) := by decide +kernel
theorem dX6_film_8 : decode cX6_film 8 = .ok (.iload_n 2, 1) := by decide +kernel
theorem dX6_film_9 : decode cX6_film 9 = .ok (.iconst 1, 1) := by decide +kernel
theorem dX6_film_10 : decode cX6_film 10 = .ok (.bipush 24, 2) := by decide +kernel
theorem dX6_film_12 : decode cX6_film 12 = .ok (.invokestatic 62, 3) := by decide +kernel
theorem dX6_film_15 : decode cX6_film 15 = .ok (.ifCond .eq 12, 3) := by decide +kernel
theorem dX6_film_18 : decode cX6_film 18 = .ok (.iload_n 3, 1) := by decide +kernel
theorem dX6_film_19 : decode cX6_film 19 = .ok (.iload 4, 2) := by decide +kernel
theorem dX6_film_21 : decode cX6_film 21 = .ok (.invokestatic 250, 3) := by decide +kernel
theorem dX6_film_24 : decode cX6_film 24 = .ok (.ifCond .ne 5, 3) := by decide +kernel
theorem dX6_film_27 : decode cX6_film 27 = .ok (.iconst (-1), 1) := by decide +kernel
theorem dX6_film_28 : decode cX6_film 28 = .ok (.ireturn, 1) := by decide +kernel
theorem dX6_film_29 : decode cX6_film 29 = .ok (.aload_n 0, 1) := by decide +kernel
theorem dX6_film_30 : decode cX6_film 30 = .ok (.getfield 32, 3) := by decide +kernel
theorem dX6_film_33 : decode cX6_film 33 = .ok (.iload_n 3, 1) := by decide +kernel
theorem dX6_film_34 : decode cX6_film 34 = .ok (.aaload, 1) := by decide +kernel
theorem dX6_film_35 : decode cX6_film 35 = .ok (.astore 6, 2) := by decide +kernel
theorem dX6_film_37 : decode cX6_film 37 = .ok (.aload 6, 2) := by decide +kernel
theorem dX6_film_39 : decode cX6_film 39 = .ok (.iload 4, 2) := by decide +kernel
theorem dX6_film_41 : decode cX6_film 41 = .ok (.iload 5, 2) := by decide +kernel
theorem dX6_film_43 : decode cX6_film 43 = .ok (.iload_n 2, 1) := by decide +kernel
theorem dX6_film_44 : decode cX6_film 44 = .ok (.invokevirtual 253, 3) := by decide +kernel
theorem dX6_film_47 : decode cX6_film 47 = .ok (.istore 7, 2) := by decide +kernel
theorem dX6_film_49 : decode cX6_film 49 = .ok (.iload 7, 2) := by decide +kernel
theorem dX6_film_51 : decode cX6_film 51 = .ok (.ifCond .eq 6, 3) := by decide +kernel
theorem dX6_film_54 : decode cX6_film 54 = .ok (.iload 7, 2) := by decide +kernel
theorem dX6_film_56 : decode cX6_film 56 = .ok (.ireturn, 1) := by decide +kernel
theorem dX6_film_57 : decode cX6_film 57 = .ok (.aload_n 0, 1) := by decide +kernel
theorem dX6_film_58 : decode cX6_film 58 = .ok (.getfield 40, 3) := by decide +kernel
theorem dX6_film_61 : decode cX6_film 61 = .ok (.aload_n 0, 1) := by decide +kernel
theorem dX6_film_62 : decode cX6_film 62 = .ok (.getfield 10, 3) := by decide +kernel
theorem dX6_film_65 : decode cX6_film 65 = .ok (.getfield 88, 3) := by decide +kernel
theorem dX6_film_68 : decode cX6_film 68 = .ok (.invokevirtual 206, 3) := by decide +kernel
theorem dX6_film_71 : decode cX6_film 71 = .ok (.iconst 0, 1) := by decide +kernel
theorem dX6_film_72 : decode cX6_film 72 = .ok (.istore 8, 2) := by decide +kernel
theorem dX6_film_74 : decode cX6_film 74 = .ok (.iload 8, 2) := by decide +kernel
theorem dX6_film_76 : decode cX6_film 76 = .ok (.iload_n 2, 1) := by decide +kernel
theorem dX6_film_77 : decode cX6_film 77 = .ok (.if_icmp .ge 45, 3) := by decide +kernel
theorem dX6_film_80 : decode cX6_film 80 = .ok (.aload_n 0, 1) := by decide +kernel
theorem dX6_film_81 : decode cX6_film 81 = .ok (.getfield 40, 3) := by decide +kernel
theorem dX6_film_84 : decode cX6_film 84 = .ok (.aload_n 0, 1) := by decide +kernel
theorem dX6_film_85 : decode cX6_film 85 = .ok (.getfield 10, 3) := by decide +kernel
theorem dX6_film_88 : decode cX6_film 88 = .ok (.getfield 66, 3) := by decide +kernel
theorem dX6_film_91 : decode cX6_film 91 = .ok (.invokevirtual 194, 3) := by decide +kernel
theorem dX6_film_94 : decode cX6_film 94 = .ok (.pop, 1) := by decide +kernel
theorem dX6_film_95 : decode cX6_film 95 = .ok (.aload 6, 2) := by decide +kernel
theorem dX6_film_97 : decode cX6_film 97 = .ok (.getfield 267, 3) := by decide +kernel
theorem dX6_film_100 : decode cX6_film 100 = .ok (.iload 5, 2) := by decide +kernel
theorem dX6_film_102 : decode cX6_film 102 = .ok (.iload 8, 2) := by decide +kernel
theorem dX6_film_104 : decode cX6_film 104 = .ok (.iadd, 1) := by decide +kernel
theorem dX6_film_105 : decode cX6_film 105 = .ok (.aload_n 0, 1) := by decide +kernel
theorem dX6_film_106 : decode cX6_film 106 = .ok (.getfield 40, 3) := by decide +kernel
theorem dX6_film_109 : decode cX6_film 109 = .ok (.getfield 125, 3) := by decide +kernel
theorem dX6_film_112 : decode cX6_film 112 = .ok (.iload_n 1, 1) := by decide +kernel
theorem dX6_film_113 : decode cX6_film 113 = .ok (.iaload, 1) := by decide +kernel
theorem dX6_film_114 : decode cX6_film 114 = .ok (.i2l, 1) := by decide +kernel
theorem dX6_film_115 : decode cX6_film 115 = .ok (.lastore, 1) := by decide +kernel
theorem dX6_film_116 : decode cX6_film 116 = .ok (.iinc 8 1, 3) := by decide +kernel
theorem dX6_film_119 : decode cX6_film 119 = .ok (.goto (-45), 3) := by decide +kernel
theorem dX6_film_122 : decode cX6_film 122 = .ok (.iload_n 2, 1) := by decide +kernel
theorem dX6_film_123 : decode cX6_film 123 = .ok (.ireturn, 1) := by decide +kernel
theorem dX6_sheet_0 : decode cX6_sheet 0 = .ok (.iload_n 1, 1) := by decide +kernel
theorem dX6_sheet_1 : decode cX6_sheet 1 = .ok (.iload_n 2, 1) := by decide +kernel
theorem dX6_sheet_2 : decode cX6_sheet 2 = .ok (.invokestatic 250, 3) := by decide +kernel
theorem dX6_sheet_5 : decode cX6_sheet 5 = .ok (.ifCond .eq 9, 3) := by decide +kernel
theorem dX6_sheet_8 : decode cX6_sheet 8 = .ok (.iload_n 3, 1) := by decide +kernel
theorem dX6_sheet_9 : decode cX6_sheet 9 = .ok (.bipush 24, 2) := by decide +kernel
theorem dX6_sheet_11 : decode cX6_sheet 11 = .ok (.if_icmp .le 5, 3) := by decide +kernel
theorem dX6_sheet_14 : decode cX6_sheet 14 = .ok (.iconst (-1), 1) := by decide +kernel
theorem dX6_sheet_15 : decode cX6_sheet 15 = .ok (.ireturn, 1) := by decide +kernel
theorem dX6_sheet_16 : decode cX6_sheet 16 = .ok (.iload_n 3, 1) := by decide +kernel
theorem dX6_sheet_17 : decode cX6_sheet 17 = .ok (.ifCond .ge 6, 3) := by decide +kernel
theorem dX6_sheet_20 : decode cX6_sheet 20 = .ok (.bipush (-14), 2) := by decide +kernel
theorem dX6_sheet_22 : decode cX6_sheet 22 = .ok (.ireturn, 1) := by decide +kernel
theorem dX6_sheet_23 : decode cX6_sheet 23 = .ok (.aload_n 0, 1) := by decide +kernel
theorem dX6_sheet_24 : decode cX6_sheet 24 = .ok (.getfield 32, 3) := by decide +kernel
theorem dX6_sheet_27 : decode cX6_sheet 27 = .ok (.iload_n 1, 1) := by decide +kernel
theorem dX6_sheet_28 : decode cX6_sheet 28 = .ok (.aaload, 1) := by decide +kernel
theorem dX6_sheet_29 : decode cX6_sheet 29 = .ok (.iload_n 2, 1) := by decide +kernel
theorem dX6_sheet_30 : decode cX6_sheet 30 = .ok (.iload_n 3, 1) := by decide +kernel
theorem dX6_sheet_31 : decode cX6_sheet 31 = .ok (.invokevirtual 271, 3) := by decide +kernel
theorem dX6_sheet_34 : decode cX6_sheet 34 = .ok (.iload_n 3, 1) := by decide +kernel
theorem dX6_sheet_35 : decode cX6_sheet 35 = .ok (.ireturn, 1) := by decide +kernel
theorem dX6_drop_0 : decode cX6_drop 0 = .ok (.iload_n 1, 1) := by decide +kernel
theorem dX6_drop_1 : decode cX6_drop 1 = .ok (.iconst 4, 1) := by decide +kernel
theorem dX6_drop_2 : decode cX6_drop 2 = .ok (.invokestatic 58, 3) := by decide +kernel
theorem dX6_drop_5 : decode cX6_drop 5 = .ok (.ifCond .ne 5, 3) := by decide +kernel
theorem dX6_drop_8 : decode cX6_drop 8 = .ok (.iconst (-1), 1) := by decide +kernel
theorem dX6_drop_9 : decode cX6_drop 9 = .ok (.ireturn, 1) := by decide +kernel
theorem dX6_drop_10 : decode cX6_drop 10 = .ok (.aload_n 0, 1) := by decide +kernel
theorem dX6_drop_11 : decode cX6_drop 11 = .ok (.getfield 32, 3) := by decide +kernel
theorem dX6_drop_14 : decode cX6_drop 14 = .ok (.iload_n 1, 1) := by decide +kernel
theorem dX6_drop_15 : decode cX6_drop 15 = .ok (.aaload, 1) := by decide +kernel
theorem dX6_drop_16 : decode cX6_drop 16 = .ok (.astore_n 2, 1) := by decide +kernel
theorem dX6_drop_17 : decode cX6_drop 17 = .ok (.aload_n 2, 1) := by decide +kernel
theorem dX6_drop_18 : decode cX6_drop 18 = .ok (.getfield 274, 3) := by decide +kernel
theorem dX6_drop_21 : decode cX6_drop 21 = .ok (.iconst (-1), 1) := by decide +kernel
theorem dX6_drop_22 : decode cX6_drop 22 = .ok (.if_icmp .ne 6, 3) := by decide +kernel
theorem dX6_drop_25 : decode cX6_drop 25 = .ok (.bipush (-11), 2) := by decide +kernel
theorem dX6_drop_27 : decode cX6_drop 27 = .ok (.ireturn, 1) := by decide +kernel
theorem dX6_drop_28 : decode cX6_drop 28 = .ok (.aload_n 2, 1) := by decide +kernel
theorem dX6_drop_29 : decode cX6_drop 29 = .ok (.getfield 277, 3) := by decide +kernel
theorem dX6_drop_32 : decode cX6_drop 32 = .ok (.istore_n 3, 1) := by decide +kernel
theorem dX6_drop_33 : decode cX6_drop 33 = .ok (.aload_n 2, 1) := by decide +kernel
theorem dX6_drop_34 : decode cX6_drop 34 = .ok (.iconst (-1), 1) := by decide +kernel
theorem dX6_drop_35 : decode cX6_drop 35 = .ok (.iconst 0, 1) := by decide +kernel
theorem dX6_drop_36 : decode cX6_drop 36 = .ok (.invokevirtual 271, 3) := by decide +kernel
theorem dX6_drop_39 : decode cX6_drop 39 = .ok (.iload_n 3, 1) := by decide +kernel
theorem dX6_drop_40 : decode cX6_drop 40 = .ok (.ireturn, 1) := by decide +kernel
theorem dX6_item_0 : decode cX6_item 0 = .ok (.iload_n 1, 1) := by decide +kernel
theorem dX6_item_1 : decode cX6_item 1 = .ok (.iload_n 2, 1) := by decide +kernel
theorem dX6_item_2 : decode cX6_item 2 = .ok (.invokestatic 250, 3) := by decide +kernel
theorem dX6_item_5 : decode cX6_item 5 = .ok (.ifCond .ne 5, 3) := by decide +kernel
theorem dX6_item_8 : decode cX6_item 8 = .ok (.iconst (-1), 1) := by decide +kernel
theorem dX6_item_9 : decode cX6_item 9 = .ok (.ireturn, 1) := by decide +kernel
theorem dX6_item_10 : decode cX6_item 10 = .ok (.aload_n 0, 1) := by decide +kernel
theorem dX6_item_11 : decode cX6_item 11 = .ok (.getfield 32, 3) := by decide +kernel
theorem dX6_item_14 : decode cX6_item 14 = .ok (.iload_n 1, 1) := by decide +kernel
theorem dX6_item_15 : decode cX6_item 15 = .ok (.aaload, 1) := by decide +kernel
theorem dX6_item_16 : decode cX6_item 16 = .ok (.iload_n 2, 1) := by decide +kernel
theorem dX6_item_17 : decode cX6_item 17 = .ok (.iload_n 3, 1) := by decide +kernel
theorem dX6_item_18 : decode cX6_item 18 = .ok (.iconst 1, 1) := by decide +kernel
theorem dX6_item_19 : decode cX6_item 19 = .ok (.invokevirtual 253, 3) := by decide +kernel
theorem dX6_item_22 : decode cX6_item 22 = .ok (.istore 6, 2) := by decide +kernel
theorem dX6_item_24 : decode cX6_item 24 = .ok (.iload 6, 2) := by decide +kernel
theorem dX6_item_26 : decode cX6_item 26 = .ok (.ifCond .eq 6, 3) := by decide +kernel
theorem dX6_item_29 : decode cX6_item 29 = .ok (.iload 6, 2) := by decide +kernel
theorem dX6_item_31 : decode cX6_item 31 = .ok (.ireturn, 1) := by decide +kernel
theorem dX6_item_32 : decode cX6_item 32 = .ok (.aload_n 0, 1) := by decide +kernel
theorem dX6_item_33 : decode cX6_item 33 = .ok (.getfield 32, 3) := by decide +kernel
theorem dX6_item_36 : decode cX6_item 36 = .ok (.iload_n 1, 1) := by decide +kernel
theorem dX6_item_37 : decode cX6_item 37 = .ok (.aaload, 1) := by decide +kernel
theorem dX6_item_38 : decode cX6_item 38 = .ok (.getfield 267, 3) := by decide +kernel
theorem dX6_item_41 : decode cX6_item 41 = .ok (.iload_n 3, 1) := by decide +kernel
theorem dX6_item_42 : decode cX6_item 42 = .ok (.iload_n 2, 1) := by decide +kernel
theorem dX6_item_43 : decode cX6_item 43 = .ok (.lload 4, 2) := by decide +kernel
theorem dX6_item_45 : decode cX6_item 45 = .ok (.invokestatic 278, 3) := by decide +kernel
theorem dX6_item_48 : decode cX6_item 48 = .ok (.lastore, 1) := by decide +kernel
theorem dX6_item_49 : decode cX6_item 49 = .ok (.iconst 1, 1) := by decide +kernel
theorem dX6_item_50 : decode cX6_item 50 = .ok (.ireturn, 1) := by decide +kernel
theorem dX6_copy_0 : decode cX6_copy 0 = .ok (.iload_n 1, 1) := by decide +kernel
theorem dX6_copy_1 : decode cX6_copy 1 = .ok (.iconst 4, 1) := by decide +kernel
theorem dX6_copy_2 : decode cX6_copy 2 = .ok (.invokestatic 58, 3) := by decide +kernel
theorem dX6_copy_5 : decode cX6_copy 5 = .ok (.ifCond .eq 11, 3) := by decide +kernel
theorem dX6_copy_8 : decode cX6_copy 8 = .ok (.iload_n 3, 1) := by decide +kernel
theorem dX6_copy_9 : decode cX6_copy 9 = .ok (.iconst 4, 1) := by decide +kernel
theorem dX6_copy_10 : decode cX6_copy 10 = .ok (.invokestatic 58, 3) := by decide +kernel
theorem dX6_copy_13 : decode cX6_copy 13 = .ok (.ifCond .ne 5, 3) := by decide +kernel
theorem dX6_copy_16 : decode cX6_copy 16 = .ok (.iconst (-1), 1) := by decide +kernel
theorem dX6_copy_17 : decode cX6_copy 17 = .ok (.ireturn, 1) := by decide +kernel
theorem dX6_copy_18 : decode cX6_copy 18 = .ok (.aload_n 0, 1) := by decide +kernel
theorem dX6_copy_19 : decode cX6_copy 19 = .ok (.getfield 32, 3) := by decide +kernel
theorem dX6_copy_22 : decode cX6_copy 22 = .ok (.iload_n 1, 1) := by decide +kernel
theorem dX6_copy_23 : decode cX6_copy 23 = .ok (.aaload, 1) := by decide +kernel
theorem dX6_copy_24 : decode cX6_copy 24 = .ok (.astore 6, 2) := by decide +kernel
theorem dX6_copy_26 : decode cX6_copy 26 = .ok (.aload_n 0, 1) := by decide +kernel
theorem dX6_copy_27 : decode cX6_copy 27 = .ok (.getfield 32, 3) := by decide +kernel
theorem dX6_copy_30 : decode cX6_copy 30 = .ok (.iload_n 3, 1) := by decide +kernel
theorem dX6_copy_31 : decode cX6_copy 31 = .ok (.aaload, 1) := by decide +kernel
theorem dX6_copy_32 : decode cX6_copy 32 = .ok (.astore 7, 2) := by decide +kernel
theorem dX6_copy_34 : decode cX6_copy 34 = .ok (.aload 6, 2) := by decide +kernel
theorem dX6_copy_36 : decode cX6_copy 36 = .ok (.getfield 274, 3) := by decide +kernel
theorem dX6_copy_39 : decode cX6_copy 39 = .ok (.iconst (-1), 1) := by decide +kernel
theorem dX6_copy_40 : decode cX6_copy 40 = .ok (.if_icmp .eq 12, 3) := by decide +kernel
theorem dX6_copy_43 : decode cX6_copy 43 = .ok (.aload 7, 2) := by decide +kernel
theorem dX6_copy_45 : decode cX6_copy 45 = .ok (.getfield 274, 3) := by decide +kernel
theorem dX6_copy_48 : decode cX6_copy 48 = .ok (.iconst (-1), 1) := by decide +kernel
theorem dX6_copy_49 : decode cX6_copy 49 = .ok (.if_icmp .ne 6, 3) := by decide +kernel
theorem dX6_copy_52 : decode cX6_copy 52 = .ok (.bipush (-11), 2) := by decide +kernel
theorem dX6_copy_54 : decode cX6_copy 54 = .ok (.ireturn, 1) := by decide +kernel
theorem dX6_copy_55 : decode cX6_copy 55 = .ok (.aload 6, 2) := by decide +kernel
theorem dX6_copy_57 : decode cX6_copy 57 = .ok (.getfield 274, 3) := by decide +kernel
theorem dX6_copy_60 : decode cX6_copy 60 = .ok (.aload 7, 2) := by decide +kernel
theorem dX6_copy_62 : decode cX6_copy 62 = .ok (.getfield 274, 3) := by decide +kernel
theorem dX6_copy_65 : decode cX6_copy 65 = .ok (.if_icmp .eq 6, 3) := by decide +kernel
theorem dX6_copy_68 : decode cX6_copy 68 = .ok (.bipush (-12), 2) := by decide +kernel
theorem dX6_copy_70 : decode cX6_copy 70 = .ok (.ireturn, 1) := by decide +kernel
theorem dX6_copy_71 : decode cX6_copy 71 = .ok (.aload 6, 2) := by decide +kernel
theorem dX6_copy_73 : decode cX6_copy 73 = .ok (.iload_n 2, 1) := by decide +kernel
theorem dX6_copy_74 : decode cX6_copy 74 = .ok (.iload 5, 2) := by decide +kernel
theorem dX6_copy_76 : decode cX6_copy 76 = .ok (.invokevirtual 282, 3) := by decide +kernel
theorem dX6_copy_79 : decode cX6_copy 79 = .ok (.ifCond .eq 15, 3) := by decide +kernel
theorem dX6_copy_82 : decode cX6_copy 82 = .ok (.aload 7, 2) := by decide +kernel
theorem dX6_copy_84 : decode cX6_copy 84 = .ok (.iload 4, 2) := by decide +kernel
theorem dX6_copy_86 : decode cX6_copy 86 = .ok (.iload 5, 2) := by decide +kernel
theorem dX6_copy_88 : decode cX6_copy 88 = .ok (.invokevirtual 282, 3) := by decide +kernel
theorem dX6_copy_91 : decode cX6_copy 91 = .ok (.ifCond .ne 6, 3) := by decide +kernel
theorem dX6_copy_94 : decode cX6_copy 94 = .ok (.bipush (-13), 2) := by decide +kernel
theorem dX6_copy_96 : decode cX6_copy 96 = .ok (.ireturn, 1) := by decide +kernel
theorem dX6_copy_97 : decode cX6_copy 97 = .ok (.aload 6, 2) := by decide +kernel
theorem dX6_copy_99 : decode cX6_copy 99 = .ok (.getfield 267, 3) := by decide +kernel
theorem dX6_copy_102 : decode cX6_copy 102 = .ok (.iload_n 2, 1) := by decide +kernel
theorem dX6_copy_103 : decode cX6_copy 103 = .ok (.aload 7, 2) := by decide +kernel
theorem dX6_copy_105 : decode cX6_copy 105 = .ok (.getfield 267, 3) := by decide +kernel
theorem dX6_copy_108 : decode cX6_copy 108 = .ok (.iload 4, 2) := by decide +kernel
theorem dX6_copy_110 : decode cX6_copy 110 = .ok (.iload 5, 2) := by decide +kernel
theorem dX6_copy_112 : decode cX6_copy 112 = .ok (.invokestatic 285, 3) := by decide +kernel
theorem dX6_copy_115 : decode cX6_copy 115 = .ok (.iload 5, 2) := by decide +kernel
theorem dX6_copy_117 : decode cX6_copy 117 = .ok (.ireturn, 1) := by decide +kernel
theorem dX6_kindsSeen_0 : decode cX6_kindsSeen 0 = .ok (.iconst 0, 1) := by decide +kernel
theorem dX6_kindsSeen_1 : decode cX6_kindsSeen 1 = .ok (.istore 6, 2) := by decide +kernel
theorem dX6_kindsSeen_3 : decode cX6_kindsSeen 3 = .ok (.aload_n 0, 1) := by decide +kernel
theorem dX6_kindsSeen_4 : decode cX6_kindsSeen 4 = .ok (.getfield 47, 3) := by decide +kernel
theorem dX6_kindsSeen_7 : decode cX6_kindsSeen 7 = .ok (.aload_n 0, 1) := by decide +kernel
theorem dX6_kindsSeen_8 : decode cX6_kindsSeen 8 = .ok (.getfield 10, 3) := by decide +kernel
theorem dX6_kindsSeen_11 : decode cX6_kindsSeen 11 = .ok (.getfield 66, 3) := by decide +kernel
theorem dX6_kindsSeen_14 : decode cX6_kindsSeen 14 = .ok (.invokevirtual 291, 3) := by decide +kernel
theorem dX6_kindsSeen_17 : decode cX6_kindsSeen 17 = .ok (.iconst 0, 1) := by decide +kernel
theorem dX6_kindsSeen_18 : decode cX6_kindsSeen 18 = .ok (.istore 7, 2) := by decide +kernel
theorem dX6_kindsSeen_20 : decode cX6_kindsSeen 20 = .ok (.iload 7, 2) := by decide +kernel
theorem dX6_kindsSeen_22 : decode cX6_kindsSeen 22 = .ok (.iconst 5, 1) := by decide +kernel
theorem dX6_kindsSeen_23 : decode cX6_kindsSeen 23 = .ok (.if_icmp .ge 56, 3) := by decide +kernel
theorem dX6_kindsSeen_26 : decode cX6_kindsSeen 26 = .ok (.aload_n 0, 1) := by decide +kernel
theorem dX6_kindsSeen_27 : decode cX6_kindsSeen 27 = .ok (.getfield 47, 3) := by decide +kernel
theorem dX6_kindsSeen_30 : decode cX6_kindsSeen 30 = .ok (.getfield 91, 3) := by decide +kernel
theorem dX6_kindsSeen_33 : decode cX6_kindsSeen 33 = .ok (.iload_n 2, 1) := by decide +kernel
theorem dX6_kindsSeen_34 : decode cX6_kindsSeen 34 = .ok (.iload 7, 2) := by decide +kernel
theorem dX6_kindsSeen_36 : decode cX6_kindsSeen 36 = .ok (.iastore, 1) := by decide +kernel
theorem dX6_kindsSeen_37 : decode cX6_kindsSeen 37 = .ok (.aload_n 0, 1) := by decide +kernel
theorem dX6_kindsSeen_38 : decode cX6_kindsSeen 38 = .ok (.iload_n 1, 1) := by decide +kernel
theorem dX6_kindsSeen_39 : decode cX6_kindsSeen 39 = .ok (.aload_n 3, 1) := by decide +kernel
theorem dX6_kindsSeen_40 : decode cX6_kindsSeen 40 = .ok (.iload 4, 2) := by decide +kernel
theorem dX6_kindsSeen_42 : decode cX6_kindsSeen 42 = .ok (.iload 5, 2) := by decide +kernel
theorem dX6_kindsSeen_44 : decode cX6_kindsSeen 44 = .ok (.aload_n 0, 1) := by decide +kernel
theorem dX6_kindsSeen_45 : decode cX6_kindsSeen 45 = .ok (.getfield 10, 3) := by decide +kernel
theorem dX6_kindsSeen_48 : decode cX6_kindsSeen 48 = .ok (.getfield 88, 3) := by decide +kernel
theorem dX6_kindsSeen_51 : decode cX6_kindsSeen 51 = .ok (.getfield 111, 3) := by decide +kernel
theorem dX6_kindsSeen_54 : decode cX6_kindsSeen 54 = .ok (.aload_n 0, 1) := by decide +kernel
theorem dX6_kindsSeen_55 : decode cX6_kindsSeen 55 = .ok (.getfield 47, 3) := by decide +kernel
theorem dX6_kindsSeen_58 : decode cX6_kindsSeen 58 = .ok (.invokevirtual 256, 3) := by decide +kernel
theorem dX6_kindsSeen_61 : decode cX6_kindsSeen 61 = .ok (.ifCond .eq 12, 3) := by decide +kernel
theorem dX6_kindsSeen_64 : decode cX6_kindsSeen 64 = .ok (.iload 6, 2) := by decide +kernel
theorem dX6_kindsSeen_66 : decode cX6_kindsSeen 66 = .ok (.iconst 1, 1) := by decide +kernel
theorem dX6_kindsSeen_67 : decode cX6_kindsSeen 67 = .ok (.iload 7, 2) := by decide +kernel
theorem dX6_kindsSeen_69 : decode cX6_kindsSeen 69 = .ok (.ishl, 1) := by decide +kernel
theorem dX6_kindsSeen_70 : decode cX6_kindsSeen 70 = .ok (.ior, 1) := by decide +kernel
theorem dX6_kindsSeen_71 : decode cX6_kindsSeen 71 = .ok (.istore 6, 2) := by decide +kernel
theorem dX6_kindsSeen_73 : decode cX6_kindsSeen 73 = .ok (.iinc 7 1, 3) := by decide +kernel
theorem dX6_kindsSeen_76 : decode cX6_kindsSeen 76 = .ok (.goto (-56), 3) := by decide +kernel
theorem dX6_kindsSeen_79 : decode cX6_kindsSeen 79 = .ok (.iload 6, 2) := by decide +kernel
theorem dX6_kindsSeen_81 : decode cX6_kindsSeen 81 = .ok (.ireturn, 1) := by decide +kernel
theorem dX6_everiesSeen_0 : decode cX6_everiesSeen 0 = .ok (.iconst 0, 1) := by decide +kernel
theorem dX6_everiesSeen_1 : decode cX6_everiesSeen 1 = .ok (.istore 6, 2) := by decide +kernel
theorem dX6_everiesSeen_3 : decode cX6_everiesSeen 3 = .ok (.aload_n 0, 1) := by decide +kernel
theorem dX6_everiesSeen_4 : decode cX6_everiesSeen 4 = .ok (.getfield 47, 3) := by decide +kernel
theorem dX6_everiesSeen_7 : decode cX6_everiesSeen 7 = .ok (.aload_n 0, 1) := by decide +kernel
theorem dX6_everiesSeen_8 : decode cX6_everiesSeen 8 = .ok (.getfield 10, 3) := by decide +kernel
theorem dX6_everiesSeen_11 : decode cX6_everiesSeen 11 = .ok (.getfield 66, 3) := by decide +kernel
theorem dX6_everiesSeen_14 : decode cX6_everiesSeen 14 = .ok (.invokevirtual 291, 3) := by decide +kernel
theorem dX6_everiesSeen_17 : decode cX6_everiesSeen 17 = .ok (.iconst 1, 1) := by decide +kernel
theorem dX6_everiesSeen_18 : decode cX6_everiesSeen 18 = .ok (.istore 7, 2) := by decide +kernel
theorem dX6_everiesSeen_20 : decode cX6_everiesSeen 20 = .ok (.iload 7, 2) := by decide +kernel
theorem dX6_everiesSeen_22 : decode cX6_everiesSeen 22 = .ok (.bipush 9, 2) := by decide +kernel
theorem dX6_everiesSeen_24 : decode cX6_everiesSeen 24 = .ok (.if_icmp .gt 56, 3) := by decide +kernel
theorem dX6_everiesSeen_27 : decode cX6_everiesSeen 27 = .ok (.aload_n 0, 1) := by decide +kernel
theorem dX6_everiesSeen_28 : decode cX6_everiesSeen 28 = .ok (.getfield 47, 3) := by decide +kernel
theorem dX6_everiesSeen_31 : decode cX6_everiesSeen 31 = .ok (.getfield 98, 3) := by decide +kernel
theorem dX6_everiesSeen_34 : decode cX6_everiesSeen 34 = .ok (.iload_n 2, 1) := by decide +kernel
theorem dX6_everiesSeen_35 : decode cX6_everiesSeen 35 = .ok (.iload 7, 2) := by decide +kernel
theorem dX6_everiesSeen_37 : decode cX6_everiesSeen 37 = .ok (.iastore, 1) := by decide +kernel
theorem dX6_everiesSeen_38 : decode cX6_everiesSeen 38 = .ok (.aload_n 0, 1) := by decide +kernel
theorem dX6_everiesSeen_39 : decode cX6_everiesSeen 39 = .ok (.iload_n 1, 1) := by decide +kernel
theorem dX6_everiesSeen_40 : decode cX6_everiesSeen 40 = .ok (.aload_n 3, 1) := by decide +kernel
theorem dX6_everiesSeen_41 : decode cX6_everiesSeen 41 = .ok (.iload 4, 2) := by decide +kernel
theorem dX6_everiesSeen_43 : decode cX6_everiesSeen 43 = .ok (.iload 5, 2) := by decide +kernel
theorem dX6_everiesSeen_45 : decode cX6_everiesSeen 45 = .ok (.aload_n 0, 1) := by decide +kernel
theorem dX6_everiesSeen_46 : decode cX6_everiesSeen 46 = .ok (.getfield 10, 3) := by decide +kernel
theorem dX6_everiesSeen_49 : decode cX6_everiesSeen 49 = .ok (.getfield 88, 3) := by decide +kernel
theorem dX6_everiesSeen_52 : decode cX6_everiesSeen 52 = .ok (.getfield 111, 3) := by decide +kernel
theorem dX6_everiesSeen_55 : decode cX6_everiesSeen 55 = .ok (.aload_n 0, 1) := by decide +kernel
theorem dX6_everiesSeen_56 : decode cX6_everiesSeen 56 = .ok (.getfield 47, 3) := by decide +kernel
theorem dX6_everiesSeen_59 : decode cX6_everiesSeen 59 = .ok (.invokevirtual 256, 3) := by decide +kernel
theorem dX6_everiesSeen_62 : decode cX6_everiesSeen 62 = .ok (.ifCond .eq 12, 3) := by decide +kernel
theorem dX6_everiesSeen_65 : decode cX6_everiesSeen 65 = .ok (.iload 6, 2) := by decide +kernel
theorem dX6_everiesSeen_67 : decode cX6_everiesSeen 67 = .ok (.iconst 1, 1) := by decide +kernel
theorem dX6_everiesSeen_68 : decode cX6_everiesSeen 68 = .ok (.iload 7, 2) := by decide +kernel
theorem dX6_everiesSeen_70 : decode cX6_everiesSeen 70 = .ok (.ishl, 1) := by decide +kernel
theorem dX6_everiesSeen_71 : decode cX6_everiesSeen 71 = .ok (.ior, 1) := by decide +kernel
theorem dX6_everiesSeen_72 : decode cX6_everiesSeen 72 = .ok (.istore 6, 2) := by decide +kernel
theorem dX6_everiesSeen_74 : decode cX6_everiesSeen 74 = .ok (.iinc 7 1, 3) := by decide +kernel
theorem dX6_everiesSeen_77 : decode cX6_everiesSeen 77 = .ok (.goto (-57), 3) := by decide +kernel
theorem dX6_everiesSeen_80 : decode cX6_everiesSeen 80 = .ok (.iload 6, 2) := by decide +kernel
theorem dX6_everiesSeen_82 : decode cX6_everiesSeen 82 = .ok (.ireturn, 1) := by decide +kernel
theorem dX6_wouldShow_0 : decode cX6_wouldShow 0 = .ok (.aload_n 0, 1) := by decide +kernel
theorem dX6_wouldShow_1 : decode cX6_wouldShow 1 = .ok (.getfield 40, 3) := by decide +kernel
theorem dX6_wouldShow_4 : decode cX6_wouldShow 4 = .ok (.aload_n 0, 1) := by decide +kernel
theorem dX6_wouldShow_5 : decode cX6_wouldShow 5 = .ok (.getfield 10, 3) := by decide +kernel
theorem dX6_wouldShow_8 : decode cX6_wouldShow 8 = .ok (.getfield 88, 3) := by decide +kernel
theorem dX6_wouldShow_11 : decode cX6_wouldShow 11 = .ok (.invokevirtual 206, 3) := by decide +kernel
theorem dX6_wouldShow_14 : decode cX6_wouldShow 14 = .ok (.aload_n 0, 1) := by decide +kernel
theorem dX6_wouldShow_15 : decode cX6_wouldShow 15 = .ok (.getfield 40, 3) := by decide +kernel
theorem dX6_wouldShow_18 : decode cX6_wouldShow 18 = .ok (.iload 5, 2) := by decide +kernel
theorem dX6_wouldShow_20 : decode cX6_wouldShow 20 = .ok (.putfield 111, 3) := by decide +kernel
theorem dX6_wouldShow_23 : decode cX6_wouldShow 23 = .ok (.iconst 0, 1) := by decide +kernel
theorem dX6_wouldShow_24 : decode cX6_wouldShow 24 = .ok (.istore 7, 2) := by decide +kernel
theorem dX6_wouldShow_26 : decode cX6_wouldShow 26 = .ok (.iload 7, 2) := by decide +kernel
theorem dX6_wouldShow_28 : decode cX6_wouldShow 28 = .ok (.iload 4, 2) := by decide +kernel
theorem dX6_wouldShow_30 : decode cX6_wouldShow 30 = .ok (.if_icmp .ge 44, 3) := by decide +kernel
theorem dX6_wouldShow_33 : decode cX6_wouldShow 33 = .ok (.aload_n 0, 1) := by decide +kernel
theorem dX6_wouldShow_34 : decode cX6_wouldShow 34 = .ok (.getfield 40, 3) := by decide +kernel
theorem dX6_wouldShow_37 : decode cX6_wouldShow 37 = .ok (.aload 6, 2) := by decide +kernel
theorem dX6_wouldShow_39 : decode cX6_wouldShow 39 = .ok (.invokevirtual 194, 3) := by decide +kernel
theorem dX6_wouldShow_42 : decode cX6_wouldShow 42 = .ok (.pop, 1) := by decide +kernel
theorem dX6_wouldShow_43 : decode cX6_wouldShow 43 = .ok (.aload_n 2, 1) := by decide +kernel
theorem dX6_wouldShow_44 : decode cX6_wouldShow 44 = .ok (.getfield 267, 3) := by decide +kernel
theorem dX6_wouldShow_47 : decode cX6_wouldShow 47 = .ok (.iload_n 3, 1) := by decide +kernel
theorem dX6_wouldShow_48 : decode cX6_wouldShow 48 = .ok (.iload 7, 2) := by decide +kernel
theorem dX6_wouldShow_50 : decode cX6_wouldShow 50 = .ok (.iadd, 1) := by decide +kernel
theorem dX6_wouldShow_51 : decode cX6_wouldShow 51 = .ok (.laload, 1) := by decide +kernel
theorem dX6_wouldShow_52 : decode cX6_wouldShow 52 = .ok (.aload_n 0, 1) := by decide +kernel
theorem dX6_wouldShow_53 : decode cX6_wouldShow 53 = .ok (.getfield 40, 3) := by decide +kernel
theorem dX6_wouldShow_56 : decode cX6_wouldShow 56 = .ok (.getfield 125, 3) := by decide +kernel
theorem dX6_wouldShow_59 : decode cX6_wouldShow 59 = .ok (.iload_n 1, 1) := by decide +kernel
theorem dX6_wouldShow_60 : decode cX6_wouldShow 60 = .ok (.iaload, 1) := by decide +kernel
theorem dX6_wouldShow_61 : decode cX6_wouldShow 61 = .ok (.i2l, 1) := by decide +kernel
theorem dX6_wouldShow_62 : decode cX6_wouldShow 62 = .ok (.lcmp, 1) := by decide +kernel
theorem dX6_wouldShow_63 : decode cX6_wouldShow 63 = .ok (.ifCond .eq 5, 3) := by decide +kernel
theorem dX6_wouldShow_66 : decode cX6_wouldShow 66 = .ok (.iconst 0, 1) := by decide +kernel
theorem dX6_wouldShow_67 : decode cX6_wouldShow 67 = .ok (.ireturn, 1) := by decide +kernel
theorem dX6_wouldShow_68 : decode cX6_wouldShow 68 = .ok (.iinc 7 1, 3) := by decide +kernel
theorem dX6_wouldShow_71 : decode cX6_wouldShow 71 = .ok (.goto (-45), 3) := by decide +kernel
theorem dX6_wouldShow_74 : decode cX6_wouldShow 74 = .ok (.iconst 1, 1) := by decide +kernel
theorem dX6_wouldShow_75 : decode cX6_wouldShow 75 = .ok (.ireturn, 1) := by decide +kernel
theorem dX6_isTraveller_0 : decode cX6_isTraveller 0 = .ok (.iload_n 1, 1) := by decide +kernel
theorem dX6_isTraveller_1 : decode cX6_isTraveller 1 = .ok (.aload_n 0, 1) := by decide +kernel
theorem dX6_isTraveller_2 : decode cX6_isTraveller 2 = .ok (.getfield 10, 3) := by decide +kernel
theorem dX6_isTraveller_5 : decode cX6_isTraveller 5 = .ok (.getfield 66, 3) := by decide +kernel
theorem dX6_isTraveller_8 : decode cX6_isTraveller 8 = .ok (.getfield 80, 3) := by decide +kernel
theorem dX6_isTraveller_11 : decode cX6_isTraveller 11 = .ok (.invokestatic 58, 3) := by decide +kernel
theorem dX6_isTraveller_14 : decode cX6_isTraveller 14 = .ok (.ireturn, 1) := by decide +kernel
theorem dX6_isPlace_0 : decode cX6_isPlace 0 = .ok (.iload_n 0, 1) := by decide +kernel
theorem dX6_isPlace_1 : decode cX6_isPlace 1 = .ok (.iconst 4, 1) := by decide +kernel
theorem dX6_isPlace_2 : decode cX6_isPlace 2 = .ok (.invokestatic 58, 3) := by decide +kernel
theorem dX6_isPlace_5 : decode cX6_isPlace 5 = .ok (.ifCond .eq 15, 3) := by decide +kernel
theorem dX6_isPlace_8 : decode cX6_isPlace 8 = .ok (.iload_n 1, 1) := by decide +kernel
theorem dX6_isPlace_9 : decode cX6_isPlace 9 = .ok (.iconst 4, 1) := by decide +kernel
theorem dX6_isPlace_10 : decode cX6_isPlace 10 = .ok (.invokestatic 58, 3) := by decide +kernel
theorem dX6_isPlace_13 : decode cX6_isPlace 13 = .ok (.ifCond .eq 7, 3) := by decide +kernel
theorem dX6_isPlace_16 : decode cX6_isPlace 16 = .ok (.iconst 1, 1) := by decide +kernel
theorem dX6_isPlace_17 : decode cX6_isPlace 17 = .ok (.goto 4, 3) := by decide +kernel
theorem dX6_isPlace_20 : decode cX6_isPlace 20 = .ok (.iconst 0, 1) := by decide +kernel
theorem dX6_isPlace_21 : decode cX6_isPlace 21 = .ok (.ireturn, 1) := by decide +kernel
theorem dX6_isBelow_0 : decode cX6_isBelow 0 = .ok (.iload_n 0, 1) := by decide +kernel
theorem dX6_isBelow_1 : decode cX6_isBelow 1 = .ok (.ifCond .lt 12, 3) := by decide +kernel
theorem dX6_isBelow_4 : decode cX6_isBelow 4 = .ok (.iload_n 0, 1) := by decide +kernel
theorem dX6_isBelow_5 : decode cX6_isBelow 5 = .ok (.iload_n 1, 1) := by decide +kernel
theorem dX6_isBelow_6 : decode cX6_isBelow 6 = .ok (.if_icmp .ge 7, 3) := by decide +kernel
theorem dX6_isBelow_9 : decode cX6_isBelow 9 = .ok (.iconst 1, 1) := by decide +kernel
theorem dX6_isBelow_10 : decode cX6_isBelow 10 = .ok (.goto 4, 3) := by decide +kernel
theorem dX6_isBelow_13 : decode cX6_isBelow 13 = .ok (.iconst 0, 1) := by decide +kernel
theorem dX6_isBelow_14 : decode cX6_isBelow 14 = .ok (.ireturn, 1) := by decide +kernel
theorem dX6_isWithin_0 : decode cX6_isWithin 0 = .ok (.iload_n 0, 1) := by decide +kernel
theorem dX6_isWithin_1 : decode cX6_isWithin 1 = .ok (.iload_n 1, 1) := by decide +kernel
theorem dX6_isWithin_2 : decode cX6_isWithin 2 = .ok (.if_icmp .lt 12, 3) := by decide +kernel
theorem dX6_isWithin_5 : decode cX6_isWithin 5 = .ok (.iload_n 0, 1) := by decide +kernel
theorem dX6_isWithin_6 : decode cX6_isWithin 6 = .ok (.iload_n 2, 1) := by decide +kernel
theorem dX6_isWithin_7 : decode cX6_isWithin 7 = .ok (.if_icmp .gt 7, 3) := by decide +kernel
theorem dX6_isWithin_10 : decode cX6_isWithin 10 = .ok (.iconst 1, 1) := by decide +kernel
theorem dX6_isWithin_11 : decode cX6_isWithin 11 = .ok (.goto 4, 3) := by decide +kernel
theorem dX6_isWithin_14 : decode cX6_isWithin 14 = .ok (.iconst 0, 1) := by decide +kernel
theorem dX6_isWithin_15 : decode cX6_isWithin 15 = .ok (.ireturn, 1) := by decide +kernel
theorem dX6_isIn_0 : decode cX6_isIn 0 = .ok (.iload_n 1, 1) := by decide +kernel
theorem dX6_isIn_1 : decode cX6_isIn 1 = .ok (.iload_n 0, 1) := by decide +kernel
theorem dX6_isIn_2 : decode cX6_isIn 2 = .ok (.ishr, 1) := by decide +kernel
theorem dX6_isIn_3 : decode cX6_isIn 3 = .ok (.iconst 1, 1) := by decide +kernel
theorem dX6_isIn_4 : decode cX6_isIn 4 = .ok (.iand, 1) := by decide +kernel
theorem dX6_isIn_5 : decode cX6_isIn 5 = .ok (.ifCond .eq 7, 3) := by decide +kernel
theorem dX6_isIn_8 : decode cX6_isIn 8 = .ok (.iconst 1, 1) := by decide +kernel
theorem dX6_isIn_9 : decode cX6_isIn 9 = .ok (.goto 4, 3) := by decide +kernel
theorem dX6_isIn_12 : decode cX6_isIn 12 = .ok (.iconst 0, 1) := by decide +kernel
theorem dX6_isIn_13 : decode cX6_isIn 13 = .ok (.ireturn, 1) := by decide +kernel
theorem dX6_asNumber_0 : decode cX6_asNumber 0 = .ok (.iload_n 0, 1) := by decide +kernel
theorem dX6_asNumber_1 : decode cX6_asNumber 1 = .ok (.ifCond .eq 7, 3) := by decide +kernel
theorem dX6_asNumber_4 : decode cX6_asNumber 4 = .ok (.iconst 1, 1) := by decide +kernel
theorem dX6_asNumber_5 : decode cX6_asNumber 5 = .ok (.goto 4, 3) := by decide +kernel
theorem dX6_asNumber_8 : decode cX6_asNumber 8 = .ok (.iconst 0, 1) := by decide +kernel
theorem dX6_asNumber_9 : decode cX6_asNumber 9 = .ok (.ireturn, 1) := by decide +kernel
theorem dX6_worn_0 : decode cX6_worn 0 = .ok (.iconst 1, 1) := by decide +kernel
theorem dX6_worn_1 : decode cX6_worn 1 = .ok (.istore_n 3, 1) := by decide +kernel
theorem dX6_worn_2 : decode cX6_worn 2 = .ok (.iconst 2, 1) := by decide +kernel
theorem dX6_worn_3 : decode cX6_worn 3 = .ok (.iload_n 3, 1) := by decide +kernel
theorem dX6_worn_4 : decode cX6_worn 4 = .ok (.imul, 1) := by decide +kernel
theorem dX6_worn_5 : decode cX6_worn 5 = .ok (.istore 4, 2) := by decide +kernel
theorem dX6_worn_7 : decode cX6_worn 7 = .ok (.iload_n 3, 1) := by decide +kernel
theorem dX6_worn_8 : decode cX6_worn 8 = .ok (.istore 5, 2) := by decide +kernel
theorem dX6_worn_10 : decode cX6_worn 10 = .ok (.iload_n 0, 1) := by decide +kernel
theorem dX6_worn_11 : decode cX6_worn 11 = .ok (.tableswitch 69 0 4 #[69, 33, 36, 39, 52], 33) := by decide +kernel
theorem dX6_worn_44 : decode cX6_worn 44 = .ok (.iload 4, 2) := by decide +kernel
theorem dX6_worn_46 : decode cX6_worn 46 = .ok (.ireturn, 1) := by decide +kernel
theorem dX6_worn_47 : decode cX6_worn 47 = .ok (.iload 5, 2) := by decide +kernel
theorem dX6_worn_49 : decode cX6_worn 49 = .ok (.ireturn, 1) := by decide +kernel
theorem dX6_worn_50 : decode cX6_worn 50 = .ok (.iload_n 1, 1) := by decide +kernel
theorem dX6_worn_51 : decode cX6_worn 51 = .ok (.iconst 2, 1) := by decide +kernel
theorem dX6_worn_52 : decode cX6_worn 52 = .ok (.irem, 1) := by decide +kernel
theorem dX6_worn_53 : decode cX6_worn 53 = .ok (.ifCond .ne 8, 3) := by decide +kernel
theorem dX6_worn_56 : decode cX6_worn 56 = .ok (.iload 4, 2) := by decide +kernel
theorem dX6_worn_58 : decode cX6_worn 58 = .ok (.goto 4, 3) := by decide +kernel
theorem dX6_worn_61 : decode cX6_worn 61 = .ok (.iconst 0, 1) := by decide +kernel
theorem dX6_worn_62 : decode cX6_worn 62 = .ok (.ireturn, 1) := by decide +kernel
theorem dX6_worn_63 : decode cX6_worn 63 = .ok (.iload_n 1, 1) := by decide +kernel
theorem dX6_worn_64 : decode cX6_worn 64 = .ok (.iload_n 2, 1) := by decide +kernel
theorem dX6_worn_65 : decode cX6_worn 65 = .ok (.iconst 4, 1) := by decide +kernel
theorem dX6_worn_66 : decode cX6_worn 66 = .ok (.irem, 1) := by decide +kernel
theorem dX6_worn_67 : decode cX6_worn 67 = .ok (.if_icmp .ne 10, 3) := by decide +kernel
theorem dX6_worn_70 : decode cX6_worn 70 = .ok (.iload 5, 2) := by decide +kernel
theorem dX6_worn_72 : decode cX6_worn 72 = .ok (.iconst 1, 1) := by decide +kernel
theorem dX6_worn_73 : decode cX6_worn 73 = .ok (.iadd, 1) := by decide +kernel
theorem dX6_worn_74 : decode cX6_worn 74 = .ok (.goto 5, 3) := by decide +kernel
theorem dX6_worn_77 : decode cX6_worn 77 = .ok (.iload 5, 2) := by decide +kernel
theorem dX6_worn_79 : decode cX6_worn 79 = .ok (.ireturn, 1) := by decide +kernel
theorem dX6_worn_80 : decode cX6_worn 80 = .ok (.iload_n 3, 1) := by decide +kernel
theorem dX6_worn_81 : decode cX6_worn 81 = .ok (.ireturn, 1) := by decide +kernel
theorem dX6_given_0 : decode cX6_given 0 = .ok (.iconst 1, 1) := by decide +kernel
theorem dX6_given_1 : decode cX6_given 1 = .ok (.istore_n 2, 1) := by decide +kernel
theorem dX6_given_2 : decode cX6_given 2 = .ok (.iload_n 2, 1) := by decide +kernel
theorem dX6_given_3 : decode cX6_given 3 = .ok (.iconst 1, 1) := by decide +kernel
theorem dX6_given_4 : decode cX6_given 4 = .ok (.iadd, 1) := by decide +kernel
theorem dX6_given_5 : decode cX6_given 5 = .ok (.istore_n 3, 1) := by decide +kernel
theorem dX6_given_6 : decode cX6_given 6 = .ok (.iload_n 1, 1) := by decide +kernel
theorem dX6_given_7 : decode cX6_given 7 = .ok (.iconst 2, 1) := by decide +kernel
theorem dX6_given_8 : decode cX6_given 8 = .ok (.irem, 1) := by decide +kernel
theorem dX6_given_9 : decode cX6_given 9 = .ok (.ifCond .eq 7, 3) := by decide +kernel
theorem dX6_given_12 : decode cX6_given 12 = .ok (.iconst 0, 1) := by decide +kernel
theorem dX6_given_13 : decode cX6_given 13 = .ok (.goto 4, 3) := by decide +kernel
theorem dX6_given_16 : decode cX6_given 16 = .ok (.iload_n 2, 1) := by decide +kernel
theorem dX6_given_17 : decode cX6_given 17 = .ok (.istore 4, 2) := by decide +kernel
theorem dX6_given_19 : decode cX6_given 19 = .ok (.iload_n 0, 1) := by decide +kernel
theorem dX6_given_20 : decode cX6_given 20 = .ok (.tableswitch 54 0 4 #[54, 36, 38, 41, 45], 36) := by decide +kernel
theorem dX6_given_56 : decode cX6_given 56 = .ok (.iload_n 3, 1) := by decide +kernel
theorem dX6_given_57 : decode cX6_given 57 = .ok (.ireturn, 1) := by decide +kernel
theorem dX6_given_58 : decode cX6_given 58 = .ok (.iload 4, 2) := by decide +kernel
theorem dX6_given_60 : decode cX6_given 60 = .ok (.ireturn, 1) := by decide +kernel
theorem dX6_given_61 : decode cX6_given 61 = .ok (.iconst 3, 1) := by decide +kernel
theorem dX6_given_62 : decode cX6_given 62 = .ok (.iload_n 3, 1) := by decide +kernel
theorem dX6_given_63 : decode cX6_given 63 = .ok (.imul, 1) := by decide +kernel
theorem dX6_given_64 : decode cX6_given 64 = .ok (.ireturn, 1) := by decide +kernel
theorem dX6_given_65 : decode cX6_given 65 = .ok (.iconst 0, 1) := by decide +kernel
theorem dX6_given_66 : decode cX6_given 66 = .ok (.iload 4, 2) := by decide +kernel
theorem dX6_given_68 : decode cX6_given 68 = .ok (.iconst 1, 1) := by decide +kernel
theorem dX6_given_69 : decode cX6_given 69 = .ok (.isub, 1) := by decide +kernel
theorem dX6_given_70 : decode cX6_given 70 = .ok (.invokestatic 294, 3) := by decide +kernel
theorem dX6_given_73 : decode cX6_given 73 = .ok (.ireturn, 1) := by decide +kernel
theorem dX6_given_74 : decode cX6_given 74 = .ok (.iload_n 2, 1) := by decide +kernel
theorem dX6_given_75 : decode cX6_given 75 = .ok (.ireturn, 1) := by decide +kernel
theorem dX6_lowestBits_0 : decode cX6_lowestBits 0 = .ok (.iload_n 0, 1) := by decide +kernel
theorem dX6_lowestBits_1 : decode cX6_lowestBits 1 = .ok (.tableswitch 41 0 2 #[27, 32, 37], 27) := by decide +kernel
theorem dX6_lowestBits_28 : decode cX6_lowestBits 28 = .ok (.lload_n 1, 1) := by decide +kernel
theorem dX6_lowestBits_29 : decode cX6_lowestBits 29 = .ok (.l2i, 1) := by decide +kernel
theorem dX6_lowestBits_30 : decode cX6_lowestBits 30 = .ok (.i2b, 1) := by decide +kernel
theorem dX6_lowestBits_31 : decode cX6_lowestBits 31 = .ok (.i2l, 1) := by decide +kernel
theorem dX6_lowestBits_32 : decode cX6_lowestBits 32 = .ok (.lreturn, 1) := by decide +kernel
theorem dX6_lowestBits_33 : decode cX6_lowestBits 33 = .ok (.lload_n 1, 1) := by decide +kernel
theorem dX6_lowestBits_34 : decode cX6_lowestBits 34 = .ok (.l2i, 1) := by decide +kernel
theorem dX6_lowestBits_35 : decode cX6_lowestBits 35 = .ok (.i2s, 1) := by decide +kernel
theorem dX6_lowestBits_36 : decode cX6_lowestBits 36 = .ok (.i2l, 1) := by decide +kernel
theorem dX6_lowestBits_37 : decode cX6_lowestBits 37 = .ok (.lreturn, 1) := by decide +kernel
theorem dX6_lowestBits_38 : decode cX6_lowestBits 38 = .ok (.lload_n 1, 1) := by decide +kernel
theorem dX6_lowestBits_39 : decode cX6_lowestBits 39 = .ok (.l2i, 1) := by decide +kernel
theorem dX6_lowestBits_40 : decode cX6_lowestBits 40 = .ok (.i2l, 1) := by decide +kernel
theorem dX6_lowestBits_41 : decode cX6_lowestBits 41 = .ok (.lreturn, 1) := by decide +kernel
theorem dX6_lowestBits_42 : decode cX6_lowestBits 42 = .ok (.lload_n 1, 1) := by decide +kernel
theorem dX6_lowestBits_43 : decode cX6_lowestBits 43 = .ok (.lreturn, 1) := by decide +kernel

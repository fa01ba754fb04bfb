theorem dX0_init_0 : decode cX0_init 0 = .ok (.aload_n 0, 1) := by decide +kernel
theorem dX0_init_1 : decode cX0_init 1 = .ok (.invokespecial 3, 3) := by decide +kernel
theorem dX0_init_4 : decode cX0_init 4 = .ok (.aload_n 0, 1) := by decide +kernel
theorem dX0_init_5 : decode cX0_init 5 = .ok (.invokevirtual 9, 3) := by decide +kernel
theorem dX0_init_8 : decode cX0_init 8 = .ok (.return_, 1) := by decide +kernel
theorem dX0_clear_0 : decode cX0_clear 0 = .ok (.aload_n 0, 1) := by decide +kernel
theorem dX0_clear_1 : decode cX0_clear 1 = .ok (.bipush (-4), 2) := by decide +kernel
theorem dX0_clear_3 : decode cX0_clear 3 = .ok (.putfield 14, 3) := by decide +kernel
theorem dX0_clear_6 : decode cX0_clear 6 = .ok (.aload_n 0, 1) := by decide +kernel
theorem dX0_clear_7 : decode cX0_clear 7 = .ok (.iconst 0, 1) := by decide +kernel
theorem dX0_clear_8 : decode cX0_clear 8 = .ok (.putfield 18, 3) := by decide +kernel
theorem dX0_clear_11 : decode cX0_clear 11 = .ok (.aload_n 0, 1) := by decide +kernel
theorem dX0_clear_12 : decode cX0_clear 12 = .ok (.iconst 0, 1) := by decide +kernel
theorem dX0_clear_13 : decode cX0_clear 13 = .ok (.putfield 21, 3) := by decide +kernel
theorem dX0_clear_16 : decode cX0_clear 16 = .ok (.return_, 1) := by decide +kernel
theorem dX0_offer_0 : decode cX0_offer 0 = .ok (.aload_n 0, 1) := by decide +kernel
theorem dX0_offer_1 : decode cX0_offer 1 = .ok (.getfield 14, 3) := by decide +kernel
theorem dX0_offer_4 : decode cX0_offer 4 = .ok (.bipush (-4), 2) := by decide +kernel
theorem dX0_offer_6 : decode cX0_offer 6 = .ok (.if_icmp .eq 27, 3) := by decide +kernel
theorem dX0_offer_9 : decode cX0_offer 9 = .ok (.iload_n 2, 1) := by decide +kernel
theorem dX0_offer_10 : decode cX0_offer 10 = .ok (.aload_n 0, 1) := by decide +kernel
theorem dX0_offer_11 : decode cX0_offer 11 = .ok (.getfield 18, 3) := by decide +kernel
theorem dX0_offer_14 : decode cX0_offer 14 = .ok (.if_icmp .lt 19, 3) := by decide +kernel
theorem dX0_offer_17 : decode cX0_offer 17 = .ok (.iload_n 2, 1) := by decide +kernel
theorem dX0_offer_18 : decode cX0_offer 18 = .ok (.aload_n 0, 1) := by decide +kernel
theorem dX0_offer_19 : decode cX0_offer 19 = .ok (.getfield 18, 3) := by decide +kernel
theorem dX0_offer_22 : decode cX0_offer 22 = .ok (.if_icmp .ne 26, 3) := by decide +kernel
theorem dX0_offer_25 : decode cX0_offer 25 = .ok (.iload_n 3, 1) := by decide +kernel
theorem dX0_offer_26 : decode cX0_offer 26 = .ok (.aload_n 0, 1) := by decide +kernel
theorem dX0_offer_27 : decode cX0_offer 27 = .ok (.getfield 21, 3) := by decide +kernel
theorem dX0_offer_30 : decode cX0_offer 30 = .ok (.if_icmp .le 18, 3) := by decide +kernel
theorem dX0_offer_33 : decode cX0_offer 33 = .ok (.aload_n 0, 1) := by decide +kernel
theorem dX0_offer_34 : decode cX0_offer 34 = .ok (.iload_n 1, 1) := by decide +kernel
theorem dX0_offer_35 : decode cX0_offer 35 = .ok (.putfield 14, 3) := by decide +kernel
theorem dX0_offer_38 : decode cX0_offer 38 = .ok (.aload_n 0, 1) := by decide +kernel
theorem dX0_offer_39 : decode cX0_offer 39 = .ok (.iload_n 2, 1) := by decide +kernel
theorem dX0_offer_40 : decode cX0_offer 40 = .ok (.putfield 18, 3) := by decide +kernel
theorem dX0_offer_43 : decode cX0_offer 43 = .ok (.aload_n 0, 1) := by decide +kernel
theorem dX0_offer_44 : decode cX0_offer 44 = .ok (.iload_n 3, 1) := by decide +kernel
theorem dX0_offer_45 : decode cX0_offer 45 = .ok (.putfield 21, 3) := by decide +kernel
theorem dX0_offer_48 : decode cX0_offer 48 = .ok (.return_, 1) := by decide +kernel
theorem dX1_init_0 : decode cX1_init 0 = .ok (.aload_n 0, 1) := by decide +kernel
theorem dX1_init_1 : decode cX1_init 1 = .ok (.invokespecial 3, 3) := by decide +kernel
theorem dX1_init_4 : decode cX1_init 4 = .ok (.aload_n 0, 1) := by decide +kernel
theorem dX1_init_5 : decode cX1_init 5 = .ok (.bipush 6, 2) := by decide +kernel
theorem dX1_init_7 : decode cX1_init 7 = .ok (.newarray .int, 2) := by decide +kernel
theorem dX1_init_9 : decode cX1_init 9 = .ok (.putfield 9, 3) := by decide +kernel
theorem dX1_init_12 : decode cX1_init 12 = .ok (.aload_n 0, 1) := by decide +kernel
theorem dX1_init_13 : decode cX1_init 13 = .ok (.bipush 6, 2) := by decide +kernel
theorem dX1_init_15 : decode cX1_init 15 = .ok (.newarray .int, 2) := by decide +kernel
theorem dX1_init_17 : decode cX1_init 17 = .ok (.putfield 15, 3) := by decide +kernel
theorem dX1_init_20 : decode cX1_init 20 = .ok (.aload_n 0, 1) := by decide +kernel
theorem dX1_init_21 : decode cX1_init 21 = .ok (.bipush 6, 2) := by decide +kernel
theorem dX1_init_23 : decode cX1_init 23 = .ok (.newarray .int, 2) := by decide +kernel
theorem dX1_init_25 : decode cX1_init 25 = .ok (.putfield 18, 3) := by decide +kernel
theorem dX1_init_28 : decode cX1_init 28 = .ok (.aload_n 0, 1) := by decide +kernel
theorem dX1_init_29 : decode cX1_init 29 = .ok (.iconst 0, 1) := by decide +kernel
theorem dX1_init_30 : decode cX1_init 30 = .ok (.putfield 21, 3) := by decide +kernel
theorem dX1_init_33 : decode cX1_init 33 = .ok (.return_, 1) := by decide +kernel
theorem dX1_hasRoom_0 : decode cX1_hasRoom 0 = .ok (.aload_n 0, 1) := by decide +kernel
theorem dX1_hasRoom_1 : decode cX1_hasRoom 1 = .ok (.getfield 21, 3) := by decide +kernel
theorem dX1_hasRoom_4 : decode cX1_hasRoom 4 = .ok (.bipush 6, 2) := by decide +kernel
theorem dX1_hasRoom_6 : decode cX1_hasRoom 6 = .ok (.if_icmp .ge 7, 3) := by decide +kernel
theorem dX1_hasRoom_9 : decode cX1_hasRoom 9 = .ok (.iconst 1, 1) := by decide +kernel
theorem dX1_hasRoom_10 : decode cX1_hasRoom 10 = .ok (.goto 4, 3) := by decide +kernel
theorem dX1_hasRoom_13 : decode cX1_hasRoom 13 = .ok (.iconst 0, 1) := by decide +kernel
theorem dX1_hasRoom_14 : decode cX1_hasRoom 14 = .ok (.ireturn, 1) := by decide +kernel
theorem dX1_join_0 : decode cX1_join 0 = .ok (.aload_n 0, 1) := by decide +kernel
theorem dX1_join_1 : decode cX1_join 1 = .ok (.invokevirtual 25, 3) := by decide +kernel
theorem dX1_join_4 : decode cX1_join 4 = .ok (.ifCond .ne 4, 3) := by decide +kernel
theorem dX1_join_7 : decode cX1_join 7 = .ok (.return_, 1) := by decide +kernel
theorem dX1_join_8 : decode cX1_join 8 = .ok (.aload_n 0, 1) := by decide +kernel
theorem dX1_join_9 : decode cX1_join 9 = .ok (.getfield 9, 3) := by decide +kernel
theorem dX1_join_12 : decode cX1_join 12 = .ok (.aload_n 0, 1) := by decide +kernel
theorem dX1_join_13 : decode cX1_join 13 = .ok (.getfield 21, 3) := by decide +kernel
theorem dX1_join_16 : decode cX1_join 16 = .ok (.iload_n 1, 1) := by decide +kernel
theorem dX1_join_17 : decode cX1_join 17 = .ok (.iastore, 1) := by decide +kernel
theorem dX1_join_18 : decode cX1_join 18 = .ok (.aload_n 0, 1) := by decide +kernel
theorem dX1_join_19 : decode cX1_join 19 = .ok (.getfield 15, 3) := by decide +kernel
theorem dX1_join_22 : decode cX1_join 22 = .ok (.aload_n 0, 1) := by decide +kernel
theorem dX1_join_23 : decode cX1_join 23 = .ok (.getfield 21, 3) := by decide +kernel
theorem dX1_join_26 : decode cX1_join 26 = .ok (.iload_n 2, 1) := by decide +kernel
theorem dX1_join_27 : decode cX1_join 27 = .ok (.iastore, 1) := by decide +kernel
theorem dX1_join_28 : decode cX1_join 28 = .ok (.aload_n 0, 1) := by decide +kernel
theorem dX1_join_29 : decode cX1_join 29 = .ok (.getfield 18, 3) := by decide +kernel
theorem dX1_join_32 : decode cX1_join 32 = .ok (.aload_n 0, 1) := by decide +kernel
theorem dX1_join_33 : decode cX1_join 33 = .ok (.getfield 21, 3) := by decide +kernel
theorem dX1_join_36 : decode cX1_join 36 = .ok (.iload_n 3, 1) := by decide +kernel
theorem dX1_join_37 : decode cX1_join 37 = .ok (.iastore, 1) := by decide +kernel
theorem dX1_join_38 : decode cX1_join 38 = .ok (.aload_n 0, 1) := by decide +kernel
theorem dX1_join_39 : decode cX1_join 39 = .ok (.dup, 1) := by decide +kernel
theorem dX1_join_40 : decode cX1_join 40 = .ok (.getfield 21, 3) := by decide +kernel
theorem dX1_join_43 : decode cX1_join 43 = .ok (.iconst 1, 1) := by decide +kernel
theorem dX1_join_44 : decode cX1_join 44 = .ok (.iadd, 1) := by decide +kernel
theorem dX1_join_45 : decode cX1_join 45 = .ok (.putfield 21, 3) := by decide +kernel
theorem dX1_join_48 : decode cX1_join 48 = .ok (.return_, 1) := by decide +kernel
theorem dX1_comes_0 : decode cX1_comes 0 = .ok (.aload_n 0, 1) := by decide +kernel
theorem dX1_comes_1 : decode cX1_comes 1 = .ok (.getfield 18, 3) := by decide +kernel
theorem dX1_comes_4 : decode cX1_comes 4 = .ok (.iload_n 1, 1) := by decide +kernel
theorem dX1_comes_5 : decode cX1_comes 5 = .ok (.iaload, 1) := by decide +kernel
theorem dX1_comes_6 : decode cX1_comes 6 = .ok (.istore_n 3, 1) := by decide +kernel
theorem dX1_comes_7 : decode cX1_comes 7 = .ok (.iload_n 3, 1) := by decide +kernel
theorem dX1_comes_8 : decode cX1_comes 8 = .ok (.ifCond .le 13, 3) := by decide +kernel
theorem dX1_comes_11 : decode cX1_comes 11 = .ok (.iload_n 2, 1) := by decide +kernel
theorem dX1_comes_12 : decode cX1_comes 12 = .ok (.iload_n 3, 1) := by decide +kernel
theorem dX1_comes_13 : decode cX1_comes 13 = .ok (.irem, 1) := by decide +kernel
theorem dX1_comes_14 : decode cX1_comes 14 = .ok (.ifCond .ne 7, 3) := by decide +kernel
theorem dX1_comes_17 : decode cX1_comes 17 = .ok (.iconst 1, 1) := by decide +kernel
theorem dX1_comes_18 : decode cX1_comes 18 = .ok (.goto 4, 3) := by decide +kernel
theorem dX1_comes_21 : decode cX1_comes 21 = .ok (.iconst 0, 1) := by decide +kernel
theorem dX1_comes_22 : decode cX1_comes 22 = .ok (.ireturn, 1) := by decide +kernel
theorem dX1_isRefused_0 : decode cX1_isRefused 0 = .ok (.aload_n 0, 1) := by decide +kernel
theorem dX1_isRefused_1 : decode cX1_isRefused 1 = .ok (.getfield 15, 3) := by decide +kernel
theorem dX1_isRefused_4 : decode cX1_isRefused 4 = .ok (.iload_n 1, 1) := by decide +kernel
theorem dX1_isRefused_5 : decode cX1_isRefused 5 = .ok (.iaload, 1) := by decide +kernel
theorem dX1_isRefused_6 : decode cX1_isRefused 6 = .ok (.iload_n 2, 1) := by decide +kernel
theorem dX1_isRefused_7 : decode cX1_isRefused 7 = .ok (.iand, 1) := by decide +kernel
theorem dX1_isRefused_8 : decode cX1_isRefused 8 = .ok (.ifCond .eq 7, 3) := by decide +kernel
theorem dX1_isRefused_11 : decode cX1_isRefused 11 = .ok (.iconst 1, 1) := by decide +kernel
theorem dX1_isRefused_12 : decode cX1_isRefused 12 = .ok (.goto 4, 3) := by decide +kernel
theorem dX1_isRefused_15 : decode cX1_isRefused 15 = .ok (.iconst 0, 1) := by decide +kernel
theorem dX1_isRefused_16 : decode cX1_isRefused 16 = .ok (.ireturn, 1) := by decide +kernel
theorem dX1_take_0 : decode cX1_take 0 = .ok (.iconst 0, 1) := by decide +kernel
theorem dX1_take_1 : decode cX1_take 1 = .ok (.istore_n 2, 1) := by decide +kernel
theorem dX1_take_2 : decode cX1_take 2 = .ok (.iload_n 2, 1) := by decide +kernel
theorem dX1_take_3 : decode cX1_take 3 = .ok (.bipush 6, 2) := by decide +kernel
theorem dX1_take_5 : decode cX1_take 5 = .ok (.if_icmp .ge 45, 3) := by decide +kernel
theorem dX1_take_8 : decode cX1_take 8 = .ok (.aload_n 0, 1) := by decide +kernel
theorem dX1_take_9 : decode cX1_take 9 = .ok (.getfield 9, 3) := by decide +kernel
theorem dX1_take_12 : decode cX1_take 12 = .ok (.iload_n 2, 1) := by decide +kernel
theorem dX1_take_13 : decode cX1_take 13 = .ok (.aload_n 1, 1) := by decide +kernel
theorem dX1_take_14 : decode cX1_take 14 = .ok (.getfield 9, 3) := by decide +kernel
theorem dX1_take_17 : decode cX1_take 17 = .ok (.iload_n 2, 1) := by decide +kernel
theorem dX1_take_18 : decode cX1_take 18 = .ok (.iaload, 1) := by decide +kernel
theorem dX1_take_19 : decode cX1_take 19 = .ok (.iastore, 1) := by decide +kernel
theorem dX1_take_20 : decode cX1_take 20 = .ok (.aload_n 0, 1) := by decide +kernel
theorem dX1_take_21 : decode cX1_take 21 = .ok (.getfield 15, 3) := by decide +kernel
theorem dX1_take_24 : decode cX1_take 24 = .ok (.iload_n 2, 1) := by decide +kernel
theorem dX1_take_25 : decode cX1_take 25 = .ok (.aload_n 1, 1) := by decide +kernel
theorem dX1_take_26 : decode cX1_take 26 = .ok (.getfield 15, 3) := by decide +kernel
theorem dX1_take_29 : decode cX1_take 29 = .ok (.iload_n 2, 1) := by decide +kernel
theorem dX1_take_30 : decode cX1_take 30 = .ok (.iaload, 1) := by decide +kernel
theorem dX1_take_31 : decode cX1_take 31 = .ok (.iastore, 1) := by decide +kernel
theorem dX1_take_32 : decode cX1_take 32 = .ok (.aload_n 0, 1) := by decide +kernel
theorem dX1_take_33 : decode cX1_take 33 = .ok (.getfield 18, 3) := by decide +kernel
theorem dX1_take_36 : decode cX1_take 36 = .ok (.iload_n 2, 1) := by decide +kernel
theorem dX1_take_37 : decode cX1_take 37 = .ok (.aload_n 1, 1) := by decide +kernel
theorem dX1_take_38 : decode cX1_take 38 = .ok (.getfield 18, 3) := by decide +kernel
theorem dX1_take_41 : decode cX1_take 41 = .ok (.iload_n 2, 1) := by decide +kernel
theorem dX1_take_42 : decode cX1_take 42 = .ok (.iaload, 1) := by decide +kernel
theorem dX1_take_43 : decode cX1_take 43 = .ok (.iastore, 1) := by decide +kernel
theorem dX1_take_44 : decode cX1_take 44 = .ok (.iinc 2 1, 3) := by decide +kernel
theorem dX1_take_47 : decode cX1_take 47 = .ok (.goto (-45), 3) := by decide +kernel
theorem dX1_take_50 : decode cX1_take 50 = .ok (.aload_n 0, 1) := by decide +kernel
theorem dX1_take_51 : decode cX1_take 51 = .ok (.aload_n 1, 1) := by decide +kernel
theorem dX1_take_52 : decode cX1_take 52 = .ok (.getfield 21, 3) := by decide +kernel
theorem dX1_take_55 : decode cX1_take 55 = .ok (.putfield 21, 3) := by decide +kernel
theorem dX1_take_58 : decode cX1_take 58 = .ok (.return_, 1) := by decide +kernel
theorem dX2_init_0 : decode cX2_init 0 = .ok (.aload_n 0, 1) := by decide +kernel
theorem dX2_init_1 : decode cX2_init 1 = .ok (.invokespecial 3, 3) := by decide +kernel
theorem dX2_init_4 : decode cX2_init 4 = .ok (.aload_n 0, 1) := by decide +kernel
theorem dX2_init_5 : decode cX2_init 5 = .ok (.iconst 4, 1) := by decide +kernel
theorem dX2_init_6 : decode cX2_init 6 = .ok (.newarray .int, 2) := by decide +kernel
theorem dX2_init_8 : decode cX2_init 8 = .ok (.putfield 9, 3) := by decide +kernel
theorem dX2_init_11 : decode cX2_init 11 = .ok (.iconst 0, 1) := by decide +kernel
theorem dX2_init_12 : decode cX2_init 12 = .ok (.istore_n 1, 1) := by decide +kernel
theorem dX2_init_13 : decode cX2_init 13 = .ok (.iload_n 1, 1) := by decide +kernel
theorem dX2_init_14 : decode cX2_init 14 = .ok (.iconst 4, 1) := by decide +kernel
theorem dX2_init_15 : decode cX2_init 15 = .ok (.if_icmp .ge 17, 3) := by decide +kernel
theorem dX2_init_18 : decode cX2_init 18 = .ok (.aload_n 0, 1) := by decide +kernel
theorem dX2_init_19 : decode cX2_init 19 = .ok (.getfield 9, 3) := by decide +kernel
theorem dX2_init_22 : decode cX2_init 22 = .ok (.iload_n 1, 1) := by decide +kernel
theorem dX2_init_23 : decode cX2_init 23 = .ok (.bipush 10, 2) := by decide +kernel
theorem dX2_init_25 : decode cX2_init 25 = .ok (.iastore, 1) := by decide +kernel
theorem dX2_init_26 : decode cX2_init 26 = .ok (.iinc 1 1, 3) := by decide +kernel
theorem dX2_init_29 : decode cX2_init 29 = .ok (.goto (-16), 3) := by decide +kernel
theorem dX2_init_32 : decode cX2_init 32 = .ok (.aload_n 0, 1) := by decide +kernel
theorem dX2_init_33 : decode cX2_init 33 = .ok (.iconst 0, 1) := by decide +kernel
theorem dX2_init_34 : decode cX2_init 34 = .ok (.putfield 15, 3) := by decide +kernel
theorem dX2_init_37 : decode cX2_init 37 = .ok (.aload_n 0, 1) := by decide +kernel
theorem dX2_init_38 : decode cX2_init 38 = .ok (.iconst 0, 1) := by decide +kernel
theorem dX2_init_39 : decode cX2_init 39 = .ok (.putfield 19, 3) := by decide +kernel
theorem dX2_init_42 : decode cX2_init 42 = .ok (.aload_n 0, 1) := by decide +kernel
theorem dX2_init_43 : decode cX2_init 43 = .ok (.iconst 0, 1) := by decide +kernel
theorem dX2_init_44 : decode cX2_init 44 = .ok (.putfield 22, 3) := by decide +kernel
theorem dX2_init_47 : decode cX2_init 47 = .ok (.aload_n 0, 1) := by decide +kernel
theorem dX2_init_48 : decode cX2_init 48 = .ok (.iconst 0, 1) := by decide +kernel
theorem dX2_init_49 : decode cX2_init 49 = .ok (.putfield 25, 3) := by decide +kernel
theorem dX2_init_52 : decode cX2_init 52 = .ok (.aload_n 0, 1) := by decide +kernel
theorem dX2_init_53 : decode cX2_init 53 = .ok (.iconst 0, 1) := by decide +kernel
theorem dX2_init_54 : decode cX2_init 54 = .ok (.putfield 28, 3) := by decide +kernel
theorem dX2_init_57 : decode cX2_init 57 = .ok (.aload_n 0, 1) := by decide +kernel
theorem dX2_init_58 : decode cX2_init 58 = .ok (.iconst 1, 1) := by decide +kernel
theorem dX2_init_59 : decode cX2_init 59 = .ok (.putfield 31, 3) := by decide +kernel
theorem dX2_init_62 : decode cX2_init 62 = .ok (.return_, 1) := by decide +kernel
theorem dX2_take_0 : decode cX2_take 0 = .ok (.aload_n 0, 1) := by decide +kernel
theorem dX2_take_1 : decode cX2_take 1 = .ok (.aload_n 1, 1) := by decide +kernel
theorem dX2_take_2 : decode cX2_take 2 = .ok (.invokevirtual 34, 3) := by decide +kernel
theorem dX2_take_5 : decode cX2_take 5 = .ok (.aload_n 0, 1) := by decide +kernel
theorem dX2_take_6 : decode cX2_take 6 = .ok (.aload_n 1, 1) := by decide +kernel
theorem dX2_take_7 : decode cX2_take 7 = .ok (.getfield 15, 3) := by decide +kernel
theorem dX2_take_10 : decode cX2_take 10 = .ok (.putfield 15, 3) := by decide +kernel
theorem dX2_take_13 : decode cX2_take 13 = .ok (.aload_n 0, 1) := by decide +kernel
theorem dX2_take_14 : decode cX2_take 14 = .ok (.aload_n 1, 1) := by decide +kernel
theorem dX2_take_15 : decode cX2_take 15 = .ok (.getfield 19, 3) := by decide +kernel
theorem dX2_take_18 : decode cX2_take 18 = .ok (.putfield 19, 3) := by decide +kernel
theorem dX2_take_21 : decode cX2_take 21 = .ok (.aload_n 0, 1) := by decide +kernel
theorem dX2_take_22 : decode cX2_take 22 = .ok (.aload_n 1, 1) := by decide +kernel
theorem dX2_take_23 : decode cX2_take 23 = .ok (.getfield 22, 3) := by decide +kernel
theorem dX2_take_26 : decode cX2_take 26 = .ok (.putfield 22, 3) := by decide +kernel
theorem dX2_take_29 : decode cX2_take 29 = .ok (.aload_n 0, 1) := by decide +kernel
theorem dX2_take_30 : decode cX2_take 30 = .ok (.aload_n 1, 1) := by decide +kernel
theorem dX2_take_31 : decode cX2_take 31 = .ok (.getfield 25, 3) := by decide +kernel
theorem dX2_take_34 : decode cX2_take 34 = .ok (.putfield 25, 3) := by decide +kernel
theorem dX2_take_37 : decode cX2_take 37 = .ok (.aload_n 0, 1) := by decide +kernel
theorem dX2_take_38 : decode cX2_take 38 = .ok (.aload_n 1, 1) := by decide +kernel
theorem dX2_take_39 : decode cX2_take 39 = .ok (.getfield 28, 3) := by decide +kernel
theorem dX2_take_42 : decode cX2_take 42 = .ok (.putfield 28, 3) := by decide +kernel
theorem dX2_take_45 : decode cX2_take 45 = .ok (.aload_n 0, 1) := by decide +kernel
theorem dX2_take_46 : decode cX2_take 46 = .ok (.aload_n 1, 1) := by decide +kernel
theorem dX2_take_47 : decode cX2_take 47 = .ok (.getfield 31, 3) := by decide +kernel
theorem dX2_take_50 : decode cX2_take 50 = .ok (.putfield 31, 3) := by decide +kernel
theorem dX2_take_53 : decode cX2_take 53 = .ok (.return_, 1) := by decide +kernel
theorem dX2_takeHeaps_0 : decode cX2_takeHeaps 0 = .ok (.iconst 0, 1) := by decide +kernel
theorem dX2_takeHeaps_1 : decode cX2_takeHeaps 1 = .ok (.istore_n 2, 1) := by decide +kernel
theorem dX2_takeHeaps_2 : decode cX2_takeHeaps 2 = .ok (.iload_n 2, 1) := by decide +kernel
theorem dX2_takeHeaps_3 : decode cX2_takeHeaps 3 = .ok (.iconst 4, 1) := by decide +kernel
theorem dX2_takeHeaps_4 : decode cX2_takeHeaps 4 = .ok (.if_icmp .ge 21, 3) := by decide +kernel
theorem dX2_takeHeaps_7 : decode cX2_takeHeaps 7 = .ok (.aload_n 0, 1) := by decide +kernel
theorem dX2_takeHeaps_8 : decode cX2_takeHeaps 8 = .ok (.getfield 9, 3) := by decide +kernel
theorem dX2_takeHeaps_11 : decode cX2_takeHeaps 11 = .ok (.iload_n 2, 1) := by decide +kernel
theorem dX2_takeHeaps_12 : decode cX2_takeHeaps 12 = .ok (.aload_n 1, 1) := by decide +kernel
theorem dX2_takeHeaps_13 : decode cX2_takeHeaps 13 = .ok (.getfield 9, 3) := by decide +kernel
theorem dX2_takeHeaps_16 : decode cX2_takeHeaps 16 = .ok (.iload_n 2, 1) := by decide +kernel
theorem dX2_takeHeaps_17 : decode cX2_takeHeaps 17 = .ok (.iaload, 1) := by decide +kernel
theorem dX2_takeHeaps_18 : decode cX2_takeHeaps 18 = .ok (.iastore, 1) := by decide +kernel
theorem dX2_takeHeaps_19 : decode cX2_takeHeaps 19 = .ok (.iinc 2 1, 3) := by decide +kernel
theorem dX2_takeHeaps_22 : decode cX2_takeHeaps 22 = .ok (.goto (-20), 3) := by decide +kernel
theorem dX2_takeHeaps_25 : decode cX2_takeHeaps 25 = .ok (.return_, 1) := by decide +kernel
theorem dX2_begin_0 : decode cX2_begin 0 = .ok (.aload_n 0, 1) := by decide +kernel
theorem dX2_begin_1 : decode cX2_begin 1 = .ok (.aload_n 1, 1) := by decide +kernel
theorem dX2_begin_2 : decode cX2_begin 2 = .ok (.invokevirtual 34, 3) := by decide +kernel
theorem dX2_begin_5 : decode cX2_begin 5 = .ok (.aload_n 0, 1) := by decide +kernel
theorem dX2_begin_6 : decode cX2_begin 6 = .ok (.aload_n 1, 1) := by decide +kernel
theorem dX2_begin_7 : decode cX2_begin 7 = .ok (.getfield 15, 3) := by decide +kernel
theorem dX2_begin_10 : decode cX2_begin 10 = .ok (.putfield 15, 3) := by decide +kernel
theorem dX2_begin_13 : decode cX2_begin 13 = .ok (.aload_n 0, 1) := by decide +kernel
theorem dX2_begin_14 : decode cX2_begin 14 = .ok (.iconst 0, 1) := by decide +kernel
theorem dX2_begin_15 : decode cX2_begin 15 = .ok (.putfield 19, 3) := by decide +kernel
theorem dX2_begin_18 : decode cX2_begin 18 = .ok (.aload_n 0, 1) := by decide +kernel
theorem dX2_begin_19 : decode cX2_begin 19 = .ok (.iconst 0, 1) := by decide +kernel
theorem dX2_begin_20 : decode cX2_begin 20 = .ok (.putfield 22, 3) := by decide +kernel
theorem dX2_begin_23 : decode cX2_begin 23 = .ok (.aload_n 0, 1) := by decide +kernel
theorem dX2_begin_24 : decode cX2_begin 24 = .ok (.iconst 0, 1) := by decide +kernel
theorem dX2_begin_25 : decode cX2_begin 25 = .ok (.putfield 25, 3) := by decide +kernel
theorem dX2_begin_28 : decode cX2_begin 28 = .ok (.aload_n 0, 1) := by decide +kernel
theorem dX2_begin_29 : decode cX2_begin 29 = .ok (.iconst 0, 1) := by decide +kernel
theorem dX2_begin_30 : decode cX2_begin 30 = .ok (.putfield 28, 3) := by decide +kernel
theorem dX2_begin_33 : decode cX2_begin 33 = .ok (.return_, 1) := by decide +kernel
theorem dX2_allStones_0 : decode cX2_allStones 0 = .ok (.iconst 0, 1) := by decide +kernel
theorem dX2_allStones_1 : decode cX2_allStones 1 = .ok (.istore_n 1, 1) := by decide +kernel
theorem dX2_allStones_2 : decode cX2_allStones 2 = .ok (.iconst 0, 1) := by decide +kernel
theorem dX2_allStones_3 : decode cX2_allStones 3 = .ok (.istore_n 2, 1) := by decide +kernel
theorem dX2_allStones_4 : decode cX2_allStones 4 = .ok (.iload_n 2, 1) := by decide +kernel
theorem dX2_allStones_5 : decode cX2_allStones 5 = .ok (.iconst 4, 1) := by decide +kernel
theorem dX2_allStones_6 : decode cX2_allStones 6 = .ok (.if_icmp .ge 18, 3) := by decide +kernel
theorem dX2_allStones_9 : decode cX2_allStones 9 = .ok (.iload_n 1, 1) := by decide +kernel
theorem dX2_allStones_10 : decode cX2_allStones 10 = .ok (.aload_n 0, 1) := by decide +kernel
theorem dX2_allStones_11 : decode cX2_allStones 11 = .ok (.getfield 9, 3) := by decide +kernel
theorem dX2_allStones_14 : decode cX2_allStones 14 = .ok (.iload_n 2, 1) := by decide +kernel
theorem dX2_allStones_15 : decode cX2_allStones 15 = .ok (.iaload, 1) := by decide +kernel
theorem dX2_allStones_16 : decode cX2_allStones 16 = .ok (.iadd, 1) := by decide +kernel
theorem dX2_allStones_17 : decode cX2_allStones 17 = .ok (.istore_n 1, 1) := by decide +kernel
theorem dX2_allStones_18 : decode cX2_allStones 18 = .ok (.iinc 2 1, 3) := by decide +kernel
theorem dX2_allStones_21 : decode cX2_allStones 21 = .ok (.goto (-17), 3) := by decide +kernel
theorem dX2_allStones_24 : decode cX2_allStones 24 = .ok (.iload_n 1, 1) := by decide +kernel
theorem dX2_allStones_25 : decode cX2_allStones 25 = .ok (.ireturn, 1) := by decide +kernel
theorem dX2_holes_0 : decode cX2_holes 0 = .ok (.iconst 0, 1) := by decide +kernel
theorem dX2_holes_1 : decode cX2_holes 1 = .ok (.istore_n 1, 1) := by decide +kernel
theorem dX2_holes_2 : decode cX2_holes 2 = .ok (.iconst 0, 1) := by decide +kernel
theorem dX2_holes_3 : decode cX2_holes 3 = .ok (.istore_n 2, 1) := by decide +kernel
theorem dX2_holes_4 : decode cX2_holes 4 = .ok (.iload_n 2, 1) := by decide +kernel
theorem dX2_holes_5 : decode cX2_holes 5 = .ok (.iconst 4, 1) := by decide +kernel
theorem dX2_holes_6 : decode cX2_holes 6 = .ok (.if_icmp .ge 24, 3) := by decide +kernel
theorem dX2_holes_9 : decode cX2_holes 9 = .ok (.aload_n 0, 1) := by decide +kernel
theorem dX2_holes_10 : decode cX2_holes 10 = .ok (.getfield 9, 3) := by decide +kernel
theorem dX2_holes_13 : decode cX2_holes 13 = .ok (.iload_n 2, 1) := by decide +kernel
theorem dX2_holes_14 : decode cX2_holes 14 = .ok (.iaload, 1) := by decide +kernel
theorem dX2_holes_15 : decode cX2_holes 15 = .ok (.ifCond .ne 9, 3) := by decide +kernel
theorem dX2_holes_18 : decode cX2_holes 18 = .ok (.iload_n 1, 1) := by decide +kernel
theorem dX2_holes_19 : decode cX2_holes 19 = .ok (.iconst 1, 1) := by decide +kernel
theorem dX2_holes_20 : decode cX2_holes 20 = .ok (.iload_n 2, 1) := by decide +kernel
theorem dX2_holes_21 : decode cX2_holes 21 = .ok (.ishl, 1) := by decide +kernel
theorem dX2_holes_22 : decode cX2_holes 22 = .ok (.ior, 1) := by decide +kernel
theorem dX2_holes_23 : decode cX2_holes 23 = .ok (.istore_n 1, 1) := by decide +kernel
theorem dX2_holes_24 : decode cX2_holes 24 = .ok (.iinc 2 1, 3) := by decide +kernel
theorem dX2_holes_27 : decode cX2_holes 27 = .ok (.goto (-23), 3) := by decide +kernel
theorem dX2_holes_30 : decode cX2_holes 30 = .ok (.iload_n 1, 1) := by decide +kernel
theorem dX2_holes_31 : decode cX2_holes 31 = .ok (.ireturn, 1) := by decide +kernel
theorem dX2_lose_0 : decode cX2_lose 0 = .ok (.aload_n 0, 1) := by decide +kernel
theorem dX2_lose_1 : decode cX2_lose 1 = .ok (.getfield 9, 3) := by decide +kernel
theorem dX2_lose_4 : decode cX2_lose 4 = .ok (.iload_n 1, 1) := by decide +kernel
theorem dX2_lose_5 : decode cX2_lose 5 = .ok (.iconst 0, 1) := by decide +kernel
theorem dX2_lose_6 : decode cX2_lose 6 = .ok (.aload_n 0, 1) := by decide +kernel
theorem dX2_lose_7 : decode cX2_lose 7 = .ok (.getfield 9, 3) := by decide +kernel
theorem dX2_lose_10 : decode cX2_lose 10 = .ok (.iload_n 1, 1) := by decide +kernel
theorem dX2_lose_11 : decode cX2_lose 11 = .ok (.iaload, 1) := by decide +kernel
theorem dX2_lose_12 : decode cX2_lose 12 = .ok (.iload_n 2, 1) := by decide +kernel
theorem dX2_lose_13 : decode cX2_lose 13 = .ok (.isub, 1) := by decide +kernel
theorem dX2_lose_14 : decode cX2_lose 14 = .ok (.invokestatic 38, 3) := by decide +kernel
theorem dX2_lose_17 : decode cX2_lose 17 = .ok (.iastore, 1) := by decide +kernel
theorem dX2_lose_18 : decode cX2_lose 18 = .ok (.return_, 1) := by decide +kernel
theorem dX2_loseAll_0 : decode cX2_loseAll 0 = .ok (.iconst 0, 1) := by decide +kernel
theorem dX2_loseAll_1 : decode cX2_loseAll 1 = .ok (.istore_n 2, 1) := by decide +kernel
theorem dX2_loseAll_2 : decode cX2_loseAll 2 = .ok (.iload_n 2, 1) := by decide +kernel
theorem dX2_loseAll_3 : decode cX2_loseAll 3 = .ok (.iconst 4, 1) := by decide +kernel
theorem dX2_loseAll_4 : decode cX2_loseAll 4 = .ok (.if_icmp .ge 15, 3) := by decide +kernel
theorem dX2_loseAll_7 : decode cX2_loseAll 7 = .ok (.aload_n 0, 1) := by decide +kernel
theorem dX2_loseAll_8 : decode cX2_loseAll 8 = .ok (.iload_n 2, 1) := by decide +kernel
theorem dX2_loseAll_9 : decode cX2_loseAll 9 = .ok (.iload_n 1, 1) := by decide +kernel
theorem dX2_loseAll_10 : decode cX2_loseAll 10 = .ok (.invokevirtual 44, 3) := by decide +kernel
theorem dX2_loseAll_13 : decode cX2_loseAll 13 = .ok (.iinc 2 1, 3) := by decide +kernel
theorem dX2_loseAll_16 : decode cX2_loseAll 16 = .ok (.goto (-14), 3) := by decide +kernel
theorem dX2_loseAll_19 : decode cX2_loseAll 19 = .ok (.return_, 1) := by decide +kernel
theorem dX2_pass_0 : decode cX2_pass 0 = .ok (.iconst 0, 1) := by decide +kernel
theorem dX2_pass_1 : decode cX2_pass 1 = .ok (.istore_n 2, 1) := by decide +kernel
theorem dX2_pass_2 : decode cX2_pass 2 = .ok (.iconst 0, 1) := by decide +kernel
theorem dX2_pass_3 : decode cX2_pass 3 = .ok (.istore_n 3, 1) := by decide +kernel
theorem dX2_pass_4 : decode cX2_pass 4 = .ok (.iload_n 3, 1) := by decide +kernel
theorem dX2_pass_5 : decode cX2_pass 5 = .ok (.aload_n 1, 1) := by decide +kernel
theorem dX2_pass_6 : decode cX2_pass 6 = .ok (.getfield 48, 3) := by decide +kernel
theorem dX2_pass_9 : decode cX2_pass 9 = .ok (.if_icmp .ge 108, 3) := by decide +kernel
theorem dX2_pass_12 : decode cX2_pass 12 = .ok (.aload_n 1, 1) := by decide +kernel
theorem dX2_pass_13 : decode cX2_pass 13 = .ok (.iload_n 3, 1) := by decide +kernel
theorem dX2_pass_14 : decode cX2_pass 14 = .ok (.aload_n 0, 1) := by decide +kernel
theorem dX2_pass_15 : decode cX2_pass 15 = .ok (.getfield 19, 3) := by decide +kernel
theorem dX2_pass_18 : decode cX2_pass 18 = .ok (.invokevirtual 53, 3) := by decide +kernel
theorem dX2_pass_21 : decode cX2_pass 21 = .ok (.ifCond .ne 6, 3) := by decide +kernel
theorem dX2_pass_24 : decode cX2_pass 24 = .ok (.goto 87, 3) := by decide +kernel
theorem dX2_pass_27 : decode cX2_pass 27 = .ok (.aload_n 1, 1) := by decide +kernel
theorem dX2_pass_28 : decode cX2_pass 28 = .ok (.getfield 57, 3) := by decide +kernel
theorem dX2_pass_31 : decode cX2_pass 31 = .ok (.iload_n 3, 1) := by decide +kernel
theorem dX2_pass_32 : decode cX2_pass 32 = .ok (.iaload, 1) := by decide +kernel
theorem dX2_pass_33 : decode cX2_pass 33 = .ok (.istore 4, 2) := by decide +kernel
theorem dX2_pass_35 : decode cX2_pass 35 = .ok (.aload_n 1, 1) := by decide +kernel
theorem dX2_pass_36 : decode cX2_pass 36 = .ok (.iload_n 3, 1) := by decide +kernel
theorem dX2_pass_37 : decode cX2_pass 37 = .ok (.aload_n 0, 1) := by decide +kernel
theorem dX2_pass_38 : decode cX2_pass 38 = .ok (.getfield 15, 3) := by decide +kernel
theorem dX2_pass_41 : decode cX2_pass 41 = .ok (.invokevirtual 60, 3) := by decide +kernel
theorem dX2_pass_44 : decode cX2_pass 44 = .ok (.ifCond .eq 29, 3) := by decide +kernel
theorem dX2_pass_47 : decode cX2_pass 47 = .ok (.aload_n 0, 1) := by decide +kernel
theorem dX2_pass_48 : decode cX2_pass 48 = .ok (.dup, 1) := by decide +kernel
theorem dX2_pass_49 : decode cX2_pass 49 = .ok (.getfield 25, 3) := by decide +kernel
theorem dX2_pass_52 : decode cX2_pass 52 = .ok (.iconst 1, 1) := by decide +kernel
theorem dX2_pass_53 : decode cX2_pass 53 = .ok (.iadd, 1) := by decide +kernel
theorem dX2_pass_54 : decode cX2_pass 54 = .ok (.putfield 25, 3) := by decide +kernel
theorem dX2_pass_57 : decode cX2_pass 57 = .ok (.aload_n 0, 1) := by decide +kernel
theorem dX2_pass_58 : decode cX2_pass 58 = .ok (.iload 4, 2) := by decide +kernel
theorem dX2_pass_60 : decode cX2_pass 60 = .ok (.aload_n 0, 1) := by decide +kernel
theorem dX2_pass_61 : decode cX2_pass 61 = .ok (.getfield 19, 3) := by decide +kernel
theorem dX2_pass_64 : decode cX2_pass 64 = .ok (.invokestatic 63, 3) := by decide +kernel
theorem dX2_pass_67 : decode cX2_pass 67 = .ok (.invokevirtual 66, 3) := by decide +kernel
theorem dX2_pass_70 : decode cX2_pass 70 = .ok (.goto 41, 3) := by decide +kernel
theorem dX2_pass_73 : decode cX2_pass 73 = .ok (.aload_n 0, 1) := by decide +kernel
theorem dX2_pass_74 : decode cX2_pass 74 = .ok (.iload 4, 2) := by decide +kernel
theorem dX2_pass_76 : decode cX2_pass 76 = .ok (.invokevirtual 70, 3) := by decide +kernel
theorem dX2_pass_79 : decode cX2_pass 79 = .ok (.ifCond .eq 16, 3) := by decide +kernel
theorem dX2_pass_82 : decode cX2_pass 82 = .ok (.aload_n 0, 1) := by decide +kernel
theorem dX2_pass_83 : decode cX2_pass 83 = .ok (.dup, 1) := by decide +kernel
theorem dX2_pass_84 : decode cX2_pass 84 = .ok (.getfield 22, 3) := by decide +kernel
theorem dX2_pass_87 : decode cX2_pass 87 = .ok (.iconst 1, 1) := by decide +kernel
theorem dX2_pass_88 : decode cX2_pass 88 = .ok (.iadd, 1) := by decide +kernel
theorem dX2_pass_89 : decode cX2_pass 89 = .ok (.putfield 22, 3) := by decide +kernel
theorem dX2_pass_92 : decode cX2_pass 92 = .ok (.goto 19, 3) := by decide +kernel
theorem dX2_pass_95 : decode cX2_pass 95 = .ok (.aload_n 0, 1) := by decide +kernel
theorem dX2_pass_96 : decode cX2_pass 96 = .ok (.dup, 1) := by decide +kernel
theorem dX2_pass_97 : decode cX2_pass 97 = .ok (.getfield 28, 3) := by decide +kernel
theorem dX2_pass_100 : decode cX2_pass 100 = .ok (.iconst 1, 1) := by decide +kernel
theorem dX2_pass_101 : decode cX2_pass 101 = .ok (.iadd, 1) := by decide +kernel
theorem dX2_pass_102 : decode cX2_pass 102 = .ok (.putfield 28, 3) := by decide +kernel
theorem dX2_pass_105 : decode cX2_pass 105 = .ok (.iload_n 2, 1) := by decide +kernel
theorem dX2_pass_106 : decode cX2_pass 106 = .ok (.iconst 1, 1) := by decide +kernel
theorem dX2_pass_107 : decode cX2_pass 107 = .ok (.iload_n 3, 1) := by decide +kernel
theorem dX2_pass_108 : decode cX2_pass 108 = .ok (.ishl, 1) := by decide +kernel
theorem dX2_pass_109 : decode cX2_pass 109 = .ok (.ior, 1) := by decide +kernel
theorem dX2_pass_110 : decode cX2_pass 110 = .ok (.istore_n 2, 1) := by decide +kernel
theorem dX2_pass_111 : decode cX2_pass 111 = .ok (.iinc 3 1, 3) := by decide +kernel
theorem dX2_pass_114 : decode cX2_pass 114 = .ok (.goto (-110), 3) := by decide +kernel
theorem dX2_pass_117 : decode cX2_pass 117 = .ok (.aload_n 0, 1) := by decide +kernel
theorem dX2_pass_118 : decode cX2_pass 118 = .ok (.dup, 1) := by decide +kernel
theorem dX2_pass_119 : decode cX2_pass 119 = .ok (.getfield 19, 3) := by decide +kernel
theorem dX2_pass_122 : decode cX2_pass 122 = .ok (.iconst 1, 1) := by decide +kernel
theorem dX2_pass_123 : decode cX2_pass 123 = .ok (.iadd, 1) := by decide +kernel
theorem dX2_pass_124 : decode cX2_pass 124 = .ok (.putfield 19, 3) := by decide +kernel
theorem dX2_pass_127 : decode cX2_pass 127 = .ok (.iload_n 2, 1) := by decide +kernel
theorem dX2_pass_128 : decode cX2_pass 128 = .ok (.ireturn, 1) := by decide +kernel
theorem dX2_putIn_0 : decode cX2_putIn 0 = .ok (.iconst 0, 1) := by decide +kernel
theorem dX2_putIn_1 : decode cX2_putIn 1 = .ok (.istore_n 2, 1) := by decide +kernel
theorem dX2_putIn_2 : decode cX2_putIn 2 = .ok (.iload_n 2, 1) := by decide +kernel
theorem dX2_putIn_3 : decode cX2_putIn 3 = .ok (.iload_n 1, 1) := by decide +kernel
theorem dX2_putIn_4 : decode cX2_putIn 4 = .ok (.if_icmp .ge 33, 3) := by decide +kernel
theorem dX2_putIn_7 : decode cX2_putIn 7 = .ok (.aload_n 0, 1) := by decide +kernel
theorem dX2_putIn_8 : decode cX2_putIn 8 = .ok (.invokevirtual 74, 3) := by decide +kernel
theorem dX2_putIn_11 : decode cX2_putIn 11 = .ok (.istore_n 3, 1) := by decide +kernel
theorem dX2_putIn_12 : decode cX2_putIn 12 = .ok (.aload_n 0, 1) := by decide +kernel
theorem dX2_putIn_13 : decode cX2_putIn 13 = .ok (.getfield 9, 3) := by decide +kernel
theorem dX2_putIn_16 : decode cX2_putIn 16 = .ok (.iload_n 3, 1) := by decide +kernel
theorem dX2_putIn_17 : decode cX2_putIn 17 = .ok (.bipush 40, 2) := by decide +kernel
theorem dX2_putIn_19 : decode cX2_putIn 19 = .ok (.aload_n 0, 1) := by decide +kernel
theorem dX2_putIn_20 : decode cX2_putIn 20 = .ok (.getfield 9, 3) := by decide +kernel
theorem dX2_putIn_23 : decode cX2_putIn 23 = .ok (.iload_n 3, 1) := by decide +kernel
theorem dX2_putIn_24 : decode cX2_putIn 24 = .ok (.iaload, 1) := by decide +kernel
theorem dX2_putIn_25 : decode cX2_putIn 25 = .ok (.iconst 1, 1) := by decide +kernel
theorem dX2_putIn_26 : decode cX2_putIn 26 = .ok (.iadd, 1) := by decide +kernel
theorem dX2_putIn_27 : decode cX2_putIn 27 = .ok (.invokestatic 78, 3) := by decide +kernel
theorem dX2_putIn_30 : decode cX2_putIn 30 = .ok (.iastore, 1) := by decide +kernel
theorem dX2_putIn_31 : decode cX2_putIn 31 = .ok (.iinc 2 1, 3) := by decide +kernel
theorem dX2_putIn_34 : decode cX2_putIn 34 = .ok (.goto (-32), 3) := by decide +kernel
theorem dX2_putIn_37 : decode cX2_putIn 37 = .ok (.return_, 1) := by decide +kernel
theorem dX2_weakest_0 : decode cX2_weakest 0 = .ok (.iconst 0, 1) := by decide +kernel
theorem dX2_weakest_1 : decode cX2_weakest 1 = .ok (.istore_n 1, 1) := by decide +kernel
theorem dX2_weakest_2 : decode cX2_weakest 2 = .ok (.iconst 1, 1) := by decide +kernel
theorem dX2_weakest_3 : decode cX2_weakest 3 = .ok (.istore_n 2, 1) := by decide +kernel
theorem dX2_weakest_4 : decode cX2_weakest 4 = .ok (.iload_n 2, 1) := by decide +kernel
theorem dX2_weakest_5 : decode cX2_weakest 5 = .ok (.iconst 4, 1) := by decide +kernel
theorem dX2_weakest_6 : decode cX2_weakest 6 = .ok (.if_icmp .ge 26, 3) := by decide +kernel
theorem dX2_weakest_9 : decode cX2_weakest 9 = .ok (.aload_n 0, 1) := by decide +kernel
theorem dX2_weakest_10 : decode cX2_weakest 10 = .ok (.getfield 9, 3) := by decide +kernel
theorem dX2_weakest_13 : decode cX2_weakest 13 = .ok (.iload_n 2, 1) := by decide +kernel
theorem dX2_weakest_14 : decode cX2_weakest 14 = .ok (.iaload, 1) := by decide +kernel
theorem dX2_weakest_15 : decode cX2_weakest 15 = .ok (.aload_n 0, 1) := by decide +kernel
theorem dX2_weakest_16 : decode cX2_weakest 16 = .ok (.getfield 9, 3) := by decide +kernel
theorem dX2_weakest_19 : decode cX2_weakest 19 = .ok (.iload_n 1, 1) := by decide +kernel
theorem dX2_weakest_20 : decode cX2_weakest 20 = .ok (.iaload, 1) := by decide +kernel
theorem dX2_weakest_21 : decode cX2_weakest 21 = .ok (.if_icmp .ge 5, 3) := by decide +kernel
theorem dX2_weakest_24 : decode cX2_weakest 24 = .ok (.iload_n 2, 1) := by decide +kernel
theorem dX2_weakest_25 : decode cX2_weakest 25 = .ok (.istore_n 1, 1) := by decide +kernel
theorem dX2_weakest_26 : decode cX2_weakest 26 = .ok (.iinc 2 1, 3) := by decide +kernel
theorem dX2_weakest_29 : decode cX2_weakest 29 = .ok (.goto (-25), 3) := by decide +kernel
theorem dX2_weakest_32 : decode cX2_weakest 32 = .ok (.iload_n 1, 1) := by decide +kernel
theorem dX2_weakest_33 : decode cX2_weakest 33 = .ok (.ireturn, 1) := by decide +kernel
theorem dX2_crosses_0 : decode cX2_crosses 0 = .ok (.iconst 0, 1) := by decide +kernel
theorem dX2_crosses_1 : decode cX2_crosses 1 = .ok (.istore_n 2, 1) := by decide +kernel
theorem dX2_crosses_2 : decode cX2_crosses 2 = .ok (.iload_n 2, 1) := by decide +kernel
theorem dX2_crosses_3 : decode cX2_crosses 3 = .ok (.iconst 4, 1) := by decide +kernel
theorem dX2_crosses_4 : decode cX2_crosses 4 = .ok (.if_icmp .ge 48, 3) := by decide +kernel
theorem dX2_crosses_7 : decode cX2_crosses 7 = .ok (.iload_n 1, 1) := by decide +kernel
theorem dX2_crosses_8 : decode cX2_crosses 8 = .ok (.iload_n 2, 1) := by decide +kernel
theorem dX2_crosses_9 : decode cX2_crosses 9 = .ok (.aload_n 0, 1) := by decide +kernel
theorem dX2_crosses_10 : decode cX2_crosses 10 = .ok (.getfield 19, 3) := by decide +kernel
theorem dX2_crosses_13 : decode cX2_crosses 13 = .ok (.invokestatic 81, 3) := by decide +kernel
theorem dX2_crosses_16 : decode cX2_crosses 16 = .ok (.istore_n 3, 1) := by decide +kernel
theorem dX2_crosses_17 : decode cX2_crosses 17 = .ok (.aload_n 0, 1) := by decide +kernel
theorem dX2_crosses_18 : decode cX2_crosses 18 = .ok (.getfield 9, 3) := by decide +kernel
theorem dX2_crosses_21 : decode cX2_crosses 21 = .ok (.iload_n 2, 1) := by decide +kernel
theorem dX2_crosses_22 : decode cX2_crosses 22 = .ok (.iaload, 1) := by decide +kernel
theorem dX2_crosses_23 : decode cX2_crosses 23 = .ok (.iload_n 3, 1) := by decide +kernel
theorem dX2_crosses_24 : decode cX2_crosses 24 = .ok (.if_icmp .gt 12, 3) := by decide +kernel
theorem dX2_crosses_27 : decode cX2_crosses 27 = .ok (.aload_n 0, 1) := by decide +kernel
theorem dX2_crosses_28 : decode cX2_crosses 28 = .ok (.getfield 9, 3) := by decide +kernel
theorem dX2_crosses_31 : decode cX2_crosses 31 = .ok (.iload_n 2, 1) := by decide +kernel
theorem dX2_crosses_32 : decode cX2_crosses 32 = .ok (.iconst 0, 1) := by decide +kernel
theorem dX2_crosses_33 : decode cX2_crosses 33 = .ok (.iastore, 1) := by decide +kernel
theorem dX2_crosses_34 : decode cX2_crosses 34 = .ok (.iconst 0, 1) := by decide +kernel
theorem dX2_crosses_35 : decode cX2_crosses 35 = .ok (.ireturn, 1) := by decide +kernel
theorem dX2_crosses_36 : decode cX2_crosses 36 = .ok (.aload_n 0, 1) := by decide +kernel
theorem dX2_crosses_37 : decode cX2_crosses 37 = .ok (.getfield 9, 3) := by decide +kernel
theorem dX2_crosses_40 : decode cX2_crosses 40 = .ok (.iload_n 2, 1) := by decide +kernel
theorem dX2_crosses_41 : decode cX2_crosses 41 = .ok (.dup2, 1) := by decide +kernel
theorem dX2_crosses_42 : decode cX2_crosses 42 = .ok (.iaload, 1) := by decide +kernel
theorem dX2_crosses_43 : decode cX2_crosses 43 = .ok (.iload_n 3, 1) := by decide +kernel
theorem dX2_crosses_44 : decode cX2_crosses 44 = .ok (.isub, 1) := by decide +kernel
theorem dX2_crosses_45 : decode cX2_crosses 45 = .ok (.iastore, 1) := by decide +kernel
theorem dX2_crosses_46 : decode cX2_crosses 46 = .ok (.iinc 2 1, 3) := by decide +kernel
theorem dX2_crosses_49 : decode cX2_crosses 49 = .ok (.goto (-47), 3) := by decide +kernel
theorem dX2_crosses_52 : decode cX2_crosses 52 = .ok (.iconst 1, 1) := by decide +kernel
theorem dX2_crosses_53 : decode cX2_crosses 53 = .ok (.ireturn, 1) := by decide +kernel
theorem dX2_drawLook_0 : decode cX2_drawLook 0 = .ok (.aload_n 0, 1) := by decide +kernel
theorem dX2_drawLook_1 : decode cX2_drawLook 1 = .ok (.aload_n 0, 1) := by decide +kernel
theorem dX2_drawLook_2 : decode cX2_drawLook 2 = .ok (.getfield 31, 3) := by decide +kernel
theorem dX2_drawLook_5 : decode cX2_drawLook 5 = .ok (.i2l, 1) := by decide +kernel
theorem dX2_drawLook_6 : decode cX2_drawLook 6 = .ok (.ldc2_w 85, 3) := by decide +kernel
theorem dX2_drawLook_9 : decode cX2_drawLook 9 = .ok (.lmul, 1) := by decide +kernel
theorem dX2_drawLook_10 : decode cX2_drawLook 10 = .ok (.ldc2_w 87, 3) := by decide +kernel
theorem dX2_drawLook_13 : decode cX2_drawLook 13 = .ok (.ladd, 1) := by decide +kernel
theorem dX2_drawLook_14 : decode cX2_drawLook 14 = .ok (.ldc2_w 89, 3) := by decide +kernel
theorem dX2_drawLook_17 : decode cX2_drawLook 17 = .ok (.land, 1) := by decide +kernel
theorem dX2_drawLook_18 : decode cX2_drawLook 18 = .ok (.l2i, 1) := by decide +kernel
theorem dX2_drawLook_19 : decode cX2_drawLook 19 = .ok (.putfield 31, 3) := by decide +kernel
theorem dX2_drawLook_22 : decode cX2_drawLook 22 = .ok (.aload_n 0, 1) := by decide +kernel
theorem dX2_drawLook_23 : decode cX2_drawLook 23 = .ok (.getfield 31, 3) := by decide +kernel
theorem dX2_drawLook_26 : decode cX2_drawLook 26 = .ok (.ldc 91, 2) := by decide +kernel
theorem dX2_drawLook_28 : decode cX2_drawLook 28 = .ok (.idiv, 1) := by decide +kernel
theorem dX2_drawLook_29 : decode cX2_drawLook 29 = .ok (.iconst 5, 1) := by decide +kernel
theorem dX2_drawLook_30 : decode cX2_drawLook 30 = .ok (.irem, 1) := by decide +kernel
theorem dX2_drawLook_31 : decode cX2_drawLook 31 = .ok (.ifCond .ne 25, 3) := by decide +kernel
theorem dX2_drawLook_34 : decode cX2_drawLook 34 = .ok (.aload_n 0, 1) := by decide +kernel
theorem dX2_drawLook_35 : decode cX2_drawLook 35 = .ok (.dup, 1) := by decide +kernel
theorem dX2_drawLook_36 : decode cX2_drawLook 36 = .ok (.getfield 15, 3) := by decide +kernel
theorem dX2_drawLook_39 : decode cX2_drawLook 39 = .ok (.iconst 1, 1) := by decide +kernel
theorem dX2_drawLook_40 : decode cX2_drawLook 40 = .ok (.aload_n 0, 1) := by decide +kernel
theorem dX2_drawLook_41 : decode cX2_drawLook 41 = .ok (.getfield 31, 3) := by decide +kernel
theorem dX2_drawLook_44 : decode cX2_drawLook 44 = .ok (.sipush 128, 3) := by decide +kernel
theorem dX2_drawLook_47 : decode cX2_drawLook 47 = .ok (.idiv, 1) := by decide +kernel
theorem dX2_drawLook_48 : decode cX2_drawLook 48 = .ok (.bipush 6, 2) := by decide +kernel
theorem dX2_drawLook_50 : decode cX2_drawLook 50 = .ok (.irem, 1) := by decide +kernel
theorem dX2_drawLook_51 : decode cX2_drawLook 51 = .ok (.ishl, 1) := by decide +kernel
theorem dX2_drawLook_52 : decode cX2_drawLook 52 = .ok (.ixor, 1) := by decide +kernel
theorem dX2_drawLook_53 : decode cX2_drawLook 53 = .ok (.putfield 15, 3) := by decide +kernel
theorem dX2_drawLook_56 : decode cX2_drawLook 56 = .ok (.return_, 1) := by decide +kernel
theorem dX3_init_0 : decode cX3_init 0 = .ok (.aload_n 0, 1) := by decide +kernel
theorem dX3_init_1 : decode cX3_init 1 = .ok (.invokespecial 3, 3) := by decide +kernel
theorem dX3_init_4 : decode cX3_init 4 = .ok (.aload_n 0, 1) := by decide +kernel
theorem dX3_init_5 : decode cX3_init 5 = .ok (.bipush 24, 2) := by decide +kernel
theorem dX3_init_7 : decode cX3_init 7 = .ok (.newarray .long, 2) := by decide +kernel
theorem dX3_init_9 : decode cX3_init 9 = .ok (.putfield 9, 3) := by decide +kernel
theorem dX3_init_12 : decode cX3_init 12 = .ok (.aload_n 0, 1) := by decide +kernel
theorem dX3_init_13 : decode cX3_init 13 = .ok (.iconst (-1), 1) := by decide +kernel
theorem dX3_init_14 : decode cX3_init 14 = .ok (.putfield 15, 3) := by decide +kernel
theorem dX3_init_17 : decode cX3_init 17 = .ok (.aload_n 0, 1) := by decide +kernel
theorem dX3_init_18 : decode cX3_init 18 = .ok (.iconst 0, 1) := by decide +kernel
theorem dX3_init_19 : decode cX3_init 19 = .ok (.putfield 19, 3) := by decide +kernel
theorem dX3_init_22 : decode cX3_init 22 = .ok (.return_, 1) := by decide +kernel
theorem dX3_renew_0 : decode cX3_renew 0 = .ok (.iconst 0, 1) := by decide +kernel
theorem dX3_renew_1 : decode cX3_renew 1 = .ok (.istore_n 3, 1) := by decide +kernel
theorem dX3_renew_2 : decode cX3_renew 2 = .ok (.iload_n 3, 1) := by decide +kernel
theorem dX3_renew_3 : decode cX3_renew 3 = .ok (.bipush 24, 2) := by decide +kernel
theorem dX3_renew_5 : decode cX3_renew 5 = .ok (.if_icmp .ge 16, 3) := by decide +kernel
theorem dX3_renew_8 : decode cX3_renew 8 = .ok (.aload_n 0, 1) := by decide +kernel
theorem dX3_renew_9 : decode cX3_renew 9 = .ok (.getfield 9, 3) := by decide +kernel
theorem dX3_renew_12 : decode cX3_renew 12 = .ok (.iload_n 3, 1) := by decide +kernel
theorem dX3_renew_13 : decode cX3_renew 13 = .ok (.lconst 0, 1) := by decide +kernel
theorem dX3_renew_14 : decode cX3_renew 14 = .ok (.lastore, 1) := by decide +kernel
theorem dX3_renew_15 : decode cX3_renew 15 = .ok (.iinc 3 1, 3) := by decide +kernel
theorem dX3_renew_18 : decode cX3_renew 18 = .ok (.goto (-16), 3) := by decide +kernel
theorem dX3_renew_21 : decode cX3_renew 21 = .ok (.aload_n 0, 1) := by decide +kernel
theorem dX3_renew_22 : decode cX3_renew 22 = .ok (.iload_n 1, 1) := by decide +kernel
theorem dX3_renew_23 : decode cX3_renew 23 = .ok (.putfield 15, 3) := by decide +kernel
theorem dX3_renew_26 : decode cX3_renew 26 = .ok (.aload_n 0, 1) := by decide +kernel
theorem dX3_renew_27 : decode cX3_renew 27 = .ok (.iload_n 2, 1) := by decide +kernel
theorem dX3_renew_28 : decode cX3_renew 28 = .ok (.putfield 19, 3) := by decide +kernel
theorem dX3_renew_31 : decode cX3_renew 31 = .ok (.return_, 1) := by decide +kernel
theorem dX3_holds_0 : decode cX3_holds 0 = .ok (.iload_n 2, 1) := by decide +kernel
theorem dX3_holds_1 : decode cX3_holds 1 = .ok (.ifCond .lt 21, 3) := by decide +kernel
theorem dX3_holds_4 : decode cX3_holds 4 = .ok (.iload_n 1, 1) := by decide +kernel
theorem dX3_holds_5 : decode cX3_holds 5 = .ok (.ifCond .lt 17, 3) := by decide +kernel
theorem dX3_holds_8 : decode cX3_holds 8 = .ok (.iload_n 1, 1) := by decide +kernel
theorem dX3_holds_9 : decode cX3_holds 9 = .ok (.aload_n 0, 1) := by decide +kernel
theorem dX3_holds_10 : decode cX3_holds 10 = .ok (.getfield 19, 3) := by decide +kernel
theorem dX3_holds_13 : decode cX3_holds 13 = .ok (.iload_n 2, 1) := by decide +kernel
theorem dX3_holds_14 : decode cX3_holds 14 = .ok (.isub, 1) := by decide +kernel
theorem dX3_holds_15 : decode cX3_holds 15 = .ok (.if_icmp .gt 7, 3) := by decide +kernel
theorem dX3_holds_18 : decode cX3_holds 18 = .ok (.iconst 1, 1) := by decide +kernel
theorem dX3_holds_19 : decode cX3_holds 19 = .ok (.goto 4, 3) := by decide +kernel
theorem dX3_holds_22 : decode cX3_holds 22 = .ok (.iconst 0, 1) := by decide +kernel
theorem dX3_holds_23 : decode cX3_holds 23 = .ok (.ireturn, 1) := by decide +kernel
theorem dX3_faultOf_0 : decode cX3_faultOf 0 = .ok (.aload_n 0, 1) := by decide +kernel
theorem dX3_faultOf_1 : decode cX3_faultOf 1 = .ok (.getfield 15, 3) := by decide +kernel
theorem dX3_faultOf_4 : decode cX3_faultOf 4 = .ok (.iconst (-1), 1) := by decide +kernel
theorem dX3_faultOf_5 : decode cX3_faultOf 5 = .ok (.if_icmp .ne 6, 3) := by decide +kernel
theorem dX3_faultOf_8 : decode cX3_faultOf 8 = .ok (.bipush (-11), 2) := by decide +kernel
theorem dX3_faultOf_10 : decode cX3_faultOf 10 = .ok (.ireturn, 1) := by decide +kernel
theorem dX3_faultOf_11 : decode cX3_faultOf 11 = .ok (.aload_n 0, 1) := by decide +kernel
theorem dX3_faultOf_12 : decode cX3_faultOf 12 = .ok (.getfield 15, 3) := by decide +kernel
theorem dX3_faultOf_15 : decode cX3_faultOf 15 = .ok (.iload_n 1, 1) := by decide +kernel
theorem dX3_faultOf_16 : decode cX3_faultOf 16 = .ok (.if_icmp .eq 6, 3) := by decide +kernel
theorem dX3_faultOf_19 : decode cX3_faultOf 19 = .ok (.bipush (-12), 2) := by decide +kernel
theorem dX3_faultOf_21 : decode cX3_faultOf 21 = .ok (.ireturn, 1) := by decide +kernel
theorem dX3_faultOf_22 : decode cX3_faultOf 22 = .ok (.aload_n 0, 1) := by decide +kernel
theorem dX3_faultOf_23 : decode cX3_faultOf 23 = .ok (.iload_n 2, 1) := by decide +kernel
theorem dX3_faultOf_24 : decode cX3_faultOf 24 = .ok (.iload_n 3, 1) := by decide +kernel
theorem dX3_faultOf_25 : decode cX3_faultOf 25 = .ok (.invokevirtual 22, 3) := by decide +kernel
theorem dX3_faultOf_28 : decode cX3_faultOf 28 = .ok (.ifCond .eq 7, 3) := by decide +kernel
theorem dX3_faultOf_31 : decode cX3_faultOf 31 = .ok (.iconst 0, 1) := by decide +kernel
theorem dX3_faultOf_32 : decode cX3_faultOf 32 = .ok (.goto 5, 3) := by decide +kernel
theorem dX3_faultOf_35 : decode cX3_faultOf 35 = .ok (.bipush (-13), 2) := by decide +kernel
theorem dX3_faultOf_37 : decode cX3_faultOf 37 = .ok (.ireturn, 1) := by decide +kernel
theorem dX4_init_0 : decode cX4_init 0 = .ok (.aload_n 0, 1) := by decide +kernel
theorem dX4_init_1 : decode cX4_init 1 = .ok (.invokespecial 3, 3) := by decide +kernel
theorem dX4_init_4 : decode cX4_init 4 = .ok (.aload_n 0, 1) := by decide +kernel
theorem dX4_init_5 : decode cX4_init 5 = .ok (.bipush 80, 2) := by decide +kernel
theorem dX4_init_7 : decode cX4_init 7 = .ok (.newarray .char, 2) := by decide +kernel
theorem dX4_init_9 : decode cX4_init 9 = .ok (.putfield 9, 3) := by decide +kernel
theorem dX4_init_12 : decode cX4_init 12 = .ok (.aload_n 0, 1) := by decide +kernel
theorem dX4_init_13 : decode cX4_init 13 = .ok (.iconst 0, 1) := by decide +kernel
theorem dX4_init_14 : decode cX4_init 14 = .ok (.putfield 15, 3) := by decide +kernel
theorem dX4_init_17 : decode cX4_init 17 = .ok (.aload_n 0, 1) := by decide +kernel
theorem dX4_init_18 : decode cX4_init 18 = .ok (.iconst 0, 1) := by decide +kernel
theorem dX4_init_19 : decode cX4_init 19 = .ok (.putfield 19, 3) := by decide +kernel
theorem dX4_init_22 : decode cX4_init 22 = .ok (.return_, 1) := by decide +kernel
theorem dX4_hasRoom_0 : decode cX4_hasRoom 0 = .ok (.aload_n 0, 1) := by decide +kernel
theorem dX4_hasRoom_1 : decode cX4_hasRoom 1 = .ok (.getfield 15, 3) := by decide +kernel
theorem dX4_hasRoom_4 : decode cX4_hasRoom 4 = .ok (.bipush 80, 2) := by decide +kernel
theorem dX4_hasRoom_6 : decode cX4_hasRoom 6 = .ok (.if_icmp .ge 7, 3) := by decide +kernel
theorem dX4_hasRoom_9 : decode cX4_hasRoom 9 = .ok (.iconst 1, 1) := by decide +kernel
theorem dX4_hasRoom_10 : decode cX4_hasRoom 10 = .ok (.goto 4, 3) := by decide +kernel
theorem dX4_hasRoom_13 : decode cX4_hasRoom 13 = .ok (.iconst 0, 1) := by decide +kernel
theorem dX4_hasRoom_14 : decode cX4_hasRoom 14 = .ok (.ireturn, 1) := by decide +kernel
theorem dX4_append_0 : decode cX4_append 0 = .ok (.aload_n 0, 1) := by decide +kernel
theorem dX4_append_1 : decode cX4_append 1 = .ok (.invokevirtual 22, 3) := by decide +kernel
theorem dX4_append_4 : decode cX4_append 4 = .ok (.ifCond .eq 23, 3) := by decide +kernel
theorem dX4_append_7 : decode cX4_append 7 = .ok (.aload_n 0, 1) := by decide +kernel
theorem dX4_append_8 : decode cX4_append 8 = .ok (.getfield 9, 3) := by decide +kernel
theorem dX4_append_11 : decode cX4_append 11 = .ok (.aload_n 0, 1) := by decide +kernel
theorem dX4_append_12 : decode cX4_append 12 = .ok (.getfield 15, 3) := by decide +kernel
theorem dX4_append_15 : decode cX4_append 15 = .ok (.iload_n 1, 1) := by decide +kernel
theorem dX4_append_16 : decode cX4_append 16 = .ok (.castore, 1) := by decide +kernel
theorem dX4_append_17 : decode cX4_append 17 = .ok (.aload_n 0, 1) := by decide +kernel
theorem dX4_append_18 : decode cX4_append 18 = .ok (.dup, 1) := by decide +kernel
theorem dX4_append_19 : decode cX4_append 19 = .ok (.getfield 15, 3) := by decide +kernel
theorem dX4_append_22 : decode cX4_append 22 = .ok (.iconst 1, 1) := by decide +kernel
theorem dX4_append_23 : decode cX4_append 23 = .ok (.iadd, 1) := by decide +kernel
theorem dX4_append_24 : decode cX4_append 24 = .ok (.putfield 15, 3) := by decide +kernel
theorem dX4_append_27 : decode cX4_append 27 = .ok (.return_, 1) := by decide +kernel
theorem dX4_clear_0 : decode cX4_clear 0 = .ok (.aload_n 0, 1) := by decide +kernel
theorem dX4_clear_1 : decode cX4_clear 1 = .ok (.iconst 0, 1) := by decide +kernel
theorem dX4_clear_2 : decode cX4_clear 2 = .ok (.putfield 15, 3) := by decide +kernel
theorem dX4_clear_5 : decode cX4_clear 5 = .ok (.aload_n 0, 1) := by decide +kernel
theorem dX4_clear_6 : decode cX4_clear 6 = .ok (.iconst 0, 1) := by decide +kernel
theorem dX4_clear_7 : decode cX4_clear 7 = .ok (.putfield 19, 3) := by decide +kernel
theorem dX4_clear_10 : decode cX4_clear 10 = .ok (.return_, 1) := by decide +kernel
theorem dX4_reads_0 : decode cX4_reads 0 = .ok (.aload_n 0, 1) := by decide +kernel
theorem dX4_reads_1 : decode cX4_reads 1 = .ok (.iconst 0, 1) := by decide +kernel
theorem dX4_reads_2 : decode cX4_reads 2 = .ok (.putfield 19, 3) := by decide +kernel
theorem dX4_reads_5 : decode cX4_reads 5 = .ok (.aload_n 1, 1) := by decide +kernel
theorem dX4_reads_6 : decode cX4_reads 6 = .ok (.iconst 0, 1) := by decide +kernel
theorem dX4_reads_7 : decode cX4_reads 7 = .ok (.putfield 26, 3) := by decide +kernel
theorem dX4_reads_10 : decode cX4_reads 10 = .ok (.aload_n 2, 1) := by decide +kernel
theorem dX4_reads_11 : decode cX4_reads 11 = .ok (.iconst 0, 1) := by decide +kernel
theorem dX4_reads_12 : decode cX4_reads 12 = .ok (.putfield 31, 3) := by decide +kernel
theorem dX4_reads_15 : decode cX4_reads 15 = .ok (.aload_n 0, 1) := by decide +kernel
theorem dX4_reads_16 : decode cX4_reads 16 = .ok (.aload_n 1, 1) := by decide +kernel
theorem dX4_reads_17 : decode cX4_reads 17 = .ok (.invokevirtual 36, 3) := by decide +kernel
theorem dX4_reads_20 : decode cX4_reads 20 = .ok (.ifCond .ne 5, 3) := by decide +kernel
theorem dX4_reads_23 : decode cX4_reads 23 = .ok (.iconst 0, 1) := by decide +kernel
theorem dX4_reads_24 : decode cX4_reads 24 = .ok (.ireturn, 1) := by decide +kernel
theorem dX4_reads_25 : decode cX4_reads 25 = .ok (.aload_n 0, 1) := by decide +kernel
theorem dX4_reads_26 : decode cX4_reads 26 = .ok (.bipush 33, 2) := by decide +kernel
theorem dX4_reads_28 : decode cX4_reads 28 = .ok (.invokevirtual 40, 3) := by decide +kernel
theorem dX4_reads_31 : decode cX4_reads 31 = .ok (.ifCond .eq 20, 3) := by decide +kernel
theorem dX4_reads_34 : decode cX4_reads 34 = .ok (.aload_n 1, 1) := by decide +kernel
theorem dX4_reads_35 : decode cX4_reads 35 = .ok (.aload_n 0, 1) := by decide +kernel
theorem dX4_reads_36 : decode cX4_reads 36 = .ok (.invokevirtual 44, 3) := by decide +kernel
theorem dX4_reads_39 : decode cX4_reads 39 = .ok (.putfield 26, 3) := by decide +kernel
theorem dX4_reads_42 : decode cX4_reads 42 = .ok (.aload_n 1, 1) := by decide +kernel
theorem dX4_reads_43 : decode cX4_reads 43 = .ok (.getfield 26, 3) := by decide +kernel
theorem dX4_reads_46 : decode cX4_reads 46 = .ok (.ifCond .ne 5, 3) := by decide +kernel
theorem dX4_reads_49 : decode cX4_reads 49 = .ok (.iconst 0, 1) := by decide +kernel
theorem dX4_reads_50 : decode cX4_reads 50 = .ok (.ireturn, 1) := by decide +kernel
theorem dX4_reads_51 : decode cX4_reads 51 = .ok (.aload_n 0, 1) := by decide +kernel
theorem dX4_reads_52 : decode cX4_reads 52 = .ok (.bipush 59, 2) := by decide +kernel
theorem dX4_reads_54 : decode cX4_reads 54 = .ok (.invokevirtual 40, 3) := by decide +kernel
theorem dX4_reads_57 : decode cX4_reads 57 = .ok (.ifCond .eq 13, 3) := by decide +kernel
theorem dX4_reads_60 : decode cX4_reads 60 = .ok (.aload_n 0, 1) := by decide +kernel
theorem dX4_reads_61 : decode cX4_reads 61 = .ok (.aload_n 2, 1) := by decide +kernel
theorem dX4_reads_62 : decode cX4_reads 62 = .ok (.invokevirtual 48, 3) := by decide +kernel
theorem dX4_reads_65 : decode cX4_reads 65 = .ok (.ifCond .ne 5, 3) := by decide +kernel
theorem dX4_reads_68 : decode cX4_reads 68 = .ok (.iconst 0, 1) := by decide +kernel
theorem dX4_reads_69 : decode cX4_reads 69 = .ok (.ireturn, 1) := by decide +kernel
theorem dX4_reads_70 : decode cX4_reads 70 = .ok (.aload_n 0, 1) := by decide +kernel
theorem dX4_reads_71 : decode cX4_reads 71 = .ok (.invokevirtual 52, 3) := by decide +kernel
theorem dX4_reads_74 : decode cX4_reads 74 = .ok (.ifCond .ne 7, 3) := by decide +kernel
theorem dX4_reads_77 : decode cX4_reads 77 = .ok (.iconst 1, 1) := by decide +kernel
theorem dX4_reads_78 : decode cX4_reads 78 = .ok (.goto 4, 3) := by decide +kernel
theorem dX4_reads_81 : decode cX4_reads 81 = .ok (.iconst 0, 1) := by decide +kernel
theorem dX4_reads_82 : decode cX4_reads 82 = .ok (.ireturn, 1) := by decide +kernel
theorem dX4_readsHeaps_0 : decode cX4_readsHeaps 0 = .ok (.iconst 0, 1) := by decide +kernel
theorem dX4_readsHeaps_1 : decode cX4_readsHeaps 1 = .ok (.istore_n 2, 1) := by decide +kernel
theorem dX4_readsHeaps_2 : decode cX4_readsHeaps 2 = .ok (.iload_n 2, 1) := by decide +kernel
theorem dX4_readsHeaps_3 : decode cX4_readsHeaps 3 = .ok (.iconst 4, 1) := by decide +kernel
theorem dX4_readsHeaps_4 : decode cX4_readsHeaps 4 = .ok (.if_icmp .ge 42, 3) := by decide +kernel
theorem dX4_readsHeaps_7 : decode cX4_readsHeaps 7 = .ok (.iload_n 2, 1) := by decide +kernel
theorem dX4_readsHeaps_8 : decode cX4_readsHeaps 8 = .ok (.ifCond .le 14, 3) := by decide +kernel
theorem dX4_readsHeaps_11 : decode cX4_readsHeaps 11 = .ok (.aload_n 0, 1) := by decide +kernel
theorem dX4_readsHeaps_12 : decode cX4_readsHeaps 12 = .ok (.bipush 44, 2) := by decide +kernel
theorem dX4_readsHeaps_14 : decode cX4_readsHeaps 14 = .ok (.invokevirtual 40, 3) := by decide +kernel
theorem dX4_readsHeaps_17 : decode cX4_readsHeaps 17 = .ok (.ifCond .ne 5, 3) := by decide +kernel
theorem dX4_readsHeaps_20 : decode cX4_readsHeaps 20 = .ok (.iconst 0, 1) := by decide +kernel
theorem dX4_readsHeaps_21 : decode cX4_readsHeaps 21 = .ok (.ireturn, 1) := by decide +kernel
theorem dX4_readsHeaps_22 : decode cX4_readsHeaps 22 = .ok (.aload_n 0, 1) := by decide +kernel
theorem dX4_readsHeaps_23 : decode cX4_readsHeaps 23 = .ok (.invokevirtual 56, 3) := by decide +kernel
theorem dX4_readsHeaps_26 : decode cX4_readsHeaps 26 = .ok (.istore_n 3, 1) := by decide +kernel
theorem dX4_readsHeaps_27 : decode cX4_readsHeaps 27 = .ok (.iload_n 3, 1) := by decide +kernel
theorem dX4_readsHeaps_28 : decode cX4_readsHeaps 28 = .ok (.ifCond .ge 5, 3) := by decide +kernel
theorem dX4_readsHeaps_31 : decode cX4_readsHeaps 31 = .ok (.iconst 0, 1) := by decide +kernel
theorem dX4_readsHeaps_32 : decode cX4_readsHeaps 32 = .ok (.ireturn, 1) := by decide +kernel
theorem dX4_readsHeaps_33 : decode cX4_readsHeaps 33 = .ok (.aload_n 1, 1) := by decide +kernel
theorem dX4_readsHeaps_34 : decode cX4_readsHeaps 34 = .ok (.getfield 59, 3) := by decide +kernel
theorem dX4_readsHeaps_37 : decode cX4_readsHeaps 37 = .ok (.iload_n 2, 1) := by decide +kernel
theorem dX4_readsHeaps_38 : decode cX4_readsHeaps 38 = .ok (.iload_n 3, 1) := by decide +kernel
theorem dX4_readsHeaps_39 : decode cX4_readsHeaps 39 = .ok (.iastore, 1) := by decide +kernel
theorem dX4_readsHeaps_40 : decode cX4_readsHeaps 40 = .ok (.iinc 2 1, 3) := by decide +kernel
theorem dX4_readsHeaps_43 : decode cX4_readsHeaps 43 = .ok (.goto (-41), 3) := by decide +kernel
theorem dX4_readsHeaps_46 : decode cX4_readsHeaps 46 = .ok (.iconst 1, 1) := by decide +kernel
theorem dX4_readsHeaps_47 : decode cX4_readsHeaps 47 = .ok (.ireturn, 1) := by decide +kernel
theorem dX4_number_0 : decode cX4_number 0 = .ok (.aload_n 0, 1) := by decide +kernel
theorem dX4_number_1 : decode cX4_number 1 = .ok (.invokevirtual 52, 3) := by decide +kernel
theorem dX4_number_4 : decode cX4_number 4 = .ok (.pop, 1) := by decide +kernel
theorem dX4_number_5 : decode cX4_number 5 = .ok (.aload_n 0, 1) := by decide +kernel
theorem dX4_number_6 : decode cX4_number 6 = .ok (.getfield 19, 3) := by decide +kernel
theorem dX4_number_9 : decode cX4_number 9 = .ok (.istore_n 1, 1) := by decide +kernel
theorem dX4_number_10 : decode cX4_number 10 = .ok (.iconst 0, 1) := by decide +kernel
theorem dX4_number_11 : decode cX4_number 11 = .ok (.istore_n 2, 1) := by decide +kernel
theorem dX4_number_12 : decode cX4_number 12 = .ok (.aload_n 0, 1) := by decide +kernel
theorem dX4_number_13 : decode cX4_number 13 = .ok (.getfield 19, 3) := by decide +kernel
theorem dX4_number_16 : decode cX4_number 16 = .ok (.aload_n 0, 1) := by decide +kernel
theorem dX4_number_17 : decode cX4_number 17 = .ok (.getfield 15, 3) := by decide +kernel
theorem dX4_number_20 : decode cX4_number 20 = .ok (.if_icmp .ge 63, 3) := by decide +kernel
theorem dX4_number_23 : decode cX4_number 23 = .ok (.aload_n 0, 1) := by decide +kernel
theorem dX4_number_24 : decode cX4_number 24 = .ok (.getfield 19, 3) := by decide +kernel
theorem dX4_number_27 : decode cX4_number 27 = .ok (.iload_n 1, 1) := by decide +kernel
theorem dX4_number_28 : decode cX4_number 28 = .ok (.iconst 2, 1) := by decide +kernel
theorem dX4_number_29 : decode cX4_number 29 = .ok (.iadd, 1) := by decide +kernel
theorem dX4_number_30 : decode cX4_number 30 = .ok (.if_icmp .ge 53, 3) := by decide +kernel
theorem dX4_number_33 : decode cX4_number 33 = .ok (.aload_n 0, 1) := by decide +kernel
theorem dX4_number_34 : decode cX4_number 34 = .ok (.getfield 9, 3) := by decide +kernel
theorem dX4_number_37 : decode cX4_number 37 = .ok (.aload_n 0, 1) := by decide +kernel
theorem dX4_number_38 : decode cX4_number 38 = .ok (.getfield 19, 3) := by decide +kernel
theorem dX4_number_41 : decode cX4_number 41 = .ok (.caload, 1) := by decide +kernel
theorem dX4_number_42 : decode cX4_number 42 = .ok (.bipush 48, 2) := by decide +kernel
theorem dX4_number_44 : decode cX4_number 44 = .ok (.bipush 57, 2) := by decide +kernel
theorem dX4_number_46 : decode cX4_number 46 = .ok (.invokestatic 63, 3) := by decide +kernel
theorem dX4_number_49 : decode cX4_number 49 = .ok (.ifCond .eq 34, 3) := by decide +kernel
theorem dX4_number_52 : decode cX4_number 52 = .ok (.bipush 10, 2) := by decide +kernel
theorem dX4_number_54 : decode cX4_number 54 = .ok (.iload_n 2, 1) := by decide +kernel
theorem dX4_number_55 : decode cX4_number 55 = .ok (.imul, 1) := by decide +kernel
theorem dX4_number_56 : decode cX4_number 56 = .ok (.aload_n 0, 1) := by decide +kernel
theorem dX4_number_57 : decode cX4_number 57 = .ok (.getfield 9, 3) := by decide +kernel
theorem dX4_number_60 : decode cX4_number 60 = .ok (.aload_n 0, 1) := by decide +kernel
theorem dX4_number_61 : decode cX4_number 61 = .ok (.getfield 19, 3) := by decide +kernel
theorem dX4_number_64 : decode cX4_number 64 = .ok (.caload, 1) := by decide +kernel
theorem dX4_number_65 : decode cX4_number 65 = .ok (.bipush 48, 2) := by decide +kernel
theorem dX4_number_67 : decode cX4_number 67 = .ok (.isub, 1) := by decide +kernel
theorem dX4_number_68 : decode cX4_number 68 = .ok (.iadd, 1) := by decide +kernel
theorem dX4_number_69 : decode cX4_number 69 = .ok (.istore_n 2, 1) := by decide +kernel
theorem dX4_number_70 : decode cX4_number 70 = .ok (.aload_n 0, 1) := by decide +kernel
theorem dX4_number_71 : decode cX4_number 71 = .ok (.dup, 1) := by decide +kernel
theorem dX4_number_72 : decode cX4_number 72 = .ok (.getfield 19, 3) := by decide +kernel
theorem dX4_number_75 : decode cX4_number 75 = .ok (.iconst 1, 1) := by decide +kernel
theorem dX4_number_76 : decode cX4_number 76 = .ok (.iadd, 1) := by decide +kernel
theorem dX4_number_77 : decode cX4_number 77 = .ok (.putfield 19, 3) := by decide +kernel
theorem dX4_number_80 : decode cX4_number 80 = .ok (.goto (-68), 3) := by decide +kernel
theorem dX4_number_83 : decode cX4_number 83 = .ok (.iload_n 2, 1) := by decide +kernel
theorem dX4_number_84 : decode cX4_number 84 = .ok (.bipush 40, 2) := by decide +kernel
theorem dX4_number_86 : decode cX4_number 86 = .ok (.if_icmp .le 10, 3) := by decide +kernel
theorem dX4_number_89 : decode cX4_number 89 = .ok (.aload_n 0, 1) := by decide +kernel
theorem dX4_number_90 : decode cX4_number 90 = .ok (.iload_n 1, 1) := by decide +kernel
theorem dX4_number_91 : decode cX4_number 91 = .ok (.putfield 19, 3) := by decide +kernel
theorem dX4_number_94 : decode cX4_number 94 = .ok (.iconst (-1), 1) := by decide +kernel
theorem dX4_number_95 : decode cX4_number 95 = .ok (.ireturn, 1) := by decide +kernel
theorem dX4_number_96 : decode cX4_number 96 = .ok (.aload_n 0, 1) := by decide +kernel
theorem dX4_number_97 : decode cX4_number 97 = .ok (.getfield 19, 3) := by decide +kernel
theorem dX4_number_100 : decode cX4_number 100 = .ok (.iload_n 1, 1) := by decide +kernel
theorem dX4_number_101 : decode cX4_number 101 = .ok (.if_icmp .le 7, 3) := by decide +kernel
theorem dX4_number_104 : decode cX4_number 104 = .ok (.iload_n 2, 1) := by decide +kernel
theorem dX4_number_105 : decode cX4_number 105 = .ok (.goto 4, 3) := by decide +kernel
theorem dX4_number_108 : decode cX4_number 108 = .ok (.iconst (-1), 1) := by decide +kernel
theorem dX4_number_109 : decode cX4_number 109 = .ok (.ireturn, 1) := by decide +kernel
theorem dX4_readsCrowd_0 : decode cX4_readsCrowd 0 = .ok (.iconst 0, 1) := by decide +kernel
theorem dX4_readsCrowd_1 : decode cX4_readsCrowd 1 = .ok (.istore_n 2, 1) := by decide +kernel
theorem dX4_readsCrowd_2 : decode cX4_readsCrowd 2 = .ok (.iload_n 2, 1) := by decide +kernel
theorem dX4_readsCrowd_3 : decode cX4_readsCrowd 3 = .ok (.bipush 6, 2) := by decide +kernel
theorem dX4_readsCrowd_5 : decode cX4_readsCrowd 5 = .ok (.if_icmp .ge 34, 3) := by decide +kernel
theorem dX4_readsCrowd_8 : decode cX4_readsCrowd 8 = .ok (.iload_n 2, 1) := by decide +kernel
theorem dX4_readsCrowd_9 : decode cX4_readsCrowd 9 = .ok (.ifCond .le 14, 3) := by decide +kernel
theorem dX4_readsCrowd_12 : decode cX4_readsCrowd 12 = .ok (.aload_n 0, 1) := by decide +kernel
theorem dX4_readsCrowd_13 : decode cX4_readsCrowd 13 = .ok (.bipush 44, 2) := by decide +kernel
theorem dX4_readsCrowd_15 : decode cX4_readsCrowd 15 = .ok (.invokevirtual 40, 3) := by decide +kernel
theorem dX4_readsCrowd_18 : decode cX4_readsCrowd 18 = .ok (.ifCond .ne 5, 3) := by decide +kernel
theorem dX4_readsCrowd_21 : decode cX4_readsCrowd 21 = .ok (.iconst 1, 1) := by decide +kernel
theorem dX4_readsCrowd_22 : decode cX4_readsCrowd 22 = .ok (.ireturn, 1) := by decide +kernel
theorem dX4_readsCrowd_23 : decode cX4_readsCrowd 23 = .ok (.aload_n 0, 1) := by decide +kernel
theorem dX4_readsCrowd_24 : decode cX4_readsCrowd 24 = .ok (.aload_n 1, 1) := by decide +kernel
theorem dX4_readsCrowd_25 : decode cX4_readsCrowd 25 = .ok (.invokevirtual 67, 3) := by decide +kernel
theorem dX4_readsCrowd_28 : decode cX4_readsCrowd 28 = .ok (.ifCond .ne 5, 3) := by decide +kernel
theorem dX4_readsCrowd_31 : decode cX4_readsCrowd 31 = .ok (.iconst 0, 1) := by decide +kernel
theorem dX4_readsCrowd_32 : decode cX4_readsCrowd 32 = .ok (.ireturn, 1) := by decide +kernel
theorem dX4_readsCrowd_33 : decode cX4_readsCrowd 33 = .ok (.iinc 2 1, 3) := by decide +kernel
theorem dX4_readsCrowd_36 : decode cX4_readsCrowd 36 = .ok (.goto (-34), 3) := by decide +kernel
theorem dX4_readsCrowd_39 : decode cX4_readsCrowd 39 = .ok (.iconst 1, 1) := by decide +kernel
theorem dX4_readsCrowd_40 : decode cX4_readsCrowd 40 = .ok (.ireturn, 1) := by decide +kernel
theorem dX4_readsTraveller_0 : decode cX4_readsTraveller 0 = .ok (.ldc 70, 2) := by decide +kernel
theorem dX4_readsTraveller_2 : decode cX4_readsTraveller 2 = .ok (.aload_n 0, 1) := by decide +kernel
theorem dX4_readsTraveller_3 : decode cX4_readsTraveller 3 = .ok (.invokevirtual 52, 3) := by decide +kernel
theorem dX4_readsTraveller_6 : decode cX4_readsTraveller 6 = .ok (.invokevirtual 72, 3) := by decide +kernel
theorem dX4_readsTraveller_9 : decode cX4_readsTraveller 9 = .ok (.istore_n 2, 1) := by decide +kernel
theorem dX4_readsTraveller_10 : decode cX4_readsTraveller 10 = .ok (.iload_n 2, 1) := by decide +kernel
theorem dX4_readsTraveller_11 : decode cX4_readsTraveller 11 = .ok (.ifCond .ge 5, 3) := by decide +kernel
theorem dX4_readsTraveller_14 : decode cX4_readsTraveller 14 = .ok (.iconst 0, 1) := by decide +kernel
theorem dX4_readsTraveller_15 : decode cX4_readsTraveller 15 = .ok (.ireturn, 1) := by decide +kernel
theorem dX4_readsTraveller_16 : decode cX4_readsTraveller 16 = .ok (.aload_n 0, 1) := by decide +kernel
theorem dX4_readsTraveller_17 : decode cX4_readsTraveller 17 = .ok (.dup, 1) := by decide +kernel
theorem dX4_readsTraveller_18 : decode cX4_readsTraveller 18 = .ok (.getfield 19, 3) := by decide +kernel
theorem dX4_readsTraveller_21 : decode cX4_readsTraveller 21 = .ok (.iconst 1, 1) := by decide +kernel
theorem dX4_readsTraveller_22 : decode cX4_readsTraveller 22 = .ok (.iadd, 1) := by decide +kernel
theorem dX4_readsTraveller_23 : decode cX4_readsTraveller 23 = .ok (.putfield 19, 3) := by decide +kernel
theorem dX4_readsTraveller_26 : decode cX4_readsTraveller 26 = .ok (.aload_n 0, 1) := by decide +kernel
theorem dX4_readsTraveller_27 : decode cX4_readsTraveller 27 = .ok (.invokevirtual 52, 3) := by decide +kernel
theorem dX4_readsTraveller_30 : decode cX4_readsTraveller 30 = .ok (.bipush 48, 2) := by decide +kernel
theorem dX4_readsTraveller_32 : decode cX4_readsTraveller 32 = .ok (.isub, 1) := by decide +kernel
theorem dX4_readsTraveller_33 : decode cX4_readsTraveller 33 = .ok (.istore_n 3, 1) := by decide +kernel
theorem dX4_readsTraveller_34 : decode cX4_readsTraveller 34 = .ok (.iload_n 3, 1) := by decide +kernel
theorem dX4_readsTraveller_35 : decode cX4_readsTraveller 35 = .ok (.iconst 1, 1) := by decide +kernel
theorem dX4_readsTraveller_36 : decode cX4_readsTraveller 36 = .ok (.bipush 9, 2) := by decide +kernel
theorem dX4_readsTraveller_38 : decode cX4_readsTraveller 38 = .ok (.invokestatic 63, 3) := by decide +kernel
theorem dX4_readsTraveller_41 : decode cX4_readsTraveller 41 = .ok (.ifCond .ne 5, 3) := by decide +kernel
theorem dX4_readsTraveller_44 : decode cX4_readsTraveller 44 = .ok (.iconst 0, 1) := by decide +kernel
theorem dX4_readsTraveller_45 : decode cX4_readsTraveller 45 = .ok (.ireturn, 1) := by decide +kernel
theorem dX4_readsTraveller_46 : decode cX4_readsTraveller 46 = .ok (.aload_n 0, 1) := by decide +kernel
theorem dX4_readsTraveller_47 : decode cX4_readsTraveller 47 = .ok (.dup, 1) := by decide +kernel
theorem dX4_readsTraveller_48 : decode cX4_readsTraveller 48 = .ok (.getfield 19, 3) := by decide +kernel
theorem dX4_readsTraveller_51 : decode cX4_readsTraveller 51 = .ok (.iconst 1, 1) := by decide +kernel
theorem dX4_readsTraveller_52 : decode cX4_readsTraveller 52 = .ok (.iadd, 1) := by decide +kernel
theorem dX4_readsTraveller_53 : decode cX4_readsTraveller 53 = .ok (.putfield 19, 3) := by decide +kernel
theorem dX4_readsTraveller_56 : decode cX4_readsTraveller 56 = .ok (.aload_n 1, 1) := by decide +kernel
theorem dX4_readsTraveller_57 : decode cX4_readsTraveller 57 = .ok (.iload_n 2, 1) := by decide +kernel
theorem dX4_readsTraveller_58 : decode cX4_readsTraveller 58 = .ok (.aload_n 0, 1) := by decide +kernel
theorem dX4_readsTraveller_59 : decode cX4_readsTraveller 59 = .ok (.invokevirtual 44, 3) := by decide +kernel
theorem dX4_readsTraveller_62 : decode cX4_readsTraveller 62 = .ok (.iload_n 3, 1) := by decide +kernel
theorem dX4_readsTraveller_63 : decode cX4_readsTraveller 63 = .ok (.invokevirtual 78, 3) := by decide +kernel
theorem dX4_readsTraveller_66 : decode cX4_readsTraveller 66 = .ok (.iconst 1, 1) := by decide +kernel
theorem dX4_readsTraveller_67 : decode cX4_readsTraveller 67 = .ok (.ireturn, 1) := by decide +kernel
theorem dX4_risingLooks_0 : decode cX4_risingLooks 0 = .ok (.iconst 0, 1) := by decide +kernel
theorem dX4_risingLooks_1 : decode cX4_risingLooks 1 = .ok (.istore_n 1, 1) := by decide +kernel
theorem dX4_risingLooks_2 : decode cX4_risingLooks 2 = .ok (.iconst 0, 1) := by decide +kernel
theorem dX4_risingLooks_3 : decode cX4_risingLooks 3 = .ok (.istore_n 2, 1) := by decide +kernel
theorem dX4_risingLooks_4 : decode cX4_risingLooks 4 = .ok (.iload_n 2, 1) := by decide +kernel
theorem dX4_risingLooks_5 : decode cX4_risingLooks 5 = .ok (.bipush 6, 2) := by decide +kernel
theorem dX4_risingLooks_7 : decode cX4_risingLooks 7 = .ok (.if_icmp .ge 27, 3) := by decide +kernel
theorem dX4_risingLooks_10 : decode cX4_risingLooks 10 = .ok (.aload_n 0, 1) := by decide +kernel
theorem dX4_risingLooks_11 : decode cX4_risingLooks 11 = .ok (.bipush 97, 2) := by decide +kernel
theorem dX4_risingLooks_13 : decode cX4_risingLooks 13 = .ok (.iload_n 2, 1) := by decide +kernel
theorem dX4_risingLooks_14 : decode cX4_risingLooks 14 = .ok (.iadd, 1) := by decide +kernel
theorem dX4_risingLooks_15 : decode cX4_risingLooks 15 = .ok (.i2c, 1) := by decide +kernel
theorem dX4_risingLooks_16 : decode cX4_risingLooks 16 = .ok (.invokevirtual 40, 3) := by decide +kernel
theorem dX4_risingLooks_19 : decode cX4_risingLooks 19 = .ok (.ifCond .eq 9, 3) := by decide +kernel
theorem dX4_risingLooks_22 : decode cX4_risingLooks 22 = .ok (.iload_n 1, 1) := by decide +kernel
theorem dX4_risingLooks_23 : decode cX4_risingLooks 23 = .ok (.iconst 1, 1) := by decide +kernel
theorem dX4_risingLooks_24 : decode cX4_risingLooks 24 = .ok (.iload_n 2, 1) := by decide +kernel
theorem dX4_risingLooks_25 : decode cX4_risingLooks 25 = .ok (.ishl, 1) := by decide +kernel
theorem dX4_risingLooks_26 : decode cX4_risingLooks 26 = .ok (.ior, 1) := by decide +kernel
theorem dX4_risingLooks_27 : decode cX4_risingLooks 27 = .ok (.istore_n 1, 1) := by decide +kernel
theorem dX4_risingLooks_28 : decode cX4_risingLooks 28 = .ok (.iinc 2 1, 3) := by decide +kernel
theorem dX4_risingLooks_31 : decode cX4_risingLooks 31 = .ok (.goto (-27), 3) := by decide +kernel
theorem dX4_risingLooks_34 : decode cX4_risingLooks 34 = .ok (.iload_n 1, 1) := by decide +kernel
theorem dX4_risingLooks_35 : decode cX4_risingLooks 35 = .ok (.ireturn, 1) := by decide +kernel
theorem dX4_passes_0 : decode cX4_passes 0 = .ok (.aload_n 0, 1) := by decide +kernel
theorem dX4_passes_1 : decode cX4_passes 1 = .ok (.invokevirtual 52, 3) := by decide +kernel
theorem dX4_passes_4 : decode cX4_passes 4 = .ok (.iload_n 1, 1) := by decide +kernel
theorem dX4_passes_5 : decode cX4_passes 5 = .ok (.if_icmp .eq 5, 3) := by decide +kernel
theorem dX4_passes_8 : decode cX4_passes 8 = .ok (.iconst 0, 1) := by decide +kernel
theorem dX4_passes_9 : decode cX4_passes 9 = .ok (.ireturn, 1) := by decide +kernel
theorem dX4_passes_10 : decode cX4_passes 10 = .ok (.aload_n 0, 1) := by decide +kernel
theorem dX4_passes_11 : decode cX4_passes 11 = .ok (.dup, 1) := by decide +kernel
theorem dX4_passes_12 : decode cX4_passes 12 = .ok (.getfield 19, 3) := by decide +kernel
theorem dX4_passes_15 : decode cX4_passes 15 = .ok (.iconst 1, 1) := by decide +kernel
theorem dX4_passes_16 : decode cX4_passes 16 = .ok (.iadd, 1) := by decide +kernel
theorem dX4_passes_17 : decode cX4_passes 17 = .ok (.putfield 19, 3) := by decide +kernel
theorem dX4_passes_20 : decode cX4_passes 20 = .ok (.iconst 1, 1) := by decide +kernel
theorem dX4_passes_21 : decode cX4_passes 21 = .ok (.ireturn, 1) := by decide +kernel
theorem dX4_next_0 : decode cX4_next 0 = .ok (.aload_n 0, 1) := by decide +kernel
theorem dX4_next_1 : decode cX4_next 1 = .ok (.getfield 19, 3) := by decide +kernel
theorem dX4_next_4 : decode cX4_next 4 = .ok (.aload_n 0, 1) := by decide +kernel
theorem dX4_next_5 : decode cX4_next 5 = .ok (.getfield 15, 3) := by decide +kernel
theorem dX4_next_8 : decode cX4_next 8 = .ok (.if_icmp .ge 30, 3) := by decide +kernel
theorem dX4_next_11 : decode cX4_next 11 = .ok (.aload_n 0, 1) := by decide +kernel
theorem dX4_next_12 : decode cX4_next 12 = .ok (.getfield 9, 3) := by decide +kernel
theorem dX4_next_15 : decode cX4_next 15 = .ok (.aload_n 0, 1) := by decide +kernel
theorem dX4_next_16 : decode cX4_next 16 = .ok (.getfield 19, 3) := by decide +kernel
theorem dX4_next_19 : decode cX4_next 19 = .ok (.caload, 1) := by decide +kernel
theorem dX4_next_20 : decode cX4_next 20 = .ok (.bipush 32, 2) := by decide +kernel
theorem dX4_next_22 : decode cX4_next 22 = .ok (.if_icmp .ne 16, 3) := by decide +kernel
theorem dX4_next_25 : decode cX4_next 25 = .ok (.aload_n 0, 1) := by decide +kernel
theorem dX4_next_26 : decode cX4_next 26 = .ok (.dup, 1) := by decide +kernel
theorem dX4_next_27 : decode cX4_next 27 = .ok (.getfield 19, 3) := by decide +kernel
theorem dX4_next_30 : decode cX4_next 30 = .ok (.iconst 1, 1) := by decide +kernel
theorem dX4_next_31 : decode cX4_next 31 = .ok (.iadd, 1) := by decide +kernel
theorem dX4_next_32 : decode cX4_next 32 = .ok (.putfield 19, 3) := by decide +kernel
theorem dX4_next_35 : decode cX4_next 35 = .ok (.goto (-35), 3) := by decide +kernel
theorem dX4_next_38 : decode cX4_next 38 = .ok (.aload_n 0, 1) := by decide +kernel
theorem dX4_next_39 : decode cX4_next 39 = .ok (.getfield 19, 3) := by decide +kernel
theorem dX4_next_42 : decode cX4_next 42 = .ok (.aload_n 0, 1) := by decide +kernel
theorem dX4_next_43 : decode cX4_next 43 = .ok (.getfield 15, 3) := by decide +kernel
theorem dX4_next_46 : decode cX4_next 46 = .ok (.if_icmp .ge 15, 3) := by decide +kernel
theorem dX4_next_49 : decode cX4_next 49 = .ok (.aload_n 0, 1) := by decide +kernel
theorem dX4_next_50 : decode cX4_next 50 = .ok (.getfield 9, 3) := by decide +kernel
theorem dX4_next_53 : decode cX4_next 53 = .ok (.aload_n 0, 1) := by decide +kernel
theorem dX4_next_54 : decode cX4_next 54 = .ok (.getfield 19, 3) := by decide +kernel
theorem dX4_next_57 : decode cX4_next 57 = .ok (.caload, 1) := by decide +kernel
theorem dX4_next_58 : decode cX4_next 58 = .ok (.goto 4, 3) := by decide +kernel
theorem dX4_next_61 : decode cX4_next 61 = .ok (.iconst 0, 1) := by decide +kernel
theorem dX4_next_62 : decode cX4_next 62 = .ok (.ireturn, 1) := by decide +kernel
theorem dX5_init_0 : decode cX5_init 0 = .ok (.aload_n 0, 1) := by decide +kernel
theorem dX5_init_1 : decode cX5_init 1 = .ok (.invokespecial 3, 3) := by decide +kernel
theorem dX5_init_4 : decode cX5_init 4 = .ok (.aload_n 0, 1) := by decide +kernel
theorem dX5_init_5 : decode cX5_init 5 = .ok (.new 9, 3) := by decide +kernel
theorem dX5_init_8 : decode cX5_init 8 = .ok (.dup, 1) := by decide +kernel
theorem dX5_init_9 : decode cX5_init 9 = .ok (.invokespecial 11, 3) := by decide +kernel
theorem dX5_init_12 : decode cX5_init 12 = .ok (.putfield 12, 3) := by decide +kernel
theorem dX5_init_15 : decode cX5_init 15 = .ok (.aload_n 0, 1) := by decide +kernel
theorem dX5_init_16 : decode cX5_init 16 = .ok (.new 18, 3) := by decide +kernel
theorem dX5_init_19 : decode cX5_init 19 = .ok (.dup, 1) := by decide +kernel
theorem dX5_init_20 : decode cX5_init 20 = .ok (.invokespecial 20, 3) := by decide +kernel
theorem dX5_init_23 : decode cX5_init 23 = .ok (.putfield 21, 3) := by decide +kernel
theorem dX5_init_26 : decode cX5_init 26 = .ok (.aload_n 0, 1) := by decide +kernel
theorem dX5_init_27 : decode cX5_init 27 = .ok (.bipush 8, 2) := by decide +kernel
theorem dX5_init_29 : decode cX5_init 29 = .ok (.anewarray 9, 3) := by decide +kernel
theorem dX5_init_32 : decode cX5_init 32 = .ok (.putfield 25, 3) := by decide +kernel
theorem dX5_init_35 : decode cX5_init 35 = .ok (.iconst 0, 1) := by decide +kernel
theorem dX5_init_36 : decode cX5_init 36 = .ok (.istore_n 1, 1) := by decide +kernel
theorem dX5_init_37 : decode cX5_init 37 = .ok (.iload_n 1, 1) := by decide +kernel
theorem dX5_init_38 : decode cX5_init 38 = .ok (.bipush 8, 2) := by decide +kernel
theorem dX5_init_40 : decode cX5_init 40 = .ok (.if_icmp .ge 22, 3) := by decide +kernel
theorem dX5_init_43 : decode cX5_init 43 = .ok (.aload_n 0, 1) := by decide +kernel
theorem dX5_init_44 : decode cX5_init 44 = .ok (.getfield 25, 3) := by decide +kernel
theorem dX5_init_47 : decode cX5_init 47 = .ok (.iload_n 1, 1) := by decide +kernel
theorem dX5_init_48 : decode cX5_init 48 = .ok (.new 9, 3) := by decide +kernel
theorem dX5_init_51 : decode cX5_init 51 = .ok (.dup, 1) := by decide +kernel
theorem dX5_init_52 : decode cX5_init 52 = .ok (.invokespecial 11, 3) := by decide +kernel
theorem dX5_init_55 : decode cX5_init 55 = .ok (.aastore, 1) := by decide +kernel
theorem dX5_init_56 : decode cX5_init 56 = .ok (.iinc 1 1, 3) := by decide +kernel
theorem dX5_init_59 : decode cX5_init 59 = .ok (.goto (-22), 3) := by decide +kernel
theorem dX5_init_62 : decode cX5_init 62 = .ok (.aload_n 0, 1) := by decide +kernel
theorem dX5_init_63 : decode cX5_init 63 = .ok (.iconst 0, 1) := by decide +kernel
theorem dX5_init_64 : decode cX5_init 64 = .ok (.putfield 29, 3) := by decide +kernel
theorem dX5_init_67 : decode cX5_init 67 = .ok (.aload_n 0, 1) := by decide +kernel
theorem dX5_init_68 : decode cX5_init 68 = .ok (.iconst 0, 1) := by decide +kernel
theorem dX5_init_69 : decode cX5_init 69 = .ok (.putfield 33, 3) := by decide +kernel
theorem dX5_init_72 : decode cX5_init 72 = .ok (.return_, 1) := by decide +kernel
theorem dX5_remember_0 : decode cX5_remember 0 = .ok (.aload_n 0, 1) := by decide +kernel
theorem dX5_remember_1 : decode cX5_remember 1 = .ok (.getfield 33, 3) := by decide +kernel
theorem dX5_remember_4 : decode cX5_remember 4 = .ok (.bipush 8, 2) := by decide +kernel
theorem dX5_remember_6 : decode cX5_remember 6 = .ok (.if_icmp .ne 26, 3) := by decide +kernel
theorem dX5_remember_9 : decode cX5_remember 9 = .ok (.aload_n 0, 1) := by decide +kernel
theorem dX5_remember_10 : decode cX5_remember 10 = .ok (.aload_n 0, 1) := by decide +kernel
theorem dX5_remember_11 : decode cX5_remember 11 = .ok (.getfield 29, 3) := by decide +kernel
theorem dX5_remember_14 : decode cX5_remember 14 = .ok (.iconst 1, 1) := by decide +kernel
theorem dX5_remember_15 : decode cX5_remember 15 = .ok (.iadd, 1) := by decide +kernel
theorem dX5_remember_16 : decode cX5_remember 16 = .ok (.bipush 8, 2) := by decide +kernel
theorem dX5_remember_18 : decode cX5_remember 18 = .ok (.irem, 1) := by decide +kernel
theorem dX5_remember_19 : decode cX5_remember 19 = .ok (.putfield 29, 3) := by decide +kernel
theorem dX5_remember_22 : decode cX5_remember 22 = .ok (.aload_n 0, 1) := by decide +kernel
theorem dX5_remember_23 : decode cX5_remember 23 = .ok (.dup, 1) := by decide +kernel
theorem dX5_remember_24 : decode cX5_remember 24 = .ok (.getfield 33, 3) := by decide +kernel
theorem dX5_remember_27 : decode cX5_remember 27 = .ok (.iconst 1, 1) := by decide +kernel
theorem dX5_remember_28 : decode cX5_remember 28 = .ok (.isub, 1) := by decide +kernel
theorem dX5_remember_29 : decode cX5_remember 29 = .ok (.putfield 33, 3) := by decide +kernel
theorem dX5_remember_32 : decode cX5_remember 32 = .ok (.aload_n 0, 1) := by decide +kernel
theorem dX5_remember_33 : decode cX5_remember 33 = .ok (.getfield 25, 3) := by decide +kernel
theorem dX5_remember_36 : decode cX5_remember 36 = .ok (.aload_n 0, 1) := by decide +kernel
theorem dX5_remember_37 : decode cX5_remember 37 = .ok (.getfield 29, 3) := by decide +kernel
theorem dX5_remember_40 : decode cX5_remember 40 = .ok (.aload_n 0, 1) := by decide +kernel
theorem dX5_remember_41 : decode cX5_remember 41 = .ok (.getfield 33, 3) := by decide +kernel
theorem dX5_remember_44 : decode cX5_remember 44 = .ok (.iadd, 1) := by decide +kernel
theorem dX5_remember_45 : decode cX5_remember 45 = .ok (.bipush 8, 2) := by decide +kernel
theorem dX5_remember_47 : decode cX5_remember 47 = .ok (.irem, 1) := by decide +kernel
theorem dX5_remember_48 : decode cX5_remember 48 = .ok (.aaload, 1) := by decide +kernel
theorem dX5_remember_49 : decode cX5_remember 49 = .ok (.aload_n 0, 1) := by decide +kernel
theorem dX5_remember_50 : decode cX5_remember 50 = .ok (.getfield 12, 3) := by decide +kernel
theorem dX5_remember_53 : decode cX5_remember 53 = .ok (.invokevirtual 36, 3) := by decide +kernel
theorem dX5_remember_56 : decode cX5_remember 56 = .ok (.aload_n 0, 1) := by decide +kernel
theorem dX5_remember_57 : decode cX5_remember 57 = .ok (.dup, 1) := by decide +kernel
theorem dX5_remember_58 : decode cX5_remember 58 = .ok (.getfield 33, 3) := by decide +kernel
theorem dX5_remember_61 : decode cX5_remember 61 = .ok (.iconst 1, 1) := by decide +kernel
theorem dX5_remember_62 : decode cX5_remember 62 = .ok (.iadd, 1) := by decide +kernel
theorem dX5_remember_63 : decode cX5_remember 63 = .ok (.putfield 33, 3) := by decide +kernel
theorem dX5_remember_66 : decode cX5_remember 66 = .ok (.return_, 1) := by decide +kernel
theorem dX5_goBack_0 : decode cX5_goBack 0 = .ok (.aload_n 0, 1) := by decide +kernel
theorem dX5_goBack_1 : decode cX5_goBack 1 = .ok (.getfield 33, 3) := by decide +kernel
theorem dX5_goBack_4 : decode cX5_goBack 4 = .ok (.ifCond .le 37, 3) := by decide +kernel
theorem dX5_goBack_7 : decode cX5_goBack 7 = .ok (.aload_n 0, 1) := by decide +kernel
theorem dX5_goBack_8 : decode cX5_goBack 8 = .ok (.dup, 1) := by decide +kernel
theorem dX5_goBack_9 : decode cX5_goBack 9 = .ok (.getfield 33, 3) := by decide +kernel
theorem dX5_goBack_12 : decode cX5_goBack 12 = .ok (.iconst 1, 1) := by decide +kernel
theorem dX5_goBack_13 : decode cX5_goBack 13 = .ok (.isub, 1) := by decide +kernel
theorem dX5_goBack_14 : decode cX5_goBack 14 = .ok (.putfield 33, 3) := by decide +kernel
theorem dX5_goBack_17 : decode cX5_goBack 17 = .ok (.aload_n 0, 1) := by decide +kernel
theorem dX5_goBack_18 : decode cX5_goBack 18 = .ok (.getfield 12, 3) := by decide +kernel
theorem dX5_goBack_21 : decode cX5_goBack 21 = .ok (.aload_n 0, 1) := by decide +kernel
theorem dX5_goBack_22 : decode cX5_goBack 22 = .ok (.getfield 25, 3) := by decide +kernel
theorem dX5_goBack_25 : decode cX5_goBack 25 = .ok (.aload_n 0, 1) := by decide +kernel
theorem dX5_goBack_26 : decode cX5_goBack 26 = .ok (.getfield 29, 3) := by decide +kernel
theorem dX5_goBack_29 : decode cX5_goBack 29 = .ok (.aload_n 0, 1) := by decide +kernel
theorem dX5_goBack_30 : decode cX5_goBack 30 = .ok (.getfield 33, 3) := by decide +kernel
theorem dX5_goBack_33 : decode cX5_goBack 33 = .ok (.iadd, 1) := by decide +kernel
theorem dX5_goBack_34 : decode cX5_goBack 34 = .ok (.bipush 8, 2) := by decide +kernel
theorem dX5_goBack_36 : decode cX5_goBack 36 = .ok (.irem, 1) := by decide +kernel
theorem dX5_goBack_37 : decode cX5_goBack 37 = .ok (.aaload, 1) := by decide +kernel
theorem dX5_goBack_38 : decode cX5_goBack 38 = .ok (.invokevirtual 36, 3) := by decide +kernel
theorem dX5_goBack_41 : decode cX5_goBack 41 = .ok (.return_, 1) := by decide +kernel
theorem dX5_forget_0 : decode cX5_forget 0 = .ok (.aload_n 0, 1) := by decide +kernel
theorem dX5_forget_1 : decode cX5_forget 1 = .ok (.iconst 0, 1) := by decide +kernel
theorem dX5_forget_2 : decode cX5_forget 2 = .ok (.putfield 29, 3) := by decide +kernel
theorem dX5_forget_5 : decode cX5_forget 5 = .ok (.aload_n 0, 1) := by decide +kernel
theorem dX5_forget_6 : decode cX5_forget 6 = .ok (.iconst 0, 1) := by decide +kernel
theorem dX5_forget_7 : decode cX5_forget 7 = .ok (.putfield 33, 3) := by decide +kernel
theorem dX5_forget_10 : decode cX5_forget 10 = .ok (.return_, 1) := by decide +kernel
theorem dX5_begin_0 : decode cX5_begin 0 = .ok (.aload_n 0, 1) := by decide +kernel
theorem dX5_begin_1 : decode cX5_begin 1 = .ok (.getfield 12, 3) := by decide +kernel
theorem dX5_begin_4 : decode cX5_begin 4 = .ok (.aload_n 1, 1) := by decide +kernel
theorem dX5_begin_5 : decode cX5_begin 5 = .ok (.invokevirtual 40, 3) := by decide +kernel
theorem dX5_begin_8 : decode cX5_begin 8 = .ok (.aload_n 0, 1) := by decide +kernel
theorem dX5_begin_9 : decode cX5_begin 9 = .ok (.getfield 21, 3) := by decide +kernel
theorem dX5_begin_12 : decode cX5_begin 12 = .ok (.aload_n 2, 1) := by decide +kernel
theorem dX5_begin_13 : decode cX5_begin 13 = .ok (.invokevirtual 43, 3) := by decide +kernel
theorem dX5_begin_16 : decode cX5_begin 16 = .ok (.aload_n 0, 1) := by decide +kernel
theorem dX5_begin_17 : decode cX5_begin 17 = .ok (.invokevirtual 46, 3) := by decide +kernel
theorem dX5_begin_20 : decode cX5_begin 20 = .ok (.return_, 1) := by decide +kernel
theorem dX5_take_0 : decode cX5_take 0 = .ok (.aload_n 0, 1) := by decide +kernel
theorem dX5_take_1 : decode cX5_take 1 = .ok (.getfield 12, 3) := by decide +kernel
theorem dX5_take_4 : decode cX5_take 4 = .ok (.aload_n 1, 1) := by decide +kernel
theorem dX5_take_5 : decode cX5_take 5 = .ok (.getfield 12, 3) := by decide +kernel
theorem dX5_take_8 : decode cX5_take 8 = .ok (.invokevirtual 36, 3) := by decide +kernel
theorem dX5_take_11 : decode cX5_take 11 = .ok (.aload_n 0, 1) := by decide +kernel
theorem dX5_take_12 : decode cX5_take 12 = .ok (.getfield 21, 3) := by decide +kernel
theorem dX5_take_15 : decode cX5_take 15 = .ok (.aload_n 1, 1) := by decide +kernel
theorem dX5_take_16 : decode cX5_take 16 = .ok (.getfield 21, 3) := by decide +kernel
theorem dX5_take_19 : decode cX5_take 19 = .ok (.invokevirtual 43, 3) := by decide +kernel
theorem dX5_take_22 : decode cX5_take 22 = .ok (.iconst 0, 1) := by decide +kernel
theorem dX5_take_23 : decode cX5_take 23 = .ok (.istore_n 2, 1) := by decide +kernel
theorem dX5_take_24 : decode cX5_take 24 = .ok (.iload_n 2, 1) := by decide +kernel
theorem dX5_take_25 : decode cX5_take 25 = .ok (.bipush 8, 2) := by decide +kernel
theorem dX5_take_27 : decode cX5_take 27 = .ok (.if_icmp .ge 24, 3) := by decide +kernel
theorem dX5_take_30 : decode cX5_take 30 = .ok (.aload_n 0, 1) := by decide +kernel
theorem dX5_take_31 : decode cX5_take 31 = .ok (.getfield 25, 3) := by decide +kernel
theorem dX5_take_34 : decode cX5_take 34 = .ok (.iload_n 2, 1) := by decide +kernel
theorem dX5_take_35 : decode cX5_take 35 = .ok (.aaload, 1) := by decide +kernel
theorem dX5_take_36 : decode cX5_take 36 = .ok (.aload_n 1, 1) := by decide +kernel
theorem dX5_take_37 : decode cX5_take 37 = .ok (.getfield 25, 3) := by decide +kernel
theorem dX5_take_40 : decode cX5_take 40 = .ok (.iload_n 2, 1) := by decide +kernel
theorem dX5_take_41 : decode cX5_take 41 = .ok (.aaload, 1) := by decide +kernel
theorem dX5_take_42 : decode cX5_take 42 = .ok (.invokevirtual 36, 3) := by decide +kernel
theorem dX5_take_45 : decode cX5_take 45 = .ok (.iinc 2 1, 3) := by decide +kernel
theorem dX5_take_48 : decode cX5_take 48 = .ok (.goto (-24), 3) := by decide +kernel
theorem dX5_take_51 : decode cX5_take 51 = .ok (.aload_n 0, 1) := by decide +kernel
theorem dX5_take_52 : decode cX5_take 52 = .ok (.aload_n 1, 1) := by decide +kernel
theorem dX5_take_53 : decode cX5_take 53 = .ok (.getfield 29, 3) := by decide +kernel
theorem dX5_take_56 : decode cX5_take 56 = .ok (.putfield 29, 3) := by decide +kernel
theorem dX5_take_59 : decode cX5_take 59 = .ok (.aload_n 0, 1) := by decide +kernel
theorem dX5_take_60 : decode cX5_take 60 = .ok (.aload_n 1, 1) := by decide +kernel
theorem dX5_take_61 : decode cX5_take 61 = .ok (.getfield 33, 3) := by decide +kernel
theorem dX5_take_64 : decode cX5_take 64 = .ok (.putfield 33, 3) := by decide +kernel
theorem dX5_take_67 : decode cX5_take 67 = .ok (.return_, 1) := by decide +kernel

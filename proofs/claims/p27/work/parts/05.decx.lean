theorem dX0_init_0 : decode cX0_init 0 = .ok (.aload_n 0, 1) := by decide +kernel
theorem dX0_init_1 : decode cX0_init 1 = .ok (.invokespecial 1, 3) := by decide +kernel
theorem dX0_init_4 : decode cX0_init 4 = .ok (.aload_n 0, 1) := by decide +kernel
theorem dX0_init_5 : decode cX0_init 5 = .ok (.iconst 0, 1) := by decide +kernel
theorem dX0_init_6 : decode cX0_init 6 = .ok (.putfield 7, 3) := by decide +kernel
theorem dX0_init_9 : decode cX0_init 9 = .ok (.aload_n 0, 1) := by decide +kernel
theorem dX0_init_10 : decode cX0_init 10 = .ok (.iconst 0, 1) := by decide +kernel
theorem dX0_init_11 : decode cX0_init 11 = .ok (.putfield 13, 3) := by decide +kernel
theorem dX0_init_14 : decode cX0_init 14 = .ok (.aload_n 0, 1) := by decide +kernel
theorem dX0_init_15 : decode cX0_init 15 = .ok (.iload_n 1, 1) := by decide +kernel
theorem dX0_init_16 : decode cX0_init 16 = .ok (.putfield 17, 3) := by decide +kernel
theorem dX0_init_19 : decode cX0_init 19 = .ok (.aload_n 0, 1) := by decide +kernel
theorem dX0_init_20 : decode cX0_init 20 = .ok (.iload_n 2, 1) := by decide +kernel
theorem dX0_init_21 : decode cX0_init 21 = .ok (.putfield 20, 3) := by decide +kernel
theorem dX0_init_24 : decode cX0_init 24 = .ok (.aload_n 0, 1) := by decide +kernel
theorem dX0_init_25 : decode cX0_init 25 = .ok (.iload_n 3, 1) := by decide +kernel
theorem dX0_init_26 : decode cX0_init 26 = .ok (.putfield 23, 3) := by decide +kernel
theorem dX0_init_29 : decode cX0_init 29 = .ok (.return_, 1) := by decide +kernel
theorem dX0_lacking_0 : decode cX0_lacking 0 = .ok (.aload_n 0, 1) := by decide +kernel
theorem dX0_lacking_1 : decode cX0_lacking 1 = .ok (.getfield 13, 3) := by decide +kernel
theorem dX0_lacking_4 : decode cX0_lacking 4 = .ok (.ifCond .eq 7, 3) := by decide +kernel
theorem dX0_lacking_7 : decode cX0_lacking 7 = .ok (.iconst 0, 1) := by decide +kernel
theorem dX0_lacking_8 : decode cX0_lacking 8 = .ok (.goto 12, 3) := by decide +kernel
theorem dX0_lacking_11 : decode cX0_lacking 11 = .ok (.aload_n 0, 1) := by decide +kernel
theorem dX0_lacking_12 : decode cX0_lacking 12 = .ok (.getfield 23, 3) := by decide +kernel
theorem dX0_lacking_15 : decode cX0_lacking 15 = .ok (.aload_n 0, 1) := by decide +kernel
theorem dX0_lacking_16 : decode cX0_lacking 16 = .ok (.getfield 7, 3) := by decide +kernel
theorem dX0_lacking_19 : decode cX0_lacking 19 = .ok (.isub, 1) := by decide +kernel
theorem dX0_lacking_20 : decode cX0_lacking 20 = .ok (.ireturn, 1) := by decide +kernel
theorem dX1_init_0 : decode cX1_init 0 = .ok (.aload_n 0, 1) := by decide +kernel
theorem dX1_init_1 : decode cX1_init 1 = .ok (.invokespecial 3, 3) := by decide +kernel
theorem dX1_init_4 : decode cX1_init 4 = .ok (.aload_n 0, 1) := by decide +kernel
theorem dX1_init_5 : decode cX1_init 5 = .ok (.new 9, 3) := by decide +kernel
theorem dX1_init_8 : decode cX1_init 8 = .ok (.dup, 1) := by decide +kernel
theorem dX1_init_9 : decode cX1_init 9 = .ok (.invokespecial 11, 3) := by decide +kernel
theorem dX1_init_12 : decode cX1_init 12 = .ok (.putfield 12, 3) := by decide +kernel
theorem dX1_init_15 : decode cX1_init 15 = .ok (.aload_n 0, 1) := by decide +kernel
theorem dX1_init_16 : decode cX1_init 16 = .ok (.new 18, 3) := by decide +kernel
theorem dX1_init_19 : decode cX1_init 19 = .ok (.dup, 1) := by decide +kernel
theorem dX1_init_20 : decode cX1_init 20 = .ok (.invokespecial 20, 3) := by decide +kernel
theorem dX1_init_23 : decode cX1_init 23 = .ok (.putfield 21, 3) := by decide +kernel
theorem dX1_init_26 : decode cX1_init 26 = .ok (.aload_n 0, 1) := by decide +kernel
theorem dX1_init_27 : decode cX1_init 27 = .ok (.new 25, 3) := by decide +kernel
theorem dX1_init_30 : decode cX1_init 30 = .ok (.dup, 1) := by decide +kernel
theorem dX1_init_31 : decode cX1_init 31 = .ok (.invokespecial 27, 3) := by decide +kernel
theorem dX1_init_34 : decode cX1_init 34 = .ok (.putfield 28, 3) := by decide +kernel
theorem dX1_init_37 : decode cX1_init 37 = .ok (.aload_n 0, 1) := by decide +kernel
theorem dX1_init_38 : decode cX1_init 38 = .ok (.iconst 0, 1) := by decide +kernel
theorem dX1_init_39 : decode cX1_init 39 = .ok (.putfield 32, 3) := by decide +kernel
theorem dX1_init_42 : decode cX1_init 42 = .ok (.aload_n 0, 1) := by decide +kernel
theorem dX1_init_43 : decode cX1_init 43 = .ok (.iconst (-1), 1) := by decide +kernel
theorem dX1_init_44 : decode cX1_init 44 = .ok (.putfield 36, 3) := by decide +kernel
theorem dX1_init_47 : decode cX1_init 47 = .ok (.aload_n 0, 1) := by decide +kernel
theorem dX1_init_48 : decode cX1_init 48 = .ok (.iconst (-1), 1) := by decide +kernel
theorem dX1_init_49 : decode cX1_init 49 = .ok (.putfield 40, 3) := by decide +kernel
theorem dX1_init_52 : decode cX1_init 52 = .ok (.aload_n 0, 1) := by decide +kernel
theorem dX1_init_53 : decode cX1_init 53 = .ok (.iconst (-1), 1) := by decide +kernel
theorem dX1_init_54 : decode cX1_init 54 = .ok (.putfield 43, 3) := by decide +kernel
theorem dX1_init_57 : decode cX1_init 57 = .ok (.aload_n 0, 1) := by decide +kernel
theorem dX1_init_58 : decode cX1_init 58 = .ok (.iload_n 1, 1) := by decide +kernel
theorem dX1_init_59 : decode cX1_init 59 = .ok (.putfield 46, 3) := by decide +kernel
theorem dX1_init_62 : decode cX1_init 62 = .ok (.aload_n 0, 1) := by decide +kernel
theorem dX1_init_63 : decode cX1_init 63 = .ok (.iload_n 2, 1) := by decide +kernel
theorem dX1_init_64 : decode cX1_init 64 = .ok (.putfield 49, 3) := by decide +kernel
theorem dX1_init_67 : decode cX1_init 67 = .ok (.aload_n 0, 1) := by decide +kernel
theorem dX1_init_68 : decode cX1_init 68 = .ok (.iload_n 3, 1) := by decide +kernel
theorem dX1_init_69 : decode cX1_init 69 = .ok (.putfield 52, 3) := by decide +kernel
theorem dX1_init_72 : decode cX1_init 72 = .ok (.return_, 1) := by decide +kernel
theorem dX1_isGone_0 : decode cX1_isGone 0 = .ok (.aload_n 0, 1) := by decide +kernel
theorem dX1_isGone_1 : decode cX1_isGone 1 = .ok (.getfield 40, 3) := by decide +kernel
theorem dX1_isGone_4 : decode cX1_isGone 4 = .ok (.iconst (-1), 1) := by decide +kernel
theorem dX1_isGone_5 : decode cX1_isGone 5 = .ok (.if_icmp .eq 7, 3) := by decide +kernel
theorem dX1_isGone_8 : decode cX1_isGone 8 = .ok (.iconst 1, 1) := by decide +kernel
theorem dX1_isGone_9 : decode cX1_isGone 9 = .ok (.goto 4, 3) := by decide +kernel
theorem dX1_isGone_12 : decode cX1_isGone 12 = .ok (.iconst 0, 1) := by decide +kernel
theorem dX1_isGone_13 : decode cX1_isGone 13 = .ok (.ireturn, 1) := by decide +kernel
theorem dX2_init_0 : decode cX2_init 0 = .ok (.aload_n 0, 1) := by decide +kernel
theorem dX2_init_1 : decode cX2_init 1 = .ok (.invokespecial 3, 3) := by decide +kernel
theorem dX2_init_4 : decode cX2_init 4 = .ok (.aload_n 0, 1) := by decide +kernel
theorem dX2_init_5 : decode cX2_init 5 = .ok (.bipush 12, 2) := by decide +kernel
theorem dX2_init_7 : decode cX2_init 7 = .ok (.newarray .int, 2) := by decide +kernel
theorem dX2_init_9 : decode cX2_init 9 = .ok (.putfield 9, 3) := by decide +kernel
theorem dX2_init_12 : decode cX2_init 12 = .ok (.aload_n 0, 1) := by decide +kernel
theorem dX2_init_13 : decode cX2_init 13 = .ok (.bipush 12, 2) := by decide +kernel
theorem dX2_init_15 : decode cX2_init 15 = .ok (.newarray .int, 2) := by decide +kernel
theorem dX2_init_17 : decode cX2_init 17 = .ok (.putfield 15, 3) := by decide +kernel
theorem dX2_init_20 : decode cX2_init 20 = .ok (.aload_n 0, 1) := by decide +kernel
theorem dX2_init_21 : decode cX2_init 21 = .ok (.iconst 0, 1) := by decide +kernel
theorem dX2_init_22 : decode cX2_init 22 = .ok (.putfield 18, 3) := by decide +kernel
theorem dX2_init_25 : decode cX2_init 25 = .ok (.return_, 1) := by decide +kernel
theorem dX2_isFull_0 : decode cX2_isFull 0 = .ok (.aload_n 0, 1) := by decide +kernel
theorem dX2_isFull_1 : decode cX2_isFull 1 = .ok (.getfield 18, 3) := by decide +kernel
theorem dX2_isFull_4 : decode cX2_isFull 4 = .ok (.bipush 12, 2) := by decide +kernel
theorem dX2_isFull_6 : decode cX2_isFull 6 = .ok (.if_icmp .lt 7, 3) := by decide +kernel
theorem dX2_isFull_9 : decode cX2_isFull 9 = .ok (.iconst 1, 1) := by decide +kernel
theorem dX2_isFull_10 : decode cX2_isFull 10 = .ok (.goto 4, 3) := by decide +kernel
theorem dX2_isFull_13 : decode cX2_isFull 13 = .ok (.iconst 0, 1) := by decide +kernel
theorem dX2_isFull_14 : decode cX2_isFull 14 = .ok (.ireturn, 1) := by decide +kernel
theorem dX2_tell_0 : decode cX2_tell 0 = .ok (.aload_n 0, 1) := by decide +kernel
theorem dX2_tell_1 : decode cX2_tell 1 = .ok (.invokevirtual 22, 3) := by decide +kernel
theorem dX2_tell_4 : decode cX2_tell 4 = .ok (.ifCond .eq 4, 3) := by decide +kernel
theorem dX2_tell_7 : decode cX2_tell 7 = .ok (.return_, 1) := by decide +kernel
theorem dX2_tell_8 : decode cX2_tell 8 = .ok (.aload_n 0, 1) := by decide +kernel
theorem dX2_tell_9 : decode cX2_tell 9 = .ok (.getfield 9, 3) := by decide +kernel
theorem dX2_tell_12 : decode cX2_tell 12 = .ok (.aload_n 0, 1) := by decide +kernel
theorem dX2_tell_13 : decode cX2_tell 13 = .ok (.getfield 18, 3) := by decide +kernel
theorem dX2_tell_16 : decode cX2_tell 16 = .ok (.iload_n 1, 1) := by decide +kernel
theorem dX2_tell_17 : decode cX2_tell 17 = .ok (.iastore, 1) := by decide +kernel
theorem dX2_tell_18 : decode cX2_tell 18 = .ok (.aload_n 0, 1) := by decide +kernel
theorem dX2_tell_19 : decode cX2_tell 19 = .ok (.getfield 15, 3) := by decide +kernel
theorem dX2_tell_22 : decode cX2_tell 22 = .ok (.aload_n 0, 1) := by decide +kernel
theorem dX2_tell_23 : decode cX2_tell 23 = .ok (.getfield 18, 3) := by decide +kernel
theorem dX2_tell_26 : decode cX2_tell 26 = .ok (.iload_n 2, 1) := by decide +kernel
theorem dX2_tell_27 : decode cX2_tell 27 = .ok (.iastore, 1) := by decide +kernel
theorem dX2_tell_28 : decode cX2_tell 28 = .ok (.aload_n 0, 1) := by decide +kernel
theorem dX2_tell_29 : decode cX2_tell 29 = .ok (.dup, 1) := by decide +kernel
theorem dX2_tell_30 : decode cX2_tell 30 = .ok (.getfield 18, 3) := by decide +kernel
theorem dX2_tell_33 : decode cX2_tell 33 = .ok (.iconst 1, 1) := by decide +kernel
theorem dX2_tell_34 : decode cX2_tell 34 = .ok (.iadd, 1) := by decide +kernel
theorem dX2_tell_35 : decode cX2_tell 35 = .ok (.putfield 18, 3) := by decide +kernel
theorem dX2_tell_38 : decode cX2_tell 38 = .ok (.return_, 1) := by decide +kernel
theorem dX2_clear_0 : decode cX2_clear 0 = .ok (.aload_n 0, 1) := by decide +kernel
theorem dX2_clear_1 : decode cX2_clear 1 = .ok (.iconst 0, 1) := by decide +kernel
theorem dX2_clear_2 : decode cX2_clear 2 = .ok (.putfield 18, 3) := by decide +kernel
theorem dX2_clear_5 : decode cX2_clear 5 = .ok (.return_, 1) := by decide +kernel
theorem dX2_mendCost_0 : decode cX2_mendCost 0 = .ok (.iconst 0, 1) := by decide +kernel
theorem dX2_mendCost_1 : decode cX2_mendCost 1 = .ok (.istore_n 2, 1) := by decide +kernel
theorem dX2_mendCost_2 : decode cX2_mendCost 2 = .ok (.iconst 0, 1) := by decide +kernel
theorem dX2_mendCost_3 : decode cX2_mendCost 3 = .ok (.istore_n 3, 1) := by decide +kernel
theorem dX2_mendCost_4 : decode cX2_mendCost 4 = .ok (.iload_n 3, 1) := by decide +kernel
theorem dX2_mendCost_5 : decode cX2_mendCost 5 = .ok (.aload_n 0, 1) := by decide +kernel
theorem dX2_mendCost_6 : decode cX2_mendCost 6 = .ok (.getfield 18, 3) := by decide +kernel
theorem dX2_mendCost_9 : decode cX2_mendCost 9 = .ok (.if_icmp .ge 59, 3) := by decide +kernel
theorem dX2_mendCost_12 : decode cX2_mendCost 12 = .ok (.aload_n 0, 1) := by decide +kernel
theorem dX2_mendCost_13 : decode cX2_mendCost 13 = .ok (.getfield 9, 3) := by decide +kernel
theorem dX2_mendCost_16 : decode cX2_mendCost 16 = .ok (.iload_n 3, 1) := by decide +kernel
theorem dX2_mendCost_17 : decode cX2_mendCost 17 = .ok (.iaload, 1) := by decide +kernel
theorem dX2_mendCost_18 : decode cX2_mendCost 18 = .ok (.istore 4, 2) := by decide +kernel
theorem dX2_mendCost_20 : decode cX2_mendCost 20 = .ok (.iload 4, 2) := by decide +kernel
theorem dX2_mendCost_22 : decode cX2_mendCost 22 = .ok (.ifCond .lt 40, 3) := by decide +kernel
theorem dX2_mendCost_25 : decode cX2_mendCost 25 = .ok (.iload 4, 2) := by decide +kernel
theorem dX2_mendCost_27 : decode cX2_mendCost 27 = .ok (.aload_n 1, 1) := by decide +kernel
theorem dX2_mendCost_28 : decode cX2_mendCost 28 = .ok (.arraylength, 1) := by decide +kernel
theorem dX2_mendCost_29 : decode cX2_mendCost 29 = .ok (.if_icmp .ge 33, 3) := by decide +kernel
theorem dX2_mendCost_32 : decode cX2_mendCost 32 = .ok (.aload_n 0, 1) := by decide +kernel
theorem dX2_mendCost_33 : decode cX2_mendCost 33 = .ok (.getfield 15, 3) := by decide +kernel
theorem dX2_mendCost_36 : decode cX2_mendCost 36 = .ok (.iload_n 3, 1) := by decide +kernel
theorem dX2_mendCost_37 : decode cX2_mendCost 37 = .ok (.iaload, 1) := by decide +kernel
theorem dX2_mendCost_38 : decode cX2_mendCost 38 = .ok (.aload_n 1, 1) := by decide +kernel
theorem dX2_mendCost_39 : decode cX2_mendCost 39 = .ok (.iload 4, 2) := by decide +kernel
theorem dX2_mendCost_41 : decode cX2_mendCost 41 = .ok (.iaload, 1) := by decide +kernel
theorem dX2_mendCost_42 : decode cX2_mendCost 42 = .ok (.if_icmp .le 20, 3) := by decide +kernel
theorem dX2_mendCost_45 : decode cX2_mendCost 45 = .ok (.iload_n 2, 1) := by decide +kernel
theorem dX2_mendCost_46 : decode cX2_mendCost 46 = .ok (.aload_n 0, 1) := by decide +kernel
theorem dX2_mendCost_47 : decode cX2_mendCost 47 = .ok (.getfield 15, 3) := by decide +kernel
theorem dX2_mendCost_50 : decode cX2_mendCost 50 = .ok (.iload_n 3, 1) := by decide +kernel
theorem dX2_mendCost_51 : decode cX2_mendCost 51 = .ok (.iaload, 1) := by decide +kernel
theorem dX2_mendCost_52 : decode cX2_mendCost 52 = .ok (.iload 4, 2) := by decide +kernel
theorem dX2_mendCost_54 : decode cX2_mendCost 54 = .ok (.iconst 1, 1) := by decide +kernel
theorem dX2_mendCost_55 : decode cX2_mendCost 55 = .ok (.iadd, 1) := by decide +kernel
theorem dX2_mendCost_56 : decode cX2_mendCost 56 = .ok (.imul, 1) := by decide +kernel
theorem dX2_mendCost_57 : decode cX2_mendCost 57 = .ok (.bipush 10, 2) := by decide +kernel
theorem dX2_mendCost_59 : decode cX2_mendCost 59 = .ok (.imul, 1) := by decide +kernel
theorem dX2_mendCost_60 : decode cX2_mendCost 60 = .ok (.iadd, 1) := by decide +kernel
theorem dX2_mendCost_61 : decode cX2_mendCost 61 = .ok (.istore_n 2, 1) := by decide +kernel
theorem dX2_mendCost_62 : decode cX2_mendCost 62 = .ok (.iinc 3 1, 3) := by decide +kernel
theorem dX2_mendCost_65 : decode cX2_mendCost 65 = .ok (.goto (-61), 3) := by decide +kernel
theorem dX2_mendCost_68 : decode cX2_mendCost 68 = .ok (.iload_n 2, 1) := by decide +kernel
theorem dX2_mendCost_69 : decode cX2_mendCost 69 = .ok (.ireturn, 1) := by decide +kernel
theorem dX3_init_0 : decode cX3_init 0 = .ok (.aload_n 0, 1) := by decide +kernel
theorem dX3_init_1 : decode cX3_init 1 = .ok (.invokespecial 3, 3) := by decide +kernel
theorem dX3_init_4 : decode cX3_init 4 = .ok (.aload_n 0, 1) := by decide +kernel
theorem dX3_init_5 : decode cX3_init 5 = .ok (.bipush 10, 2) := by decide +kernel
theorem dX3_init_7 : decode cX3_init 7 = .ok (.newarray .int, 2) := by decide +kernel
theorem dX3_init_9 : decode cX3_init 9 = .ok (.putfield 9, 3) := by decide +kernel
theorem dX3_init_12 : decode cX3_init 12 = .ok (.aload_n 0, 1) := by decide +kernel
theorem dX3_init_13 : decode cX3_init 13 = .ok (.bipush 10, 2) := by decide +kernel
theorem dX3_init_15 : decode cX3_init 15 = .ok (.newarray .int, 2) := by decide +kernel
theorem dX3_init_17 : decode cX3_init 17 = .ok (.putfield 15, 3) := by decide +kernel
theorem dX3_init_20 : decode cX3_init 20 = .ok (.aload_n 0, 1) := by decide +kernel
theorem dX3_init_21 : decode cX3_init 21 = .ok (.iconst 0, 1) := by decide +kernel
theorem dX3_init_22 : decode cX3_init 22 = .ok (.putfield 18, 3) := by decide +kernel
theorem dX3_init_25 : decode cX3_init 25 = .ok (.return_, 1) := by decide +kernel
theorem dX3_isFull_0 : decode cX3_isFull 0 = .ok (.aload_n 0, 1) := by decide +kernel
theorem dX3_isFull_1 : decode cX3_isFull 1 = .ok (.getfield 18, 3) := by decide +kernel
theorem dX3_isFull_4 : decode cX3_isFull 4 = .ok (.bipush 10, 2) := by decide +kernel
theorem dX3_isFull_6 : decode cX3_isFull 6 = .ok (.if_icmp .lt 7, 3) := by decide +kernel
theorem dX3_isFull_9 : decode cX3_isFull 9 = .ok (.iconst 1, 1) := by decide +kernel
theorem dX3_isFull_10 : decode cX3_isFull 10 = .ok (.goto 4, 3) := by decide +kernel
theorem dX3_isFull_13 : decode cX3_isFull 13 = .ok (.iconst 0, 1) := by decide +kernel
theorem dX3_isFull_14 : decode cX3_isFull 14 = .ok (.ireturn, 1) := by decide +kernel
theorem dX3_tell_0 : decode cX3_tell 0 = .ok (.aload_n 0, 1) := by decide +kernel
theorem dX3_tell_1 : decode cX3_tell 1 = .ok (.invokevirtual 22, 3) := by decide +kernel
theorem dX3_tell_4 : decode cX3_tell 4 = .ok (.ifCond .eq 4, 3) := by decide +kernel
theorem dX3_tell_7 : decode cX3_tell 7 = .ok (.return_, 1) := by decide +kernel
theorem dX3_tell_8 : decode cX3_tell 8 = .ok (.aload_n 0, 1) := by decide +kernel
theorem dX3_tell_9 : decode cX3_tell 9 = .ok (.getfield 9, 3) := by decide +kernel
theorem dX3_tell_12 : decode cX3_tell 12 = .ok (.aload_n 0, 1) := by decide +kernel
theorem dX3_tell_13 : decode cX3_tell 13 = .ok (.getfield 18, 3) := by decide +kernel
theorem dX3_tell_16 : decode cX3_tell 16 = .ok (.iload_n 1, 1) := by decide +kernel
theorem dX3_tell_17 : decode cX3_tell 17 = .ok (.iastore, 1) := by decide +kernel
theorem dX3_tell_18 : decode cX3_tell 18 = .ok (.aload_n 0, 1) := by decide +kernel
theorem dX3_tell_19 : decode cX3_tell 19 = .ok (.getfield 15, 3) := by decide +kernel
theorem dX3_tell_22 : decode cX3_tell 22 = .ok (.aload_n 0, 1) := by decide +kernel
theorem dX3_tell_23 : decode cX3_tell 23 = .ok (.getfield 18, 3) := by decide +kernel
theorem dX3_tell_26 : decode cX3_tell 26 = .ok (.iload_n 2, 1) := by decide +kernel
theorem dX3_tell_27 : decode cX3_tell 27 = .ok (.iastore, 1) := by decide +kernel
theorem dX3_tell_28 : decode cX3_tell 28 = .ok (.aload_n 0, 1) := by decide +kernel
theorem dX3_tell_29 : decode cX3_tell 29 = .ok (.dup, 1) := by decide +kernel
theorem dX3_tell_30 : decode cX3_tell 30 = .ok (.getfield 18, 3) := by decide +kernel
theorem dX3_tell_33 : decode cX3_tell 33 = .ok (.iconst 1, 1) := by decide +kernel
theorem dX3_tell_34 : decode cX3_tell 34 = .ok (.iadd, 1) := by decide +kernel
theorem dX3_tell_35 : decode cX3_tell 35 = .ok (.putfield 18, 3) := by decide +kernel
theorem dX3_tell_38 : decode cX3_tell 38 = .ok (.return_, 1) := by decide +kernel
theorem dX3_holdOn_0 : decode cX3_holdOn 0 = .ok (.aload_n 0, 1) := by decide +kernel
theorem dX3_holdOn_1 : decode cX3_holdOn 1 = .ok (.getfield 18, 3) := by decide +kernel
theorem dX3_holdOn_4 : decode cX3_holdOn 4 = .ok (.iconst 1, 1) := by decide +kernel
theorem dX3_holdOn_5 : decode cX3_holdOn 5 = .ok (.isub, 1) := by decide +kernel
theorem dX3_holdOn_6 : decode cX3_holdOn 6 = .ok (.istore_n 2, 1) := by decide +kernel
theorem dX3_holdOn_7 : decode cX3_holdOn 7 = .ok (.iload_n 2, 1) := by decide +kernel
theorem dX3_holdOn_8 : decode cX3_holdOn 8 = .ok (.ifCond .lt 35, 3) := by decide +kernel
theorem dX3_holdOn_11 : decode cX3_holdOn 11 = .ok (.aload_n 0, 1) := by decide +kernel
theorem dX3_holdOn_12 : decode cX3_holdOn 12 = .ok (.getfield 9, 3) := by decide +kernel
theorem dX3_holdOn_15 : decode cX3_holdOn 15 = .ok (.iload_n 2, 1) := by decide +kernel
theorem dX3_holdOn_16 : decode cX3_holdOn 16 = .ok (.iaload, 1) := by decide +kernel
theorem dX3_holdOn_17 : decode cX3_holdOn 17 = .ok (.iload_n 1, 1) := by decide +kernel
theorem dX3_holdOn_18 : decode cX3_holdOn 18 = .ok (.if_icmp .gt 19, 3) := by decide +kernel
theorem dX3_holdOn_21 : decode cX3_holdOn 21 = .ok (.iload_n 1, 1) := by decide +kernel
theorem dX3_holdOn_22 : decode cX3_holdOn 22 = .ok (.aload_n 0, 1) := by decide +kernel
theorem dX3_holdOn_23 : decode cX3_holdOn 23 = .ok (.getfield 15, 3) := by decide +kernel
theorem dX3_holdOn_26 : decode cX3_holdOn 26 = .ok (.iload_n 2, 1) := by decide +kernel
theorem dX3_holdOn_27 : decode cX3_holdOn 27 = .ok (.iaload, 1) := by decide +kernel
theorem dX3_holdOn_28 : decode cX3_holdOn 28 = .ok (.if_icmp .gt 7, 3) := by decide +kernel
theorem dX3_holdOn_31 : decode cX3_holdOn 31 = .ok (.iconst 1, 1) := by decide +kernel
theorem dX3_holdOn_32 : decode cX3_holdOn 32 = .ok (.goto 4, 3) := by decide +kernel
theorem dX3_holdOn_35 : decode cX3_holdOn 35 = .ok (.iconst 0, 1) := by decide +kernel
theorem dX3_holdOn_36 : decode cX3_holdOn 36 = .ok (.ireturn, 1) := by decide +kernel
theorem dX3_holdOn_37 : decode cX3_holdOn 37 = .ok (.iinc 2 (-1), 3) := by decide +kernel
theorem dX3_holdOn_40 : decode cX3_holdOn 40 = .ok (.goto (-33), 3) := by decide +kernel
theorem dX3_holdOn_43 : decode cX3_holdOn 43 = .ok (.iconst 0, 1) := by decide +kernel
theorem dX3_holdOn_44 : decode cX3_holdOn 44 = .ok (.ireturn, 1) := by decide +kernel
theorem dX3_endOn_0 : decode cX3_endOn 0 = .ok (.iconst 0, 1) := by decide +kernel
theorem dX3_endOn_1 : decode cX3_endOn 1 = .ok (.istore_n 2, 1) := by decide +kernel
theorem dX3_endOn_2 : decode cX3_endOn 2 = .ok (.iload_n 2, 1) := by decide +kernel
theorem dX3_endOn_3 : decode cX3_endOn 3 = .ok (.aload_n 0, 1) := by decide +kernel
theorem dX3_endOn_4 : decode cX3_endOn 4 = .ok (.getfield 18, 3) := by decide +kernel
theorem dX3_endOn_7 : decode cX3_endOn 7 = .ok (.if_icmp .ge 25, 3) := by decide +kernel
theorem dX3_endOn_10 : decode cX3_endOn 10 = .ok (.aload_n 0, 1) := by decide +kernel
theorem dX3_endOn_11 : decode cX3_endOn 11 = .ok (.getfield 15, 3) := by decide +kernel
theorem dX3_endOn_14 : decode cX3_endOn 14 = .ok (.iload_n 2, 1) := by decide +kernel
theorem dX3_endOn_15 : decode cX3_endOn 15 = .ok (.aload_n 0, 1) := by decide +kernel
theorem dX3_endOn_16 : decode cX3_endOn 16 = .ok (.getfield 15, 3) := by decide +kernel
theorem dX3_endOn_19 : decode cX3_endOn 19 = .ok (.iload_n 2, 1) := by decide +kernel
theorem dX3_endOn_20 : decode cX3_endOn 20 = .ok (.iaload, 1) := by decide +kernel
theorem dX3_endOn_21 : decode cX3_endOn 21 = .ok (.iload_n 1, 1) := by decide +kernel
theorem dX3_endOn_22 : decode cX3_endOn 22 = .ok (.invokestatic 26, 3) := by decide +kernel
theorem dX3_endOn_25 : decode cX3_endOn 25 = .ok (.iastore, 1) := by decide +kernel
theorem dX3_endOn_26 : decode cX3_endOn 26 = .ok (.iinc 2 1, 3) := by decide +kernel
theorem dX3_endOn_29 : decode cX3_endOn 29 = .ok (.goto (-27), 3) := by decide +kernel
theorem dX3_endOn_32 : decode cX3_endOn 32 = .ok (.return_, 1) := by decide +kernel
theorem dX4_init_0 : decode cX4_init 0 = .ok (.aload_n 0, 1) := by decide +kernel
theorem dX4_init_1 : decode cX4_init 1 = .ok (.invokespecial 3, 3) := by decide +kernel
theorem dX4_init_4 : decode cX4_init 4 = .ok (.aload_n 0, 1) := by decide +kernel
theorem dX4_init_5 : decode cX4_init 5 = .ok (.bipush 30, 2) := by decide +kernel
theorem dX4_init_7 : decode cX4_init 7 = .ok (.newarray .int, 2) := by decide +kernel
theorem dX4_init_9 : decode cX4_init 9 = .ok (.putfield 9, 3) := by decide +kernel
theorem dX4_init_12 : decode cX4_init 12 = .ok (.aload_n 0, 1) := by decide +kernel
theorem dX4_init_13 : decode cX4_init 13 = .ok (.bipush 30, 2) := by decide +kernel
theorem dX4_init_15 : decode cX4_init 15 = .ok (.newarray .int, 2) := by decide +kernel
theorem dX4_init_17 : decode cX4_init 17 = .ok (.putfield 15, 3) := by decide +kernel
theorem dX4_init_20 : decode cX4_init 20 = .ok (.aload_n 0, 1) := by decide +kernel
theorem dX4_init_21 : decode cX4_init 21 = .ok (.bipush 30, 2) := by decide +kernel
theorem dX4_init_23 : decode cX4_init 23 = .ok (.newarray .int, 2) := by decide +kernel
theorem dX4_init_25 : decode cX4_init 25 = .ok (.putfield 18, 3) := by decide +kernel
theorem dX4_init_28 : decode cX4_init 28 = .ok (.aload_n 0, 1) := by decide +kernel
theorem dX4_init_29 : decode cX4_init 29 = .ok (.bipush 30, 2) := by decide +kernel
theorem dX4_init_31 : decode cX4_init 31 = .ok (.newarray .int, 2) := by decide +kernel
theorem dX4_init_33 : decode cX4_init 33 = .ok (.putfield 21, 3) := by decide +kernel
theorem dX4_init_36 : decode cX4_init 36 = .ok (.aload_n 0, 1) := by decide +kernel
theorem dX4_init_37 : decode cX4_init 37 = .ok (.iconst 0, 1) := by decide +kernel
theorem dX4_init_38 : decode cX4_init 38 = .ok (.putfield 24, 3) := by decide +kernel
theorem dX4_init_41 : decode cX4_init 41 = .ok (.aload_n 0, 1) := by decide +kernel
theorem dX4_init_42 : decode cX4_init 42 = .ok (.iconst 0, 1) := by decide +kernel
theorem dX4_init_43 : decode cX4_init 43 = .ok (.putfield 28, 3) := by decide +kernel
theorem dX4_init_46 : decode cX4_init 46 = .ok (.return_, 1) := by decide +kernel
theorem dX4_isFull_0 : decode cX4_isFull 0 = .ok (.aload_n 0, 1) := by decide +kernel
theorem dX4_isFull_1 : decode cX4_isFull 1 = .ok (.getfield 24, 3) := by decide +kernel
theorem dX4_isFull_4 : decode cX4_isFull 4 = .ok (.bipush 30, 2) := by decide +kernel
theorem dX4_isFull_6 : decode cX4_isFull 6 = .ok (.if_icmp .lt 7, 3) := by decide +kernel
theorem dX4_isFull_9 : decode cX4_isFull 9 = .ok (.iconst 1, 1) := by decide +kernel
theorem dX4_isFull_10 : decode cX4_isFull 10 = .ok (.goto 4, 3) := by decide +kernel
theorem dX4_isFull_13 : decode cX4_isFull 13 = .ok (.iconst 0, 1) := by decide +kernel
theorem dX4_isFull_14 : decode cX4_isFull 14 = .ok (.ireturn, 1) := by decide +kernel
theorem dX4_knows_0 : decode cX4_knows 0 = .ok (.iconst 0, 1) := by decide +kernel
theorem dX4_knows_1 : decode cX4_knows 1 = .ok (.istore 4, 2) := by decide +kernel
theorem dX4_knows_3 : decode cX4_knows 3 = .ok (.iload 4, 2) := by decide +kernel
theorem dX4_knows_5 : decode cX4_knows 5 = .ok (.aload_n 0, 1) := by decide +kernel
theorem dX4_knows_6 : decode cX4_knows 6 = .ok (.getfield 24, 3) := by decide +kernel
theorem dX4_knows_9 : decode cX4_knows 9 = .ok (.if_icmp .ge 44, 3) := by decide +kernel
theorem dX4_knows_12 : decode cX4_knows 12 = .ok (.aload_n 0, 1) := by decide +kernel
theorem dX4_knows_13 : decode cX4_knows 13 = .ok (.getfield 9, 3) := by decide +kernel
theorem dX4_knows_16 : decode cX4_knows 16 = .ok (.iload 4, 2) := by decide +kernel
theorem dX4_knows_18 : decode cX4_knows 18 = .ok (.iaload, 1) := by decide +kernel
theorem dX4_knows_19 : decode cX4_knows 19 = .ok (.iload_n 1, 1) := by decide +kernel
theorem dX4_knows_20 : decode cX4_knows 20 = .ok (.if_icmp .ne 27, 3) := by decide +kernel
theorem dX4_knows_23 : decode cX4_knows 23 = .ok (.aload_n 0, 1) := by decide +kernel
theorem dX4_knows_24 : decode cX4_knows 24 = .ok (.getfield 15, 3) := by decide +kernel
theorem dX4_knows_27 : decode cX4_knows 27 = .ok (.iload 4, 2) := by decide +kernel
theorem dX4_knows_29 : decode cX4_knows 29 = .ok (.iaload, 1) := by decide +kernel
theorem dX4_knows_30 : decode cX4_knows 30 = .ok (.iload_n 2, 1) := by decide +kernel
theorem dX4_knows_31 : decode cX4_knows 31 = .ok (.if_icmp .ne 16, 3) := by decide +kernel
theorem dX4_knows_34 : decode cX4_knows 34 = .ok (.aload_n 0, 1) := by decide +kernel
theorem dX4_knows_35 : decode cX4_knows 35 = .ok (.getfield 18, 3) := by decide +kernel
theorem dX4_knows_38 : decode cX4_knows 38 = .ok (.iload 4, 2) := by decide +kernel
theorem dX4_knows_40 : decode cX4_knows 40 = .ok (.iaload, 1) := by decide +kernel
theorem dX4_knows_41 : decode cX4_knows 41 = .ok (.iload_n 3, 1) := by decide +kernel
theorem dX4_knows_42 : decode cX4_knows 42 = .ok (.if_icmp .ne 5, 3) := by decide +kernel
theorem dX4_knows_45 : decode cX4_knows 45 = .ok (.iconst 1, 1) := by decide +kernel
theorem dX4_knows_46 : decode cX4_knows 46 = .ok (.ireturn, 1) := by decide +kernel
theorem dX4_knows_47 : decode cX4_knows 47 = .ok (.iinc 4 1, 3) := by decide +kernel
theorem dX4_knows_50 : decode cX4_knows 50 = .ok (.goto (-47), 3) := by decide +kernel
theorem dX4_knows_53 : decode cX4_knows 53 = .ok (.iconst 0, 1) := by decide +kernel
theorem dX4_knows_54 : decode cX4_knows 54 = .ok (.ireturn, 1) := by decide +kernel
theorem dX4_tell_0 : decode cX4_tell 0 = .ok (.aload_n 0, 1) := by decide +kernel
theorem dX4_tell_1 : decode cX4_tell 1 = .ok (.invokevirtual 31, 3) := by decide +kernel
theorem dX4_tell_4 : decode cX4_tell 4 = .ok (.ifCond .eq 4, 3) := by decide +kernel
theorem dX4_tell_7 : decode cX4_tell 7 = .ok (.return_, 1) := by decide +kernel
theorem dX4_tell_8 : decode cX4_tell 8 = .ok (.aload_n 0, 1) := by decide +kernel
theorem dX4_tell_9 : decode cX4_tell 9 = .ok (.getfield 24, 3) := by decide +kernel
theorem dX4_tell_12 : decode cX4_tell 12 = .ok (.istore 4, 2) := by decide +kernel
theorem dX4_tell_14 : decode cX4_tell 14 = .ok (.iload 4, 2) := by decide +kernel
theorem dX4_tell_16 : decode cX4_tell 16 = .ok (.ifCond .le 70, 3) := by decide +kernel
theorem dX4_tell_19 : decode cX4_tell 19 = .ok (.aload_n 0, 1) := by decide +kernel
theorem dX4_tell_20 : decode cX4_tell 20 = .ok (.getfield 9, 3) := by decide +kernel
theorem dX4_tell_23 : decode cX4_tell 23 = .ok (.iload 4, 2) := by decide +kernel
theorem dX4_tell_25 : decode cX4_tell 25 = .ok (.iconst 1, 1) := by decide +kernel
theorem dX4_tell_26 : decode cX4_tell 26 = .ok (.isub, 1) := by decide +kernel
theorem dX4_tell_27 : decode cX4_tell 27 = .ok (.iaload, 1) := by decide +kernel
theorem dX4_tell_28 : decode cX4_tell 28 = .ok (.iload_n 1, 1) := by decide +kernel
theorem dX4_tell_29 : decode cX4_tell 29 = .ok (.if_icmp .le 57, 3) := by decide +kernel
theorem dX4_tell_32 : decode cX4_tell 32 = .ok (.aload_n 0, 1) := by decide +kernel
theorem dX4_tell_33 : decode cX4_tell 33 = .ok (.getfield 9, 3) := by decide +kernel
theorem dX4_tell_36 : decode cX4_tell 36 = .ok (.iload 4, 2) := by decide +kernel
theorem dX4_tell_38 : decode cX4_tell 38 = .ok (.aload_n 0, 1) := by decide +kernel
theorem dX4_tell_39 : decode cX4_tell 39 = .ok (.getfield 9, 3) := by decide +kernel
theorem dX4_tell_42 : decode cX4_tell 42 = .ok (.iload 4, 2) := by decide +kernel
theorem dX4_tell_44 : decode cX4_tell 44 = .ok (.iconst 1, 1) := by decide +kernel
theorem dX4_tell_45 : decode cX4_tell 45 = .ok (.isub, 1) := by decide +kernel
theorem dX4_tell_46 : decode cX4_tell 46 = .ok (.iaload, 1) := by decide +kernel
theorem dX4_tell_47 : decode cX4_tell 47 = .ok (.iastore, 1) := by decide +kernel
theorem dX4_tell_48 : decode cX4_tell 48 = .ok (.aload_n 0, 1) := by decide +kernel
theorem dX4_tell_49 : decode cX4_tell 49 = .ok (.getfield 15, 3) := by decide +kernel
theorem dX4_tell_52 : decode cX4_tell 52 = .ok (.iload 4, 2) := by decide +kernel
theorem dX4_tell_54 : decode cX4_tell 54 = .ok (.aload_n 0, 1) := by decide +kernel
theorem dX4_tell_55 : decode cX4_tell 55 = .ok (.getfield 15, 3) := by decide +kernel
theorem dX4_tell_58 : decode cX4_tell 58 = .ok (.iload 4, 2) := by decide +kernel
theorem dX4_tell_60 : decode cX4_tell 60 = .ok (.iconst 1, 1) := by decide +kernel
theorem dX4_tell_61 : decode cX4_tell 61 = .ok (.isub, 1) := by decide +kernel
theorem dX4_tell_62 : decode cX4_tell 62 = .ok (.iaload, 1) := by decide +kernel
theorem dX4_tell_63 : decode cX4_tell 63 = .ok (.iastore, 1) := by decide +kernel
theorem dX4_tell_64 : decode cX4_tell 64 = .ok (.aload_n 0, 1) := by decide +kernel
theorem dX4_tell_65 : decode cX4_tell 65 = .ok (.getfield 18, 3) := by decide +kernel
theorem dX4_tell_68 : decode cX4_tell 68 = .ok (.iload 4, 2) := by decide +kernel
theorem dX4_tell_70 : decode cX4_tell 70 = .ok (.aload_n 0, 1) := by decide +kernel
theorem dX4_tell_71 : decode cX4_tell 71 = .ok (.getfield 18, 3) := by decide +kernel
theorem dX4_tell_74 : decode cX4_tell 74 = .ok (.iload 4, 2) := by decide +kernel
theorem dX4_tell_76 : decode cX4_tell 76 = .ok (.iconst 1, 1) := by decide +kernel
theorem dX4_tell_77 : decode cX4_tell 77 = .ok (.isub, 1) := by decide +kernel
theorem dX4_tell_78 : decode cX4_tell 78 = .ok (.iaload, 1) := by decide +kernel
theorem dX4_tell_79 : decode cX4_tell 79 = .ok (.iastore, 1) := by decide +kernel
theorem dX4_tell_80 : decode cX4_tell 80 = .ok (.iinc 4 (-1), 3) := by decide +kernel
theorem dX4_tell_83 : decode cX4_tell 83 = .ok (.goto (-69), 3) := by decide +kernel
theorem dX4_tell_86 : decode cX4_tell 86 = .ok (.aload_n 0, 1) := by decide +kernel
theorem dX4_tell_87 : decode cX4_tell 87 = .ok (.getfield 9, 3) := by decide +kernel
theorem dX4_tell_90 : decode cX4_tell 90 = .ok (.iload 4, 2) := by decide +kernel
theorem dX4_tell_92 : decode cX4_tell 92 = .ok (.iload_n 1, 1) := by decide +kernel
theorem dX4_tell_93 : decode cX4_tell 93 = .ok (.iastore, 1) := by decide +kernel
theorem dX4_tell_94 : decode cX4_tell 94 = .ok (.aload_n 0, 1) := by decide +kernel
theorem dX4_tell_95 : decode cX4_tell 95 = .ok (.getfield 15, 3) := by decide +kernel
theorem dX4_tell_98 : decode cX4_tell 98 = .ok (.iload 4, 2) := by decide +kernel
theorem dX4_tell_100 : decode cX4_tell 100 = .ok (.iload_n 2, 1) := by decide +kernel
theorem dX4_tell_101 : decode cX4_tell 101 = .ok (.iastore, 1) := by decide +kernel
theorem dX4_tell_102 : decode cX4_tell 102 = .ok (.aload_n 0, 1) := by decide +kernel
theorem dX4_tell_103 : decode cX4_tell 103 = .ok (.getfield 18, 3) := by decide +kernel
theorem dX4_tell_106 : decode cX4_tell 106 = .ok (.iload 4, 2) := by decide +kernel
theorem dX4_tell_108 : decode cX4_tell 108 = .ok (.iload_n 3, 1) := by decide +kernel
theorem dX4_tell_109 : decode cX4_tell 109 = .ok (.iastore, 1) := by decide +kernel
theorem dX4_tell_110 : decode cX4_tell 110 = .ok (.aload_n 0, 1) := by decide +kernel
theorem dX4_tell_111 : decode cX4_tell 111 = .ok (.dup, 1) := by decide +kernel
theorem dX4_tell_112 : decode cX4_tell 112 = .ok (.getfield 24, 3) := by decide +kernel
theorem dX4_tell_115 : decode cX4_tell 115 = .ok (.iconst 1, 1) := by decide +kernel
theorem dX4_tell_116 : decode cX4_tell 116 = .ok (.iadd, 1) := by decide +kernel
theorem dX4_tell_117 : decode cX4_tell 117 = .ok (.putfield 24, 3) := by decide +kernel
theorem dX4_tell_120 : decode cX4_tell 120 = .ok (.aload_n 0, 1) := by decide +kernel
theorem dX4_tell_121 : decode cX4_tell 121 = .ok (.invokevirtual 35, 3) := by decide +kernel
theorem dX4_tell_124 : decode cX4_tell 124 = .ok (.return_, 1) := by decide +kernel
theorem dX4_liveAgain_0 : decode cX4_liveAgain 0 = .ok (.bipush 10, 2) := by decide +kernel
theorem dX4_liveAgain_2 : decode cX4_liveAgain 2 = .ok (.istore_n 1, 1) := by decide +kernel
theorem dX4_liveAgain_3 : decode cX4_liveAgain 3 = .ok (.aload_n 0, 1) := by decide +kernel
theorem dX4_liveAgain_4 : decode cX4_liveAgain 4 = .ok (.iconst 0, 1) := by decide +kernel
theorem dX4_liveAgain_5 : decode cX4_liveAgain 5 = .ok (.putfield 28, 3) := by decide +kernel
theorem dX4_liveAgain_8 : decode cX4_liveAgain 8 = .ok (.iconst 0, 1) := by decide +kernel
theorem dX4_liveAgain_9 : decode cX4_liveAgain 9 = .ok (.istore_n 2, 1) := by decide +kernel
theorem dX4_liveAgain_10 : decode cX4_liveAgain 10 = .ok (.iload_n 2, 1) := by decide +kernel
theorem dX4_liveAgain_11 : decode cX4_liveAgain 11 = .ok (.aload_n 0, 1) := by decide +kernel
theorem dX4_liveAgain_12 : decode cX4_liveAgain 12 = .ok (.getfield 24, 3) := by decide +kernel
theorem dX4_liveAgain_15 : decode cX4_liveAgain 15 = .ok (.if_icmp .ge 64, 3) := by decide +kernel
theorem dX4_liveAgain_18 : decode cX4_liveAgain 18 = .ok (.iload_n 1, 1) := by decide +kernel
theorem dX4_liveAgain_19 : decode cX4_liveAgain 19 = .ok (.aload_n 0, 1) := by decide +kernel
theorem dX4_liveAgain_20 : decode cX4_liveAgain 20 = .ok (.getfield 15, 3) := by decide +kernel
theorem dX4_liveAgain_23 : decode cX4_liveAgain 23 = .ok (.iload_n 2, 1) := by decide +kernel
theorem dX4_liveAgain_24 : decode cX4_liveAgain 24 = .ok (.iaload, 1) := by decide +kernel
theorem dX4_liveAgain_25 : decode cX4_liveAgain 25 = .ok (.aload_n 0, 1) := by decide +kernel
theorem dX4_liveAgain_26 : decode cX4_liveAgain 26 = .ok (.getfield 18, 3) := by decide +kernel
theorem dX4_liveAgain_29 : decode cX4_liveAgain 29 = .ok (.iload_n 2, 1) := by decide +kernel
theorem dX4_liveAgain_30 : decode cX4_liveAgain 30 = .ok (.iaload, 1) := by decide +kernel
theorem dX4_liveAgain_31 : decode cX4_liveAgain 31 = .ok (.invokestatic 38, 3) := by decide +kernel
theorem dX4_liveAgain_34 : decode cX4_liveAgain 34 = .ok (.ifCond .eq 22, 3) := by decide +kernel
theorem dX4_liveAgain_37 : decode cX4_liveAgain 37 = .ok (.aload_n 0, 1) := by decide +kernel
theorem dX4_liveAgain_38 : decode cX4_liveAgain 38 = .ok (.getfield 15, 3) := by decide +kernel
theorem dX4_liveAgain_41 : decode cX4_liveAgain 41 = .ok (.iload_n 2, 1) := by decide +kernel
theorem dX4_liveAgain_42 : decode cX4_liveAgain 42 = .ok (.iaload, 1) := by decide +kernel
theorem dX4_liveAgain_43 : decode cX4_liveAgain 43 = .ok (.aload_n 0, 1) := by decide +kernel
theorem dX4_liveAgain_44 : decode cX4_liveAgain 44 = .ok (.getfield 18, 3) := by decide +kernel
theorem dX4_liveAgain_47 : decode cX4_liveAgain 47 = .ok (.iload_n 2, 1) := by decide +kernel
theorem dX4_liveAgain_48 : decode cX4_liveAgain 48 = .ok (.iaload, 1) := by decide +kernel
theorem dX4_liveAgain_49 : decode cX4_liveAgain 49 = .ok (.invokestatic 42, 3) := by decide +kernel
theorem dX4_liveAgain_52 : decode cX4_liveAgain 52 = .ok (.istore_n 1, 1) := by decide +kernel
theorem dX4_liveAgain_53 : decode cX4_liveAgain 53 = .ok (.goto 13, 3) := by decide +kernel
theorem dX4_liveAgain_56 : decode cX4_liveAgain 56 = .ok (.aload_n 0, 1) := by decide +kernel
theorem dX4_liveAgain_57 : decode cX4_liveAgain 57 = .ok (.dup, 1) := by decide +kernel
theorem dX4_liveAgain_58 : decode cX4_liveAgain 58 = .ok (.getfield 28, 3) := by decide +kernel
theorem dX4_liveAgain_61 : decode cX4_liveAgain 61 = .ok (.iconst 1, 1) := by decide +kernel
theorem dX4_liveAgain_62 : decode cX4_liveAgain 62 = .ok (.iadd, 1) := by decide +kernel
theorem dX4_liveAgain_63 : decode cX4_liveAgain 63 = .ok (.putfield 28, 3) := by decide +kernel
theorem dX4_liveAgain_66 : decode cX4_liveAgain 66 = .ok (.aload_n 0, 1) := by decide +kernel
theorem dX4_liveAgain_67 : decode cX4_liveAgain 67 = .ok (.getfield 21, 3) := by decide +kernel
theorem dX4_liveAgain_70 : decode cX4_liveAgain 70 = .ok (.iload_n 2, 1) := by decide +kernel
theorem dX4_liveAgain_71 : decode cX4_liveAgain 71 = .ok (.iload_n 1, 1) := by decide +kernel
theorem dX4_liveAgain_72 : decode cX4_liveAgain 72 = .ok (.iastore, 1) := by decide +kernel
theorem dX4_liveAgain_73 : decode cX4_liveAgain 73 = .ok (.iinc 2 1, 3) := by decide +kernel
theorem dX4_liveAgain_76 : decode cX4_liveAgain 76 = .ok (.goto (-66), 3) := by decide +kernel
theorem dX4_liveAgain_79 : decode cX4_liveAgain 79 = .ok (.return_, 1) := by decide +kernel
theorem dX4_fits_0 : decode cX4_fits 0 = .ok (.iload_n 1, 1) := by decide +kernel
theorem dX4_fits_1 : decode cX4_fits 1 = .ok (.lookupswitch 63 #[(0, 27), (3, 45)], 27) := by decide +kernel
theorem dX4_fits_28 : decode cX4_fits 28 = .ok (.iload_n 0, 1) := by decide +kernel
theorem dX4_fits_29 : decode cX4_fits 29 = .ok (.bipush 10, 2) := by decide +kernel
theorem dX4_fits_31 : decode cX4_fits 31 = .ok (.if_icmp .eq 9, 3) := by decide +kernel
theorem dX4_fits_34 : decode cX4_fits 34 = .ok (.iload_n 0, 1) := by decide +kernel
theorem dX4_fits_35 : decode cX4_fits 35 = .ok (.bipush 11, 2) := by decide +kernel
theorem dX4_fits_37 : decode cX4_fits 37 = .ok (.if_icmp .ne 7, 3) := by decide +kernel
theorem dX4_fits_40 : decode cX4_fits 40 = .ok (.iconst 1, 1) := by decide +kernel
theorem dX4_fits_41 : decode cX4_fits 41 = .ok (.goto 4, 3) := by decide +kernel
theorem dX4_fits_44 : decode cX4_fits 44 = .ok (.iconst 0, 1) := by decide +kernel
theorem dX4_fits_45 : decode cX4_fits 45 = .ok (.ireturn, 1) := by decide +kernel
theorem dX4_fits_46 : decode cX4_fits 46 = .ok (.iload_n 0, 1) := by decide +kernel
theorem dX4_fits_47 : decode cX4_fits 47 = .ok (.bipush 10, 2) := by decide +kernel
theorem dX4_fits_49 : decode cX4_fits 49 = .ok (.if_icmp .eq 9, 3) := by decide +kernel
theorem dX4_fits_52 : decode cX4_fits 52 = .ok (.iload_n 0, 1) := by decide +kernel
theorem dX4_fits_53 : decode cX4_fits 53 = .ok (.bipush 12, 2) := by decide +kernel
theorem dX4_fits_55 : decode cX4_fits 55 = .ok (.if_icmp .ne 7, 3) := by decide +kernel
theorem dX4_fits_58 : decode cX4_fits 58 = .ok (.iconst 1, 1) := by decide +kernel
theorem dX4_fits_59 : decode cX4_fits 59 = .ok (.goto 4, 3) := by decide +kernel
theorem dX4_fits_62 : decode cX4_fits 62 = .ok (.iconst 0, 1) := by decide +kernel
theorem dX4_fits_63 : decode cX4_fits 63 = .ok (.ireturn, 1) := by decide +kernel
theorem dX4_fits_64 : decode cX4_fits 64 = .ok (.iload_n 0, 1) := by decide +kernel
theorem dX4_fits_65 : decode cX4_fits 65 = .ok (.iload_n 2, 1) := by decide +kernel
theorem dX4_fits_66 : decode cX4_fits 66 = .ok (.if_icmp .ne 7, 3) := by decide +kernel
theorem dX4_fits_69 : decode cX4_fits 69 = .ok (.iconst 1, 1) := by decide +kernel
theorem dX4_fits_70 : decode cX4_fits 70 = .ok (.goto 4, 3) := by decide +kernel
theorem dX4_fits_73 : decode cX4_fits 73 = .ok (.iconst 0, 1) := by decide +kernel
theorem dX4_fits_74 : decode cX4_fits 74 = .ok (.ireturn, 1) := by decide +kernel
theorem dX4_placeAfter_0 : decode cX4_placeAfter 0 = .ok (.iload_n 0, 1) := by decide +kernel
theorem dX4_placeAfter_1 : decode cX4_placeAfter 1 = .ok (.lookupswitch 33 #[(1, 27), (2, 30)], 27) := by decide +kernel
theorem dX4_placeAfter_28 : decode cX4_placeAfter 28 = .ok (.bipush 11, 2) := by decide +kernel
theorem dX4_placeAfter_30 : decode cX4_placeAfter 30 = .ok (.ireturn, 1) := by decide +kernel
theorem dX4_placeAfter_31 : decode cX4_placeAfter 31 = .ok (.bipush 12, 2) := by decide +kernel
theorem dX4_placeAfter_33 : decode cX4_placeAfter 33 = .ok (.ireturn, 1) := by decide +kernel
theorem dX4_placeAfter_34 : decode cX4_placeAfter 34 = .ok (.iload_n 1, 1) := by decide +kernel
theorem dX4_placeAfter_35 : decode cX4_placeAfter 35 = .ok (.ireturn, 1) := by decide +kernel
theorem dX4_placeOn_0 : decode cX4_placeOn 0 = .ok (.bipush 10, 2) := by decide +kernel
theorem dX4_placeOn_2 : decode cX4_placeOn 2 = .ok (.istore_n 2, 1) := by decide +kernel
theorem dX4_placeOn_3 : decode cX4_placeOn 3 = .ok (.iconst 0, 1) := by decide +kernel
theorem dX4_placeOn_4 : decode cX4_placeOn 4 = .ok (.istore_n 3, 1) := by decide +kernel
theorem dX4_placeOn_5 : decode cX4_placeOn 5 = .ok (.iload_n 3, 1) := by decide +kernel
theorem dX4_placeOn_6 : decode cX4_placeOn 6 = .ok (.aload_n 0, 1) := by decide +kernel
theorem dX4_placeOn_7 : decode cX4_placeOn 7 = .ok (.getfield 24, 3) := by decide +kernel
theorem dX4_placeOn_10 : decode cX4_placeOn 10 = .ok (.if_icmp .ge 26, 3) := by decide +kernel
theorem dX4_placeOn_13 : decode cX4_placeOn 13 = .ok (.aload_n 0, 1) := by decide +kernel
theorem dX4_placeOn_14 : decode cX4_placeOn 14 = .ok (.getfield 9, 3) := by decide +kernel
theorem dX4_placeOn_17 : decode cX4_placeOn 17 = .ok (.iload_n 3, 1) := by decide +kernel
theorem dX4_placeOn_18 : decode cX4_placeOn 18 = .ok (.iaload, 1) := by decide +kernel
theorem dX4_placeOn_19 : decode cX4_placeOn 19 = .ok (.iload_n 1, 1) := by decide +kernel
theorem dX4_placeOn_20 : decode cX4_placeOn 20 = .ok (.if_icmp .gt 16, 3) := by decide +kernel
theorem dX4_placeOn_23 : decode cX4_placeOn 23 = .ok (.aload_n 0, 1) := by decide +kernel
theorem dX4_placeOn_24 : decode cX4_placeOn 24 = .ok (.getfield 21, 3) := by decide +kernel
theorem dX4_placeOn_27 : decode cX4_placeOn 27 = .ok (.iload_n 3, 1) := by decide +kernel
theorem dX4_placeOn_28 : decode cX4_placeOn 28 = .ok (.iaload, 1) := by decide +kernel
theorem dX4_placeOn_29 : decode cX4_placeOn 29 = .ok (.istore_n 2, 1) := by decide +kernel
theorem dX4_placeOn_30 : decode cX4_placeOn 30 = .ok (.iinc 3 1, 3) := by decide +kernel
theorem dX4_placeOn_33 : decode cX4_placeOn 33 = .ok (.goto (-28), 3) := by decide +kernel
theorem dX4_placeOn_36 : decode cX4_placeOn 36 = .ok (.iload_n 2, 1) := by decide +kernel
theorem dX4_placeOn_37 : decode cX4_placeOn 37 = .ok (.ireturn, 1) := by decide +kernel
theorem dX4_daysAt_0 : decode cX4_daysAt 0 = .ok (.iconst 0, 1) := by decide +kernel
theorem dX4_daysAt_1 : decode cX4_daysAt 1 = .ok (.istore 4, 2) := by decide +kernel
theorem dX4_daysAt_3 : decode cX4_daysAt 3 = .ok (.iconst 0, 1) := by decide +kernel
theorem dX4_daysAt_4 : decode cX4_daysAt 4 = .ok (.istore 5, 2) := by decide +kernel
theorem dX4_daysAt_6 : decode cX4_daysAt 6 = .ok (.bipush 10, 2) := by decide +kernel
theorem dX4_daysAt_8 : decode cX4_daysAt 8 = .ok (.istore 6, 2) := by decide +kernel
theorem dX4_daysAt_10 : decode cX4_daysAt 10 = .ok (.iload_n 2, 1) := by decide +kernel
theorem dX4_daysAt_11 : decode cX4_daysAt 11 = .ok (.istore 7, 2) := by decide +kernel
theorem dX4_daysAt_13 : decode cX4_daysAt 13 = .ok (.iload 7, 2) := by decide +kernel
theorem dX4_daysAt_15 : decode cX4_daysAt 15 = .ok (.iload_n 3, 1) := by decide +kernel
theorem dX4_daysAt_16 : decode cX4_daysAt 16 = .ok (.if_icmp .gt 54, 3) := by decide +kernel
theorem dX4_daysAt_19 : decode cX4_daysAt 19 = .ok (.iload 5, 2) := by decide +kernel
theorem dX4_daysAt_21 : decode cX4_daysAt 21 = .ok (.aload_n 0, 1) := by decide +kernel
theorem dX4_daysAt_22 : decode cX4_daysAt 22 = .ok (.getfield 24, 3) := by decide +kernel
theorem dX4_daysAt_25 : decode cX4_daysAt 25 = .ok (.if_icmp .ge 30, 3) := by decide +kernel
theorem dX4_daysAt_28 : decode cX4_daysAt 28 = .ok (.aload_n 0, 1) := by decide +kernel
theorem dX4_daysAt_29 : decode cX4_daysAt 29 = .ok (.getfield 9, 3) := by decide +kernel
theorem dX4_daysAt_32 : decode cX4_daysAt 32 = .ok (.iload 5, 2) := by decide +kernel
theorem dX4_daysAt_34 : decode cX4_daysAt 34 = .ok (.iaload, 1) := by decide +kernel
theorem dX4_daysAt_35 : decode cX4_daysAt 35 = .ok (.iload 7, 2) := by decide +kernel
theorem dX4_daysAt_37 : decode cX4_daysAt 37 = .ok (.if_icmp .gt 18, 3) := by decide +kernel
theorem dX4_daysAt_40 : decode cX4_daysAt 40 = .ok (.aload_n 0, 1) := by decide +kernel
theorem dX4_daysAt_41 : decode cX4_daysAt 41 = .ok (.getfield 21, 3) := by decide +kernel
theorem dX4_daysAt_44 : decode cX4_daysAt 44 = .ok (.iload 5, 2) := by decide +kernel
theorem dX4_daysAt_46 : decode cX4_daysAt 46 = .ok (.iaload, 1) := by decide +kernel
theorem dX4_daysAt_47 : decode cX4_daysAt 47 = .ok (.istore 6, 2) := by decide +kernel
theorem dX4_daysAt_49 : decode cX4_daysAt 49 = .ok (.iinc 5 1, 3) := by decide +kernel
theorem dX4_daysAt_52 : decode cX4_daysAt 52 = .ok (.goto (-33), 3) := by decide +kernel
theorem dX4_daysAt_55 : decode cX4_daysAt 55 = .ok (.iload 6, 2) := by decide +kernel
theorem dX4_daysAt_57 : decode cX4_daysAt 57 = .ok (.iload_n 1, 1) := by decide +kernel
theorem dX4_daysAt_58 : decode cX4_daysAt 58 = .ok (.if_icmp .ne 6, 3) := by decide +kernel
theorem dX4_daysAt_61 : decode cX4_daysAt 61 = .ok (.iinc 4 1, 3) := by decide +kernel
theorem dX4_daysAt_64 : decode cX4_daysAt 64 = .ok (.iinc 7 1, 3) := by decide +kernel
theorem dX4_daysAt_67 : decode cX4_daysAt 67 = .ok (.goto (-54), 3) := by decide +kernel
theorem dX4_daysAt_70 : decode cX4_daysAt 70 = .ok (.iload 4, 2) := by decide +kernel
theorem dX4_daysAt_72 : decode cX4_daysAt 72 = .ok (.ireturn, 1) := by decide +kernel
theorem dX5_init_0 : decode cX5_init 0 = .ok (.aload_n 0, 1) := by decide +kernel
theorem dX5_init_1 : decode cX5_init 1 = .ok (.invokespecial 3, 3) := by decide +kernel
theorem dX5_init_4 : decode cX5_init 4 = .ok (.aload_n 0, 1) := by decide +kernel
theorem dX5_init_5 : decode cX5_init 5 = .ok (.iconst 5, 1) := by decide +kernel
theorem dX5_init_6 : decode cX5_init 6 = .ok (.newarray .int, 2) := by decide +kernel
theorem dX5_init_8 : decode cX5_init 8 = .ok (.putfield 9, 3) := by decide +kernel
theorem dX5_init_11 : decode cX5_init 11 = .ok (.aload_n 0, 1) := by decide +kernel
theorem dX5_init_12 : decode cX5_init 12 = .ok (.bipush 40, 2) := by decide +kernel
theorem dX5_init_14 : decode cX5_init 14 = .ok (.newarray .int, 2) := by decide +kernel
theorem dX5_init_16 : decode cX5_init 16 = .ok (.putfield 15, 3) := by decide +kernel
theorem dX5_init_19 : decode cX5_init 19 = .ok (.aload_n 0, 1) := by decide +kernel
theorem dX5_init_20 : decode cX5_init 20 = .ok (.bipush 40, 2) := by decide +kernel
theorem dX5_init_22 : decode cX5_init 22 = .ok (.newarray .int, 2) := by decide +kernel
theorem dX5_init_24 : decode cX5_init 24 = .ok (.putfield 18, 3) := by decide +kernel
theorem dX5_init_27 : decode cX5_init 27 = .ok (.aload_n 0, 1) := by decide +kernel
theorem dX5_init_28 : decode cX5_init 28 = .ok (.bipush 40, 2) := by decide +kernel
theorem dX5_init_30 : decode cX5_init 30 = .ok (.newarray .boolean, 2) := by decide +kernel
theorem dX5_init_32 : decode cX5_init 32 = .ok (.putfield 21, 3) := by decide +kernel
theorem dX5_init_35 : decode cX5_init 35 = .ok (.aload_n 0, 1) := by decide +kernel
theorem dX5_init_36 : decode cX5_init 36 = .ok (.iconst 5, 1) := by decide +kernel
theorem dX5_init_37 : decode cX5_init 37 = .ok (.newarray .int, 2) := by decide +kernel
theorem dX5_init_39 : decode cX5_init 39 = .ok (.putfield 25, 3) := by decide +kernel
theorem dX5_init_42 : decode cX5_init 42 = .ok (.aload_n 0, 1) := by decide +kernel
theorem dX5_init_43 : decode cX5_init 43 = .ok (.iconst 5, 1) := by decide +kernel
theorem dX5_init_44 : decode cX5_init 44 = .ok (.newarray .int, 2) := by decide +kernel
theorem dX5_init_46 : decode cX5_init 46 = .ok (.putfield 28, 3) := by decide +kernel
theorem dX5_init_49 : decode cX5_init 49 = .ok (.aload_n 0, 1) := by decide +kernel
theorem dX5_init_50 : decode cX5_init 50 = .ok (.bipush 6, 2) := by decide +kernel
theorem dX5_init_52 : decode cX5_init 52 = .ok (.newarray .int, 2) := by decide +kernel
theorem dX5_init_54 : decode cX5_init 54 = .ok (.putfield 31, 3) := by decide +kernel
theorem dX5_init_57 : decode cX5_init 57 = .ok (.aload_n 0, 1) := by decide +kernel
theorem dX5_init_58 : decode cX5_init 58 = .ok (.iconst 0, 1) := by decide +kernel
theorem dX5_init_59 : decode cX5_init 59 = .ok (.putfield 34, 3) := by decide +kernel
theorem dX5_init_62 : decode cX5_init 62 = .ok (.aload_n 0, 1) := by decide +kernel
theorem dX5_init_63 : decode cX5_init 63 = .ok (.iconst 0, 1) := by decide +kernel
theorem dX5_init_64 : decode cX5_init 64 = .ok (.putfield 38, 3) := by decide +kernel
theorem dX5_init_67 : decode cX5_init 67 = .ok (.aload_n 0, 1) := by decide +kernel
theorem dX5_init_68 : decode cX5_init 68 = .ok (.iconst 0, 1) := by decide +kernel
theorem dX5_init_69 : decode cX5_init 69 = .ok (.putfield 41, 3) := by decide +kernel
theorem dX5_init_72 : decode cX5_init 72 = .ok (.aload_n 0, 1) := by decide +kernel
theorem dX5_init_73 : decode cX5_init 73 = .ok (.iconst 0, 1) := by decide +kernel
theorem dX5_init_74 : decode cX5_init 74 = .ok (.putfield 44, 3) := by decide +kernel
theorem dX5_init_77 : decode cX5_init 77 = .ok (.return_, 1) := by decide +kernel
theorem dX5_clear_0 : decode cX5_clear 0 = .ok (.aload_n 0, 1) := by decide +kernel
theorem dX5_clear_1 : decode cX5_clear 1 = .ok (.iconst 0, 1) := by decide +kernel
theorem dX5_clear_2 : decode cX5_clear 2 = .ok (.putfield 34, 3) := by decide +kernel
theorem dX5_clear_5 : decode cX5_clear 5 = .ok (.aload_n 0, 1) := by decide +kernel
theorem dX5_clear_6 : decode cX5_clear 6 = .ok (.iconst 0, 1) := by decide +kernel
theorem dX5_clear_7 : decode cX5_clear 7 = .ok (.putfield 38, 3) := by decide +kernel
theorem dX5_clear_10 : decode cX5_clear 10 = .ok (.aload_n 0, 1) := by decide +kernel
theorem dX5_clear_11 : decode cX5_clear 11 = .ok (.iconst 0, 1) := by decide +kernel
theorem dX5_clear_12 : decode cX5_clear 12 = .ok (.putfield 41, 3) := by decide +kernel
theorem dX5_clear_15 : decode cX5_clear 15 = .ok (.aload_n 0, 1) := by decide +kernel
theorem dX5_clear_16 : decode cX5_clear 16 = .ok (.iconst 0, 1) := by decide +kernel
theorem dX5_clear_17 : decode cX5_clear 17 = .ok (.putfield 44, 3) := by decide +kernel
theorem dX5_clear_20 : decode cX5_clear 20 = .ok (.return_, 1) := by decide +kernel
theorem dX5_lack_0 : decode cX5_lack 0 = .ok (.iload_n 1, 1) := by decide +kernel
theorem dX5_lack_1 : decode cX5_lack 1 = .ok (.invokestatic 47, 3) := by decide +kernel
theorem dX5_lack_4 : decode cX5_lack 4 = .ok (.ifCond .eq 7, 3) := by decide +kernel
theorem dX5_lack_7 : decode cX5_lack 7 = .ok (.iload_n 2, 1) := by decide +kernel
theorem dX5_lack_8 : decode cX5_lack 8 = .ok (.ifCond .gt 4, 3) := by decide +kernel
theorem dX5_lack_11 : decode cX5_lack 11 = .ok (.return_, 1) := by decide +kernel
theorem dX5_lack_12 : decode cX5_lack 12 = .ok (.aload_n 0, 1) := by decide +kernel
theorem dX5_lack_13 : decode cX5_lack 13 = .ok (.dup, 1) := by decide +kernel
theorem dX5_lack_14 : decode cX5_lack 14 = .ok (.getfield 34, 3) := by decide +kernel
theorem dX5_lack_17 : decode cX5_lack 17 = .ok (.iconst 1, 1) := by decide +kernel
theorem dX5_lack_18 : decode cX5_lack 18 = .ok (.iload_n 1, 1) := by decide +kernel
theorem dX5_lack_19 : decode cX5_lack 19 = .ok (.ishl, 1) := by decide +kernel
theorem dX5_lack_20 : decode cX5_lack 20 = .ok (.ior, 1) := by decide +kernel
theorem dX5_lack_21 : decode cX5_lack 21 = .ok (.putfield 34, 3) := by decide +kernel
theorem dX5_lack_24 : decode cX5_lack 24 = .ok (.aload_n 0, 1) := by decide +kernel
theorem dX5_lack_25 : decode cX5_lack 25 = .ok (.getfield 38, 3) := by decide +kernel
theorem dX5_lack_28 : decode cX5_lack 28 = .ok (.istore_n 3, 1) := by decide +kernel
theorem dX5_lack_29 : decode cX5_lack 29 = .ok (.iload_n 3, 1) := by decide +kernel
theorem dX5_lack_30 : decode cX5_lack 30 = .ok (.aload_n 0, 1) := by decide +kernel
theorem dX5_lack_31 : decode cX5_lack 31 = .ok (.getfield 38, 3) := by decide +kernel
theorem dX5_lack_34 : decode cX5_lack 34 = .ok (.iload_n 2, 1) := by decide +kernel
theorem dX5_lack_35 : decode cX5_lack 35 = .ok (.iadd, 1) := by decide +kernel
theorem dX5_lack_36 : decode cX5_lack 36 = .ok (.if_icmp .ge 25, 3) := by decide +kernel
theorem dX5_lack_39 : decode cX5_lack 39 = .ok (.iload_n 3, 1) := by decide +kernel
theorem dX5_lack_40 : decode cX5_lack 40 = .ok (.aload_n 0, 1) := by decide +kernel
theorem dX5_lack_41 : decode cX5_lack 41 = .ok (.getfield 9, 3) := by decide +kernel
theorem dX5_lack_44 : decode cX5_lack 44 = .ok (.arraylength, 1) := by decide +kernel
theorem dX5_lack_45 : decode cX5_lack 45 = .ok (.if_icmp .ge 16, 3) := by decide +kernel
theorem dX5_lack_48 : decode cX5_lack 48 = .ok (.aload_n 0, 1) := by decide +kernel
theorem dX5_lack_49 : decode cX5_lack 49 = .ok (.getfield 9, 3) := by decide +kernel
theorem dX5_lack_52 : decode cX5_lack 52 = .ok (.iload_n 3, 1) := by decide +kernel
theorem dX5_lack_53 : decode cX5_lack 53 = .ok (.iload_n 1, 1) := by decide +kernel
theorem dX5_lack_54 : decode cX5_lack 54 = .ok (.iastore, 1) := by decide +kernel
theorem dX5_lack_55 : decode cX5_lack 55 = .ok (.iinc 3 1, 3) := by decide +kernel
theorem dX5_lack_58 : decode cX5_lack 58 = .ok (.goto (-29), 3) := by decide +kernel
theorem dX5_lack_61 : decode cX5_lack 61 = .ok (.aload_n 0, 1) := by decide +kernel
theorem dX5_lack_62 : decode cX5_lack 62 = .ok (.dup, 1) := by decide +kernel
theorem dX5_lack_63 : decode cX5_lack 63 = .ok (.getfield 38, 3) := by decide +kernel
theorem dX5_lack_66 : decode cX5_lack 66 = .ok (.iload_n 2, 1) := by decide +kernel
theorem dX5_lack_67 : decode cX5_lack 67 = .ok (.iadd, 1) := by decide +kernel
theorem dX5_lack_68 : decode cX5_lack 68 = .ok (.putfield 38, 3) := by decide +kernel
theorem dX5_lack_71 : decode cX5_lack 71 = .ok (.return_, 1) := by decide +kernel
theorem dX5_offer_0 : decode cX5_offer 0 = .ok (.iload_n 2, 1) := by decide +kernel
theorem dX5_offer_1 : decode cX5_offer 1 = .ok (.invokestatic 47, 3) := by decide +kernel
theorem dX5_offer_4 : decode cX5_offer 4 = .ok (.ifCond .eq 26, 3) := by decide +kernel
theorem dX5_offer_7 : decode cX5_offer 7 = .ok (.aload_n 0, 1) := by decide +kernel
theorem dX5_offer_8 : decode cX5_offer 8 = .ok (.getfield 34, 3) := by decide +kernel
theorem dX5_offer_11 : decode cX5_offer 11 = .ok (.iconst 1, 1) := by decide +kernel
theorem dX5_offer_12 : decode cX5_offer 12 = .ok (.iload_n 2, 1) := by decide +kernel
theorem dX5_offer_13 : decode cX5_offer 13 = .ok (.ishl, 1) := by decide +kernel
theorem dX5_offer_14 : decode cX5_offer 14 = .ok (.iand, 1) := by decide +kernel
theorem dX5_offer_15 : decode cX5_offer 15 = .ok (.ifCond .ne 15, 3) := by decide +kernel
theorem dX5_offer_18 : decode cX5_offer 18 = .ok (.aload_n 0, 1) := by decide +kernel
theorem dX5_offer_19 : decode cX5_offer 19 = .ok (.getfield 41, 3) := by decide +kernel
theorem dX5_offer_22 : decode cX5_offer 22 = .ok (.aload_n 0, 1) := by decide +kernel
theorem dX5_offer_23 : decode cX5_offer 23 = .ok (.getfield 15, 3) := by decide +kernel
theorem dX5_offer_26 : decode cX5_offer 26 = .ok (.arraylength, 1) := by decide +kernel
theorem dX5_offer_27 : decode cX5_offer 27 = .ok (.if_icmp .lt 4, 3) := by decide +kernel
theorem dX5_offer_30 : decode cX5_offer 30 = .ok (.return_, 1) := by decide +kernel
theorem dX5_offer_31 : decode cX5_offer 31 = .ok (.aload_n 0, 1) := by decide +kernel
theorem dX5_offer_32 : decode cX5_offer 32 = .ok (.getfield 15, 3) := by decide +kernel
theorem dX5_offer_35 : decode cX5_offer 35 = .ok (.aload_n 0, 1) := by decide +kernel
theorem dX5_offer_36 : decode cX5_offer 36 = .ok (.getfield 41, 3) := by decide +kernel
theorem dX5_offer_39 : decode cX5_offer 39 = .ok (.iload_n 1, 1) := by decide +kernel
theorem dX5_offer_40 : decode cX5_offer 40 = .ok (.iastore, 1) := by decide +kernel
theorem dX5_offer_41 : decode cX5_offer 41 = .ok (.aload_n 0, 1) := by decide +kernel
theorem dX5_offer_42 : decode cX5_offer 42 = .ok (.getfield 18, 3) := by decide +kernel
theorem dX5_offer_45 : decode cX5_offer 45 = .ok (.aload_n 0, 1) := by decide +kernel
theorem dX5_offer_46 : decode cX5_offer 46 = .ok (.getfield 41, 3) := by decide +kernel
theorem dX5_offer_49 : decode cX5_offer 49 = .ok (.iload_n 2, 1) := by decide +kernel
theorem dX5_offer_50 : decode cX5_offer 50 = .ok (.iastore, 1) := by decide +kernel
theorem dX5_offer_51 : decode cX5_offer 51 = .ok (.aload_n 0, 1) := by decide +kernel
theorem dX5_offer_52 : decode cX5_offer 52 = .ok (.getfield 21, 3) := by decide +kernel
theorem dX5_offer_55 : decode cX5_offer 55 = .ok (.aload_n 0, 1) := by decide +kernel
theorem dX5_offer_56 : decode cX5_offer 56 = .ok (.getfield 41, 3) := by decide +kernel
theorem dX5_offer_59 : decode cX5_offer 59 = .ok (.iconst 0, 1) := by decide +kernel
theorem dX5_offer_60 : decode cX5_offer 60 = .ok (.bastore, 1) := by decide +kernel
theorem dX5_offer_61 : decode cX5_offer 61 = .ok (.aload_n 0, 1) := by decide +kernel
theorem dX5_offer_62 : decode cX5_offer 62 = .ok (.dup, 1) := by decide +kernel
theorem dX5_offer_63 : decode cX5_offer 63 = .ok (.getfield 41, 3) := by decide +kernel
theorem dX5_offer_66 : decode cX5_offer 66 = .ok (.iconst 1, 1) := by decide +kernel
theorem dX5_offer_67 : decode cX5_offer 67 = .ok (.iadd, 1) := by decide +kernel
theorem dX5_offer_68 : decode cX5_offer 68 = .ok (.putfield 41, 3) := by decide +kernel
theorem dX5_offer_71 : decode cX5_offer 71 = .ok (.return_, 1) := by decide +kernel
theorem dX5_work_0 : decode cX5_work 0 = .ok (.aload_n 0, 1) := by decide +kernel
theorem dX5_work_1 : decode cX5_work 1 = .ok (.getfield 38, 3) := by decide +kernel
theorem dX5_work_4 : decode cX5_work 4 = .ok (.aload_n 0, 1) := by decide +kernel
theorem dX5_work_5 : decode cX5_work 5 = .ok (.getfield 9, 3) := by decide +kernel
theorem dX5_work_8 : decode cX5_work 8 = .ok (.arraylength, 1) := by decide +kernel
theorem dX5_work_9 : decode cX5_work 9 = .ok (.if_icmp .le 4, 3) := by decide +kernel
theorem dX5_work_12 : decode cX5_work 12 = .ok (.return_, 1) := by decide +kernel
theorem dX5_work_13 : decode cX5_work 13 = .ok (.aload_n 0, 1) := by decide +kernel
theorem dX5_work_14 : decode cX5_work 14 = .ok (.aload_n 1, 1) := by decide +kernel
theorem dX5_work_15 : decode cX5_work 15 = .ok (.invokevirtual 51, 3) := by decide +kernel
theorem dX5_work_18 : decode cX5_work 18 = .ok (.aload_n 0, 1) := by decide +kernel
theorem dX5_work_19 : decode cX5_work 19 = .ok (.ldc 55, 2) := by decide +kernel
theorem dX5_work_21 : decode cX5_work 21 = .ok (.putfield 44, 3) := by decide +kernel
theorem dX5_work_24 : decode cX5_work 24 = .ok (.aload_n 0, 1) := by decide +kernel
theorem dX5_work_25 : decode cX5_work 25 = .ok (.aload_n 1, 1) := by decide +kernel
theorem dX5_work_26 : decode cX5_work 26 = .ok (.iconst 0, 1) := by decide +kernel
theorem dX5_work_27 : decode cX5_work 27 = .ok (.iconst 0, 1) := by decide +kernel
theorem dX5_work_28 : decode cX5_work 28 = .ok (.iconst 0, 1) := by decide +kernel
theorem dX5_work_29 : decode cX5_work 29 = .ok (.aload_n 0, 1) := by decide +kernel
theorem dX5_work_30 : decode cX5_work 30 = .ok (.getfield 38, 3) := by decide +kernel
theorem dX5_work_33 : decode cX5_work 33 = .ok (.aload_n 0, 1) := by decide +kernel
theorem dX5_work_34 : decode cX5_work 34 = .ok (.getfield 41, 3) := by decide +kernel
theorem dX5_work_37 : decode cX5_work 37 = .ok (.isub, 1) := by decide +kernel
theorem dX5_work_38 : decode cX5_work 38 = .ok (.invokestatic 56, 3) := by decide +kernel
theorem dX5_work_41 : decode cX5_work 41 = .ok (.invokestatic 62, 3) := by decide +kernel
theorem dX5_work_44 : decode cX5_work 44 = .ok (.return_, 1) := by decide +kernel
theorem dX5_boxOf_0 : decode cX5_boxOf 0 = .ok (.iload_n 1, 1) := by decide +kernel
theorem dX5_boxOf_1 : decode cX5_boxOf 1 = .ok (.ifCond .lt 29, 3) := by decide +kernel
theorem dX5_boxOf_4 : decode cX5_boxOf 4 = .ok (.iload_n 1, 1) := by decide +kernel
theorem dX5_boxOf_5 : decode cX5_boxOf 5 = .ok (.aload_n 0, 1) := by decide +kernel
theorem dX5_boxOf_6 : decode cX5_boxOf 6 = .ok (.getfield 38, 3) := by decide +kernel
theorem dX5_boxOf_9 : decode cX5_boxOf 9 = .ok (.if_icmp .ge 21, 3) := by decide +kernel
theorem dX5_boxOf_12 : decode cX5_boxOf 12 = .ok (.iload_n 1, 1) := by decide +kernel
theorem dX5_boxOf_13 : decode cX5_boxOf 13 = .ok (.aload_n 0, 1) := by decide +kernel
theorem dX5_boxOf_14 : decode cX5_boxOf 14 = .ok (.getfield 28, 3) := by decide +kernel
theorem dX5_boxOf_17 : decode cX5_boxOf 17 = .ok (.arraylength, 1) := by decide +kernel
theorem dX5_boxOf_18 : decode cX5_boxOf 18 = .ok (.if_icmp .ge 12, 3) := by decide +kernel
theorem dX5_boxOf_21 : decode cX5_boxOf 21 = .ok (.aload_n 0, 1) := by decide +kernel
theorem dX5_boxOf_22 : decode cX5_boxOf 22 = .ok (.getfield 28, 3) := by decide +kernel
theorem dX5_boxOf_25 : decode cX5_boxOf 25 = .ok (.iload_n 1, 1) := by decide +kernel
theorem dX5_boxOf_26 : decode cX5_boxOf 26 = .ok (.iaload, 1) := by decide +kernel
theorem dX5_boxOf_27 : decode cX5_boxOf 27 = .ok (.goto 4, 3) := by decide +kernel
theorem dX5_boxOf_30 : decode cX5_boxOf 30 = .ok (.iconst (-1), 1) := by decide +kernel
theorem dX5_boxOf_31 : decode cX5_boxOf 31 = .ok (.ireturn, 1) := by decide +kernel
theorem dX5_findLeastFrom_0 : decode cX5_findLeastFrom 0 = .ok (.aload_n 0, 1) := by decide +kernel
theorem dX5_findLeastFrom_1 : decode cX5_findLeastFrom 1 = .ok (.getfield 31, 3) := by decide +kernel
theorem dX5_findLeastFrom_4 : decode cX5_findLeastFrom 4 = .ok (.aload_n 0, 1) := by decide +kernel
theorem dX5_findLeastFrom_5 : decode cX5_findLeastFrom 5 = .ok (.getfield 38, 3) := by decide +kernel
theorem dX5_findLeastFrom_8 : decode cX5_findLeastFrom 8 = .ok (.iconst 0, 1) := by decide +kernel
theorem dX5_findLeastFrom_9 : decode cX5_findLeastFrom 9 = .ok (.iastore, 1) := by decide +kernel
theorem dX5_findLeastFrom_10 : decode cX5_findLeastFrom 10 = .ok (.aload_n 0, 1) := by decide +kernel
theorem dX5_findLeastFrom_11 : decode cX5_findLeastFrom 11 = .ok (.getfield 38, 3) := by decide +kernel
theorem dX5_findLeastFrom_14 : decode cX5_findLeastFrom 14 = .ok (.iconst 1, 1) := by decide +kernel
theorem dX5_findLeastFrom_15 : decode cX5_findLeastFrom 15 = .ok (.isub, 1) := by decide +kernel
theorem dX5_findLeastFrom_16 : decode cX5_findLeastFrom 16 = .ok (.istore_n 2, 1) := by decide +kernel
theorem dX5_findLeastFrom_17 : decode cX5_findLeastFrom 17 = .ok (.iload_n 2, 1) := by decide +kernel
theorem dX5_findLeastFrom_18 : decode cX5_findLeastFrom 18 = .ok (.ifCond .lt 52, 3) := by decide +kernel
theorem dX5_findLeastFrom_21 : decode cX5_findLeastFrom 21 = .ok (.aload_n 0, 1) := by decide +kernel
theorem dX5_findLeastFrom_22 : decode cX5_findLeastFrom 22 = .ok (.getfield 41, 3) := by decide +kernel
theorem dX5_findLeastFrom_25 : decode cX5_findLeastFrom 25 = .ok (.aload_n 0, 1) := by decide +kernel
theorem dX5_findLeastFrom_26 : decode cX5_findLeastFrom 26 = .ok (.getfield 38, 3) := by decide +kernel
theorem dX5_findLeastFrom_29 : decode cX5_findLeastFrom 29 = .ok (.if_icmp .ge 7, 3) := by decide +kernel
theorem dX5_findLeastFrom_32 : decode cX5_findLeastFrom 32 = .ok (.iconst 0, 1) := by decide +kernel
theorem dX5_findLeastFrom_33 : decode cX5_findLeastFrom 33 = .ok (.goto 14, 3) := by decide +kernel
theorem dX5_findLeastFrom_36 : decode cX5_findLeastFrom 36 = .ok (.aload_n 0, 1) := by decide +kernel
theorem dX5_findLeastFrom_37 : decode cX5_findLeastFrom 37 = .ok (.aload_n 1, 1) := by decide +kernel
theorem dX5_findLeastFrom_38 : decode cX5_findLeastFrom 38 = .ok (.aload_n 0, 1) := by decide +kernel
theorem dX5_findLeastFrom_39 : decode cX5_findLeastFrom 39 = .ok (.getfield 9, 3) := by decide +kernel
theorem dX5_findLeastFrom_42 : decode cX5_findLeastFrom 42 = .ok (.iload_n 2, 1) := by decide +kernel
theorem dX5_findLeastFrom_43 : decode cX5_findLeastFrom 43 = .ok (.iaload, 1) := by decide +kernel
theorem dX5_findLeastFrom_44 : decode cX5_findLeastFrom 44 = .ok (.invokevirtual 66, 3) := by decide +kernel
theorem dX5_findLeastFrom_47 : decode cX5_findLeastFrom 47 = .ok (.istore_n 3, 1) := by decide +kernel
theorem dX5_findLeastFrom_48 : decode cX5_findLeastFrom 48 = .ok (.aload_n 0, 1) := by decide +kernel
theorem dX5_findLeastFrom_49 : decode cX5_findLeastFrom 49 = .ok (.getfield 31, 3) := by decide +kernel
theorem dX5_findLeastFrom_52 : decode cX5_findLeastFrom 52 = .ok (.iload_n 2, 1) := by decide +kernel
theorem dX5_findLeastFrom_53 : decode cX5_findLeastFrom 53 = .ok (.aload_n 0, 1) := by decide +kernel
theorem dX5_findLeastFrom_54 : decode cX5_findLeastFrom 54 = .ok (.getfield 31, 3) := by decide +kernel
theorem dX5_findLeastFrom_57 : decode cX5_findLeastFrom 57 = .ok (.iload_n 2, 1) := by decide +kernel
theorem dX5_findLeastFrom_58 : decode cX5_findLeastFrom 58 = .ok (.iconst 1, 1) := by decide +kernel
theorem dX5_findLeastFrom_59 : decode cX5_findLeastFrom 59 = .ok (.iadd, 1) := by decide +kernel
theorem dX5_findLeastFrom_60 : decode cX5_findLeastFrom 60 = .ok (.iaload, 1) := by decide +kernel
theorem dX5_findLeastFrom_61 : decode cX5_findLeastFrom 61 = .ok (.iload_n 3, 1) := by decide +kernel
theorem dX5_findLeastFrom_62 : decode cX5_findLeastFrom 62 = .ok (.iadd, 1) := by decide +kernel
theorem dX5_findLeastFrom_63 : decode cX5_findLeastFrom 63 = .ok (.iastore, 1) := by decide +kernel
theorem dX5_findLeastFrom_64 : decode cX5_findLeastFrom 64 = .ok (.iinc 2 (-1), 3) := by decide +kernel
theorem dX5_findLeastFrom_67 : decode cX5_findLeastFrom 67 = .ok (.goto (-50), 3) := by decide +kernel
theorem dX5_findLeastFrom_70 : decode cX5_findLeastFrom 70 = .ok (.return_, 1) := by decide +kernel
theorem dX5_cheapest_0 : decode cX5_cheapest 0 = .ok (.sipush 9999, 3) := by decide +kernel
theorem dX5_cheapest_3 : decode cX5_cheapest 3 = .ok (.istore_n 3, 1) := by decide +kernel
theorem dX5_cheapest_4 : decode cX5_cheapest 4 = .ok (.iconst 0, 1) := by decide +kernel
theorem dX5_cheapest_5 : decode cX5_cheapest 5 = .ok (.istore 4, 2) := by decide +kernel
theorem dX5_cheapest_7 : decode cX5_cheapest 7 = .ok (.iload 4, 2) := by decide +kernel
theorem dX5_cheapest_9 : decode cX5_cheapest 9 = .ok (.aload_n 0, 1) := by decide +kernel
theorem dX5_cheapest_10 : decode cX5_cheapest 10 = .ok (.getfield 41, 3) := by decide +kernel
theorem dX5_cheapest_13 : decode cX5_cheapest 13 = .ok (.if_icmp .ge 25, 3) := by decide +kernel
theorem dX5_cheapest_16 : decode cX5_cheapest 16 = .ok (.iload_n 3, 1) := by decide +kernel
theorem dX5_cheapest_17 : decode cX5_cheapest 17 = .ok (.aload_n 1, 1) := by decide +kernel
theorem dX5_cheapest_18 : decode cX5_cheapest 18 = .ok (.aload_n 0, 1) := by decide +kernel
theorem dX5_cheapest_19 : decode cX5_cheapest 19 = .ok (.getfield 18, 3) := by decide +kernel
theorem dX5_cheapest_22 : decode cX5_cheapest 22 = .ok (.iload 4, 2) := by decide +kernel
theorem dX5_cheapest_24 : decode cX5_cheapest 24 = .ok (.iaload, 1) := by decide +kernel
theorem dX5_cheapest_25 : decode cX5_cheapest 25 = .ok (.aaload, 1) := by decide +kernel
theorem dX5_cheapest_26 : decode cX5_cheapest 26 = .ok (.iload_n 2, 1) := by decide +kernel
theorem dX5_cheapest_27 : decode cX5_cheapest 27 = .ok (.iaload, 1) := by decide +kernel
theorem dX5_cheapest_28 : decode cX5_cheapest 28 = .ok (.invokestatic 70, 3) := by decide +kernel
theorem dX5_cheapest_31 : decode cX5_cheapest 31 = .ok (.istore_n 3, 1) := by decide +kernel
theorem dX5_cheapest_32 : decode cX5_cheapest 32 = .ok (.iinc 4 1, 3) := by decide +kernel
theorem dX5_cheapest_35 : decode cX5_cheapest 35 = .ok (.goto (-28), 3) := by decide +kernel
theorem dX5_cheapest_38 : decode cX5_cheapest 38 = .ok (.iload_n 3, 1) := by decide +kernel
theorem dX5_cheapest_39 : decode cX5_cheapest 39 = .ok (.ireturn, 1) := by decide +kernel
theorem dX5_tryUnit_0 : decode cX5_tryUnit 0 = .ok (.iload_n 2, 1) := by decide +kernel
theorem dX5_tryUnit_1 : decode cX5_tryUnit 1 = .ok (.aload_n 0, 1) := by decide +kernel
theorem dX5_tryUnit_2 : decode cX5_tryUnit 2 = .ok (.getfield 38, 3) := by decide +kernel
theorem dX5_tryUnit_5 : decode cX5_tryUnit 5 = .ok (.if_icmp .gt 23, 3) := by decide +kernel
theorem dX5_tryUnit_8 : decode cX5_tryUnit 8 = .ok (.iload_n 2, 1) := by decide +kernel
theorem dX5_tryUnit_9 : decode cX5_tryUnit 9 = .ok (.iconst 5, 1) := by decide +kernel
theorem dX5_tryUnit_10 : decode cX5_tryUnit 10 = .ok (.if_icmp .gt 18, 3) := by decide +kernel
theorem dX5_tryUnit_13 : decode cX5_tryUnit 13 = .ok (.iload_n 3, 1) := by decide +kernel
theorem dX5_tryUnit_14 : decode cX5_tryUnit 14 = .ok (.aload_n 0, 1) := by decide +kernel
theorem dX5_tryUnit_15 : decode cX5_tryUnit 15 = .ok (.getfield 31, 3) := by decide +kernel
theorem dX5_tryUnit_18 : decode cX5_tryUnit 18 = .ok (.iload_n 2, 1) := by decide +kernel
theorem dX5_tryUnit_19 : decode cX5_tryUnit 19 = .ok (.iaload, 1) := by decide +kernel
theorem dX5_tryUnit_20 : decode cX5_tryUnit 20 = .ok (.iadd, 1) := by decide +kernel
theorem dX5_tryUnit_21 : decode cX5_tryUnit 21 = .ok (.aload_n 0, 1) := by decide +kernel
theorem dX5_tryUnit_22 : decode cX5_tryUnit 22 = .ok (.getfield 44, 3) := by decide +kernel
theorem dX5_tryUnit_25 : decode cX5_tryUnit 25 = .ok (.if_icmp .lt 4, 3) := by decide +kernel
theorem dX5_tryUnit_28 : decode cX5_tryUnit 28 = .ok (.return_, 1) := by decide +kernel
theorem dX5_tryUnit_29 : decode cX5_tryUnit 29 = .ok (.iload_n 2, 1) := by decide +kernel
theorem dX5_tryUnit_30 : decode cX5_tryUnit 30 = .ok (.aload_n 0, 1) := by decide +kernel
theorem dX5_tryUnit_31 : decode cX5_tryUnit 31 = .ok (.getfield 38, 3) := by decide +kernel
theorem dX5_tryUnit_34 : decode cX5_tryUnit 34 = .ok (.if_icmp .ne 23, 3) := by decide +kernel
theorem dX5_tryUnit_37 : decode cX5_tryUnit 37 = .ok (.aload_n 0, 1) := by decide +kernel
theorem dX5_tryUnit_38 : decode cX5_tryUnit 38 = .ok (.iload_n 3, 1) := by decide +kernel
theorem dX5_tryUnit_39 : decode cX5_tryUnit 39 = .ok (.putfield 44, 3) := by decide +kernel
theorem dX5_tryUnit_42 : decode cX5_tryUnit 42 = .ok (.aload_n 0, 1) := by decide +kernel
theorem dX5_tryUnit_43 : decode cX5_tryUnit 43 = .ok (.getfield 25, 3) := by decide +kernel
theorem dX5_tryUnit_46 : decode cX5_tryUnit 46 = .ok (.iconst 0, 1) := by decide +kernel
theorem dX5_tryUnit_47 : decode cX5_tryUnit 47 = .ok (.aload_n 0, 1) := by decide +kernel
theorem dX5_tryUnit_48 : decode cX5_tryUnit 48 = .ok (.getfield 28, 3) := by decide +kernel
theorem dX5_tryUnit_51 : decode cX5_tryUnit 51 = .ok (.iconst 0, 1) := by decide +kernel
theorem dX5_tryUnit_52 : decode cX5_tryUnit 52 = .ok (.iload_n 2, 1) := by decide +kernel
theorem dX5_tryUnit_53 : decode cX5_tryUnit 53 = .ok (.invokestatic 73, 3) := by decide +kernel
theorem dX5_tryUnit_56 : decode cX5_tryUnit 56 = .ok (.return_, 1) := by decide +kernel
theorem dX5_tryUnit_57 : decode cX5_tryUnit 57 = .ok (.iconst 0, 1) := by decide +kernel
theorem dX5_tryUnit_58 : decode cX5_tryUnit 58 = .ok (.istore 5, 2) := by decide +kernel
theorem dX5_tryUnit_60 : decode cX5_tryUnit 60 = .ok (.iconst 0, 1) := by decide +kernel
theorem dX5_tryUnit_61 : decode cX5_tryUnit 61 = .ok (.istore 6, 2) := by decide +kernel
theorem dX5_tryUnit_63 : decode cX5_tryUnit 63 = .ok (.iload 6, 2) := by decide +kernel
theorem dX5_tryUnit_65 : decode cX5_tryUnit 65 = .ok (.aload_n 0, 1) := by decide +kernel
theorem dX5_tryUnit_66 : decode cX5_tryUnit 66 = .ok (.getfield 41, 3) := by decide +kernel
theorem dX5_tryUnit_69 : decode cX5_tryUnit 69 = .ok (.if_icmp .ge 101, 3) := by decide +kernel
theorem dX5_tryUnit_72 : decode cX5_tryUnit 72 = .ok (.aload_n 0, 1) := by decide +kernel
theorem dX5_tryUnit_73 : decode cX5_tryUnit 73 = .ok (.getfield 18, 3) := by decide +kernel
theorem dX5_tryUnit_76 : decode cX5_tryUnit 76 = .ok (.iload 6, 2) := by decide +kernel
theorem dX5_tryUnit_78 : decode cX5_tryUnit 78 = .ok (.iaload, 1) := by decide +kernel
theorem dX5_tryUnit_79 : decode cX5_tryUnit 79 = .ok (.istore 7, 2) := by decide +kernel
theorem dX5_tryUnit_81 : decode cX5_tryUnit 81 = .ok (.iconst 1, 1) := by decide +kernel
theorem dX5_tryUnit_82 : decode cX5_tryUnit 82 = .ok (.iload 7, 2) := by decide +kernel
theorem dX5_tryUnit_84 : decode cX5_tryUnit 84 = .ok (.ishl, 1) := by decide +kernel
theorem dX5_tryUnit_85 : decode cX5_tryUnit 85 = .ok (.istore 8, 2) := by decide +kernel
theorem dX5_tryUnit_87 : decode cX5_tryUnit 87 = .ok (.aload_n 0, 1) := by decide +kernel
theorem dX5_tryUnit_88 : decode cX5_tryUnit 88 = .ok (.getfield 21, 3) := by decide +kernel
theorem dX5_tryUnit_91 : decode cX5_tryUnit 91 = .ok (.iload 6, 2) := by decide +kernel
theorem dX5_tryUnit_93 : decode cX5_tryUnit 93 = .ok (.baload, 1) := by decide +kernel
theorem dX5_tryUnit_94 : decode cX5_tryUnit 94 = .ok (.ifCond .ne 70, 3) := by decide +kernel
theorem dX5_tryUnit_97 : decode cX5_tryUnit 97 = .ok (.iload 5, 2) := by decide +kernel
theorem dX5_tryUnit_99 : decode cX5_tryUnit 99 = .ok (.iload 8, 2) := by decide +kernel
theorem dX5_tryUnit_101 : decode cX5_tryUnit 101 = .ok (.iand, 1) := by decide +kernel
theorem dX5_tryUnit_102 : decode cX5_tryUnit 102 = .ok (.ifCond .ne 62, 3) := by decide +kernel
theorem dX5_tryUnit_105 : decode cX5_tryUnit 105 = .ok (.iload 5, 2) := by decide +kernel
theorem dX5_tryUnit_107 : decode cX5_tryUnit 107 = .ok (.iload 8, 2) := by decide +kernel
theorem dX5_tryUnit_109 : decode cX5_tryUnit 109 = .ok (.ior, 1) := by decide +kernel
theorem dX5_tryUnit_110 : decode cX5_tryUnit 110 = .ok (.istore 5, 2) := by decide +kernel
theorem dX5_tryUnit_112 : decode cX5_tryUnit 112 = .ok (.aload_n 0, 1) := by decide +kernel
theorem dX5_tryUnit_113 : decode cX5_tryUnit 113 = .ok (.getfield 21, 3) := by decide +kernel
theorem dX5_tryUnit_116 : decode cX5_tryUnit 116 = .ok (.iload 6, 2) := by decide +kernel
theorem dX5_tryUnit_118 : decode cX5_tryUnit 118 = .ok (.iconst 1, 1) := by decide +kernel
theorem dX5_tryUnit_119 : decode cX5_tryUnit 119 = .ok (.bastore, 1) := by decide +kernel
theorem dX5_tryUnit_120 : decode cX5_tryUnit 120 = .ok (.aload_n 0, 1) := by decide +kernel
theorem dX5_tryUnit_121 : decode cX5_tryUnit 121 = .ok (.getfield 25, 3) := by decide +kernel
theorem dX5_tryUnit_124 : decode cX5_tryUnit 124 = .ok (.iload_n 2, 1) := by decide +kernel
theorem dX5_tryUnit_125 : decode cX5_tryUnit 125 = .ok (.aload_n 0, 1) := by decide +kernel
theorem dX5_tryUnit_126 : decode cX5_tryUnit 126 = .ok (.getfield 15, 3) := by decide +kernel
theorem dX5_tryUnit_129 : decode cX5_tryUnit 129 = .ok (.iload 6, 2) := by decide +kernel
theorem dX5_tryUnit_131 : decode cX5_tryUnit 131 = .ok (.iaload, 1) := by decide +kernel
theorem dX5_tryUnit_132 : decode cX5_tryUnit 132 = .ok (.iastore, 1) := by decide +kernel
theorem dX5_tryUnit_133 : decode cX5_tryUnit 133 = .ok (.aload_n 0, 1) := by decide +kernel
theorem dX5_tryUnit_134 : decode cX5_tryUnit 134 = .ok (.aload_n 1, 1) := by decide +kernel
theorem dX5_tryUnit_135 : decode cX5_tryUnit 135 = .ok (.iload_n 2, 1) := by decide +kernel
theorem dX5_tryUnit_136 : decode cX5_tryUnit 136 = .ok (.iconst 1, 1) := by decide +kernel
theorem dX5_tryUnit_137 : decode cX5_tryUnit 137 = .ok (.iadd, 1) := by decide +kernel
theorem dX5_tryUnit_138 : decode cX5_tryUnit 138 = .ok (.iload_n 3, 1) := by decide +kernel
theorem dX5_tryUnit_139 : decode cX5_tryUnit 139 = .ok (.aload_n 1, 1) := by decide +kernel
theorem dX5_tryUnit_140 : decode cX5_tryUnit 140 = .ok (.iload 7, 2) := by decide +kernel
theorem dX5_tryUnit_142 : decode cX5_tryUnit 142 = .ok (.aaload, 1) := by decide +kernel
theorem dX5_tryUnit_143 : decode cX5_tryUnit 143 = .ok (.aload_n 0, 1) := by decide +kernel
theorem dX5_tryUnit_144 : decode cX5_tryUnit 144 = .ok (.getfield 9, 3) := by decide +kernel
theorem dX5_tryUnit_147 : decode cX5_tryUnit 147 = .ok (.iload_n 2, 1) := by decide +kernel
theorem dX5_tryUnit_148 : decode cX5_tryUnit 148 = .ok (.iaload, 1) := by decide +kernel
theorem dX5_tryUnit_149 : decode cX5_tryUnit 149 = .ok (.iaload, 1) := by decide +kernel
theorem dX5_tryUnit_150 : decode cX5_tryUnit 150 = .ok (.iadd, 1) := by decide +kernel
theorem dX5_tryUnit_151 : decode cX5_tryUnit 151 = .ok (.iload 4, 2) := by decide +kernel
theorem dX5_tryUnit_153 : decode cX5_tryUnit 153 = .ok (.invokestatic 62, 3) := by decide +kernel
theorem dX5_tryUnit_156 : decode cX5_tryUnit 156 = .ok (.aload_n 0, 1) := by decide +kernel
theorem dX5_tryUnit_157 : decode cX5_tryUnit 157 = .ok (.getfield 21, 3) := by decide +kernel
theorem dX5_tryUnit_160 : decode cX5_tryUnit 160 = .ok (.iload 6, 2) := by decide +kernel
theorem dX5_tryUnit_162 : decode cX5_tryUnit 162 = .ok (.iconst 0, 1) := by decide +kernel
theorem dX5_tryUnit_163 : decode cX5_tryUnit 163 = .ok (.bastore, 1) := by decide +kernel
theorem dX5_tryUnit_164 : decode cX5_tryUnit 164 = .ok (.iinc 6 1, 3) := by decide +kernel
theorem dX5_tryUnit_167 : decode cX5_tryUnit 167 = .ok (.goto (-104), 3) := by decide +kernel
theorem dX5_tryUnit_170 : decode cX5_tryUnit 170 = .ok (.iload 4, 2) := by decide +kernel
theorem dX5_tryUnit_172 : decode cX5_tryUnit 172 = .ok (.ifCond .le 23, 3) := by decide +kernel
theorem dX5_tryUnit_175 : decode cX5_tryUnit 175 = .ok (.aload_n 0, 1) := by decide +kernel
theorem dX5_tryUnit_176 : decode cX5_tryUnit 176 = .ok (.getfield 25, 3) := by decide +kernel
theorem dX5_tryUnit_179 : decode cX5_tryUnit 179 = .ok (.iload_n 2, 1) := by decide +kernel
theorem dX5_tryUnit_180 : decode cX5_tryUnit 180 = .ok (.iconst (-1), 1) := by decide +kernel
theorem dX5_tryUnit_181 : decode cX5_tryUnit 181 = .ok (.iastore, 1) := by decide +kernel
theorem dX5_tryUnit_182 : decode cX5_tryUnit 182 = .ok (.aload_n 0, 1) := by decide +kernel
theorem dX5_tryUnit_183 : decode cX5_tryUnit 183 = .ok (.aload_n 1, 1) := by decide +kernel
theorem dX5_tryUnit_184 : decode cX5_tryUnit 184 = .ok (.iload_n 2, 1) := by decide +kernel
theorem dX5_tryUnit_185 : decode cX5_tryUnit 185 = .ok (.iconst 1, 1) := by decide +kernel
theorem dX5_tryUnit_186 : decode cX5_tryUnit 186 = .ok (.iadd, 1) := by decide +kernel
theorem dX5_tryUnit_187 : decode cX5_tryUnit 187 = .ok (.iload_n 3, 1) := by decide +kernel
theorem dX5_tryUnit_188 : decode cX5_tryUnit 188 = .ok (.iload 4, 2) := by decide +kernel
theorem dX5_tryUnit_190 : decode cX5_tryUnit 190 = .ok (.iconst 1, 1) := by decide +kernel
theorem dX5_tryUnit_191 : decode cX5_tryUnit 191 = .ok (.isub, 1) := by decide +kernel
theorem dX5_tryUnit_192 : decode cX5_tryUnit 192 = .ok (.invokestatic 62, 3) := by decide +kernel
theorem dX5_tryUnit_195 : decode cX5_tryUnit 195 = .ok (.return_, 1) := by decide +kernel
theorem dX6_init_0 : decode cX6_init 0 = .ok (.aload_n 0, 1) := by decide +kernel
theorem dX6_init_1 : decode cX6_init 1 = .ok (.invokespecial 3, 3) := by decide +kernel
theorem dX6_init_4 : decode cX6_init 4 = .ok (.aload_n 0, 1) := by decide +kernel
theorem dX6_init_5 : decode cX6_init 5 = .ok (.bipush 6, 2) := by decide +kernel
theorem dX6_init_7 : decode cX6_init 7 = .ok (.bipush 6, 2) := by decide +kernel
theorem dX6_init_9 : decode cX6_init 9 = .ok (.multianewarray 9 2, 4) := by decide +kernel
theorem dX6_init_13 : decode cX6_init 13 = .ok (.putfield 11, 3) := by decide +kernel
theorem dX6_init_16 : decode cX6_init 16 = .ok (.aload_n 0, 1) := by decide +kernel
theorem dX6_init_17 : decode cX6_init 17 = .ok (.iconst 3, 1) := by decide +kernel
theorem dX6_init_18 : decode cX6_init 18 = .ok (.bipush 6, 2) := by decide +kernel
theorem dX6_init_20 : decode cX6_init 20 = .ok (.multianewarray 9 2, 4) := by decide +kernel
theorem dX6_init_24 : decode cX6_init 24 = .ok (.putfield 14, 3) := by decide +kernel
theorem dX6_init_27 : decode cX6_init 27 = .ok (.aload_n 0, 1) := by decide +kernel
theorem dX6_init_28 : decode cX6_init 28 = .ok (.iconst 5, 1) := by decide +kernel
theorem dX6_init_29 : decode cX6_init 29 = .ok (.newarray .int, 2) := by decide +kernel
theorem dX6_init_31 : decode cX6_init 31 = .ok (.putfield 17, 3) := by decide +kernel
theorem dX6_init_34 : decode cX6_init 34 = .ok (.aload_n 0, 1) := by decide +kernel
theorem dX6_init_35 : decode cX6_init 35 = .ok (.bipush 40, 2) := by decide +kernel
theorem dX6_init_37 : decode cX6_init 37 = .ok (.anewarray 21, 3) := by decide +kernel
theorem dX6_init_40 : decode cX6_init 40 = .ok (.putfield 23, 3) := by decide +kernel
theorem dX6_init_43 : decode cX6_init 43 = .ok (.aload_n 0, 1) := by decide +kernel
theorem dX6_init_44 : decode cX6_init 44 = .ok (.bipush 20, 2) := by decide +kernel
theorem dX6_init_46 : decode cX6_init 46 = .ok (.anewarray 27, 3) := by decide +kernel
theorem dX6_init_49 : decode cX6_init 49 = .ok (.putfield 29, 3) := by decide +kernel
theorem dX6_init_52 : decode cX6_init 52 = .ok (.aload_n 0, 1) := by decide +kernel
theorem dX6_init_53 : decode cX6_init 53 = .ok (.new 33, 3) := by decide +kernel
theorem dX6_init_56 : decode cX6_init 56 = .ok (.dup, 1) := by decide +kernel
theorem dX6_init_57 : decode cX6_init 57 = .ok (.invokespecial 35, 3) := by decide +kernel
theorem dX6_init_60 : decode cX6_init 60 = .ok (.putfield 36, 3) := by decide +kernel
theorem dX6_init_63 : decode cX6_init 63 = .ok (.aload_n 0, 1) := by decide +kernel
theorem dX6_init_64 : decode cX6_init 64 = .ok (.iconst 0, 1) := by decide +kernel
theorem dX6_init_65 : decode cX6_init 65 = .ok (.putfield 40, 3) := by decide +kernel
theorem dX6_init_68 : decode cX6_init 68 = .ok (.aload_n 0, 1) := by decide +kernel
theorem dX6_init_69 : decode cX6_init 69 = .ok (.iconst 0, 1) := by decide +kernel
theorem dX6_init_70 : decode cX6_init 70 = .ok (.putfield 44, 3) := by decide +kernel
theorem dX6_init_73 : decode cX6_init 73 = .ok (.aload_n 0, 1) := by decide +kernel
theorem dX6_init_74 : decode cX6_init 74 = .ok (.iconst 0, 1) := by decide +kernel
theorem dX6_init_75 : decode cX6_init 75 = .ok (.putfield 47, 3) := by decide +kernel
theorem dX6_init_78 : decode cX6_init 78 = .ok (.aload_n 0, 1) := by decide +kernel
theorem dX6_init_79 : decode cX6_init 79 = .ok (.iconst 5, 1) := by decide +kernel
theorem dX6_init_80 : decode cX6_init 80 = .ok (.putfield 50, 3) := by decide +kernel
theorem dX6_init_83 : decode cX6_init 83 = .ok (.aload_n 0, 1) := by decide +kernel
theorem dX6_init_84 : decode cX6_init 84 = .ok (.sipush 500, 3) := by decide +kernel
theorem dX6_init_87 : decode cX6_init 87 = .ok (.putfield 53, 3) := by decide +kernel
theorem dX6_init_90 : decode cX6_init 90 = .ok (.iconst 0, 1) := by decide +kernel
theorem dX6_init_91 : decode cX6_init 91 = .ok (.istore_n 1, 1) := by decide +kernel
theorem dX6_init_92 : decode cX6_init 92 = .ok (.iload_n 1, 1) := by decide +kernel
theorem dX6_init_93 : decode cX6_init 93 = .ok (.bipush 6, 2) := by decide +kernel
theorem dX6_init_95 : decode cX6_init 95 = .ok (.if_icmp .ge 42, 3) := by decide +kernel
theorem dX6_init_98 : decode cX6_init 98 = .ok (.iconst 0, 1) := by decide +kernel
theorem dX6_init_99 : decode cX6_init 99 = .ok (.istore_n 2, 1) := by decide +kernel
theorem dX6_init_100 : decode cX6_init 100 = .ok (.iload_n 2, 1) := by decide +kernel
theorem dX6_init_101 : decode cX6_init 101 = .ok (.bipush 6, 2) := by decide +kernel
theorem dX6_init_103 : decode cX6_init 103 = .ok (.if_icmp .ge 28, 3) := by decide +kernel
theorem dX6_init_106 : decode cX6_init 106 = .ok (.aload_n 0, 1) := by decide +kernel
theorem dX6_init_107 : decode cX6_init 107 = .ok (.getfield 11, 3) := by decide +kernel
theorem dX6_init_110 : decode cX6_init 110 = .ok (.iload_n 1, 1) := by decide +kernel
theorem dX6_init_111 : decode cX6_init 111 = .ok (.aaload, 1) := by decide +kernel
theorem dX6_init_112 : decode cX6_init 112 = .ok (.iload_n 2, 1) := by decide +kernel
theorem dX6_init_113 : decode cX6_init 113 = .ok (.iload_n 1, 1) := by decide +kernel
theorem dX6_init_114 : decode cX6_init 114 = .ok (.iload_n 2, 1) := by decide +kernel
theorem dX6_init_115 : decode cX6_init 115 = .ok (.if_icmp .ne 7, 3) := by decide +kernel
theorem dX6_init_118 : decode cX6_init 118 = .ok (.iconst 0, 1) := by decide +kernel
theorem dX6_init_119 : decode cX6_init 119 = .ok (.goto 5, 3) := by decide +kernel
theorem dX6_init_122 : decode cX6_init 122 = .ok (.bipush 100, 2) := by decide +kernel
theorem dX6_init_124 : decode cX6_init 124 = .ok (.iastore, 1) := by decide +kernel
theorem dX6_init_125 : decode cX6_init 125 = .ok (.iinc 2 1, 3) := by decide +kernel
theorem dX6_init_128 : decode cX6_init 128 = .ok (.goto (-28), 3) := by decide +kernel
theorem dX6_init_131 : decode cX6_init 131 = .ok (.iinc 1 1, 3) := by decide +kernel
theorem dX6_init_134 : decode cX6_init 134 = .ok (.goto (-42), 3) := by decide +kernel
theorem dX6_init_137 : decode cX6_init 137 = .ok (.iconst 0, 1) := by decide +kernel
theorem dX6_init_138 : decode cX6_init 138 = .ok (.istore_n 1, 1) := by decide +kernel
theorem dX6_init_139 : decode cX6_init 139 = .ok (.iload_n 1, 1) := by decide +kernel
theorem dX6_init_140 : decode cX6_init 140 = .ok (.iconst 3, 1) := by decide +kernel
theorem dX6_init_141 : decode cX6_init 141 = .ok (.if_icmp .ge 32, 3) := by decide +kernel
theorem dX6_init_144 : decode cX6_init 144 = .ok (.iconst 0, 1) := by decide +kernel
theorem dX6_init_145 : decode cX6_init 145 = .ok (.istore_n 2, 1) := by decide +kernel
theorem dX6_init_146 : decode cX6_init 146 = .ok (.iload_n 2, 1) := by decide +kernel
theorem dX6_init_147 : decode cX6_init 147 = .ok (.bipush 6, 2) := by decide +kernel
theorem dX6_init_149 : decode cX6_init 149 = .ok (.if_icmp .ge 18, 3) := by decide +kernel
theorem dX6_init_152 : decode cX6_init 152 = .ok (.aload_n 0, 1) := by decide +kernel
theorem dX6_init_153 : decode cX6_init 153 = .ok (.getfield 14, 3) := by decide +kernel
theorem dX6_init_156 : decode cX6_init 156 = .ok (.iload_n 1, 1) := by decide +kernel
theorem dX6_init_157 : decode cX6_init 157 = .ok (.aaload, 1) := by decide +kernel
theorem dX6_init_158 : decode cX6_init 158 = .ok (.iload_n 2, 1) := by decide +kernel
theorem dX6_init_159 : decode cX6_init 159 = .ok (.iconst 2, 1) := by decide +kernel
theorem dX6_init_160 : decode cX6_init 160 = .ok (.iastore, 1) := by decide +kernel
theorem dX6_init_161 : decode cX6_init 161 = .ok (.iinc 2 1, 3) := by decide +kernel
theorem dX6_init_164 : decode cX6_init 164 = .ok (.goto (-18), 3) := by decide +kernel
theorem dX6_init_167 : decode cX6_init 167 = .ok (.iinc 1 1, 3) := by decide +kernel
theorem dX6_init_170 : decode cX6_init 170 = .ok (.goto (-31), 3) := by decide +kernel
theorem dX6_init_173 : decode cX6_init 173 = .ok (.iconst 0, 1) := by decide +kernel
theorem dX6_init_174 : decode cX6_init 174 = .ok (.istore_n 1, 1) := by decide +kernel
theorem dX6_init_175 : decode cX6_init 175 = .ok (.iload_n 1, 1) := by decide +kernel
theorem dX6_init_176 : decode cX6_init 176 = .ok (.iconst 5, 1) := by decide +kernel
theorem dX6_init_177 : decode cX6_init 177 = .ok (.if_icmp .ge 16, 3) := by decide +kernel
theorem dX6_init_180 : decode cX6_init 180 = .ok (.aload_n 0, 1) := by decide +kernel
theorem dX6_init_181 : decode cX6_init 181 = .ok (.getfield 17, 3) := by decide +kernel
theorem dX6_init_184 : decode cX6_init 184 = .ok (.iload_n 1, 1) := by decide +kernel
theorem dX6_init_185 : decode cX6_init 185 = .ok (.iconst 3, 1) := by decide +kernel
theorem dX6_init_186 : decode cX6_init 186 = .ok (.iastore, 1) := by decide +kernel
theorem dX6_init_187 : decode cX6_init 187 = .ok (.iinc 1 1, 3) := by decide +kernel
theorem dX6_init_190 : decode cX6_init 190 = .ok (.goto (-15), 3) := by decide +kernel
theorem dX6_init_193 : decode cX6_init 193 = .ok (.return_, 1) := by decide +kernel
theorem dX6_box_0 : decode cX6_box 0 = .ok (.iload_n 2, 1) := by decide +kernel
theorem dX6_box_1 : decode cX6_box 1 = .ok (.iconst (-1), 1) := by decide +kernel
theorem dX6_box_2 : decode cX6_box 2 = .ok (.if_icmp .eq 7, 3) := by decide +kernel
theorem dX6_box_5 : decode cX6_box 5 = .ok (.iload_n 2, 1) := by decide +kernel
theorem dX6_box_6 : decode cX6_box 6 = .ok (.invokestatic 71, 3) := by decide +kernel
theorem dX6_box_9 : decode cX6_box 9 = .ok (.iload_n 1, 1) := by decide +kernel
theorem dX6_box_10 : decode cX6_box 10 = .ok (.invokestatic 74, 3) := by decide +kernel
theorem dX6_box_13 : decode cX6_box 13 = .ok (.iload_n 3, 1) := by decide +kernel
theorem dX6_box_14 : decode cX6_box 14 = .ok (.iconst 0, 1) := by decide +kernel
theorem dX6_box_15 : decode cX6_box 15 = .ok (.sipush 9999, 3) := by decide +kernel
theorem dX6_box_18 : decode cX6_box 18 = .ok (.invokestatic 67, 3) := by decide +kernel
theorem dX6_box_21 : decode cX6_box 21 = .ok (.aload_n 0, 1) := by decide +kernel
theorem dX6_box_22 : decode cX6_box 22 = .ok (.getfield 40, 3) := by decide +kernel
theorem dX6_box_25 : decode cX6_box 25 = .ok (.bipush 40, 2) := by decide +kernel
theorem dX6_box_27 : decode cX6_box 27 = .ok (.if_icmp .lt 13, 3) := by decide +kernel
theorem dX6_box_30 : decode cX6_box 30 = .ok (.new 77, 3) := by decide +kernel
theorem dX6_box_33 : decode cX6_box 33 = .ok (.dup, 1) := by decide +kernel
theorem dX6_box_34 : decode cX6_box 34 = .ok (.ldc 79, 2) := by decide +kernel
theorem dX6_box_36 : decode cX6_box 36 = .ok (.invokespecial 81, 3) := by decide +kernel
theorem dX6_box_39 : decode cX6_box 39 = .ok (.athrow, 1) := by decide +kernel
theorem dX6_box_40 : decode cX6_box 40 = .ok (.aload_n 0, 1) := by decide +kernel
theorem dX6_box_41 : decode cX6_box 41 = .ok (.getfield 40, 3) := by decide +kernel
theorem dX6_box_44 : decode cX6_box 44 = .ok (.istore 4, 2) := by decide +kernel
theorem dX6_box_46 : decode cX6_box 46 = .ok (.aload_n 0, 1) := by decide +kernel
theorem dX6_box_47 : decode cX6_box 47 = .ok (.getfield 23, 3) := by decide +kernel
theorem dX6_box_50 : decode cX6_box 50 = .ok (.iload 4, 2) := by decide +kernel
theorem dX6_box_52 : decode cX6_box 52 = .ok (.new 21, 3) := by decide +kernel
theorem dX6_box_55 : decode cX6_box 55 = .ok (.dup, 1) := by decide +kernel
theorem dX6_box_56 : decode cX6_box 56 = .ok (.iload_n 1, 1) := by decide +kernel
theorem dX6_box_57 : decode cX6_box 57 = .ok (.iload_n 2, 1) := by decide +kernel
theorem dX6_box_58 : decode cX6_box 58 = .ok (.iload_n 3, 1) := by decide +kernel
theorem dX6_box_59 : decode cX6_box 59 = .ok (.invokespecial 82, 3) := by decide +kernel
theorem dX6_box_62 : decode cX6_box 62 = .ok (.aastore, 1) := by decide +kernel
theorem dX6_box_63 : decode cX6_box 63 = .ok (.aload_n 0, 1) := by decide +kernel
theorem dX6_box_64 : decode cX6_box 64 = .ok (.dup, 1) := by decide +kernel
theorem dX6_box_65 : decode cX6_box 65 = .ok (.getfield 40, 3) := by decide +kernel
theorem dX6_box_68 : decode cX6_box 68 = .ok (.iconst 1, 1) := by decide +kernel
theorem dX6_box_69 : decode cX6_box 69 = .ok (.iadd, 1) := by decide +kernel
theorem dX6_box_70 : decode cX6_box 70 = .ok (.putfield 40, 3) := by decide +kernel
theorem dX6_box_73 : decode cX6_box 73 = .ok (.iload 4, 2) := by decide +kernel
theorem dX6_box_75 : decode cX6_box 75 = .ok (.ireturn, 1) := by decide +kernel
theorem dX6_wash_0 : decode cX6_wash 0 = .ok (.aload_n 0, 1) := by decide +kernel
theorem dX6_wash_1 : decode cX6_wash 1 = .ok (.iload_n 1, 1) := by decide +kernel
theorem dX6_wash_2 : decode cX6_wash 2 = .ok (.invokevirtual 84, 3) := by decide +kernel
theorem dX6_wash_5 : decode cX6_wash 5 = .ok (.astore_n 3, 1) := by decide +kernel
theorem dX6_wash_6 : decode cX6_wash 6 = .ok (.iload_n 2, 1) := by decide +kernel
theorem dX6_wash_7 : decode cX6_wash 7 = .ok (.iconst 0, 1) := by decide +kernel
theorem dX6_wash_8 : decode cX6_wash 8 = .ok (.sipush 9999, 3) := by decide +kernel
theorem dX6_wash_11 : decode cX6_wash 11 = .ok (.invokestatic 67, 3) := by decide +kernel
theorem dX6_wash_14 : decode cX6_wash 14 = .ok (.aload_n 3, 1) := by decide +kernel
theorem dX6_wash_15 : decode cX6_wash 15 = .ok (.invokestatic 88, 3) := by decide +kernel
theorem dX6_wash_18 : decode cX6_wash 18 = .ok (.aload_n 3, 1) := by decide +kernel
theorem dX6_wash_19 : decode cX6_wash 19 = .ok (.getfield 92, 3) := by decide +kernel
theorem dX6_wash_22 : decode cX6_wash 22 = .ok (.istore 4, 2) := by decide +kernel
theorem dX6_wash_24 : decode cX6_wash 24 = .ok (.aload_n 3, 1) := by decide +kernel
theorem dX6_wash_25 : decode cX6_wash 25 = .ok (.iconst 0, 1) := by decide +kernel
theorem dX6_wash_26 : decode cX6_wash 26 = .ok (.putfield 92, 3) := by decide +kernel
theorem dX6_wash_29 : decode cX6_wash 29 = .ok (.aload_n 3, 1) := by decide +kernel
theorem dX6_wash_30 : decode cX6_wash 30 = .ok (.iload_n 2, 1) := by decide +kernel
theorem dX6_wash_31 : decode cX6_wash 31 = .ok (.putfield 96, 3) := by decide +kernel
theorem dX6_wash_34 : decode cX6_wash 34 = .ok (.iload 4, 2) := by decide +kernel
theorem dX6_wash_36 : decode cX6_wash 36 = .ok (.ireturn, 1) := by decide +kernel
theorem dX6_report_0 : decode cX6_report 0 = .ok (.aload_n 0, 1) := by decide +kernel
theorem dX6_report_1 : decode cX6_report 1 = .ok (.iload_n 1, 1) := by decide +kernel
theorem dX6_report_2 : decode cX6_report 2 = .ok (.invokevirtual 84, 3) := by decide +kernel
theorem dX6_report_5 : decode cX6_report 5 = .ok (.astore 5, 2) := by decide +kernel
theorem dX6_report_7 : decode cX6_report 7 = .ok (.iload 4, 2) := by decide +kernel
theorem dX6_report_9 : decode cX6_report 9 = .ok (.invokestatic 56, 3) := by decide +kernel
theorem dX6_report_12 : decode cX6_report 12 = .ok (.iload_n 2, 1) := by decide +kernel
theorem dX6_report_13 : decode cX6_report 13 = .ok (.iconst 0, 1) := by decide +kernel
theorem dX6_report_14 : decode cX6_report 14 = .ok (.aload_n 0, 1) := by decide +kernel
theorem dX6_report_15 : decode cX6_report 15 = .ok (.getfield 47, 3) := by decide +kernel
theorem dX6_report_18 : decode cX6_report 18 = .ok (.invokestatic 67, 3) := by decide +kernel
theorem dX6_report_21 : decode cX6_report 21 = .ok (.iload_n 3, 1) := by decide +kernel
theorem dX6_report_22 : decode cX6_report 22 = .ok (.iconst 0, 1) := by decide +kernel
theorem dX6_report_23 : decode cX6_report 23 = .ok (.iconst 3, 1) := by decide +kernel
theorem dX6_report_24 : decode cX6_report 24 = .ok (.invokestatic 67, 3) := by decide +kernel
theorem dX6_report_27 : decode cX6_report 27 = .ok (.aload 5, 2) := by decide +kernel
theorem dX6_report_29 : decode cX6_report 29 = .ok (.invokestatic 88, 3) := by decide +kernel
theorem dX6_report_32 : decode cX6_report 32 = .ok (.aload 5, 2) := by decide +kernel
theorem dX6_report_34 : decode cX6_report 34 = .ok (.getfield 99, 3) := by decide +kernel
theorem dX6_report_37 : decode cX6_report 37 = .ok (.invokevirtual 103, 3) := by decide +kernel
theorem dX6_report_40 : decode cX6_report 40 = .ok (.ifCond .eq 13, 3) := by decide +kernel
theorem dX6_report_43 : decode cX6_report 43 = .ok (.new 77, 3) := by decide +kernel
theorem dX6_report_46 : decode cX6_report 46 = .ok (.dup, 1) := by decide +kernel
theorem dX6_report_47 : decode cX6_report 47 = .ok (.ldc 109, 2) := by decide +kernel
theorem dX6_report_49 : decode cX6_report 49 = .ok (.invokespecial 81, 3) := by decide +kernel
theorem dX6_report_52 : decode cX6_report 52 = .ok (.athrow, 1) := by decide +kernel
theorem dX6_report_53 : decode cX6_report 53 = .ok (.aload 5, 2) := by decide +kernel
theorem dX6_report_55 : decode cX6_report 55 = .ok (.getfield 99, 3) := by decide +kernel
theorem dX6_report_58 : decode cX6_report 58 = .ok (.iload_n 2, 1) := by decide +kernel
theorem dX6_report_59 : decode cX6_report 59 = .ok (.iload_n 3, 1) := by decide +kernel
theorem dX6_report_60 : decode cX6_report 60 = .ok (.iload 4, 2) := by decide +kernel
theorem dX6_report_62 : decode cX6_report 62 = .ok (.invokevirtual 111, 3) := by decide +kernel
theorem dX6_report_65 : decode cX6_report 65 = .ok (.ifCond .eq 5, 3) := by decide +kernel
theorem dX6_report_68 : decode cX6_report 68 = .ok (.iconst (-1), 1) := by decide +kernel
theorem dX6_report_69 : decode cX6_report 69 = .ok (.ireturn, 1) := by decide +kernel
theorem dX6_report_70 : decode cX6_report 70 = .ok (.aload 5, 2) := by decide +kernel
theorem dX6_report_72 : decode cX6_report 72 = .ok (.getfield 99, 3) := by decide +kernel
theorem dX6_report_75 : decode cX6_report 75 = .ok (.iload_n 2, 1) := by decide +kernel
theorem dX6_report_76 : decode cX6_report 76 = .ok (.iload_n 3, 1) := by decide +kernel
theorem dX6_report_77 : decode cX6_report 77 = .ok (.iload 4, 2) := by decide +kernel
theorem dX6_report_79 : decode cX6_report 79 = .ok (.invokevirtual 115, 3) := by decide +kernel
theorem dX6_report_82 : decode cX6_report 82 = .ok (.aload 5, 2) := by decide +kernel
theorem dX6_report_84 : decode cX6_report 84 = .ok (.getfield 99, 3) := by decide +kernel
theorem dX6_report_87 : decode cX6_report 87 = .ok (.getfield 118, 3) := by decide +kernel
theorem dX6_report_90 : decode cX6_report 90 = .ok (.ireturn, 1) := by decide +kernel
theorem dX6_place_0 : decode cX6_place 0 = .ok (.aload_n 0, 1) := by decide +kernel
theorem dX6_place_1 : decode cX6_place 1 = .ok (.iload_n 1, 1) := by decide +kernel
theorem dX6_place_2 : decode cX6_place 2 = .ok (.invokevirtual 84, 3) := by decide +kernel
theorem dX6_place_5 : decode cX6_place 5 = .ok (.astore_n 3, 1) := by decide +kernel
theorem dX6_place_6 : decode cX6_place 6 = .ok (.iload_n 2, 1) := by decide +kernel
theorem dX6_place_7 : decode cX6_place 7 = .ok (.iconst 0, 1) := by decide +kernel
theorem dX6_place_8 : decode cX6_place 8 = .ok (.sipush 9999, 3) := by decide +kernel
theorem dX6_place_11 : decode cX6_place 11 = .ok (.invokestatic 67, 3) := by decide +kernel
theorem dX6_place_14 : decode cX6_place 14 = .ok (.aload_n 3, 1) := by decide +kernel
theorem dX6_place_15 : decode cX6_place 15 = .ok (.getfield 99, 3) := by decide +kernel
theorem dX6_place_18 : decode cX6_place 18 = .ok (.iload_n 2, 1) := by decide +kernel
theorem dX6_place_19 : decode cX6_place 19 = .ok (.invokevirtual 121, 3) := by decide +kernel
theorem dX6_place_22 : decode cX6_place 22 = .ok (.ireturn, 1) := by decide +kernel
theorem dX6_count_0 : decode cX6_count 0 = .ok (.iload_n 1, 1) := by decide +kernel
theorem dX6_count_1 : decode cX6_count 1 = .ok (.invokestatic 56, 3) := by decide +kernel
theorem dX6_count_4 : decode cX6_count 4 = .ok (.iload_n 2, 1) := by decide +kernel
theorem dX6_count_5 : decode cX6_count 5 = .ok (.iconst (-1), 1) := by decide +kernel
theorem dX6_count_6 : decode cX6_count 6 = .ok (.if_icmp .eq 7, 3) := by decide +kernel
theorem dX6_count_9 : decode cX6_count 9 = .ok (.iload_n 2, 1) := by decide +kernel
theorem dX6_count_10 : decode cX6_count 10 = .ok (.invokestatic 74, 3) := by decide +kernel
theorem dX6_count_13 : decode cX6_count 13 = .ok (.iload_n 3, 1) := by decide +kernel
theorem dX6_count_14 : decode cX6_count 14 = .ok (.iconst 0, 1) := by decide +kernel
theorem dX6_count_15 : decode cX6_count 15 = .ok (.sipush 9999, 3) := by decide +kernel
theorem dX6_count_18 : decode cX6_count 18 = .ok (.invokestatic 67, 3) := by decide +kernel
theorem dX6_count_21 : decode cX6_count 21 = .ok (.iconst 0, 1) := by decide +kernel
theorem dX6_count_22 : decode cX6_count 22 = .ok (.istore 4, 2) := by decide +kernel
theorem dX6_count_24 : decode cX6_count 24 = .ok (.aload_n 0, 1) := by decide +kernel
theorem dX6_count_25 : decode cX6_count 25 = .ok (.getfield 23, 3) := by decide +kernel
theorem dX6_count_28 : decode cX6_count 28 = .ok (.astore 5, 2) := by decide +kernel
theorem dX6_count_30 : decode cX6_count 30 = .ok (.aload 5, 2) := by decide +kernel
theorem dX6_count_32 : decode cX6_count 32 = .ok (.arraylength, 1) := by decide +kernel
theorem dX6_count_33 : decode cX6_count 33 = .ok (.istore 6, 2) := by decide +kernel
theorem dX6_count_35 : decode cX6_count 35 = .ok (.iconst 0, 1) := by decide +kernel
theorem dX6_count_36 : decode cX6_count 36 = .ok (.istore 7, 2) := by decide +kernel
theorem dX6_count_38 : decode cX6_count 38 = .ok (.iload 7, 2) := by decide +kernel
theorem dX6_count_40 : decode cX6_count 40 = .ok (.iload 6, 2) := by decide +kernel
theorem dX6_count_42 : decode cX6_count 42 = .ok (.if_icmp .ge 51, 3) := by decide +kernel
theorem dX6_count_45 : decode cX6_count 45 = .ok (.aload 5, 2) := by decide +kernel
theorem dX6_count_47 : decode cX6_count 47 = .ok (.iload 7, 2) := by decide +kernel
theorem dX6_count_49 : decode cX6_count 49 = .ok (.aaload, 1) := by decide +kernel
theorem dX6_count_50 : decode cX6_count 50 = .ok (.astore 8, 2) := by decide +kernel
theorem dX6_count_52 : decode cX6_count 52 = .ok (.aload 8, 2) := by decide +kernel
theorem dX6_count_54 : decode cX6_count 54 = .ok (.ifnull 33, 3) := by decide +kernel
theorem dX6_count_57 : decode cX6_count 57 = .ok (.iload_n 2, 1) := by decide +kernel
theorem dX6_count_58 : decode cX6_count 58 = .ok (.iconst (-1), 1) := by decide +kernel
theorem dX6_count_59 : decode cX6_count 59 = .ok (.if_icmp .eq 12, 3) := by decide +kernel
theorem dX6_count_62 : decode cX6_count 62 = .ok (.aload 8, 2) := by decide +kernel
theorem dX6_count_64 : decode cX6_count 64 = .ok (.getfield 125, 3) := by decide +kernel
theorem dX6_count_67 : decode cX6_count 67 = .ok (.iload_n 2, 1) := by decide +kernel
theorem dX6_count_68 : decode cX6_count 68 = .ok (.if_icmp .ne 19, 3) := by decide +kernel
theorem dX6_count_71 : decode cX6_count 71 = .ok (.aload 8, 2) := by decide +kernel
theorem dX6_count_73 : decode cX6_count 73 = .ok (.getfield 99, 3) := by decide +kernel
theorem dX6_count_76 : decode cX6_count 76 = .ok (.iload_n 3, 1) := by decide +kernel
theorem dX6_count_77 : decode cX6_count 77 = .ok (.invokevirtual 121, 3) := by decide +kernel
theorem dX6_count_80 : decode cX6_count 80 = .ok (.iload_n 1, 1) := by decide +kernel
theorem dX6_count_81 : decode cX6_count 81 = .ok (.if_icmp .ne 6, 3) := by decide +kernel
theorem dX6_count_84 : decode cX6_count 84 = .ok (.iinc 4 1, 3) := by decide +kernel
theorem dX6_count_87 : decode cX6_count 87 = .ok (.iinc 7 1, 3) := by decide +kernel
theorem dX6_count_90 : decode cX6_count 90 = .ok (.goto (-52), 3) := by decide +kernel
theorem dX6_count_93 : decode cX6_count 93 = .ok (.iload 4, 2) := by decide +kernel
theorem dX6_count_95 : decode cX6_count 95 = .ok (.ireturn, 1) := by decide +kernel
theorem dX6_days_0 : decode cX6_days 0 = .ok (.aload_n 0, 1) := by decide +kernel
theorem dX6_days_1 : decode cX6_days 1 = .ok (.iload_n 1, 1) := by decide +kernel
theorem dX6_days_2 : decode cX6_days 2 = .ok (.invokevirtual 84, 3) := by decide +kernel
theorem dX6_days_5 : decode cX6_days 5 = .ok (.astore 5, 2) := by decide +kernel
theorem dX6_days_7 : decode cX6_days 7 = .ok (.iload_n 2, 1) := by decide +kernel
theorem dX6_days_8 : decode cX6_days 8 = .ok (.iconst 0, 1) := by decide +kernel
theorem dX6_days_9 : decode cX6_days 9 = .ok (.sipush 9999, 3) := by decide +kernel
theorem dX6_days_12 : decode cX6_days 12 = .ok (.invokestatic 67, 3) := by decide +kernel
theorem dX6_days_15 : decode cX6_days 15 = .ok (.iload_n 3, 1) := by decide +kernel
theorem dX6_days_16 : decode cX6_days 16 = .ok (.iload_n 2, 1) := by decide +kernel
theorem dX6_days_17 : decode cX6_days 17 = .ok (.iload_n 2, 1) := by decide +kernel
theorem dX6_days_18 : decode cX6_days 18 = .ok (.sipush 400, 3) := by decide +kernel
theorem dX6_days_21 : decode cX6_days 21 = .ok (.iadd, 1) := by decide +kernel
theorem dX6_days_22 : decode cX6_days 22 = .ok (.invokestatic 67, 3) := by decide +kernel
theorem dX6_days_25 : decode cX6_days 25 = .ok (.iload 4, 2) := by decide +kernel
theorem dX6_days_27 : decode cX6_days 27 = .ok (.invokestatic 128, 3) := by decide +kernel
theorem dX6_days_30 : decode cX6_days 30 = .ok (.ifCond .ne 12, 3) := by decide +kernel
theorem dX6_days_33 : decode cX6_days 33 = .ok (.iload 4, 2) := by decide +kernel
theorem dX6_days_35 : decode cX6_days 35 = .ok (.bipush 10, 2) := by decide +kernel
theorem dX6_days_37 : decode cX6_days 37 = .ok (.bipush 12, 2) := by decide +kernel
theorem dX6_days_39 : decode cX6_days 39 = .ok (.invokestatic 67, 3) := by decide +kernel
theorem dX6_days_42 : decode cX6_days 42 = .ok (.aload 5, 2) := by decide +kernel
theorem dX6_days_44 : decode cX6_days 44 = .ok (.getfield 99, 3) := by decide +kernel
theorem dX6_days_47 : decode cX6_days 47 = .ok (.iload 4, 2) := by decide +kernel
theorem dX6_days_49 : decode cX6_days 49 = .ok (.iload_n 2, 1) := by decide +kernel
theorem dX6_days_50 : decode cX6_days 50 = .ok (.iload_n 3, 1) := by decide +kernel
theorem dX6_days_51 : decode cX6_days 51 = .ok (.invokevirtual 132, 3) := by decide +kernel
theorem dX6_days_54 : decode cX6_days 54 = .ok (.ireturn, 1) := by decide +kernel
theorem dX6_lease_0 : decode cX6_lease 0 = .ok (.aload_n 0, 1) := by decide +kernel
theorem dX6_lease_1 : decode cX6_lease 1 = .ok (.iload_n 1, 1) := by decide +kernel
theorem dX6_lease_2 : decode cX6_lease 2 = .ok (.invokevirtual 84, 3) := by decide +kernel
theorem dX6_lease_5 : decode cX6_lease 5 = .ok (.astore 4, 2) := by decide +kernel
theorem dX6_lease_7 : decode cX6_lease 7 = .ok (.iload_n 2, 1) := by decide +kernel
theorem dX6_lease_8 : decode cX6_lease 8 = .ok (.iconst 0, 1) := by decide +kernel
theorem dX6_lease_9 : decode cX6_lease 9 = .ok (.sipush 9999, 3) := by decide +kernel
theorem dX6_lease_12 : decode cX6_lease 12 = .ok (.invokestatic 67, 3) := by decide +kernel
theorem dX6_lease_15 : decode cX6_lease 15 = .ok (.iload_n 3, 1) := by decide +kernel
theorem dX6_lease_16 : decode cX6_lease 16 = .ok (.iload_n 2, 1) := by decide +kernel
theorem dX6_lease_17 : decode cX6_lease 17 = .ok (.sipush 9999, 3) := by decide +kernel
theorem dX6_lease_20 : decode cX6_lease 20 = .ok (.invokestatic 67, 3) := by decide +kernel
theorem dX6_lease_23 : decode cX6_lease 23 = .ok (.aload 4, 2) := by decide +kernel
theorem dX6_lease_25 : decode cX6_lease 25 = .ok (.getfield 136, 3) := by decide +kernel
theorem dX6_lease_28 : decode cX6_lease 28 = .ok (.iconst (-1), 1) := by decide +kernel
theorem dX6_lease_29 : decode cX6_lease 29 = .ok (.if_icmp .ne 13, 3) := by decide +kernel
theorem dX6_lease_32 : decode cX6_lease 32 = .ok (.new 77, 3) := by decide +kernel
theorem dX6_lease_35 : decode cX6_lease 35 = .ok (.dup, 1) := by decide +kernel
theorem dX6_lease_36 : decode cX6_lease 36 = .ok (.ldc 139, 2) := by decide +kernel
theorem dX6_lease_38 : decode cX6_lease 38 = .ok (.invokespecial 81, 3) := by decide +kernel
theorem dX6_lease_41 : decode cX6_lease 41 = .ok (.athrow, 1) := by decide +kernel
theorem dX6_lease_42 : decode cX6_lease 42 = .ok (.aload 4, 2) := by decide +kernel
theorem dX6_lease_44 : decode cX6_lease 44 = .ok (.invokestatic 88, 3) := by decide +kernel
theorem dX6_lease_47 : decode cX6_lease 47 = .ok (.aload 4, 2) := by decide +kernel
theorem dX6_lease_49 : decode cX6_lease 49 = .ok (.getfield 141, 3) := by decide +kernel
theorem dX6_lease_52 : decode cX6_lease 52 = .ok (.invokevirtual 145, 3) := by decide +kernel
theorem dX6_lease_55 : decode cX6_lease 55 = .ok (.ifCond .eq 13, 3) := by decide +kernel
theorem dX6_lease_58 : decode cX6_lease 58 = .ok (.new 77, 3) := by decide +kernel
theorem dX6_lease_61 : decode cX6_lease 61 = .ok (.dup, 1) := by decide +kernel
theorem dX6_lease_62 : decode cX6_lease 62 = .ok (.ldc 148, 2) := by decide +kernel
theorem dX6_lease_64 : decode cX6_lease 64 = .ok (.invokespecial 81, 3) := by decide +kernel
theorem dX6_lease_67 : decode cX6_lease 67 = .ok (.athrow, 1) := by decide +kernel
theorem dX6_lease_68 : decode cX6_lease 68 = .ok (.aload 4, 2) := by decide +kernel
theorem dX6_lease_70 : decode cX6_lease 70 = .ok (.getfield 141, 3) := by decide +kernel
theorem dX6_lease_73 : decode cX6_lease 73 = .ok (.iload_n 2, 1) := by decide +kernel
theorem dX6_lease_74 : decode cX6_lease 74 = .ok (.iload_n 3, 1) := by decide +kernel
theorem dX6_lease_75 : decode cX6_lease 75 = .ok (.invokevirtual 150, 3) := by decide +kernel
theorem dX6_lease_78 : decode cX6_lease 78 = .ok (.return_, 1) := by decide +kernel
theorem dX6_payer_0 : decode cX6_payer 0 = .ok (.aload_n 0, 1) := by decide +kernel
theorem dX6_payer_1 : decode cX6_payer 1 = .ok (.iload_n 1, 1) := by decide +kernel
theorem dX6_payer_2 : decode cX6_payer 2 = .ok (.invokevirtual 84, 3) := by decide +kernel
theorem dX6_payer_5 : decode cX6_payer 5 = .ok (.astore_n 3, 1) := by decide +kernel
theorem dX6_payer_6 : decode cX6_payer 6 = .ok (.iload_n 2, 1) := by decide +kernel
theorem dX6_payer_7 : decode cX6_payer 7 = .ok (.iconst 0, 1) := by decide +kernel
theorem dX6_payer_8 : decode cX6_payer 8 = .ok (.sipush 9999, 3) := by decide +kernel
theorem dX6_payer_11 : decode cX6_payer 11 = .ok (.invokestatic 67, 3) := by decide +kernel
theorem dX6_payer_14 : decode cX6_payer 14 = .ok (.aload_n 3, 1) := by decide +kernel
theorem dX6_payer_15 : decode cX6_payer 15 = .ok (.getfield 99, 3) := by decide +kernel
theorem dX6_payer_18 : decode cX6_payer 18 = .ok (.bipush 11, 2) := by decide +kernel
theorem dX6_payer_20 : decode cX6_payer 20 = .ok (.iload_n 2, 1) := by decide +kernel
theorem dX6_payer_21 : decode cX6_payer 21 = .ok (.aload_n 0, 1) := by decide +kernel
theorem dX6_payer_22 : decode cX6_payer 22 = .ok (.getfield 50, 3) := by decide +kernel
theorem dX6_payer_25 : decode cX6_payer 25 = .ok (.isub, 1) := by decide +kernel
theorem dX6_payer_26 : decode cX6_payer 26 = .ok (.iload_n 2, 1) := by decide +kernel
theorem dX6_payer_27 : decode cX6_payer 27 = .ok (.invokevirtual 132, 3) := by decide +kernel
theorem dX6_payer_30 : decode cX6_payer 30 = .ok (.aload_n 0, 1) := by decide +kernel
theorem dX6_payer_31 : decode cX6_payer 31 = .ok (.getfield 50, 3) := by decide +kernel
theorem dX6_payer_34 : decode cX6_payer 34 = .ok (.iconst 1, 1) := by decide +kernel
theorem dX6_payer_35 : decode cX6_payer 35 = .ok (.iadd, 1) := by decide +kernel
theorem dX6_payer_36 : decode cX6_payer 36 = .ok (.if_icmp .ne 5, 3) := by decide +kernel
theorem dX6_payer_39 : decode cX6_payer 39 = .ok (.iconst 2, 1) := by decide +kernel
theorem dX6_payer_40 : decode cX6_payer 40 = .ok (.ireturn, 1) := by decide +kernel
theorem dX6_payer_41 : decode cX6_payer 41 = .ok (.aload_n 3, 1) := by decide +kernel
theorem dX6_payer_42 : decode cX6_payer 42 = .ok (.getfield 136, 3) := by decide +kernel
theorem dX6_payer_45 : decode cX6_payer 45 = .ok (.iconst (-1), 1) := by decide +kernel
theorem dX6_payer_46 : decode cX6_payer 46 = .ok (.if_icmp .eq 14, 3) := by decide +kernel
theorem dX6_payer_49 : decode cX6_payer 49 = .ok (.aload_n 3, 1) := by decide +kernel
theorem dX6_payer_50 : decode cX6_payer 50 = .ok (.getfield 141, 3) := by decide +kernel
theorem dX6_payer_53 : decode cX6_payer 53 = .ok (.iload_n 2, 1) := by decide +kernel
theorem dX6_payer_54 : decode cX6_payer 54 = .ok (.invokevirtual 153, 3) := by decide +kernel
theorem dX6_payer_57 : decode cX6_payer 57 = .ok (.ifCond .eq 7, 3) := by decide +kernel
theorem dX6_payer_60 : decode cX6_payer 60 = .ok (.iconst 0, 1) := by decide +kernel
theorem dX6_payer_61 : decode cX6_payer 61 = .ok (.goto 4, 3) := by decide +kernel
theorem dX6_payer_64 : decode cX6_payer 64 = .ok (.iconst 1, 1) := by decide +kernel
theorem dX6_payer_65 : decode cX6_payer 65 = .ok (.ireturn, 1) := by decide +kernel
theorem dX6_handIn_0 : decode cX6_handIn 0 = .ok (.aload_n 0, 1) := by decide +kernel
theorem dX6_handIn_1 : decode cX6_handIn 1 = .ok (.iload_n 1, 1) := by decide +kernel
theorem dX6_handIn_2 : decode cX6_handIn 2 = .ok (.invokevirtual 84, 3) := by decide +kernel
theorem dX6_handIn_5 : decode cX6_handIn 5 = .ok (.astore_n 2, 1) := by decide +kernel
theorem dX6_handIn_6 : decode cX6_handIn 6 = .ok (.aload_n 2, 1) := by decide +kernel
theorem dX6_handIn_7 : decode cX6_handIn 7 = .ok (.invokestatic 88, 3) := by decide +kernel
theorem dX6_handIn_10 : decode cX6_handIn 10 = .ok (.aload_n 2, 1) := by decide +kernel
theorem dX6_handIn_11 : decode cX6_handIn 11 = .ok (.getfield 141, 3) := by decide +kernel
theorem dX6_handIn_14 : decode cX6_handIn 14 = .ok (.aload_n 0, 1) := by decide +kernel
theorem dX6_handIn_15 : decode cX6_handIn 15 = .ok (.getfield 47, 3) := by decide +kernel
theorem dX6_handIn_18 : decode cX6_handIn 18 = .ok (.invokevirtual 153, 3) := by decide +kernel
theorem dX6_handIn_21 : decode cX6_handIn 21 = .ok (.ifCond .ne 13, 3) := by decide +kernel
theorem dX6_handIn_24 : decode cX6_handIn 24 = .ok (.new 77, 3) := by decide +kernel
theorem dX6_handIn_27 : decode cX6_handIn 27 = .ok (.dup, 1) := by decide +kernel
theorem dX6_handIn_28 : decode cX6_handIn 28 = .ok (.ldc 156, 2) := by decide +kernel
theorem dX6_handIn_30 : decode cX6_handIn 30 = .ok (.invokespecial 81, 3) := by decide +kernel
theorem dX6_handIn_33 : decode cX6_handIn 33 = .ok (.athrow, 1) := by decide +kernel
theorem dX6_handIn_34 : decode cX6_handIn 34 = .ok (.aload_n 2, 1) := by decide +kernel
theorem dX6_handIn_35 : decode cX6_handIn 35 = .ok (.getfield 99, 3) := by decide +kernel
theorem dX6_handIn_38 : decode cX6_handIn 38 = .ok (.aload_n 0, 1) := by decide +kernel
theorem dX6_handIn_39 : decode cX6_handIn 39 = .ok (.getfield 47, 3) := by decide +kernel
theorem dX6_handIn_42 : decode cX6_handIn 42 = .ok (.invokevirtual 121, 3) := by decide +kernel
theorem dX6_handIn_45 : decode cX6_handIn 45 = .ok (.istore_n 3, 1) := by decide +kernel
theorem dX6_handIn_46 : decode cX6_handIn 46 = .ok (.iload_n 3, 1) := by decide +kernel
theorem dX6_handIn_47 : decode cX6_handIn 47 = .ok (.invokestatic 128, 3) := by decide +kernel
theorem dX6_handIn_50 : decode cX6_handIn 50 = .ok (.ifCond .ne 13, 3) := by decide +kernel
theorem dX6_handIn_53 : decode cX6_handIn 53 = .ok (.new 77, 3) := by decide +kernel
theorem dX6_handIn_56 : decode cX6_handIn 56 = .ok (.dup, 1) := by decide +kernel
theorem dX6_handIn_57 : decode cX6_handIn 57 = .ok (.ldc 158, 2) := by decide +kernel
theorem dX6_handIn_59 : decode cX6_handIn 59 = .ok (.invokespecial 81, 3) := by decide +kernel
theorem dX6_handIn_62 : decode cX6_handIn 62 = .ok (.athrow, 1) := by decide +kernel
theorem dX6_handIn_63 : decode cX6_handIn 63 = .ok (.aload_n 2, 1) := by decide +kernel
theorem dX6_handIn_64 : decode cX6_handIn 64 = .ok (.getfield 160, 3) := by decide +kernel
theorem dX6_handIn_67 : decode cX6_handIn 67 = .ok (.iconst (-1), 1) := by decide +kernel
theorem dX6_handIn_68 : decode cX6_handIn 68 = .ok (.if_icmp .eq 13, 3) := by decide +kernel
theorem dX6_handIn_71 : decode cX6_handIn 71 = .ok (.new 77, 3) := by decide +kernel
theorem dX6_handIn_74 : decode cX6_handIn 74 = .ok (.dup, 1) := by decide +kernel
theorem dX6_handIn_75 : decode cX6_handIn 75 = .ok (.ldc 163, 2) := by decide +kernel
theorem dX6_handIn_77 : decode cX6_handIn 77 = .ok (.invokespecial 81, 3) := by decide +kernel
theorem dX6_handIn_80 : decode cX6_handIn 80 = .ok (.athrow, 1) := by decide +kernel
theorem dX6_handIn_81 : decode cX6_handIn 81 = .ok (.aload_n 0, 1) := by decide +kernel
theorem dX6_handIn_82 : decode cX6_handIn 82 = .ok (.aload_n 2, 1) := by decide +kernel
theorem dX6_handIn_83 : decode cX6_handIn 83 = .ok (.getfield 136, 3) := by decide +kernel
theorem dX6_handIn_86 : decode cX6_handIn 86 = .ok (.iload_n 3, 1) := by decide +kernel
theorem dX6_handIn_87 : decode cX6_handIn 87 = .ok (.invokevirtual 165, 3) := by decide +kernel
theorem dX6_handIn_90 : decode cX6_handIn 90 = .ok (.istore 4, 2) := by decide +kernel
theorem dX6_handIn_92 : decode cX6_handIn 92 = .ok (.iload 4, 2) := by decide +kernel
theorem dX6_handIn_94 : decode cX6_handIn 94 = .ok (.ifCond .gt 13, 3) := by decide +kernel
theorem dX6_handIn_97 : decode cX6_handIn 97 = .ok (.new 77, 3) := by decide +kernel
theorem dX6_handIn_100 : decode cX6_handIn 100 = .ok (.dup, 1) := by decide +kernel
theorem dX6_handIn_101 : decode cX6_handIn 101 = .ok (.ldc 169, 2) := by decide +kernel
theorem dX6_handIn_103 : decode cX6_handIn 103 = .ok (.invokespecial 81, 3) := by decide +kernel
theorem dX6_handIn_106 : decode cX6_handIn 106 = .ok (.athrow, 1) := by decide +kernel
theorem dX6_handIn_107 : decode cX6_handIn 107 = .ok (.aload_n 2, 1) := by decide +kernel
theorem dX6_handIn_108 : decode cX6_handIn 108 = .ok (.getfield 141, 3) := by decide +kernel
theorem dX6_handIn_111 : decode cX6_handIn 111 = .ok (.aload_n 0, 1) := by decide +kernel
theorem dX6_handIn_112 : decode cX6_handIn 112 = .ok (.getfield 47, 3) := by decide +kernel
theorem dX6_handIn_115 : decode cX6_handIn 115 = .ok (.invokevirtual 171, 3) := by decide +kernel
theorem dX6_handIn_118 : decode cX6_handIn 118 = .ok (.aload_n 2, 1) := by decide +kernel
theorem dX6_handIn_119 : decode cX6_handIn 119 = .ok (.aload_n 0, 1) := by decide +kernel
theorem dX6_handIn_120 : decode cX6_handIn 120 = .ok (.getfield 47, 3) := by decide +kernel
theorem dX6_handIn_123 : decode cX6_handIn 123 = .ok (.putfield 174, 3) := by decide +kernel
theorem dX6_handIn_126 : decode cX6_handIn 126 = .ok (.aload_n 2, 1) := by decide +kernel
theorem dX6_handIn_127 : decode cX6_handIn 127 = .ok (.iload_n 3, 1) := by decide +kernel
theorem dX6_handIn_128 : decode cX6_handIn 128 = .ok (.putfield 177, 3) := by decide +kernel
theorem dX6_handIn_131 : decode cX6_handIn 131 = .ok (.iload 4, 2) := by decide +kernel
theorem dX6_handIn_133 : decode cX6_handIn 133 = .ok (.iconst 1, 1) := by decide +kernel
theorem dX6_handIn_134 : decode cX6_handIn 134 = .ok (.isub, 1) := by decide +kernel
theorem dX6_handIn_135 : decode cX6_handIn 135 = .ok (.ireturn, 1) := by decide +kernel
theorem dX6_damage_0 : decode cX6_damage 0 = .ok (.aload_n 0, 1) := by decide +kernel
theorem dX6_damage_1 : decode cX6_damage 1 = .ok (.iload_n 1, 1) := by decide +kernel
theorem dX6_damage_2 : decode cX6_damage 2 = .ok (.invokevirtual 84, 3) := by decide +kernel
theorem dX6_damage_5 : decode cX6_damage 5 = .ok (.astore 4, 2) := by decide +kernel
theorem dX6_damage_7 : decode cX6_damage 7 = .ok (.iload_n 2, 1) := by decide +kernel
theorem dX6_damage_8 : decode cX6_damage 8 = .ok (.invokestatic 180, 3) := by decide +kernel
theorem dX6_damage_11 : decode cX6_damage 11 = .ok (.iload_n 3, 1) := by decide +kernel
theorem dX6_damage_12 : decode cX6_damage 12 = .ok (.iconst 1, 1) := by decide +kernel
theorem dX6_damage_13 : decode cX6_damage 13 = .ok (.bipush 20, 2) := by decide +kernel
theorem dX6_damage_15 : decode cX6_damage 15 = .ok (.invokestatic 67, 3) := by decide +kernel
theorem dX6_damage_18 : decode cX6_damage 18 = .ok (.aload 4, 2) := by decide +kernel
theorem dX6_damage_20 : decode cX6_damage 20 = .ok (.invokestatic 88, 3) := by decide +kernel
theorem dX6_damage_23 : decode cX6_damage 23 = .ok (.aload 4, 2) := by decide +kernel
theorem dX6_damage_25 : decode cX6_damage 25 = .ok (.getfield 183, 3) := by decide +kernel
theorem dX6_damage_28 : decode cX6_damage 28 = .ok (.invokevirtual 187, 3) := by decide +kernel
theorem dX6_damage_31 : decode cX6_damage 31 = .ok (.ifCond .eq 13, 3) := by decide +kernel
theorem dX6_damage_34 : decode cX6_damage 34 = .ok (.new 77, 3) := by decide +kernel
theorem dX6_damage_37 : decode cX6_damage 37 = .ok (.dup, 1) := by decide +kernel
theorem dX6_damage_38 : decode cX6_damage 38 = .ok (.ldc 190, 2) := by decide +kernel
theorem dX6_damage_40 : decode cX6_damage 40 = .ok (.invokespecial 81, 3) := by decide +kernel
theorem dX6_damage_43 : decode cX6_damage 43 = .ok (.athrow, 1) := by decide +kernel
theorem dX6_damage_44 : decode cX6_damage 44 = .ok (.aload 4, 2) := by decide +kernel
theorem dX6_damage_46 : decode cX6_damage 46 = .ok (.getfield 183, 3) := by decide +kernel
theorem dX6_damage_49 : decode cX6_damage 49 = .ok (.iload_n 2, 1) := by decide +kernel
theorem dX6_damage_50 : decode cX6_damage 50 = .ok (.iload_n 3, 1) := by decide +kernel
theorem dX6_damage_51 : decode cX6_damage 51 = .ok (.invokevirtual 192, 3) := by decide +kernel
theorem dX6_damage_54 : decode cX6_damage 54 = .ok (.aload 4, 2) := by decide +kernel
theorem dX6_damage_56 : decode cX6_damage 56 = .ok (.getfield 183, 3) := by decide +kernel
theorem dX6_damage_59 : decode cX6_damage 59 = .ok (.aload_n 0, 1) := by decide +kernel
theorem dX6_damage_60 : decode cX6_damage 60 = .ok (.getfield 17, 3) := by decide +kernel
theorem dX6_damage_63 : decode cX6_damage 63 = .ok (.invokevirtual 193, 3) := by decide +kernel
theorem dX6_damage_66 : decode cX6_damage 66 = .ok (.ireturn, 1) := by decide +kernel
theorem dX6_mend_0 : decode cX6_mend 0 = .ok (.aload_n 0, 1) := by decide +kernel
theorem dX6_mend_1 : decode cX6_mend 1 = .ok (.iload_n 1, 1) := by decide +kernel
theorem dX6_mend_2 : decode cX6_mend 2 = .ok (.invokevirtual 84, 3) := by decide +kernel
theorem dX6_mend_5 : decode cX6_mend 5 = .ok (.astore_n 2, 1) := by decide +kernel
theorem dX6_mend_6 : decode cX6_mend 6 = .ok (.aload_n 2, 1) := by decide +kernel
theorem dX6_mend_7 : decode cX6_mend 7 = .ok (.invokestatic 88, 3) := by decide +kernel
theorem dX6_mend_10 : decode cX6_mend 10 = .ok (.aload_n 2, 1) := by decide +kernel
theorem dX6_mend_11 : decode cX6_mend 11 = .ok (.getfield 183, 3) := by decide +kernel
theorem dX6_mend_14 : decode cX6_mend 14 = .ok (.aload_n 0, 1) := by decide +kernel
theorem dX6_mend_15 : decode cX6_mend 15 = .ok (.getfield 17, 3) := by decide +kernel
theorem dX6_mend_18 : decode cX6_mend 18 = .ok (.invokevirtual 193, 3) := by decide +kernel
theorem dX6_mend_21 : decode cX6_mend 21 = .ok (.istore_n 3, 1) := by decide +kernel
theorem dX6_mend_22 : decode cX6_mend 22 = .ok (.iload_n 3, 1) := by decide +kernel
theorem dX6_mend_23 : decode cX6_mend 23 = .ok (.ifCond .ne 13, 3) := by decide +kernel
theorem dX6_mend_26 : decode cX6_mend 26 = .ok (.new 77, 3) := by decide +kernel
theorem dX6_mend_29 : decode cX6_mend 29 = .ok (.dup, 1) := by decide +kernel
theorem dX6_mend_30 : decode cX6_mend 30 = .ok (.ldc 197, 2) := by decide +kernel
theorem dX6_mend_32 : decode cX6_mend 32 = .ok (.invokespecial 81, 3) := by decide +kernel
theorem dX6_mend_35 : decode cX6_mend 35 = .ok (.athrow, 1) := by decide +kernel
theorem dX6_mend_36 : decode cX6_mend 36 = .ok (.iload_n 3, 1) := by decide +kernel
theorem dX6_mend_37 : decode cX6_mend 37 = .ok (.aload_n 0, 1) := by decide +kernel
theorem dX6_mend_38 : decode cX6_mend 38 = .ok (.getfield 53, 3) := by decide +kernel
theorem dX6_mend_41 : decode cX6_mend 41 = .ok (.if_icmp .le 13, 3) := by decide +kernel
theorem dX6_mend_44 : decode cX6_mend 44 = .ok (.new 77, 3) := by decide +kernel
theorem dX6_mend_47 : decode cX6_mend 47 = .ok (.dup, 1) := by decide +kernel
theorem dX6_mend_48 : decode cX6_mend 48 = .ok (.ldc 199, 2) := by decide +kernel
theorem dX6_mend_50 : decode cX6_mend 50 = .ok (.invokespecial 81, 3) := by decide +kernel
theorem dX6_mend_53 : decode cX6_mend 53 = .ok (.athrow, 1) := by decide +kernel
theorem dX6_mend_54 : decode cX6_mend 54 = .ok (.aload_n 2, 1) := by decide +kernel
theorem dX6_mend_55 : decode cX6_mend 55 = .ok (.getfield 183, 3) := by decide +kernel
theorem dX6_mend_58 : decode cX6_mend 58 = .ok (.invokevirtual 201, 3) := by decide +kernel
theorem dX6_mend_61 : decode cX6_mend 61 = .ok (.iload_n 3, 1) := by decide +kernel
theorem dX6_mend_62 : decode cX6_mend 62 = .ok (.ireturn, 1) := by decide +kernel
theorem dX6_book_0 : decode cX6_book 0 = .ok (.iload_n 1, 1) := by decide +kernel
theorem dX6_book_1 : decode cX6_book 1 = .ok (.invokestatic 56, 3) := by decide +kernel
theorem dX6_book_4 : decode cX6_book 4 = .ok (.iload_n 2, 1) := by decide +kernel
theorem dX6_book_5 : decode cX6_book 5 = .ok (.invokestatic 74, 3) := by decide +kernel
theorem dX6_book_8 : decode cX6_book 8 = .ok (.iload_n 3, 1) := by decide +kernel
theorem dX6_book_9 : decode cX6_book 9 = .ok (.iconst 1, 1) := by decide +kernel
theorem dX6_book_10 : decode cX6_book 10 = .ok (.bipush 9, 2) := by decide +kernel
theorem dX6_book_12 : decode cX6_book 12 = .ok (.invokestatic 67, 3) := by decide +kernel
theorem dX6_book_15 : decode cX6_book 15 = .ok (.aload_n 0, 1) := by decide +kernel
theorem dX6_book_16 : decode cX6_book 16 = .ok (.getfield 44, 3) := by decide +kernel
theorem dX6_book_19 : decode cX6_book 19 = .ok (.bipush 20, 2) := by decide +kernel
theorem dX6_book_21 : decode cX6_book 21 = .ok (.if_icmp .lt 13, 3) := by decide +kernel
theorem dX6_book_24 : decode cX6_book 24 = .ok (.new 77, 3) := by decide +kernel
theorem dX6_book_27 : decode cX6_book 27 = .ok (.dup, 1) := by decide +kernel
theorem dX6_book_28 : decode cX6_book 28 = .ok (.ldc 204, 2) := by decide +kernel
theorem dX6_book_30 : decode cX6_book 30 = .ok (.invokespecial 81, 3) := by decide +kernel
theorem dX6_book_33 : decode cX6_book 33 = .ok (.athrow, 1) := by decide +kernel
theorem dX6_book_34 : decode cX6_book 34 = .ok (.aload_n 0, 1) := by decide +kernel
theorem dX6_book_35 : decode cX6_book 35 = .ok (.getfield 44, 3) := by decide +kernel
theorem dX6_book_38 : decode cX6_book 38 = .ok (.istore 4, 2) := by decide +kernel
theorem dX6_book_40 : decode cX6_book 40 = .ok (.aload_n 0, 1) := by decide +kernel
theorem dX6_book_41 : decode cX6_book 41 = .ok (.getfield 29, 3) := by decide +kernel
theorem dX6_book_44 : decode cX6_book 44 = .ok (.iload 4, 2) := by decide +kernel
theorem dX6_book_46 : decode cX6_book 46 = .ok (.new 27, 3) := by decide +kernel
theorem dX6_book_49 : decode cX6_book 49 = .ok (.dup, 1) := by decide +kernel
theorem dX6_book_50 : decode cX6_book 50 = .ok (.iload_n 1, 1) := by decide +kernel
theorem dX6_book_51 : decode cX6_book 51 = .ok (.iload_n 2, 1) := by decide +kernel
theorem dX6_book_52 : decode cX6_book 52 = .ok (.iload_n 3, 1) := by decide +kernel
theorem dX6_book_53 : decode cX6_book 53 = .ok (.invokespecial 206, 3) := by decide +kernel
theorem dX6_book_56 : decode cX6_book 56 = .ok (.aastore, 1) := by decide +kernel
theorem dX6_book_57 : decode cX6_book 57 = .ok (.aload_n 0, 1) := by decide +kernel
theorem dX6_book_58 : decode cX6_book 58 = .ok (.dup, 1) := by decide +kernel
theorem dX6_book_59 : decode cX6_book 59 = .ok (.getfield 44, 3) := by decide +kernel
theorem dX6_book_62 : decode cX6_book 62 = .ok (.iconst 1, 1) := by decide +kernel
theorem dX6_book_63 : decode cX6_book 63 = .ok (.iadd, 1) := by decide +kernel
theorem dX6_book_64 : decode cX6_book 64 = .ok (.putfield 44, 3) := by decide +kernel
theorem dX6_book_67 : decode cX6_book 67 = .ok (.iload 4, 2) := by decide +kernel
theorem dX6_book_69 : decode cX6_book 69 = .ok (.ireturn, 1) := by decide +kernel
theorem dX6_serve_0 : decode cX6_serve 0 = .ok (.iconst 0, 1) := by decide +kernel
theorem dX6_serve_1 : decode cX6_serve 1 = .ok (.istore_n 1, 1) := by decide +kernel
theorem dX6_serve_2 : decode cX6_serve 2 = .ok (.iconst 0, 1) := by decide +kernel
theorem dX6_serve_3 : decode cX6_serve 3 = .ok (.istore_n 2, 1) := by decide +kernel
theorem dX6_serve_4 : decode cX6_serve 4 = .ok (.iload_n 2, 1) := by decide +kernel
theorem dX6_serve_5 : decode cX6_serve 5 = .ok (.aload_n 0, 1) := by decide +kernel
theorem dX6_serve_6 : decode cX6_serve 6 = .ok (.getfield 29, 3) := by decide +kernel
theorem dX6_serve_9 : decode cX6_serve 9 = .ok (.arraylength, 1) := by decide +kernel
theorem dX6_serve_10 : decode cX6_serve 10 = .ok (.if_icmp .ge 49, 3) := by decide +kernel
theorem dX6_serve_13 : decode cX6_serve 13 = .ok (.aload_n 0, 1) := by decide +kernel
theorem dX6_serve_14 : decode cX6_serve 14 = .ok (.getfield 29, 3) := by decide +kernel
theorem dX6_serve_17 : decode cX6_serve 17 = .ok (.iload_n 2, 1) := by decide +kernel
theorem dX6_serve_18 : decode cX6_serve 18 = .ok (.aaload, 1) := by decide +kernel
theorem dX6_serve_19 : decode cX6_serve 19 = .ok (.astore_n 3, 1) := by decide +kernel
theorem dX6_serve_20 : decode cX6_serve 20 = .ok (.aload_n 3, 1) := by decide +kernel
theorem dX6_serve_21 : decode cX6_serve 21 = .ok (.ifnull 32, 3) := by decide +kernel
theorem dX6_serve_24 : decode cX6_serve 24 = .ok (.aload_n 3, 1) := by decide +kernel
theorem dX6_serve_25 : decode cX6_serve 25 = .ok (.getfield 207, 3) := by decide +kernel
theorem dX6_serve_28 : decode cX6_serve 28 = .ok (.istore 4, 2) := by decide +kernel
theorem dX6_serve_30 : decode cX6_serve 30 = .ok (.iload 4, 2) := by decide +kernel
theorem dX6_serve_32 : decode cX6_serve 32 = .ok (.iconst 3, 1) := by decide +kernel
theorem dX6_serve_33 : decode cX6_serve 33 = .ok (.if_icmp .ge 20, 3) := by decide +kernel
theorem dX6_serve_36 : decode cX6_serve 36 = .ok (.iload_n 1, 1) := by decide +kernel
theorem dX6_serve_37 : decode cX6_serve 37 = .ok (.aload_n 0, 1) := by decide +kernel
theorem dX6_serve_38 : decode cX6_serve 38 = .ok (.aload_n 3, 1) := by decide +kernel
theorem dX6_serve_39 : decode cX6_serve 39 = .ok (.iload_n 2, 1) := by decide +kernel
theorem dX6_serve_40 : decode cX6_serve 40 = .ok (.iload 4, 2) := by decide +kernel
theorem dX6_serve_42 : decode cX6_serve 42 = .ok (.invokevirtual 208, 3) := by decide +kernel
theorem dX6_serve_45 : decode cX6_serve 45 = .ok (.iadd, 1) := by decide +kernel
theorem dX6_serve_46 : decode cX6_serve 46 = .ok (.istore_n 1, 1) := by decide +kernel
theorem dX6_serve_47 : decode cX6_serve 47 = .ok (.iinc 4 1, 3) := by decide +kernel
theorem dX6_serve_50 : decode cX6_serve 50 = .ok (.goto (-20), 3) := by decide +kernel
theorem dX6_serve_53 : decode cX6_serve 53 = .ok (.iinc 2 1, 3) := by decide +kernel
theorem dX6_serve_56 : decode cX6_serve 56 = .ok (.goto (-52), 3) := by decide +kernel
theorem dX6_serve_59 : decode cX6_serve 59 = .ok (.iload_n 1, 1) := by decide +kernel
theorem dX6_serve_60 : decode cX6_serve 60 = .ok (.ireturn, 1) := by decide +kernel
theorem dX6_end_0 : decode cX6_end 0 = .ok (.aload_n 0, 1) := by decide +kernel
theorem dX6_end_1 : decode cX6_end 1 = .ok (.iload_n 1, 1) := by decide +kernel
theorem dX6_end_2 : decode cX6_end 2 = .ok (.invokevirtual 212, 3) := by decide +kernel
theorem dX6_end_5 : decode cX6_end 5 = .ok (.astore_n 2, 1) := by decide +kernel
theorem dX6_end_6 : decode cX6_end 6 = .ok (.aload_n 2, 1) := by decide +kernel
theorem dX6_end_7 : decode cX6_end 7 = .ok (.getfield 216, 3) := by decide +kernel
theorem dX6_end_10 : decode cX6_end 10 = .ok (.ifCond .eq 13, 3) := by decide +kernel
theorem dX6_end_13 : decode cX6_end 13 = .ok (.new 77, 3) := by decide +kernel
theorem dX6_end_16 : decode cX6_end 16 = .ok (.dup, 1) := by decide +kernel
theorem dX6_end_17 : decode cX6_end 17 = .ok (.ldc 219, 2) := by decide +kernel
theorem dX6_end_19 : decode cX6_end 19 = .ok (.invokespecial 81, 3) := by decide +kernel
theorem dX6_end_22 : decode cX6_end 22 = .ok (.athrow, 1) := by decide +kernel
theorem dX6_end_23 : decode cX6_end 23 = .ok (.aload_n 2, 1) := by decide +kernel
theorem dX6_end_24 : decode cX6_end 24 = .ok (.iconst 1, 1) := by decide +kernel
theorem dX6_end_25 : decode cX6_end 25 = .ok (.putfield 216, 3) := by decide +kernel
theorem dX6_end_28 : decode cX6_end 28 = .ok (.aload_n 0, 1) := by decide +kernel
theorem dX6_end_29 : decode cX6_end 29 = .ok (.getfield 23, 3) := by decide +kernel
theorem dX6_end_32 : decode cX6_end 32 = .ok (.astore_n 3, 1) := by decide +kernel
theorem dX6_end_33 : decode cX6_end 33 = .ok (.aload_n 3, 1) := by decide +kernel
theorem dX6_end_34 : decode cX6_end 34 = .ok (.arraylength, 1) := by decide +kernel
theorem dX6_end_35 : decode cX6_end 35 = .ok (.istore 4, 2) := by decide +kernel
theorem dX6_end_37 : decode cX6_end 37 = .ok (.iconst 0, 1) := by decide +kernel
theorem dX6_end_38 : decode cX6_end 38 = .ok (.istore 5, 2) := by decide +kernel
theorem dX6_end_40 : decode cX6_end 40 = .ok (.iload 5, 2) := by decide +kernel
theorem dX6_end_42 : decode cX6_end 42 = .ok (.iload 4, 2) := by decide +kernel
theorem dX6_end_44 : decode cX6_end 44 = .ok (.if_icmp .ge 41, 3) := by decide +kernel
theorem dX6_end_47 : decode cX6_end 47 = .ok (.aload_n 3, 1) := by decide +kernel
theorem dX6_end_48 : decode cX6_end 48 = .ok (.iload 5, 2) := by decide +kernel
theorem dX6_end_50 : decode cX6_end 50 = .ok (.aaload, 1) := by decide +kernel
theorem dX6_end_51 : decode cX6_end 51 = .ok (.astore 6, 2) := by decide +kernel
theorem dX6_end_53 : decode cX6_end 53 = .ok (.aload 6, 2) := by decide +kernel
theorem dX6_end_55 : decode cX6_end 55 = .ok (.ifnull 24, 3) := by decide +kernel
theorem dX6_end_58 : decode cX6_end 58 = .ok (.aload 6, 2) := by decide +kernel
theorem dX6_end_60 : decode cX6_end 60 = .ok (.getfield 160, 3) := by decide +kernel
theorem dX6_end_63 : decode cX6_end 63 = .ok (.iload_n 1, 1) := by decide +kernel
theorem dX6_end_64 : decode cX6_end 64 = .ok (.if_icmp .ne 15, 3) := by decide +kernel
theorem dX6_end_67 : decode cX6_end 67 = .ok (.aload 6, 2) := by decide +kernel
theorem dX6_end_69 : decode cX6_end 69 = .ok (.iconst (-1), 1) := by decide +kernel
theorem dX6_end_70 : decode cX6_end 70 = .ok (.putfield 160, 3) := by decide +kernel
theorem dX6_end_73 : decode cX6_end 73 = .ok (.aload 6, 2) := by decide +kernel
theorem dX6_end_75 : decode cX6_end 75 = .ok (.iconst 1, 1) := by decide +kernel
theorem dX6_end_76 : decode cX6_end 76 = .ok (.putfield 92, 3) := by decide +kernel
theorem dX6_end_79 : decode cX6_end 79 = .ok (.iinc 5 1, 3) := by decide +kernel
theorem dX6_end_82 : decode cX6_end 82 = .ok (.goto (-42), 3) := by decide +kernel
theorem dX6_end_85 : decode cX6_end 85 = .ok (.aload_n 2, 1) := by decide +kernel
theorem dX6_end_86 : decode cX6_end 86 = .ok (.getfield 221, 3) := by decide +kernel
theorem dX6_end_89 : decode cX6_end 89 = .ok (.ireturn, 1) := by decide +kernel
theorem dX6_bring_0 : decode cX6_bring 0 = .ok (.iload_n 1, 1) := by decide +kernel
theorem dX6_bring_1 : decode cX6_bring 1 = .ok (.invokestatic 74, 3) := by decide +kernel
theorem dX6_bring_4 : decode cX6_bring 4 = .ok (.aload_n 0, 1) := by decide +kernel
theorem dX6_bring_5 : decode cX6_bring 5 = .ok (.iload_n 1, 1) := by decide +kernel
theorem dX6_bring_6 : decode cX6_bring 6 = .ok (.invokevirtual 224, 3) := by decide +kernel
theorem dX6_bring_9 : decode cX6_bring 9 = .ok (.aload_n 0, 1) := by decide +kernel
theorem dX6_bring_10 : decode cX6_bring 10 = .ok (.getfield 36, 3) := by decide +kernel
theorem dX6_bring_13 : decode cX6_bring 13 = .ok (.getfield 227, 3) := by decide +kernel
theorem dX6_bring_16 : decode cX6_bring 16 = .ok (.ireturn, 1) := by decide +kernel
theorem dX6_brings_0 : decode cX6_brings 0 = .ok (.iload_n 1, 1) := by decide +kernel
theorem dX6_brings_1 : decode cX6_brings 1 = .ok (.invokestatic 74, 3) := by decide +kernel
theorem dX6_brings_4 : decode cX6_brings 4 = .ok (.iload_n 2, 1) := by decide +kernel
theorem dX6_brings_5 : decode cX6_brings 5 = .ok (.ifCond .ge 13, 3) := by decide +kernel
theorem dX6_brings_8 : decode cX6_brings 8 = .ok (.new 230, 3) := by decide +kernel
theorem dX6_brings_11 : decode cX6_brings 11 = .ok (.dup, 1) := by decide +kernel
theorem dX6_brings_12 : decode cX6_brings 12 = .ok (.ldc 232, 2) := by decide +kernel
theorem dX6_brings_14 : decode cX6_brings 14 = .ok (.invokespecial 234, 3) := by decide +kernel
theorem dX6_brings_17 : decode cX6_brings 17 = .ok (.athrow, 1) := by decide +kernel
theorem dX6_brings_18 : decode cX6_brings 18 = .ok (.aload_n 0, 1) := by decide +kernel
theorem dX6_brings_19 : decode cX6_brings 19 = .ok (.iload_n 1, 1) := by decide +kernel
theorem dX6_brings_20 : decode cX6_brings 20 = .ok (.invokevirtual 224, 3) := by decide +kernel
theorem dX6_brings_23 : decode cX6_brings 23 = .ok (.aload_n 0, 1) := by decide +kernel
theorem dX6_brings_24 : decode cX6_brings 24 = .ok (.getfield 36, 3) := by decide +kernel
theorem dX6_brings_27 : decode cX6_brings 27 = .ok (.iload_n 2, 1) := by decide +kernel
theorem dX6_brings_28 : decode cX6_brings 28 = .ok (.invokevirtual 235, 3) := by decide +kernel
theorem dX6_brings_31 : decode cX6_brings 31 = .ok (.ireturn, 1) := by decide +kernel
theorem dX6_boxIs_0 : decode cX6_boxIs 0 = .ok (.aload_n 0, 1) := by decide +kernel
theorem dX6_boxIs_1 : decode cX6_boxIs 1 = .ok (.iload_n 1, 1) := by decide +kernel
theorem dX6_boxIs_2 : decode cX6_boxIs 2 = .ok (.invokevirtual 84, 3) := by decide +kernel
theorem dX6_boxIs_5 : decode cX6_boxIs 5 = .ok (.astore_n 3, 1) := by decide +kernel
theorem dX6_boxIs_6 : decode cX6_boxIs 6 = .ok (.iload_n 2, 1) := by decide +kernel
theorem dX6_boxIs_7 : decode cX6_boxIs 7 = .ok (.tableswitch 111 0 7 #[45, 50, 55, 63, 71, 76, 88, 96], 45) := by decide +kernel
theorem dX6_boxIs_52 : decode cX6_boxIs 52 = .ok (.aload_n 3, 1) := by decide +kernel
theorem dX6_boxIs_53 : decode cX6_boxIs 53 = .ok (.getfield 125, 3) := by decide +kernel
theorem dX6_boxIs_56 : decode cX6_boxIs 56 = .ok (.ireturn, 1) := by decide +kernel
theorem dX6_boxIs_57 : decode cX6_boxIs 57 = .ok (.aload_n 3, 1) := by decide +kernel
theorem dX6_boxIs_58 : decode cX6_boxIs 58 = .ok (.getfield 136, 3) := by decide +kernel
theorem dX6_boxIs_61 : decode cX6_boxIs 61 = .ok (.ireturn, 1) := by decide +kernel
theorem dX6_boxIs_62 : decode cX6_boxIs 62 = .ok (.aload_n 3, 1) := by decide +kernel
theorem dX6_boxIs_63 : decode cX6_boxIs 63 = .ok (.invokevirtual 238, 3) := by decide +kernel
theorem dX6_boxIs_66 : decode cX6_boxIs 66 = .ok (.invokestatic 241, 3) := by decide +kernel
theorem dX6_boxIs_69 : decode cX6_boxIs 69 = .ok (.ireturn, 1) := by decide +kernel
theorem dX6_boxIs_70 : decode cX6_boxIs 70 = .ok (.aload_n 3, 1) := by decide +kernel
theorem dX6_boxIs_71 : decode cX6_boxIs 71 = .ok (.getfield 92, 3) := by decide +kernel
theorem dX6_boxIs_74 : decode cX6_boxIs 74 = .ok (.invokestatic 241, 3) := by decide +kernel
theorem dX6_boxIs_77 : decode cX6_boxIs 77 = .ok (.ireturn, 1) := by decide +kernel
theorem dX6_boxIs_78 : decode cX6_boxIs 78 = .ok (.aload_n 3, 1) := by decide +kernel
theorem dX6_boxIs_79 : decode cX6_boxIs 79 = .ok (.getfield 160, 3) := by decide +kernel
theorem dX6_boxIs_82 : decode cX6_boxIs 82 = .ok (.ireturn, 1) := by decide +kernel
theorem dX6_boxIs_83 : decode cX6_boxIs 83 = .ok (.aload_n 3, 1) := by decide +kernel
theorem dX6_boxIs_84 : decode cX6_boxIs 84 = .ok (.getfield 183, 3) := by decide +kernel
theorem dX6_boxIs_87 : decode cX6_boxIs 87 = .ok (.aload_n 0, 1) := by decide +kernel
theorem dX6_boxIs_88 : decode cX6_boxIs 88 = .ok (.getfield 17, 3) := by decide +kernel
theorem dX6_boxIs_91 : decode cX6_boxIs 91 = .ok (.invokevirtual 193, 3) := by decide +kernel
theorem dX6_boxIs_94 : decode cX6_boxIs 94 = .ok (.ireturn, 1) := by decide +kernel
theorem dX6_boxIs_95 : decode cX6_boxIs 95 = .ok (.aload_n 3, 1) := by decide +kernel
theorem dX6_boxIs_96 : decode cX6_boxIs 96 = .ok (.getfield 99, 3) := by decide +kernel
theorem dX6_boxIs_99 : decode cX6_boxIs 99 = .ok (.getfield 118, 3) := by decide +kernel
theorem dX6_boxIs_102 : decode cX6_boxIs 102 = .ok (.ireturn, 1) := by decide +kernel
theorem dX6_boxIs_103 : decode cX6_boxIs 103 = .ok (.aload_n 3, 1) := by decide +kernel
theorem dX6_boxIs_104 : decode cX6_boxIs 104 = .ok (.getfield 141, 3) := by decide +kernel
theorem dX6_boxIs_107 : decode cX6_boxIs 107 = .ok (.aload_n 0, 1) := by decide +kernel
theorem dX6_boxIs_108 : decode cX6_boxIs 108 = .ok (.getfield 47, 3) := by decide +kernel
theorem dX6_boxIs_111 : decode cX6_boxIs 111 = .ok (.invokevirtual 153, 3) := by decide +kernel
theorem dX6_boxIs_114 : decode cX6_boxIs 114 = .ok (.invokestatic 241, 3) := by decide +kernel
theorem dX6_boxIs_117 : decode cX6_boxIs 117 = .ok (.ireturn, 1) := by decide +kernel
theorem dX6_boxIs_118 : decode cX6_boxIs 118 = .ok (.new 60, 3) := by decide +kernel
theorem dX6_boxIs_121 : decode cX6_boxIs 121 = .ok (.dup, 1) := by decide +kernel
theorem dX6_boxIs_122 : decode cX6_boxIs 122 = .ok (.ldc 245, 2) := by decide +kernel
theorem dX6_boxIs_124 : decode cX6_boxIs 124 = .ok (.invokespecial 64, 3) := by decide +kernel
theorem dX6_boxIs_127 : decode cX6_boxIs 127 = .ok (.athrow, 1) := by decide +kernel
theorem dX6_lacks_0 : decode cX6_lacks 0 = .ok (.aload_n 0, 1) := by decide +kernel
theorem dX6_lacks_1 : decode cX6_lacks 1 = .ok (.iload_n 1, 1) := by decide +kernel
theorem dX6_lacks_2 : decode cX6_lacks 2 = .ok (.invokevirtual 212, 3) := by decide +kernel
theorem dX6_lacks_5 : decode cX6_lacks 5 = .ok (.invokevirtual 247, 3) := by decide +kernel
theorem dX6_lacks_8 : decode cX6_lacks 8 = .ok (.ireturn, 1) := by decide +kernel
theorem dX6_pass_0 : decode cX6_pass 0 = .ok (.iload_n 1, 1) := by decide +kernel
theorem dX6_pass_1 : decode cX6_pass 1 = .ok (.iconst 1, 1) := by decide +kernel
theorem dX6_pass_2 : decode cX6_pass 2 = .ok (.sipush 400, 3) := by decide +kernel
theorem dX6_pass_5 : decode cX6_pass 5 = .ok (.invokestatic 67, 3) := by decide +kernel
theorem dX6_pass_8 : decode cX6_pass 8 = .ok (.aload_n 0, 1) := by decide +kernel
theorem dX6_pass_9 : decode cX6_pass 9 = .ok (.getfield 47, 3) := by decide +kernel
theorem dX6_pass_12 : decode cX6_pass 12 = .ok (.iload_n 1, 1) := by decide +kernel
theorem dX6_pass_13 : decode cX6_pass 13 = .ok (.iadd, 1) := by decide +kernel
theorem dX6_pass_14 : decode cX6_pass 14 = .ok (.sipush 9999, 3) := by decide +kernel
theorem dX6_pass_17 : decode cX6_pass 17 = .ok (.if_icmp .le 13, 3) := by decide +kernel
theorem dX6_pass_20 : decode cX6_pass 20 = .ok (.new 77, 3) := by decide +kernel
theorem dX6_pass_23 : decode cX6_pass 23 = .ok (.dup, 1) := by decide +kernel
theorem dX6_pass_24 : decode cX6_pass 24 = .ok (.ldc 251, 2) := by decide +kernel
theorem dX6_pass_26 : decode cX6_pass 26 = .ok (.invokespecial 81, 3) := by decide +kernel
theorem dX6_pass_29 : decode cX6_pass 29 = .ok (.athrow, 1) := by decide +kernel
theorem dX6_pass_30 : decode cX6_pass 30 = .ok (.aload_n 0, 1) := by decide +kernel
theorem dX6_pass_31 : decode cX6_pass 31 = .ok (.dup, 1) := by decide +kernel
theorem dX6_pass_32 : decode cX6_pass 32 = .ok (.getfield 47, 3) := by decide +kernel
theorem dX6_pass_35 : decode cX6_pass 35 = .ok (.iload_n 1, 1) := by decide +kernel
theorem dX6_pass_36 : decode cX6_pass 36 = .ok (.iadd, 1) := by decide +kernel
theorem dX6_pass_37 : decode cX6_pass 37 = .ok (.putfield 47, 3) := by decide +kernel
theorem dX6_pass_40 : decode cX6_pass 40 = .ok (.aload_n 0, 1) := by decide +kernel
theorem dX6_pass_41 : decode cX6_pass 41 = .ok (.getfield 47, 3) := by decide +kernel
theorem dX6_pass_44 : decode cX6_pass 44 = .ok (.ireturn, 1) := by decide +kernel
theorem dX6_isPort_0 : decode cX6_isPort 0 = .ok (.iload_n 0, 1) := by decide +kernel
theorem dX6_isPort_1 : decode cX6_isPort 1 = .ok (.ifCond .lt 13, 3) := by decide +kernel
theorem dX6_isPort_4 : decode cX6_isPort 4 = .ok (.iload_n 0, 1) := by decide +kernel
theorem dX6_isPort_5 : decode cX6_isPort 5 = .ok (.bipush 6, 2) := by decide +kernel
theorem dX6_isPort_7 : decode cX6_isPort 7 = .ok (.if_icmp .ge 7, 3) := by decide +kernel
theorem dX6_isPort_10 : decode cX6_isPort 10 = .ok (.iconst 1, 1) := by decide +kernel
theorem dX6_isPort_11 : decode cX6_isPort 11 = .ok (.goto 4, 3) := by decide +kernel
theorem dX6_isPort_14 : decode cX6_isPort 14 = .ok (.iconst 0, 1) := by decide +kernel
theorem dX6_isPort_15 : decode cX6_isPort 15 = .ok (.ireturn, 1) := by decide +kernel
theorem dX6_isLessor_0 : decode cX6_isLessor 0 = .ok (.iload_n 0, 1) := by decide +kernel
theorem dX6_isLessor_1 : decode cX6_isLessor 1 = .ok (.ifCond .lt 12, 3) := by decide +kernel
theorem dX6_isLessor_4 : decode cX6_isLessor 4 = .ok (.iload_n 0, 1) := by decide +kernel
theorem dX6_isLessor_5 : decode cX6_isLessor 5 = .ok (.iconst 3, 1) := by decide +kernel
theorem dX6_isLessor_6 : decode cX6_isLessor 6 = .ok (.if_icmp .ge 7, 3) := by decide +kernel
theorem dX6_isLessor_9 : decode cX6_isLessor 9 = .ok (.iconst 1, 1) := by decide +kernel
theorem dX6_isLessor_10 : decode cX6_isLessor 10 = .ok (.goto 4, 3) := by decide +kernel
theorem dX6_isLessor_13 : decode cX6_isLessor 13 = .ok (.iconst 0, 1) := by decide +kernel
theorem dX6_isLessor_14 : decode cX6_isLessor 14 = .ok (.ireturn, 1) := by decide +kernel
theorem dX6_needPort_0 : decode cX6_needPort 0 = .ok (.iload_n 0, 1) := by decide +kernel
theorem dX6_needPort_1 : decode cX6_needPort 1 = .ok (.invokestatic 128, 3) := by decide +kernel
theorem dX6_needPort_4 : decode cX6_needPort 4 = .ok (.ifCond .ne 13, 3) := by decide +kernel
theorem dX6_needPort_7 : decode cX6_needPort 7 = .ok (.new 230, 3) := by decide +kernel
theorem dX6_needPort_10 : decode cX6_needPort 10 = .ok (.dup, 1) := by decide +kernel
theorem dX6_needPort_11 : decode cX6_needPort 11 = .ok (.ldc 253, 2) := by decide +kernel
theorem dX6_needPort_13 : decode cX6_needPort 13 = .ok (.invokespecial 234, 3) := by decide +kernel
theorem dX6_needPort_16 : decode cX6_needPort 16 = .ok (.athrow, 1) := by decide +kernel
theorem dX6_needPort_17 : decode cX6_needPort 17 = .ok (.return_, 1) := by decide +kernel
theorem dX6_needLessor_0 : decode cX6_needLessor 0 = .ok (.iload_n 0, 1) := by decide +kernel
theorem dX6_needLessor_1 : decode cX6_needLessor 1 = .ok (.invokestatic 255, 3) := by decide +kernel
theorem dX6_needLessor_4 : decode cX6_needLessor 4 = .ok (.ifCond .ne 14, 3) := by decide +kernel
theorem dX6_needLessor_7 : decode cX6_needLessor 7 = .ok (.new 230, 3) := by decide +kernel
theorem dX6_needLessor_10 : decode cX6_needLessor 10 = .ok (.dup, 1) := by decide +kernel
theorem dX6_needLessor_11 : decode cX6_needLessor 11 = .ok (.ldc_w 258, 3) := by decide +kernel
theorem dX6_needLessor_14 : decode cX6_needLessor 14 = .ok (.invokespecial 234, 3) := by decide +kernel
theorem dX6_needLessor_17 : decode cX6_needLessor 17 = .ok (.athrow, 1) := by decide +kernel
theorem dX6_needLessor_18 : decode cX6_needLessor 18 = .ok (.return_, 1) := by decide +kernel
theorem dX6_needCode_0 : decode cX6_needCode 0 = .ok (.iload_n 0, 1) := by decide +kernel
theorem dX6_needCode_1 : decode cX6_needCode 1 = .ok (.ifCond .lt 8, 3) := by decide +kernel
theorem dX6_needCode_4 : decode cX6_needCode 4 = .ok (.iload_n 0, 1) := by decide +kernel
theorem dX6_needCode_5 : decode cX6_needCode 5 = .ok (.iconst 5, 1) := by decide +kernel
theorem dX6_needCode_6 : decode cX6_needCode 6 = .ok (.if_icmp .lt 14, 3) := by decide +kernel
theorem dX6_needCode_9 : decode cX6_needCode 9 = .ok (.new 230, 3) := by decide +kernel
theorem dX6_needCode_12 : decode cX6_needCode 12 = .ok (.dup, 1) := by decide +kernel
theorem dX6_needCode_13 : decode cX6_needCode 13 = .ok (.ldc_w 260, 3) := by decide +kernel
theorem dX6_needCode_16 : decode cX6_needCode 16 = .ok (.invokespecial 234, 3) := by decide +kernel
theorem dX6_needCode_19 : decode cX6_needCode 19 = .ok (.athrow, 1) := by decide +kernel
theorem dX6_needCode_20 : decode cX6_needCode 20 = .ok (.return_, 1) := by decide +kernel
theorem dX6_needKind_0 : decode cX6_needKind 0 = .ok (.iload_n 0, 1) := by decide +kernel
theorem dX6_needKind_1 : decode cX6_needKind 1 = .ok (.iconst 0, 1) := by decide +kernel
theorem dX6_needKind_2 : decode cX6_needKind 2 = .ok (.iconst 2, 1) := by decide +kernel
theorem dX6_needKind_3 : decode cX6_needKind 3 = .ok (.invokestatic 67, 3) := by decide +kernel
theorem dX6_needKind_6 : decode cX6_needKind 6 = .ok (.return_, 1) := by decide +kernel
theorem dX6_needRange_0 : decode cX6_needRange 0 = .ok (.iload_n 0, 1) := by decide +kernel
theorem dX6_needRange_1 : decode cX6_needRange 1 = .ok (.iload_n 1, 1) := by decide +kernel
theorem dX6_needRange_2 : decode cX6_needRange 2 = .ok (.if_icmp .lt 8, 3) := by decide +kernel
theorem dX6_needRange_5 : decode cX6_needRange 5 = .ok (.iload_n 0, 1) := by decide +kernel
theorem dX6_needRange_6 : decode cX6_needRange 6 = .ok (.iload_n 2, 1) := by decide +kernel
theorem dX6_needRange_7 : decode cX6_needRange 7 = .ok (.if_icmp .le 14, 3) := by decide +kernel
theorem dX6_needRange_10 : decode cX6_needRange 10 = .ok (.new 60, 3) := by decide +kernel
theorem dX6_needRange_13 : decode cX6_needRange 13 = .ok (.dup, 1) := by decide +kernel
theorem dX6_needRange_14 : decode cX6_needRange 14 = .ok (.ldc_w 262, 3) := by decide +kernel
theorem dX6_needRange_17 : decode cX6_needRange 17 = .ok (.invokespecial 64, 3) := by decide +kernel
theorem dX6_needRange_20 : decode cX6_needRange 20 = .ok (.athrow, 1) := by decide +kernel
theorem dX6_needRange_21 : decode cX6_needRange 21 = .ok (.return_, 1) := by decide +kernel
theorem dX6_needNotGone_0 : decode cX6_needNotGone 0 = .ok (.aload_n 0, 1) := by decide +kernel
theorem dX6_needNotGone_1 : decode cX6_needNotGone 1 = .ok (.invokevirtual 238, 3) := by decide +kernel
theorem dX6_needNotGone_4 : decode cX6_needNotGone 4 = .ok (.ifCond .eq 14, 3) := by decide +kernel
theorem dX6_needNotGone_7 : decode cX6_needNotGone 7 = .ok (.new 77, 3) := by decide +kernel
theorem dX6_needNotGone_10 : decode cX6_needNotGone 10 = .ok (.dup, 1) := by decide +kernel
theorem dX6_needNotGone_11 : decode cX6_needNotGone 11 = .ok (.ldc_w 264, 3) := by decide +kernel
theorem dX6_needNotGone_14 : decode cX6_needNotGone 14 = .ok (.invokespecial 81, 3) := by decide +kernel
theorem dX6_needNotGone_17 : decode cX6_needNotGone 17 = .ok (.athrow, 1) := by decide +kernel
theorem dX6_needNotGone_18 : decode cX6_needNotGone 18 = .ok (.return_, 1) := by decide +kernel
theorem dX6_boxAt_0 : decode cX6_boxAt 0 = .ok (.iload_n 1, 1) := by decide +kernel
theorem dX6_boxAt_1 : decode cX6_boxAt 1 = .ok (.ifCond .lt 21, 3) := by decide +kernel
theorem dX6_boxAt_4 : decode cX6_boxAt 4 = .ok (.iload_n 1, 1) := by decide +kernel
theorem dX6_boxAt_5 : decode cX6_boxAt 5 = .ok (.aload_n 0, 1) := by decide +kernel
theorem dX6_boxAt_6 : decode cX6_boxAt 6 = .ok (.getfield 23, 3) := by decide +kernel
theorem dX6_boxAt_9 : decode cX6_boxAt 9 = .ok (.arraylength, 1) := by decide +kernel
theorem dX6_boxAt_10 : decode cX6_boxAt 10 = .ok (.if_icmp .ge 12, 3) := by decide +kernel
theorem dX6_boxAt_13 : decode cX6_boxAt 13 = .ok (.aload_n 0, 1) := by decide +kernel
theorem dX6_boxAt_14 : decode cX6_boxAt 14 = .ok (.getfield 23, 3) := by decide +kernel
theorem dX6_boxAt_17 : decode cX6_boxAt 17 = .ok (.iload_n 1, 1) := by decide +kernel
theorem dX6_boxAt_18 : decode cX6_boxAt 18 = .ok (.aaload, 1) := by decide +kernel
theorem dX6_boxAt_19 : decode cX6_boxAt 19 = .ok (.goto 4, 3) := by decide +kernel
theorem dX6_boxAt_22 : decode cX6_boxAt 22 = .ok (.aconst_null, 1) := by decide +kernel
theorem dX6_boxAt_23 : decode cX6_boxAt 23 = .ok (.astore_n 2, 1) := by decide +kernel
theorem dX6_boxAt_24 : decode cX6_boxAt 24 = .ok (.aload_n 2, 1) := by decide +kernel
theorem dX6_boxAt_25 : decode cX6_boxAt 25 = .ok (.ifnonnull 14, 3) := by decide +kernel
theorem dX6_boxAt_28 : decode cX6_boxAt 28 = .ok (.new 230, 3) := by decide +kernel
theorem dX6_boxAt_31 : decode cX6_boxAt 31 = .ok (.dup, 1) := by decide +kernel
theorem dX6_boxAt_32 : decode cX6_boxAt 32 = .ok (.ldc_w 266, 3) := by decide +kernel
theorem dX6_boxAt_35 : decode cX6_boxAt 35 = .ok (.invokespecial 234, 3) := by decide +kernel
theorem dX6_boxAt_38 : decode cX6_boxAt 38 = .ok (.athrow, 1) := by decide +kernel
theorem dX6_boxAt_39 : decode cX6_boxAt 39 = .ok (.aload_n 2, 1) := by decide +kernel
theorem dX6_boxAt_40 : decode cX6_boxAt 40 = .ok (.areturn, 1) := by decide +kernel
theorem dX6_bookingAt_0 : decode cX6_bookingAt 0 = .ok (.iload_n 1, 1) := by decide +kernel
theorem dX6_bookingAt_1 : decode cX6_bookingAt 1 = .ok (.ifCond .lt 21, 3) := by decide +kernel
theorem dX6_bookingAt_4 : decode cX6_bookingAt 4 = .ok (.iload_n 1, 1) := by decide +kernel
theorem dX6_bookingAt_5 : decode cX6_bookingAt 5 = .ok (.aload_n 0, 1) := by decide +kernel
theorem dX6_bookingAt_6 : decode cX6_bookingAt 6 = .ok (.getfield 29, 3) := by decide +kernel
theorem dX6_bookingAt_9 : decode cX6_bookingAt 9 = .ok (.arraylength, 1) := by decide +kernel
theorem dX6_bookingAt_10 : decode cX6_bookingAt 10 = .ok (.if_icmp .ge 12, 3) := by decide +kernel
theorem dX6_bookingAt_13 : decode cX6_bookingAt 13 = .ok (.aload_n 0, 1) := by decide +kernel
theorem dX6_bookingAt_14 : decode cX6_bookingAt 14 = .ok (.getfield 29, 3) := by decide +kernel
theorem dX6_bookingAt_17 : decode cX6_bookingAt 17 = .ok (.iload_n 1, 1) := by decide +kernel
theorem dX6_bookingAt_18 : decode cX6_bookingAt 18 = .ok (.aaload, 1) := by decide +kernel
theorem dX6_bookingAt_19 : decode cX6_bookingAt 19 = .ok (.goto 4, 3) := by decide +kernel
theorem dX6_bookingAt_22 : decode cX6_bookingAt 22 = .ok (.aconst_null, 1) := by decide +kernel
theorem dX6_bookingAt_23 : decode cX6_bookingAt 23 = .ok (.astore_n 2, 1) := by decide +kernel
theorem dX6_bookingAt_24 : decode cX6_bookingAt 24 = .ok (.aload_n 2, 1) := by decide +kernel
theorem dX6_bookingAt_25 : decode cX6_bookingAt 25 = .ok (.ifnonnull 14, 3) := by decide +kernel
theorem dX6_bookingAt_28 : decode cX6_bookingAt 28 = .ok (.new 230, 3) := by decide +kernel
theorem dX6_bookingAt_31 : decode cX6_bookingAt 31 = .ok (.dup, 1) := by decide +kernel
theorem dX6_bookingAt_32 : decode cX6_bookingAt 32 = .ok (.ldc_w 268, 3) := by decide +kernel
theorem dX6_bookingAt_35 : decode cX6_bookingAt 35 = .ok (.invokespecial 234, 3) := by decide +kernel
theorem dX6_bookingAt_38 : decode cX6_bookingAt 38 = .ok (.athrow, 1) := by decide +kernel
theorem dX6_bookingAt_39 : decode cX6_bookingAt 39 = .ok (.aload_n 2, 1) := by decide +kernel
theorem dX6_bookingAt_40 : decode cX6_bookingAt 40 = .ok (.areturn, 1) := by decide +kernel
theorem dX6_asNumber_0 : decode cX6_asNumber 0 = .ok (.iload_n 0, 1) := by decide +kernel
theorem dX6_asNumber_1 : decode cX6_asNumber 1 = .ok (.ifCond .eq 7, 3) := by decide +kernel
theorem dX6_asNumber_4 : decode cX6_asNumber 4 = .ok (.iconst 1, 1) := by decide +kernel
theorem dX6_asNumber_5 : decode cX6_asNumber 5 = .ok (.goto 4, 3) := by decide +kernel
theorem dX6_asNumber_8 : decode cX6_asNumber 8 = .ok (.iconst 0, 1) := by decide +kernel
theorem dX6_asNumber_9 : decode cX6_asNumber 9 = .ok (.ireturn, 1) := by decide +kernel
theorem dX6_quotaLeft_0 : decode cX6_quotaLeft 0 = .ok (.iload_n 1, 1) := by decide +kernel
theorem dX6_quotaLeft_1 : decode cX6_quotaLeft 1 = .ok (.invokestatic 255, 3) := by decide +kernel
theorem dX6_quotaLeft_4 : decode cX6_quotaLeft 4 = .ok (.ifCond .eq 10, 3) := by decide +kernel
theorem dX6_quotaLeft_7 : decode cX6_quotaLeft 7 = .ok (.iload_n 2, 1) := by decide +kernel
theorem dX6_quotaLeft_8 : decode cX6_quotaLeft 8 = .ok (.invokestatic 128, 3) := by decide +kernel
theorem dX6_quotaLeft_11 : decode cX6_quotaLeft 11 = .ok (.ifCond .ne 5, 3) := by decide +kernel
theorem dX6_quotaLeft_14 : decode cX6_quotaLeft 14 = .ok (.iconst 0, 1) := by decide +kernel
theorem dX6_quotaLeft_15 : decode cX6_quotaLeft 15 = .ok (.ireturn, 1) := by decide +kernel
theorem dX6_quotaLeft_16 : decode cX6_quotaLeft 16 = .ok (.iconst 0, 1) := by decide +kernel
theorem dX6_quotaLeft_17 : decode cX6_quotaLeft 17 = .ok (.istore_n 3, 1) := by decide +kernel
theorem dX6_quotaLeft_18 : decode cX6_quotaLeft 18 = .ok (.aload_n 0, 1) := by decide +kernel
theorem dX6_quotaLeft_19 : decode cX6_quotaLeft 19 = .ok (.getfield 23, 3) := by decide +kernel
theorem dX6_quotaLeft_22 : decode cX6_quotaLeft 22 = .ok (.astore 4, 2) := by decide +kernel
theorem dX6_quotaLeft_24 : decode cX6_quotaLeft 24 = .ok (.aload 4, 2) := by decide +kernel
theorem dX6_quotaLeft_26 : decode cX6_quotaLeft 26 = .ok (.arraylength, 1) := by decide +kernel
theorem dX6_quotaLeft_27 : decode cX6_quotaLeft 27 = .ok (.istore 5, 2) := by decide +kernel
theorem dX6_quotaLeft_29 : decode cX6_quotaLeft 29 = .ok (.iconst 0, 1) := by decide +kernel
theorem dX6_quotaLeft_30 : decode cX6_quotaLeft 30 = .ok (.istore 6, 2) := by decide +kernel
theorem dX6_quotaLeft_32 : decode cX6_quotaLeft 32 = .ok (.iload 6, 2) := by decide +kernel
theorem dX6_quotaLeft_34 : decode cX6_quotaLeft 34 = .ok (.iload 5, 2) := by decide +kernel
theorem dX6_quotaLeft_36 : decode cX6_quotaLeft 36 = .ok (.if_icmp .ge 68, 3) := by decide +kernel
theorem dX6_quotaLeft_39 : decode cX6_quotaLeft 39 = .ok (.aload 4, 2) := by decide +kernel
theorem dX6_quotaLeft_41 : decode cX6_quotaLeft 41 = .ok (.iload 6, 2) := by decide +kernel
theorem dX6_quotaLeft_43 : decode cX6_quotaLeft 43 = .ok (.aaload, 1) := by decide +kernel
theorem dX6_quotaLeft_44 : decode cX6_quotaLeft 44 = .ok (.astore 7, 2) := by decide +kernel
theorem dX6_quotaLeft_46 : decode cX6_quotaLeft 46 = .ok (.aload 7, 2) := by decide +kernel
theorem dX6_quotaLeft_48 : decode cX6_quotaLeft 48 = .ok (.ifnull 50, 3) := by decide +kernel
theorem dX6_quotaLeft_51 : decode cX6_quotaLeft 51 = .ok (.aload 7, 2) := by decide +kernel
theorem dX6_quotaLeft_53 : decode cX6_quotaLeft 53 = .ok (.invokevirtual 238, 3) := by decide +kernel
theorem dX6_quotaLeft_56 : decode cX6_quotaLeft 56 = .ok (.ifCond .eq 42, 3) := by decide +kernel
theorem dX6_quotaLeft_59 : decode cX6_quotaLeft 59 = .ok (.aload 7, 2) := by decide +kernel
theorem dX6_quotaLeft_61 : decode cX6_quotaLeft 61 = .ok (.getfield 136, 3) := by decide +kernel
theorem dX6_quotaLeft_64 : decode cX6_quotaLeft 64 = .ok (.iload_n 1, 1) := by decide +kernel
theorem dX6_quotaLeft_65 : decode cX6_quotaLeft 65 = .ok (.if_icmp .ne 33, 3) := by decide +kernel
theorem dX6_quotaLeft_68 : decode cX6_quotaLeft 68 = .ok (.aload 7, 2) := by decide +kernel
theorem dX6_quotaLeft_70 : decode cX6_quotaLeft 70 = .ok (.getfield 177, 3) := by decide +kernel
theorem dX6_quotaLeft_73 : decode cX6_quotaLeft 73 = .ok (.iload_n 2, 1) := by decide +kernel
theorem dX6_quotaLeft_74 : decode cX6_quotaLeft 74 = .ok (.if_icmp .ne 24, 3) := by decide +kernel
theorem dX6_quotaLeft_77 : decode cX6_quotaLeft 77 = .ok (.aload 7, 2) := by decide +kernel
theorem dX6_quotaLeft_79 : decode cX6_quotaLeft 79 = .ok (.getfield 174, 3) := by decide +kernel
theorem dX6_quotaLeft_82 : decode cX6_quotaLeft 82 = .ok (.bipush 30, 2) := by decide +kernel
theorem dX6_quotaLeft_84 : decode cX6_quotaLeft 84 = .ok (.idiv, 1) := by decide +kernel
theorem dX6_quotaLeft_85 : decode cX6_quotaLeft 85 = .ok (.aload_n 0, 1) := by decide +kernel
theorem dX6_quotaLeft_86 : decode cX6_quotaLeft 86 = .ok (.getfield 47, 3) := by decide +kernel
theorem dX6_quotaLeft_89 : decode cX6_quotaLeft 89 = .ok (.bipush 30, 2) := by decide +kernel
theorem dX6_quotaLeft_91 : decode cX6_quotaLeft 91 = .ok (.idiv, 1) := by decide +kernel
theorem dX6_quotaLeft_92 : decode cX6_quotaLeft 92 = .ok (.if_icmp .ne 6, 3) := by decide +kernel
theorem dX6_quotaLeft_95 : decode cX6_quotaLeft 95 = .ok (.iinc 3 1, 3) := by decide +kernel
theorem dX6_quotaLeft_98 : decode cX6_quotaLeft 98 = .ok (.iinc 6 1, 3) := by decide +kernel
theorem dX6_quotaLeft_101 : decode cX6_quotaLeft 101 = .ok (.goto (-69), 3) := by decide +kernel
theorem dX6_quotaLeft_104 : decode cX6_quotaLeft 104 = .ok (.aload_n 0, 1) := by decide +kernel
theorem dX6_quotaLeft_105 : decode cX6_quotaLeft 105 = .ok (.getfield 14, 3) := by decide +kernel
theorem dX6_quotaLeft_108 : decode cX6_quotaLeft 108 = .ok (.iload_n 1, 1) := by decide +kernel
theorem dX6_quotaLeft_109 : decode cX6_quotaLeft 109 = .ok (.aaload, 1) := by decide +kernel
theorem dX6_quotaLeft_110 : decode cX6_quotaLeft 110 = .ok (.iload_n 2, 1) := by decide +kernel
theorem dX6_quotaLeft_111 : decode cX6_quotaLeft 111 = .ok (.iaload, 1) := by decide +kernel
theorem dX6_quotaLeft_112 : decode cX6_quotaLeft 112 = .ok (.iload_n 3, 1) := by decide +kernel
theorem dX6_quotaLeft_113 : decode cX6_quotaLeft 113 = .ok (.isub, 1) := by decide +kernel
theorem dX6_quotaLeft_114 : decode cX6_quotaLeft 114 = .ok (.ireturn, 1) := by decide +kernel
theorem dX6_giveBoxes_0 : decode cX6_giveBoxes 0 = .ok (.iconst 0, 1) := by decide +kernel
theorem dX6_giveBoxes_1 : decode cX6_giveBoxes 1 = .ok (.istore 4, 2) := by decide +kernel
theorem dX6_giveBoxes_3 : decode cX6_giveBoxes 3 = .ok (.aload_n 0, 1) := by decide +kernel
theorem dX6_giveBoxes_4 : decode cX6_giveBoxes 4 = .ok (.getfield 23, 3) := by decide +kernel
theorem dX6_giveBoxes_7 : decode cX6_giveBoxes 7 = .ok (.astore 5, 2) := by decide +kernel
theorem dX6_giveBoxes_9 : decode cX6_giveBoxes 9 = .ok (.aload 5, 2) := by decide +kernel
theorem dX6_giveBoxes_11 : decode cX6_giveBoxes 11 = .ok (.arraylength, 1) := by decide +kernel
theorem dX6_giveBoxes_12 : decode cX6_giveBoxes 12 = .ok (.istore 6, 2) := by decide +kernel
theorem dX6_giveBoxes_14 : decode cX6_giveBoxes 14 = .ok (.iconst 0, 1) := by decide +kernel
theorem dX6_giveBoxes_15 : decode cX6_giveBoxes 15 = .ok (.istore 7, 2) := by decide +kernel
theorem dX6_giveBoxes_17 : decode cX6_giveBoxes 17 = .ok (.iload 7, 2) := by decide +kernel
theorem dX6_giveBoxes_19 : decode cX6_giveBoxes 19 = .ok (.iload 6, 2) := by decide +kernel
theorem dX6_giveBoxes_21 : decode cX6_giveBoxes 21 = .ok (.if_icmp .ge 87, 3) := by decide +kernel
theorem dX6_giveBoxes_24 : decode cX6_giveBoxes 24 = .ok (.aload 5, 2) := by decide +kernel
theorem dX6_giveBoxes_26 : decode cX6_giveBoxes 26 = .ok (.iload 7, 2) := by decide +kernel
theorem dX6_giveBoxes_28 : decode cX6_giveBoxes 28 = .ok (.aaload, 1) := by decide +kernel
theorem dX6_giveBoxes_29 : decode cX6_giveBoxes 29 = .ok (.astore 8, 2) := by decide +kernel
theorem dX6_giveBoxes_31 : decode cX6_giveBoxes 31 = .ok (.aload_n 1, 1) := by decide +kernel
theorem dX6_giveBoxes_32 : decode cX6_giveBoxes 32 = .ok (.invokevirtual 247, 3) := by decide +kernel
theorem dX6_giveBoxes_35 : decode cX6_giveBoxes 35 = .ok (.ifCond .gt 6, 3) := by decide +kernel
theorem dX6_giveBoxes_38 : decode cX6_giveBoxes 38 = .ok (.iload 4, 2) := by decide +kernel
theorem dX6_giveBoxes_40 : decode cX6_giveBoxes 40 = .ok (.ireturn, 1) := by decide +kernel
theorem dX6_giveBoxes_41 : decode cX6_giveBoxes 41 = .ok (.aload 8, 2) := by decide +kernel
theorem dX6_giveBoxes_43 : decode cX6_giveBoxes 43 = .ok (.ifnull 59, 3) := by decide +kernel
theorem dX6_giveBoxes_46 : decode cX6_giveBoxes 46 = .ok (.aload 8, 2) := by decide +kernel
theorem dX6_giveBoxes_48 : decode cX6_giveBoxes 48 = .ok (.getfield 125, 3) := by decide +kernel
theorem dX6_giveBoxes_51 : decode cX6_giveBoxes 51 = .ok (.iload_n 3, 1) := by decide +kernel
theorem dX6_giveBoxes_52 : decode cX6_giveBoxes 52 = .ok (.if_icmp .ne 50, 3) := by decide +kernel
theorem dX6_giveBoxes_55 : decode cX6_giveBoxes 55 = .ok (.aload_n 0, 1) := by decide +kernel
theorem dX6_giveBoxes_56 : decode cX6_giveBoxes 56 = .ok (.aload 8, 2) := by decide +kernel
theorem dX6_giveBoxes_58 : decode cX6_giveBoxes 58 = .ok (.invokevirtual 270, 3) := by decide +kernel
theorem dX6_giveBoxes_61 : decode cX6_giveBoxes 61 = .ok (.ifCond .eq 41, 3) := by decide +kernel
theorem dX6_giveBoxes_64 : decode cX6_giveBoxes 64 = .ok (.aload 8, 2) := by decide +kernel
theorem dX6_giveBoxes_66 : decode cX6_giveBoxes 66 = .ok (.getfield 99, 3) := by decide +kernel
theorem dX6_giveBoxes_69 : decode cX6_giveBoxes 69 = .ok (.aload_n 0, 1) := by decide +kernel
theorem dX6_giveBoxes_70 : decode cX6_giveBoxes 70 = .ok (.getfield 47, 3) := by decide +kernel
theorem dX6_giveBoxes_73 : decode cX6_giveBoxes 73 = .ok (.invokevirtual 121, 3) := by decide +kernel
theorem dX6_giveBoxes_76 : decode cX6_giveBoxes 76 = .ok (.aload_n 1, 1) := by decide +kernel
theorem dX6_giveBoxes_77 : decode cX6_giveBoxes 77 = .ok (.getfield 274, 3) := by decide +kernel
theorem dX6_giveBoxes_80 : decode cX6_giveBoxes 80 = .ok (.if_icmp .ne 22, 3) := by decide +kernel
theorem dX6_giveBoxes_83 : decode cX6_giveBoxes 83 = .ok (.aload 8, 2) := by decide +kernel
theorem dX6_giveBoxes_85 : decode cX6_giveBoxes 85 = .ok (.iload_n 2, 1) := by decide +kernel
theorem dX6_giveBoxes_86 : decode cX6_giveBoxes 86 = .ok (.putfield 160, 3) := by decide +kernel
theorem dX6_giveBoxes_89 : decode cX6_giveBoxes 89 = .ok (.aload_n 1, 1) := by decide +kernel
theorem dX6_giveBoxes_90 : decode cX6_giveBoxes 90 = .ok (.dup, 1) := by decide +kernel
theorem dX6_giveBoxes_91 : decode cX6_giveBoxes 91 = .ok (.getfield 221, 3) := by decide +kernel
theorem dX6_giveBoxes_94 : decode cX6_giveBoxes 94 = .ok (.iconst 1, 1) := by decide +kernel
theorem dX6_giveBoxes_95 : decode cX6_giveBoxes 95 = .ok (.iadd, 1) := by decide +kernel
theorem dX6_giveBoxes_96 : decode cX6_giveBoxes 96 = .ok (.putfield 221, 3) := by decide +kernel
theorem dX6_giveBoxes_99 : decode cX6_giveBoxes 99 = .ok (.iinc 4 1, 3) := by decide +kernel
theorem dX6_giveBoxes_102 : decode cX6_giveBoxes 102 = .ok (.iinc 7 1, 3) := by decide +kernel
theorem dX6_giveBoxes_105 : decode cX6_giveBoxes 105 = .ok (.goto (-88), 3) := by decide +kernel
theorem dX6_giveBoxes_108 : decode cX6_giveBoxes 108 = .ok (.iload 4, 2) := by decide +kernel
theorem dX6_giveBoxes_110 : decode cX6_giveBoxes 110 = .ok (.ireturn, 1) := by decide +kernel
theorem dX6_canServe_0 : decode cX6_canServe 0 = .ok (.aload_n 1, 1) := by decide +kernel
theorem dX6_canServe_1 : decode cX6_canServe 1 = .ok (.invokevirtual 238, 3) := by decide +kernel
theorem dX6_canServe_4 : decode cX6_canServe 4 = .ok (.ifCond .ne 47, 3) := by decide +kernel
theorem dX6_canServe_7 : decode cX6_canServe 7 = .ok (.aload_n 1, 1) := by decide +kernel
theorem dX6_canServe_8 : decode cX6_canServe 8 = .ok (.getfield 160, 3) := by decide +kernel
theorem dX6_canServe_11 : decode cX6_canServe 11 = .ok (.iconst (-1), 1) := by decide +kernel
theorem dX6_canServe_12 : decode cX6_canServe 12 = .ok (.if_icmp .ne 39, 3) := by decide +kernel
theorem dX6_canServe_15 : decode cX6_canServe 15 = .ok (.aload_n 1, 1) := by decide +kernel
theorem dX6_canServe_16 : decode cX6_canServe 16 = .ok (.getfield 92, 3) := by decide +kernel
theorem dX6_canServe_19 : decode cX6_canServe 19 = .ok (.ifCond .ne 32, 3) := by decide +kernel
theorem dX6_canServe_22 : decode cX6_canServe 22 = .ok (.aload_n 1, 1) := by decide +kernel
theorem dX6_canServe_23 : decode cX6_canServe 23 = .ok (.getfield 96, 3) := by decide +kernel
theorem dX6_canServe_26 : decode cX6_canServe 26 = .ok (.aload_n 0, 1) := by decide +kernel
theorem dX6_canServe_27 : decode cX6_canServe 27 = .ok (.getfield 47, 3) := by decide +kernel
theorem dX6_canServe_30 : decode cX6_canServe 30 = .ok (.if_icmp .lt 21, 3) := by decide +kernel
theorem dX6_canServe_33 : decode cX6_canServe 33 = .ok (.aload_n 1, 1) := by decide +kernel
theorem dX6_canServe_34 : decode cX6_canServe 34 = .ok (.getfield 183, 3) := by decide +kernel
theorem dX6_canServe_37 : decode cX6_canServe 37 = .ok (.aload_n 0, 1) := by decide +kernel
theorem dX6_canServe_38 : decode cX6_canServe 38 = .ok (.getfield 17, 3) := by decide +kernel
theorem dX6_canServe_41 : decode cX6_canServe 41 = .ok (.invokevirtual 193, 3) := by decide +kernel
theorem dX6_canServe_44 : decode cX6_canServe 44 = .ok (.ifCond .ne 7, 3) := by decide +kernel
theorem dX6_canServe_47 : decode cX6_canServe 47 = .ok (.iconst 1, 1) := by decide +kernel
theorem dX6_canServe_48 : decode cX6_canServe 48 = .ok (.goto 4, 3) := by decide +kernel
theorem dX6_canServe_51 : decode cX6_canServe 51 = .ok (.iconst 0, 1) := by decide +kernel
theorem dX6_canServe_52 : decode cX6_canServe 52 = .ok (.ireturn, 1) := by decide +kernel
theorem dX6_lackingAt_0 : decode cX6_lackingAt 0 = .ok (.iconst 0, 1) := by decide +kernel
theorem dX6_lackingAt_1 : decode cX6_lackingAt 1 = .ok (.istore_n 3, 1) := by decide +kernel
theorem dX6_lackingAt_2 : decode cX6_lackingAt 2 = .ok (.aload_n 0, 1) := by decide +kernel
theorem dX6_lackingAt_3 : decode cX6_lackingAt 3 = .ok (.getfield 29, 3) := by decide +kernel
theorem dX6_lackingAt_6 : decode cX6_lackingAt 6 = .ok (.astore 4, 2) := by decide +kernel
theorem dX6_lackingAt_8 : decode cX6_lackingAt 8 = .ok (.aload 4, 2) := by decide +kernel
theorem dX6_lackingAt_10 : decode cX6_lackingAt 10 = .ok (.arraylength, 1) := by decide +kernel
theorem dX6_lackingAt_11 : decode cX6_lackingAt 11 = .ok (.istore 5, 2) := by decide +kernel
theorem dX6_lackingAt_13 : decode cX6_lackingAt 13 = .ok (.iconst 0, 1) := by decide +kernel
theorem dX6_lackingAt_14 : decode cX6_lackingAt 14 = .ok (.istore 6, 2) := by decide +kernel
theorem dX6_lackingAt_16 : decode cX6_lackingAt 16 = .ok (.iload 6, 2) := by decide +kernel
theorem dX6_lackingAt_18 : decode cX6_lackingAt 18 = .ok (.iload 5, 2) := by decide +kernel
theorem dX6_lackingAt_20 : decode cX6_lackingAt 20 = .ok (.if_icmp .ge 47, 3) := by decide +kernel
theorem dX6_lackingAt_23 : decode cX6_lackingAt 23 = .ok (.aload 4, 2) := by decide +kernel
theorem dX6_lackingAt_25 : decode cX6_lackingAt 25 = .ok (.iload 6, 2) := by decide +kernel
theorem dX6_lackingAt_27 : decode cX6_lackingAt 27 = .ok (.aaload, 1) := by decide +kernel
theorem dX6_lackingAt_28 : decode cX6_lackingAt 28 = .ok (.astore 7, 2) := by decide +kernel
theorem dX6_lackingAt_30 : decode cX6_lackingAt 30 = .ok (.aload 7, 2) := by decide +kernel
theorem dX6_lackingAt_32 : decode cX6_lackingAt 32 = .ok (.ifnull 29, 3) := by decide +kernel
theorem dX6_lackingAt_35 : decode cX6_lackingAt 35 = .ok (.aload 7, 2) := by decide +kernel
theorem dX6_lackingAt_37 : decode cX6_lackingAt 37 = .ok (.getfield 274, 3) := by decide +kernel
theorem dX6_lackingAt_40 : decode cX6_lackingAt 40 = .ok (.iload_n 1, 1) := by decide +kernel
theorem dX6_lackingAt_41 : decode cX6_lackingAt 41 = .ok (.if_icmp .ne 20, 3) := by decide +kernel
theorem dX6_lackingAt_44 : decode cX6_lackingAt 44 = .ok (.aload 7, 2) := by decide +kernel
theorem dX6_lackingAt_46 : decode cX6_lackingAt 46 = .ok (.getfield 207, 3) := by decide +kernel
theorem dX6_lackingAt_49 : decode cX6_lackingAt 49 = .ok (.iload_n 2, 1) := by decide +kernel
theorem dX6_lackingAt_50 : decode cX6_lackingAt 50 = .ok (.if_icmp .ne 11, 3) := by decide +kernel
theorem dX6_lackingAt_53 : decode cX6_lackingAt 53 = .ok (.iload_n 3, 1) := by decide +kernel
theorem dX6_lackingAt_54 : decode cX6_lackingAt 54 = .ok (.aload 7, 2) := by decide +kernel
theorem dX6_lackingAt_56 : decode cX6_lackingAt 56 = .ok (.invokevirtual 247, 3) := by decide +kernel
theorem dX6_lackingAt_59 : decode cX6_lackingAt 59 = .ok (.iadd, 1) := by decide +kernel
theorem dX6_lackingAt_60 : decode cX6_lackingAt 60 = .ok (.istore_n 3, 1) := by decide +kernel
theorem dX6_lackingAt_61 : decode cX6_lackingAt 61 = .ok (.iinc 6 1, 3) := by decide +kernel
theorem dX6_lackingAt_64 : decode cX6_lackingAt 64 = .ok (.goto (-48), 3) := by decide +kernel
theorem dX6_lackingAt_67 : decode cX6_lackingAt 67 = .ok (.iload_n 3, 1) := by decide +kernel
theorem dX6_lackingAt_68 : decode cX6_lackingAt 68 = .ok (.ireturn, 1) := by decide +kernel
theorem dX6_makePlan_0 : decode cX6_makePlan 0 = .ok (.aload_n 0, 1) := by decide +kernel
theorem dX6_makePlan_1 : decode cX6_makePlan 1 = .ok (.getfield 36, 3) := by decide +kernel
theorem dX6_makePlan_4 : decode cX6_makePlan 4 = .ok (.invokevirtual 277, 3) := by decide +kernel
theorem dX6_makePlan_7 : decode cX6_makePlan 7 = .ok (.iconst 0, 1) := by decide +kernel
theorem dX6_makePlan_8 : decode cX6_makePlan 8 = .ok (.istore_n 2, 1) := by decide +kernel
theorem dX6_makePlan_9 : decode cX6_makePlan 9 = .ok (.iload_n 2, 1) := by decide +kernel
theorem dX6_makePlan_10 : decode cX6_makePlan 10 = .ok (.bipush 6, 2) := by decide +kernel
theorem dX6_makePlan_12 : decode cX6_makePlan 12 = .ok (.if_icmp .ge 23, 3) := by decide +kernel
theorem dX6_makePlan_15 : decode cX6_makePlan 15 = .ok (.aload_n 0, 1) := by decide +kernel
theorem dX6_makePlan_16 : decode cX6_makePlan 16 = .ok (.getfield 36, 3) := by decide +kernel
theorem dX6_makePlan_19 : decode cX6_makePlan 19 = .ok (.iload_n 2, 1) := by decide +kernel
theorem dX6_makePlan_20 : decode cX6_makePlan 20 = .ok (.aload_n 0, 1) := by decide +kernel
theorem dX6_makePlan_21 : decode cX6_makePlan 21 = .ok (.iload_n 2, 1) := by decide +kernel
theorem dX6_makePlan_22 : decode cX6_makePlan 22 = .ok (.iload_n 1, 1) := by decide +kernel
theorem dX6_makePlan_23 : decode cX6_makePlan 23 = .ok (.invokevirtual 278, 3) := by decide +kernel
theorem dX6_makePlan_26 : decode cX6_makePlan 26 = .ok (.invokevirtual 281, 3) := by decide +kernel
theorem dX6_makePlan_29 : decode cX6_makePlan 29 = .ok (.iinc 2 1, 3) := by decide +kernel
theorem dX6_makePlan_32 : decode cX6_makePlan 32 = .ok (.goto (-23), 3) := by decide +kernel
theorem dX6_makePlan_35 : decode cX6_makePlan 35 = .ok (.aload_n 0, 1) := by decide +kernel
theorem dX6_makePlan_36 : decode cX6_makePlan 36 = .ok (.getfield 36, 3) := by decide +kernel
theorem dX6_makePlan_39 : decode cX6_makePlan 39 = .ok (.getfield 284, 3) := by decide +kernel
theorem dX6_makePlan_42 : decode cX6_makePlan 42 = .ok (.iconst 5, 1) := by decide +kernel
theorem dX6_makePlan_43 : decode cX6_makePlan 43 = .ok (.if_icmp .le 14, 3) := by decide +kernel
theorem dX6_makePlan_46 : decode cX6_makePlan 46 = .ok (.new 77, 3) := by decide +kernel
theorem dX6_makePlan_49 : decode cX6_makePlan 49 = .ok (.dup, 1) := by decide +kernel
theorem dX6_makePlan_50 : decode cX6_makePlan 50 = .ok (.ldc_w 287, 3) := by decide +kernel
theorem dX6_makePlan_53 : decode cX6_makePlan 53 = .ok (.invokespecial 81, 3) := by decide +kernel
theorem dX6_makePlan_56 : decode cX6_makePlan 56 = .ok (.athrow, 1) := by decide +kernel
theorem dX6_makePlan_57 : decode cX6_makePlan 57 = .ok (.iconst 0, 1) := by decide +kernel
theorem dX6_makePlan_58 : decode cX6_makePlan 58 = .ok (.istore_n 2, 1) := by decide +kernel
theorem dX6_makePlan_59 : decode cX6_makePlan 59 = .ok (.iload_n 2, 1) := by decide +kernel
theorem dX6_makePlan_60 : decode cX6_makePlan 60 = .ok (.aload_n 0, 1) := by decide +kernel
theorem dX6_makePlan_61 : decode cX6_makePlan 61 = .ok (.getfield 23, 3) := by decide +kernel
theorem dX6_makePlan_64 : decode cX6_makePlan 64 = .ok (.arraylength, 1) := by decide +kernel
theorem dX6_makePlan_65 : decode cX6_makePlan 65 = .ok (.if_icmp .ge 55, 3) := by decide +kernel
theorem dX6_makePlan_68 : decode cX6_makePlan 68 = .ok (.aload_n 0, 1) := by decide +kernel
theorem dX6_makePlan_69 : decode cX6_makePlan 69 = .ok (.getfield 23, 3) := by decide +kernel
theorem dX6_makePlan_72 : decode cX6_makePlan 72 = .ok (.iload_n 2, 1) := by decide +kernel
theorem dX6_makePlan_73 : decode cX6_makePlan 73 = .ok (.aaload, 1) := by decide +kernel
theorem dX6_makePlan_74 : decode cX6_makePlan 74 = .ok (.astore_n 3, 1) := by decide +kernel
theorem dX6_makePlan_75 : decode cX6_makePlan 75 = .ok (.aload_n 3, 1) := by decide +kernel
theorem dX6_makePlan_76 : decode cX6_makePlan 76 = .ok (.ifnull 38, 3) := by decide +kernel
theorem dX6_makePlan_79 : decode cX6_makePlan 79 = .ok (.aload_n 3, 1) := by decide +kernel
theorem dX6_makePlan_80 : decode cX6_makePlan 80 = .ok (.getfield 125, 3) := by decide +kernel
theorem dX6_makePlan_83 : decode cX6_makePlan 83 = .ok (.iload_n 1, 1) := by decide +kernel
theorem dX6_makePlan_84 : decode cX6_makePlan 84 = .ok (.if_icmp .ne 30, 3) := by decide +kernel
theorem dX6_makePlan_87 : decode cX6_makePlan 87 = .ok (.aload_n 0, 1) := by decide +kernel
theorem dX6_makePlan_88 : decode cX6_makePlan 88 = .ok (.aload_n 3, 1) := by decide +kernel
theorem dX6_makePlan_89 : decode cX6_makePlan 89 = .ok (.invokevirtual 270, 3) := by decide +kernel
theorem dX6_makePlan_92 : decode cX6_makePlan 92 = .ok (.ifCond .eq 22, 3) := by decide +kernel
theorem dX6_makePlan_95 : decode cX6_makePlan 95 = .ok (.aload_n 0, 1) := by decide +kernel
theorem dX6_makePlan_96 : decode cX6_makePlan 96 = .ok (.getfield 36, 3) := by decide +kernel
theorem dX6_makePlan_99 : decode cX6_makePlan 99 = .ok (.iload_n 2, 1) := by decide +kernel
theorem dX6_makePlan_100 : decode cX6_makePlan 100 = .ok (.aload_n 3, 1) := by decide +kernel
theorem dX6_makePlan_101 : decode cX6_makePlan 101 = .ok (.getfield 99, 3) := by decide +kernel
theorem dX6_makePlan_104 : decode cX6_makePlan 104 = .ok (.aload_n 0, 1) := by decide +kernel
theorem dX6_makePlan_105 : decode cX6_makePlan 105 = .ok (.getfield 47, 3) := by decide +kernel
theorem dX6_makePlan_108 : decode cX6_makePlan 108 = .ok (.invokevirtual 121, 3) := by decide +kernel
theorem dX6_makePlan_111 : decode cX6_makePlan 111 = .ok (.invokevirtual 289, 3) := by decide +kernel
theorem dX6_makePlan_114 : decode cX6_makePlan 114 = .ok (.iinc 2 1, 3) := by decide +kernel
theorem dX6_makePlan_117 : decode cX6_makePlan 117 = .ok (.goto (-58), 3) := by decide +kernel
theorem dX6_makePlan_120 : decode cX6_makePlan 120 = .ok (.aload_n 0, 1) := by decide +kernel
theorem dX6_makePlan_121 : decode cX6_makePlan 121 = .ok (.getfield 36, 3) := by decide +kernel
theorem dX6_makePlan_124 : decode cX6_makePlan 124 = .ok (.aload_n 0, 1) := by decide +kernel
theorem dX6_makePlan_125 : decode cX6_makePlan 125 = .ok (.getfield 11, 3) := by decide +kernel
theorem dX6_makePlan_128 : decode cX6_makePlan 128 = .ok (.invokevirtual 292, 3) := by decide +kernel
theorem dX6_makePlan_131 : decode cX6_makePlan 131 = .ok (.return_, 1) := by decide +kernel

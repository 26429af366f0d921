theorem dX0_init_0 : decode cX0_init 0 = .ok (.aload_n 0, 1) := by decide +kernel
theorem dX0_init_1 : decode cX0_init 1 = .ok (.invokespecial 3, 3) := by decide +kernel
theorem dX0_init_4 : decode cX0_init 4 = .ok (.return_, 1) := by decide +kernel
theorem dX0_become_0 : decode cX0_become 0 = .ok (.aload_n 0, 1) := by decide +kernel
theorem dX0_become_1 : decode cX0_become 1 = .ok (.aload_n 1, 1) := by decide +kernel
theorem dX0_become_2 : decode cX0_become 2 = .ok (.getfield 9, 3) := by decide +kernel
theorem dX0_become_5 : decode cX0_become 5 = .ok (.putfield 9, 3) := by decide +kernel
theorem dX0_become_8 : decode cX0_become 8 = .ok (.aload_n 0, 1) := by decide +kernel
theorem dX0_become_9 : decode cX0_become 9 = .ok (.aload_n 1, 1) := by decide +kernel
theorem dX0_become_10 : decode cX0_become 10 = .ok (.getfield 15, 3) := by decide +kernel
theorem dX0_become_13 : decode cX0_become 13 = .ok (.putfield 15, 3) := by decide +kernel
theorem dX0_become_16 : decode cX0_become 16 = .ok (.aload_n 0, 1) := by decide +kernel
theorem dX0_become_17 : decode cX0_become 17 = .ok (.aload_n 1, 1) := by decide +kernel
theorem dX0_become_18 : decode cX0_become 18 = .ok (.getfield 18, 3) := by decide +kernel
theorem dX0_become_21 : decode cX0_become 21 = .ok (.putfield 18, 3) := by decide +kernel
theorem dX0_become_24 : decode cX0_become 24 = .ok (.aload_n 0, 1) := by decide +kernel
theorem dX0_become_25 : decode cX0_become 25 = .ok (.aload_n 1, 1) := by decide +kernel
theorem dX0_become_26 : decode cX0_become 26 = .ok (.getfield 21, 3) := by decide +kernel
theorem dX0_become_29 : decode cX0_become 29 = .ok (.putfield 21, 3) := by decide +kernel
theorem dX0_become_32 : decode cX0_become 32 = .ok (.aload_n 0, 1) := by decide +kernel
theorem dX0_become_33 : decode cX0_become 33 = .ok (.aload_n 1, 1) := by decide +kernel
theorem dX0_become_34 : decode cX0_become 34 = .ok (.getfield 24, 3) := by decide +kernel
theorem dX0_become_37 : decode cX0_become 37 = .ok (.putfield 24, 3) := by decide +kernel
theorem dX0_become_40 : decode cX0_become 40 = .ok (.return_, 1) := by decide +kernel
theorem dX0_isOf_0 : decode cX0_isOf 0 = .ok (.aload_n 0, 1) := by decide +kernel
theorem dX0_isOf_1 : decode cX0_isOf 1 = .ok (.getfield 9, 3) := by decide +kernel
theorem dX0_isOf_4 : decode cX0_isOf 4 = .ok (.istore_n 2, 1) := by decide +kernel
theorem dX0_isOf_5 : decode cX0_isOf 5 = .ok (.iconst 0, 1) := by decide +kernel
theorem dX0_isOf_6 : decode cX0_isOf 6 = .ok (.istore_n 3, 1) := by decide +kernel
theorem dX0_isOf_7 : decode cX0_isOf 7 = .ok (.iload_n 3, 1) := by decide +kernel
theorem dX0_isOf_8 : decode cX0_isOf 8 = .ok (.bipush 6, 2) := by decide +kernel
theorem dX0_isOf_10 : decode cX0_isOf 10 = .ok (.if_icmp .ge 29, 3) := by decide +kernel
theorem dX0_isOf_13 : decode cX0_isOf 13 = .ok (.iload_n 2, 1) := by decide +kernel
theorem dX0_isOf_14 : decode cX0_isOf 14 = .ok (.invokestatic 27, 3) := by decide +kernel
theorem dX0_isOf_17 : decode cX0_isOf 17 = .ok (.ifCond .eq 22, 3) := by decide +kernel
theorem dX0_isOf_20 : decode cX0_isOf 20 = .ok (.iload_n 2, 1) := by decide +kernel
theorem dX0_isOf_21 : decode cX0_isOf 21 = .ok (.iload_n 1, 1) := by decide +kernel
theorem dX0_isOf_22 : decode cX0_isOf 22 = .ok (.if_icmp .ne 5, 3) := by decide +kernel
theorem dX0_isOf_25 : decode cX0_isOf 25 = .ok (.iconst 1, 1) := by decide +kernel
theorem dX0_isOf_26 : decode cX0_isOf 26 = .ok (.ireturn, 1) := by decide +kernel
theorem dX0_isOf_27 : decode cX0_isOf 27 = .ok (.getstatic 31, 3) := by decide +kernel
theorem dX0_isOf_30 : decode cX0_isOf 30 = .ok (.iload_n 2, 1) := by decide +kernel
theorem dX0_isOf_31 : decode cX0_isOf 31 = .ok (.iaload, 1) := by decide +kernel
theorem dX0_isOf_32 : decode cX0_isOf 32 = .ok (.istore_n 2, 1) := by decide +kernel
theorem dX0_isOf_33 : decode cX0_isOf 33 = .ok (.iinc 3 1, 3) := by decide +kernel
theorem dX0_isOf_36 : decode cX0_isOf 36 = .ok (.goto (-29), 3) := by decide +kernel
theorem dX0_isOf_39 : decode cX0_isOf 39 = .ok (.iconst 0, 1) := by decide +kernel
theorem dX0_isOf_40 : decode cX0_isOf 40 = .ok (.ireturn, 1) := by decide +kernel
theorem dX0_leaks_0 : decode cX0_leaks 0 = .ok (.aload_n 0, 1) := by decide +kernel
theorem dX0_leaks_1 : decode cX0_leaks 1 = .ok (.getfield 9, 3) := by decide +kernel
theorem dX0_leaks_4 : decode cX0_leaks 4 = .ok (.tableswitch 68 1 5 #[36, 50, 40, 54, 64], 36) := by decide +kernel
theorem dX0_leaks_40 : decode cX0_leaks 40 = .ok (.iload_n 1, 1) := by decide +kernel
theorem dX0_leaks_41 : decode cX0_leaks 41 = .ok (.iconst 2, 1) := by decide +kernel
theorem dX0_leaks_42 : decode cX0_leaks 42 = .ok (.idiv, 1) := by decide +kernel
theorem dX0_leaks_43 : decode cX0_leaks 43 = .ok (.ireturn, 1) := by decide +kernel
theorem dX0_leaks_44 : decode cX0_leaks 44 = .ok (.iconst 0, 1) := by decide +kernel
theorem dX0_leaks_45 : decode cX0_leaks 45 = .ok (.iload_n 1, 1) := by decide +kernel
theorem dX0_leaks_46 : decode cX0_leaks 46 = .ok (.iconst 2, 1) := by decide +kernel
theorem dX0_leaks_47 : decode cX0_leaks 47 = .ok (.idiv, 1) := by decide +kernel
theorem dX0_leaks_48 : decode cX0_leaks 48 = .ok (.iconst 2, 1) := by decide +kernel
theorem dX0_leaks_49 : decode cX0_leaks 49 = .ok (.isub, 1) := by decide +kernel
theorem dX0_leaks_50 : decode cX0_leaks 50 = .ok (.invokestatic 35, 3) := by decide +kernel
theorem dX0_leaks_53 : decode cX0_leaks 53 = .ok (.ireturn, 1) := by decide +kernel
theorem dX0_leaks_54 : decode cX0_leaks 54 = .ok (.iconst 2, 1) := by decide +kernel
theorem dX0_leaks_55 : decode cX0_leaks 55 = .ok (.iload_n 1, 1) := by decide +kernel
theorem dX0_leaks_56 : decode cX0_leaks 56 = .ok (.imul, 1) := by decide +kernel
theorem dX0_leaks_57 : decode cX0_leaks 57 = .ok (.ireturn, 1) := by decide +kernel
theorem dX0_leaks_58 : decode cX0_leaks 58 = .ok (.iconst 0, 1) := by decide +kernel
theorem dX0_leaks_59 : decode cX0_leaks 59 = .ok (.iconst 2, 1) := by decide +kernel
theorem dX0_leaks_60 : decode cX0_leaks 60 = .ok (.iload_n 1, 1) := by decide +kernel
theorem dX0_leaks_61 : decode cX0_leaks 61 = .ok (.imul, 1) := by decide +kernel
theorem dX0_leaks_62 : decode cX0_leaks 62 = .ok (.iconst 5, 1) := by decide +kernel
theorem dX0_leaks_63 : decode cX0_leaks 63 = .ok (.isub, 1) := by decide +kernel
theorem dX0_leaks_64 : decode cX0_leaks 64 = .ok (.invokestatic 35, 3) := by decide +kernel
theorem dX0_leaks_67 : decode cX0_leaks 67 = .ok (.ireturn, 1) := by decide +kernel
theorem dX0_leaks_68 : decode cX0_leaks 68 = .ok (.iload_n 1, 1) := by decide +kernel
theorem dX0_leaks_69 : decode cX0_leaks 69 = .ok (.iconst 1, 1) := by decide +kernel
theorem dX0_leaks_70 : decode cX0_leaks 70 = .ok (.iadd, 1) := by decide +kernel
theorem dX0_leaks_71 : decode cX0_leaks 71 = .ok (.ireturn, 1) := by decide +kernel
theorem dX0_leaks_72 : decode cX0_leaks 72 = .ok (.iload_n 1, 1) := by decide +kernel
theorem dX0_leaks_73 : decode cX0_leaks 73 = .ok (.ireturn, 1) := by decide +kernel
theorem dX0_goes_0 : decode cX0_goes 0 = .ok (.aload_n 0, 1) := by decide +kernel
theorem dX0_goes_1 : decode cX0_goes 1 = .ok (.getfield 9, 3) := by decide +kernel
theorem dX0_goes_4 : decode cX0_goes 4 = .ok (.tableswitch 59 2 4 #[35, 28, 46], 28) := by decide +kernel
theorem dX0_goes_32 : decode cX0_goes 32 = .ok (.aload_n 0, 1) := by decide +kernel
theorem dX0_goes_33 : decode cX0_goes 33 = .ok (.getfield 15, 3) := by decide +kernel
theorem dX0_goes_36 : decode cX0_goes 36 = .ok (.iconst 1, 1) := by decide +kernel
theorem dX0_goes_37 : decode cX0_goes 37 = .ok (.iadd, 1) := by decide +kernel
theorem dX0_goes_38 : decode cX0_goes 38 = .ok (.ireturn, 1) := by decide +kernel
theorem dX0_goes_39 : decode cX0_goes 39 = .ok (.iconst 0, 1) := by decide +kernel
theorem dX0_goes_40 : decode cX0_goes 40 = .ok (.aload_n 0, 1) := by decide +kernel
theorem dX0_goes_41 : decode cX0_goes 41 = .ok (.getfield 15, 3) := by decide +kernel
theorem dX0_goes_44 : decode cX0_goes 44 = .ok (.iconst 1, 1) := by decide +kernel
theorem dX0_goes_45 : decode cX0_goes 45 = .ok (.isub, 1) := by decide +kernel
theorem dX0_goes_46 : decode cX0_goes 46 = .ok (.invokestatic 35, 3) := by decide +kernel
theorem dX0_goes_49 : decode cX0_goes 49 = .ok (.ireturn, 1) := by decide +kernel
theorem dX0_goes_50 : decode cX0_goes 50 = .ok (.iconst 0, 1) := by decide +kernel
theorem dX0_goes_51 : decode cX0_goes 51 = .ok (.aload_n 0, 1) := by decide +kernel
theorem dX0_goes_52 : decode cX0_goes 52 = .ok (.getfield 15, 3) := by decide +kernel
theorem dX0_goes_55 : decode cX0_goes 55 = .ok (.iconst 1, 1) := by decide +kernel
theorem dX0_goes_56 : decode cX0_goes 56 = .ok (.isub, 1) := by decide +kernel
theorem dX0_goes_57 : decode cX0_goes 57 = .ok (.invokestatic 35, 3) := by decide +kernel
theorem dX0_goes_60 : decode cX0_goes 60 = .ok (.iconst 2, 1) := by decide +kernel
theorem dX0_goes_61 : decode cX0_goes 61 = .ok (.idiv, 1) := by decide +kernel
theorem dX0_goes_62 : decode cX0_goes 62 = .ok (.ireturn, 1) := by decide +kernel
theorem dX0_goes_63 : decode cX0_goes 63 = .ok (.aload_n 0, 1) := by decide +kernel
theorem dX0_goes_64 : decode cX0_goes 64 = .ok (.getfield 15, 3) := by decide +kernel
theorem dX0_goes_67 : decode cX0_goes 67 = .ok (.ireturn, 1) := by decide +kernel
theorem dX0_worth_0 : decode cX0_worth 0 = .ok (.bipush 9, 2) := by decide +kernel
theorem dX0_worth_2 : decode cX0_worth 2 = .ok (.aload_n 0, 1) := by decide +kernel
theorem dX0_worth_3 : decode cX0_worth 3 = .ok (.getfield 15, 3) := by decide +kernel
theorem dX0_worth_6 : decode cX0_worth 6 = .ok (.imul, 1) := by decide +kernel
theorem dX0_worth_7 : decode cX0_worth 7 = .ok (.istore_n 1, 1) := by decide +kernel
theorem dX0_worth_8 : decode cX0_worth 8 = .ok (.aload_n 0, 1) := by decide +kernel
theorem dX0_worth_9 : decode cX0_worth 9 = .ok (.getfield 9, 3) := by decide +kernel
theorem dX0_worth_12 : decode cX0_worth 12 = .ok (.tableswitch 63 1 5 #[36, 48, 41, 53, 61], 36) := by decide +kernel
theorem dX0_worth_48 : decode cX0_worth 48 = .ok (.iload_n 1, 1) := by decide +kernel
theorem dX0_worth_49 : decode cX0_worth 49 = .ok (.bipush 6, 2) := by decide +kernel
theorem dX0_worth_51 : decode cX0_worth 51 = .ok (.iadd, 1) := by decide +kernel
theorem dX0_worth_52 : decode cX0_worth 52 = .ok (.ireturn, 1) := by decide +kernel
theorem dX0_worth_53 : decode cX0_worth 53 = .ok (.iconst 2, 1) := by decide +kernel
theorem dX0_worth_54 : decode cX0_worth 54 = .ok (.iload_n 1, 1) := by decide +kernel
theorem dX0_worth_55 : decode cX0_worth 55 = .ok (.bipush 6, 2) := by decide +kernel
theorem dX0_worth_57 : decode cX0_worth 57 = .ok (.iadd, 1) := by decide +kernel
theorem dX0_worth_58 : decode cX0_worth 58 = .ok (.imul, 1) := by decide +kernel
theorem dX0_worth_59 : decode cX0_worth 59 = .ok (.ireturn, 1) := by decide +kernel
theorem dX0_worth_60 : decode cX0_worth 60 = .ok (.bipush 99, 2) := by decide +kernel
theorem dX0_worth_62 : decode cX0_worth 62 = .ok (.iload_n 1, 1) := by decide +kernel
theorem dX0_worth_63 : decode cX0_worth 63 = .ok (.isub, 1) := by decide +kernel
theorem dX0_worth_64 : decode cX0_worth 64 = .ok (.ireturn, 1) := by decide +kernel
theorem dX0_worth_65 : decode cX0_worth 65 = .ok (.bipush 99, 2) := by decide +kernel
theorem dX0_worth_67 : decode cX0_worth 67 = .ok (.iload_n 1, 1) := by decide +kernel
theorem dX0_worth_68 : decode cX0_worth 68 = .ok (.isub, 1) := by decide +kernel
theorem dX0_worth_69 : decode cX0_worth 69 = .ok (.bipush 8, 2) := by decide +kernel
theorem dX0_worth_71 : decode cX0_worth 71 = .ok (.isub, 1) := by decide +kernel
theorem dX0_worth_72 : decode cX0_worth 72 = .ok (.ireturn, 1) := by decide +kernel
theorem dX0_worth_73 : decode cX0_worth 73 = .ok (.iconst 4, 1) := by decide +kernel
theorem dX0_worth_74 : decode cX0_worth 74 = .ok (.ireturn, 1) := by decide +kernel
theorem dX0_worth_75 : decode cX0_worth 75 = .ok (.iload_n 1, 1) := by decide +kernel
theorem dX0_worth_76 : decode cX0_worth 76 = .ok (.ireturn, 1) := by decide +kernel
theorem dX1_init_0 : decode cX1_init 0 = .ok (.aload_n 0, 1) := by decide +kernel
theorem dX1_init_1 : decode cX1_init 1 = .ok (.invokespecial 3, 3) := by decide +kernel
theorem dX1_init_4 : decode cX1_init 4 = .ok (.aload_n 0, 1) := by decide +kernel
theorem dX1_init_5 : decode cX1_init 5 = .ok (.bipush 24, 2) := by decide +kernel
theorem dX1_init_7 : decode cX1_init 7 = .ok (.newarray .int, 2) := by decide +kernel
theorem dX1_init_9 : decode cX1_init 9 = .ok (.putfield 9, 3) := by decide +kernel
theorem dX1_init_12 : decode cX1_init 12 = .ok (.aload_n 0, 1) := by decide +kernel
theorem dX1_init_13 : decode cX1_init 13 = .ok (.iconst (-1), 1) := by decide +kernel
theorem dX1_init_14 : decode cX1_init 14 = .ok (.putfield 15, 3) := by decide +kernel
theorem dX1_init_17 : decode cX1_init 17 = .ok (.return_, 1) := by decide +kernel
theorem dX1_begin_0 : decode cX1_begin 0 = .ok (.aload_n 0, 1) := by decide +kernel
theorem dX1_begin_1 : decode cX1_begin 1 = .ok (.iload_n 1, 1) := by decide +kernel
theorem dX1_begin_2 : decode cX1_begin 2 = .ok (.putfield 15, 3) := by decide +kernel
theorem dX1_begin_5 : decode cX1_begin 5 = .ok (.aload_n 0, 1) := by decide +kernel
theorem dX1_begin_6 : decode cX1_begin 6 = .ok (.iload_n 2, 1) := by decide +kernel
theorem dX1_begin_7 : decode cX1_begin 7 = .ok (.putfield 19, 3) := by decide +kernel
theorem dX1_begin_10 : decode cX1_begin 10 = .ok (.aload_n 0, 1) := by decide +kernel
theorem dX1_begin_11 : decode cX1_begin 11 = .ok (.getfield 9, 3) := by decide +kernel
theorem dX1_begin_14 : decode cX1_begin 14 = .ok (.iconst 0, 1) := by decide +kernel
theorem dX1_begin_15 : decode cX1_begin 15 = .ok (.invokestatic 22, 3) := by decide +kernel
theorem dX1_begin_18 : decode cX1_begin 18 = .ok (.return_, 1) := by decide +kernel
theorem dX1_become_0 : decode cX1_become 0 = .ok (.aload_n 0, 1) := by decide +kernel
theorem dX1_become_1 : decode cX1_become 1 = .ok (.aload_n 1, 1) := by decide +kernel
theorem dX1_become_2 : decode cX1_become 2 = .ok (.getfield 15, 3) := by decide +kernel
theorem dX1_become_5 : decode cX1_become 5 = .ok (.putfield 15, 3) := by decide +kernel
theorem dX1_become_8 : decode cX1_become 8 = .ok (.aload_n 0, 1) := by decide +kernel
theorem dX1_become_9 : decode cX1_become 9 = .ok (.aload_n 1, 1) := by decide +kernel
theorem dX1_become_10 : decode cX1_become 10 = .ok (.getfield 19, 3) := by decide +kernel
theorem dX1_become_13 : decode cX1_become 13 = .ok (.putfield 19, 3) := by decide +kernel
theorem dX1_become_16 : decode cX1_become 16 = .ok (.aload_n 1, 1) := by decide +kernel
theorem dX1_become_17 : decode cX1_become 17 = .ok (.getfield 9, 3) := by decide +kernel
theorem dX1_become_20 : decode cX1_become 20 = .ok (.iconst 0, 1) := by decide +kernel
theorem dX1_become_21 : decode cX1_become 21 = .ok (.aload_n 0, 1) := by decide +kernel
theorem dX1_become_22 : decode cX1_become 22 = .ok (.getfield 9, 3) := by decide +kernel
theorem dX1_become_25 : decode cX1_become 25 = .ok (.iconst 0, 1) := by decide +kernel
theorem dX1_become_26 : decode cX1_become 26 = .ok (.bipush 24, 2) := by decide +kernel
theorem dX1_become_28 : decode cX1_become 28 = .ok (.invokestatic 28, 3) := by decide +kernel
theorem dX1_become_31 : decode cX1_become 31 = .ok (.return_, 1) := by decide +kernel
theorem dX1_isMissing_0 : decode cX1_isMissing 0 = .ok (.aload_n 0, 1) := by decide +kernel
theorem dX1_isMissing_1 : decode cX1_isMissing 1 = .ok (.getfield 15, 3) := by decide +kernel
theorem dX1_isMissing_4 : decode cX1_isMissing 4 = .ok (.iconst (-1), 1) := by decide +kernel
theorem dX1_isMissing_5 : decode cX1_isMissing 5 = .ok (.if_icmp .ne 7, 3) := by decide +kernel
theorem dX1_isMissing_8 : decode cX1_isMissing 8 = .ok (.iconst 1, 1) := by decide +kernel
theorem dX1_isMissing_9 : decode cX1_isMissing 9 = .ok (.goto 4, 3) := by decide +kernel
theorem dX1_isMissing_12 : decode cX1_isMissing 12 = .ok (.iconst 0, 1) := by decide +kernel
theorem dX1_isMissing_13 : decode cX1_isMissing 13 = .ok (.ireturn, 1) := by decide +kernel
theorem dX1_has_0 : decode cX1_has 0 = .ok (.iload_n 1, 1) := by decide +kernel
theorem dX1_has_1 : decode cX1_has 1 = .ok (.iconst 0, 1) := by decide +kernel
theorem dX1_has_2 : decode cX1_has 2 = .ok (.aload_n 0, 1) := by decide +kernel
theorem dX1_has_3 : decode cX1_has 3 = .ok (.getfield 19, 3) := by decide +kernel
theorem dX1_has_6 : decode cX1_has 6 = .ok (.iconst 1, 1) := by decide +kernel
theorem dX1_has_7 : decode cX1_has 7 = .ok (.isub, 1) := by decide +kernel
theorem dX1_has_8 : decode cX1_has 8 = .ok (.invokestatic 34, 3) := by decide +kernel
theorem dX1_has_11 : decode cX1_has 11 = .ok (.ireturn, 1) := by decide +kernel
theorem dX1_hasNumber_0 : decode cX1_hasNumber 0 = .ok (.aload_n 0, 1) := by decide +kernel
theorem dX1_hasNumber_1 : decode cX1_hasNumber 1 = .ok (.iload_n 1, 1) := by decide +kernel
theorem dX1_hasNumber_2 : decode cX1_hasNumber 2 = .ok (.invokevirtual 38, 3) := by decide +kernel
theorem dX1_hasNumber_5 : decode cX1_hasNumber 5 = .ok (.ifCond .eq 18, 3) := by decide +kernel
theorem dX1_hasNumber_8 : decode cX1_hasNumber 8 = .ok (.aload_n 0, 1) := by decide +kernel
theorem dX1_hasNumber_9 : decode cX1_hasNumber 9 = .ok (.getfield 9, 3) := by decide +kernel
theorem dX1_hasNumber_12 : decode cX1_hasNumber 12 = .ok (.iload_n 1, 1) := by decide +kernel
theorem dX1_hasNumber_13 : decode cX1_hasNumber 13 = .ok (.iaload, 1) := by decide +kernel
theorem dX1_hasNumber_14 : decode cX1_hasNumber 14 = .ok (.ldc 42, 2) := by decide +kernel
theorem dX1_hasNumber_16 : decode cX1_hasNumber 16 = .ok (.if_icmp .eq 7, 3) := by decide +kernel
theorem dX1_hasNumber_19 : decode cX1_hasNumber 19 = .ok (.iconst 1, 1) := by decide +kernel
theorem dX1_hasNumber_20 : decode cX1_hasNumber 20 = .ok (.goto 4, 3) := by decide +kernel
theorem dX1_hasNumber_23 : decode cX1_hasNumber 23 = .ok (.iconst 0, 1) := by decide +kernel
theorem dX1_hasNumber_24 : decode cX1_hasNumber 24 = .ok (.ireturn, 1) := by decide +kernel
theorem dX1_hasRow_0 : decode cX1_hasRow 0 = .ok (.iload_n 2, 1) := by decide +kernel
theorem dX1_hasRow_1 : decode cX1_hasRow 1 = .ok (.ifCond .lt 29, 3) := by decide +kernel
theorem dX1_hasRow_4 : decode cX1_hasRow 4 = .ok (.iload_n 1, 1) := by decide +kernel
theorem dX1_hasRow_5 : decode cX1_hasRow 5 = .ok (.ifCond .lt 25, 3) := by decide +kernel
theorem dX1_hasRow_8 : decode cX1_hasRow 8 = .ok (.iload_n 1, 1) := by decide +kernel
theorem dX1_hasRow_9 : decode cX1_hasRow 9 = .ok (.aload_n 0, 1) := by decide +kernel
theorem dX1_hasRow_10 : decode cX1_hasRow 10 = .ok (.getfield 19, 3) := by decide +kernel
theorem dX1_hasRow_13 : decode cX1_hasRow 13 = .ok (.if_icmp .gt 17, 3) := by decide +kernel
theorem dX1_hasRow_16 : decode cX1_hasRow 16 = .ok (.iload_n 2, 1) := by decide +kernel
theorem dX1_hasRow_17 : decode cX1_hasRow 17 = .ok (.aload_n 0, 1) := by decide +kernel
theorem dX1_hasRow_18 : decode cX1_hasRow 18 = .ok (.getfield 19, 3) := by decide +kernel
theorem dX1_hasRow_21 : decode cX1_hasRow 21 = .ok (.iload_n 1, 1) := by decide +kernel
theorem dX1_hasRow_22 : decode cX1_hasRow 22 = .ok (.isub, 1) := by decide +kernel
theorem dX1_hasRow_23 : decode cX1_hasRow 23 = .ok (.if_icmp .gt 7, 3) := by decide +kernel
theorem dX1_hasRow_26 : decode cX1_hasRow 26 = .ok (.iconst 1, 1) := by decide +kernel
theorem dX1_hasRow_27 : decode cX1_hasRow 27 = .ok (.goto 4, 3) := by decide +kernel
theorem dX1_hasRow_30 : decode cX1_hasRow 30 = .ok (.iconst 0, 1) := by decide +kernel
theorem dX1_hasRow_31 : decode cX1_hasRow 31 = .ok (.ireturn, 1) := by decide +kernel
theorem dX2_init_0 : decode cX2_init 0 = .ok (.aload_n 0, 1) := by decide +kernel
theorem dX2_init_1 : decode cX2_init 1 = .ok (.invokespecial 1, 3) := by decide +kernel
theorem dX2_init_4 : decode cX2_init 4 = .ok (.aload_n 0, 1) := by decide +kernel
theorem dX2_init_5 : decode cX2_init 5 = .ok (.new 7, 3) := by decide +kernel
theorem dX2_init_8 : decode cX2_init 8 = .ok (.dup, 1) := by decide +kernel
theorem dX2_init_9 : decode cX2_init 9 = .ok (.invokespecial 9, 3) := by decide +kernel
theorem dX2_init_12 : decode cX2_init 12 = .ok (.putfield 10, 3) := by decide +kernel
theorem dX2_init_15 : decode cX2_init 15 = .ok (.aload_n 0, 1) := by decide +kernel
theorem dX2_init_16 : decode cX2_init 16 = .ok (.new 16, 3) := by decide +kernel
theorem dX2_init_19 : decode cX2_init 19 = .ok (.dup, 1) := by decide +kernel
theorem dX2_init_20 : decode cX2_init 20 = .ok (.invokespecial 18, 3) := by decide +kernel
theorem dX2_init_23 : decode cX2_init 23 = .ok (.putfield 19, 3) := by decide +kernel
theorem dX2_init_26 : decode cX2_init 26 = .ok (.return_, 1) := by decide +kernel
theorem dX3_init_0 : decode cX3_init 0 = .ok (.aload_n 0, 1) := by decide +kernel
theorem dX3_init_1 : decode cX3_init 1 = .ok (.invokespecial 3, 3) := by decide +kernel
theorem dX3_init_4 : decode cX3_init 4 = .ok (.aload_n 0, 1) := by decide +kernel
theorem dX3_init_5 : decode cX3_init 5 = .ok (.bipush 96, 2) := by decide +kernel
theorem dX3_init_7 : decode cX3_init 7 = .ok (.newarray .int, 2) := by decide +kernel
theorem dX3_init_9 : decode cX3_init 9 = .ok (.putfield 9, 3) := by decide +kernel
theorem dX3_init_12 : decode cX3_init 12 = .ok (.return_, 1) := by decide +kernel
theorem dX3_addBytesOf_0 : decode cX3_addBytesOf 0 = .ok (.bipush 24, 2) := by decide +kernel
theorem dX3_addBytesOf_2 : decode cX3_addBytesOf 2 = .ok (.istore_n 2, 1) := by decide +kernel
theorem dX3_addBytesOf_3 : decode cX3_addBytesOf 3 = .ok (.iload_n 2, 1) := by decide +kernel
theorem dX3_addBytesOf_4 : decode cX3_addBytesOf 4 = .ok (.ifCond .lt 44, 3) := by decide +kernel
theorem dX3_addBytesOf_7 : decode cX3_addBytesOf 7 = .ok (.aload_n 0, 1) := by decide +kernel
theorem dX3_addBytesOf_8 : decode cX3_addBytesOf 8 = .ok (.getfield 15, 3) := by decide +kernel
theorem dX3_addBytesOf_11 : decode cX3_addBytesOf 11 = .ok (.bipush 96, 2) := by decide +kernel
theorem dX3_addBytesOf_13 : decode cX3_addBytesOf 13 = .ok (.if_icmp .ge 35, 3) := by decide +kernel
theorem dX3_addBytesOf_16 : decode cX3_addBytesOf 16 = .ok (.aload_n 0, 1) := by decide +kernel
theorem dX3_addBytesOf_17 : decode cX3_addBytesOf 17 = .ok (.getfield 9, 3) := by decide +kernel
theorem dX3_addBytesOf_20 : decode cX3_addBytesOf 20 = .ok (.aload_n 0, 1) := by decide +kernel
theorem dX3_addBytesOf_21 : decode cX3_addBytesOf 21 = .ok (.getfield 15, 3) := by decide +kernel
theorem dX3_addBytesOf_24 : decode cX3_addBytesOf 24 = .ok (.iload_n 1, 1) := by decide +kernel
theorem dX3_addBytesOf_25 : decode cX3_addBytesOf 25 = .ok (.iload_n 2, 1) := by decide +kernel
theorem dX3_addBytesOf_26 : decode cX3_addBytesOf 26 = .ok (.iushr, 1) := by decide +kernel
theorem dX3_addBytesOf_27 : decode cX3_addBytesOf 27 = .ok (.sipush 255, 3) := by decide +kernel
theorem dX3_addBytesOf_30 : decode cX3_addBytesOf 30 = .ok (.iand, 1) := by decide +kernel
theorem dX3_addBytesOf_31 : decode cX3_addBytesOf 31 = .ok (.iastore, 1) := by decide +kernel
theorem dX3_addBytesOf_32 : decode cX3_addBytesOf 32 = .ok (.aload_n 0, 1) := by decide +kernel
theorem dX3_addBytesOf_33 : decode cX3_addBytesOf 33 = .ok (.dup, 1) := by decide +kernel
theorem dX3_addBytesOf_34 : decode cX3_addBytesOf 34 = .ok (.getfield 15, 3) := by decide +kernel
theorem dX3_addBytesOf_37 : decode cX3_addBytesOf 37 = .ok (.iconst 1, 1) := by decide +kernel
theorem dX3_addBytesOf_38 : decode cX3_addBytesOf 38 = .ok (.iadd, 1) := by decide +kernel
theorem dX3_addBytesOf_39 : decode cX3_addBytesOf 39 = .ok (.putfield 15, 3) := by decide +kernel
theorem dX3_addBytesOf_42 : decode cX3_addBytesOf 42 = .ok (.iinc 2 (-8), 3) := by decide +kernel
theorem dX3_addBytesOf_45 : decode cX3_addBytesOf 45 = .ok (.goto (-42), 3) := by decide +kernel
theorem dX3_addBytesOf_48 : decode cX3_addBytesOf 48 = .ok (.return_, 1) := by decide +kernel
theorem dX3_byteAt_0 : decode cX3_byteAt 0 = .ok (.iload_n 1, 1) := by decide +kernel
theorem dX3_byteAt_1 : decode cX3_byteAt 1 = .ok (.ifCond .lt 20, 3) := by decide +kernel
theorem dX3_byteAt_4 : decode cX3_byteAt 4 = .ok (.iload_n 1, 1) := by decide +kernel
theorem dX3_byteAt_5 : decode cX3_byteAt 5 = .ok (.aload_n 0, 1) := by decide +kernel
theorem dX3_byteAt_6 : decode cX3_byteAt 6 = .ok (.getfield 15, 3) := by decide +kernel
theorem dX3_byteAt_9 : decode cX3_byteAt 9 = .ok (.if_icmp .ge 12, 3) := by decide +kernel
theorem dX3_byteAt_12 : decode cX3_byteAt 12 = .ok (.aload_n 0, 1) := by decide +kernel
theorem dX3_byteAt_13 : decode cX3_byteAt 13 = .ok (.getfield 9, 3) := by decide +kernel
theorem dX3_byteAt_16 : decode cX3_byteAt 16 = .ok (.iload_n 1, 1) := by decide +kernel
theorem dX3_byteAt_17 : decode cX3_byteAt 17 = .ok (.iaload, 1) := by decide +kernel
theorem dX3_byteAt_18 : decode cX3_byteAt 18 = .ok (.goto 4, 3) := by decide +kernel
theorem dX3_byteAt_21 : decode cX3_byteAt 21 = .ok (.iconst (-1), 1) := by decide +kernel
theorem dX3_byteAt_22 : decode cX3_byteAt 22 = .ok (.ireturn, 1) := by decide +kernel
theorem dX4_init_0 : decode cX4_init 0 = .ok (.aload_n 0, 1) := by decide +kernel
theorem dX4_init_1 : decode cX4_init 1 = .ok (.invokespecial 5, 3) := by decide +kernel
theorem dX4_init_4 : decode cX4_init 4 = .ok (.aload_n 0, 1) := by decide +kernel
theorem dX4_init_5 : decode cX4_init 5 = .ok (.bipush 96, 2) := by decide +kernel
theorem dX4_init_7 : decode cX4_init 7 = .ok (.newarray .int, 2) := by decide +kernel
theorem dX4_init_9 : decode cX4_init 9 = .ok (.putfield 11, 3) := by decide +kernel
theorem dX4_init_12 : decode cX4_init 12 = .ok (.aload_n 0, 1) := by decide +kernel
theorem dX4_init_13 : decode cX4_init 13 = .ok (.aload_n 1, 1) := by decide +kernel
theorem dX4_init_14 : decode cX4_init 14 = .ok (.putfield 15, 3) := by decide +kernel
theorem dX4_init_17 : decode cX4_init 17 = .ok (.return_, 1) := by decide +kernel
theorem dX4_begin_0 : decode cX4_begin 0 = .ok (.aload_n 0, 1) := by decide +kernel
theorem dX4_begin_1 : decode cX4_begin 1 = .ok (.iload_n 1, 1) := by decide +kernel
theorem dX4_begin_2 : decode cX4_begin 2 = .ok (.putfield 18, 3) := by decide +kernel
theorem dX4_begin_5 : decode cX4_begin 5 = .ok (.aload_n 0, 1) := by decide +kernel
theorem dX4_begin_6 : decode cX4_begin 6 = .ok (.iconst 0, 1) := by decide +kernel
theorem dX4_begin_7 : decode cX4_begin 7 = .ok (.putfield 22, 3) := by decide +kernel
theorem dX4_begin_10 : decode cX4_begin 10 = .ok (.aload_n 0, 1) := by decide +kernel
theorem dX4_begin_11 : decode cX4_begin 11 = .ok (.iconst 0, 1) := by decide +kernel
theorem dX4_begin_12 : decode cX4_begin 12 = .ok (.putfield 25, 3) := by decide +kernel
theorem dX4_begin_15 : decode cX4_begin 15 = .ok (.return_, 1) := by decide +kernel
theorem dX4_become_0 : decode cX4_become 0 = .ok (.aload_n 1, 1) := by decide +kernel
theorem dX4_become_1 : decode cX4_become 1 = .ok (.getfield 11, 3) := by decide +kernel
theorem dX4_become_4 : decode cX4_become 4 = .ok (.iconst 0, 1) := by decide +kernel
theorem dX4_become_5 : decode cX4_become 5 = .ok (.aload_n 0, 1) := by decide +kernel
theorem dX4_become_6 : decode cX4_become 6 = .ok (.getfield 11, 3) := by decide +kernel
theorem dX4_become_9 : decode cX4_become 9 = .ok (.iconst 0, 1) := by decide +kernel
theorem dX4_become_10 : decode cX4_become 10 = .ok (.bipush 96, 2) := by decide +kernel
theorem dX4_become_12 : decode cX4_become 12 = .ok (.invokestatic 28, 3) := by decide +kernel
theorem dX4_become_15 : decode cX4_become 15 = .ok (.aload_n 0, 1) := by decide +kernel
theorem dX4_become_16 : decode cX4_become 16 = .ok (.aload_n 1, 1) := by decide +kernel
theorem dX4_become_17 : decode cX4_become 17 = .ok (.getfield 22, 3) := by decide +kernel
theorem dX4_become_20 : decode cX4_become 20 = .ok (.putfield 22, 3) := by decide +kernel
theorem dX4_become_23 : decode cX4_become 23 = .ok (.aload_n 0, 1) := by decide +kernel
theorem dX4_become_24 : decode cX4_become 24 = .ok (.aload_n 1, 1) := by decide +kernel
theorem dX4_become_25 : decode cX4_become 25 = .ok (.getfield 18, 3) := by decide +kernel
theorem dX4_become_28 : decode cX4_become 28 = .ok (.putfield 18, 3) := by decide +kernel
theorem dX4_become_31 : decode cX4_become 31 = .ok (.aload_n 0, 1) := by decide +kernel
theorem dX4_become_32 : decode cX4_become 32 = .ok (.aload_n 1, 1) := by decide +kernel
theorem dX4_become_33 : decode cX4_become 33 = .ok (.getfield 25, 3) := by decide +kernel
theorem dX4_become_36 : decode cX4_become 36 = .ok (.putfield 25, 3) := by decide +kernel
theorem dX4_become_39 : decode cX4_become 39 = .ok (.return_, 1) := by decide +kernel
theorem dX4_addNumber_0 : decode cX4_addNumber 0 = .ok (.aload_n 0, 1) := by decide +kernel
theorem dX4_addNumber_1 : decode cX4_addNumber 1 = .ok (.iload_n 1, 1) := by decide +kernel
theorem dX4_addNumber_2 : decode cX4_addNumber 2 = .ok (.invokevirtual 34, 3) := by decide +kernel
theorem dX4_addNumber_5 : decode cX4_addNumber 5 = .ok (.aload_n 0, 1) := by decide +kernel
theorem dX4_addNumber_6 : decode cX4_addNumber 6 = .ok (.dup, 1) := by decide +kernel
theorem dX4_addNumber_7 : decode cX4_addNumber 7 = .ok (.getfield 25, 3) := by decide +kernel
theorem dX4_addNumber_10 : decode cX4_addNumber 10 = .ok (.iconst 1, 1) := by decide +kernel
theorem dX4_addNumber_11 : decode cX4_addNumber 11 = .ok (.iadd, 1) := by decide +kernel
theorem dX4_addNumber_12 : decode cX4_addNumber 12 = .ok (.putfield 25, 3) := by decide +kernel
theorem dX4_addNumber_15 : decode cX4_addNumber 15 = .ok (.return_, 1) := by decide +kernel
theorem dX4_addName_0 : decode cX4_addName 0 = .ok (.aload_n 0, 1) := by decide +kernel
theorem dX4_addName_1 : decode cX4_addName 1 = .ok (.iconst (-1), 1) := by decide +kernel
theorem dX4_addName_2 : decode cX4_addName 2 = .ok (.iload_n 1, 1) := by decide +kernel
theorem dX4_addName_3 : decode cX4_addName 3 = .ok (.isub, 1) := by decide +kernel
theorem dX4_addName_4 : decode cX4_addName 4 = .ok (.invokevirtual 34, 3) := by decide +kernel
theorem dX4_addName_7 : decode cX4_addName 7 = .ok (.aload_n 0, 1) := by decide +kernel
theorem dX4_addName_8 : decode cX4_addName 8 = .ok (.dup, 1) := by decide +kernel
theorem dX4_addName_9 : decode cX4_addName 9 = .ok (.getfield 25, 3) := by decide +kernel
theorem dX4_addName_12 : decode cX4_addName 12 = .ok (.iconst 1, 1) := by decide +kernel
theorem dX4_addName_13 : decode cX4_addName 13 = .ok (.iadd, 1) := by decide +kernel
theorem dX4_addName_14 : decode cX4_addName 14 = .ok (.putfield 25, 3) := by decide +kernel
theorem dX4_addName_17 : decode cX4_addName 17 = .ok (.return_, 1) := by decide +kernel
theorem dX4_addSign_0 : decode cX4_addSign 0 = .ok (.aload_n 0, 1) := by decide +kernel
theorem dX4_addSign_1 : decode cX4_addSign 1 = .ok (.sipush 10000, 3) := by decide +kernel
theorem dX4_addSign_4 : decode cX4_addSign 4 = .ok (.iload_n 1, 1) := by decide +kernel
theorem dX4_addSign_5 : decode cX4_addSign 5 = .ok (.iadd, 1) := by decide +kernel
theorem dX4_addSign_6 : decode cX4_addSign 6 = .ok (.invokevirtual 34, 3) := by decide +kernel
theorem dX4_addSign_9 : decode cX4_addSign 9 = .ok (.return_, 1) := by decide +kernel
theorem dX4_addStep_0 : decode cX4_addStep 0 = .ok (.aload_n 0, 1) := by decide +kernel
theorem dX4_addStep_1 : decode cX4_addStep 1 = .ok (.getfield 22, 3) := by decide +kernel
theorem dX4_addStep_4 : decode cX4_addStep 4 = .ok (.bipush 96, 2) := by decide +kernel
theorem dX4_addStep_6 : decode cX4_addStep 6 = .ok (.if_icmp .ge 23, 3) := by decide +kernel
theorem dX4_addStep_9 : decode cX4_addStep 9 = .ok (.aload_n 0, 1) := by decide +kernel
theorem dX4_addStep_10 : decode cX4_addStep 10 = .ok (.getfield 11, 3) := by decide +kernel
theorem dX4_addStep_13 : decode cX4_addStep 13 = .ok (.aload_n 0, 1) := by decide +kernel
theorem dX4_addStep_14 : decode cX4_addStep 14 = .ok (.getfield 22, 3) := by decide +kernel
theorem dX4_addStep_17 : decode cX4_addStep 17 = .ok (.iload_n 1, 1) := by decide +kernel
theorem dX4_addStep_18 : decode cX4_addStep 18 = .ok (.iastore, 1) := by decide +kernel
theorem dX4_addStep_19 : decode cX4_addStep 19 = .ok (.aload_n 0, 1) := by decide +kernel
theorem dX4_addStep_20 : decode cX4_addStep 20 = .ok (.dup, 1) := by decide +kernel
theorem dX4_addStep_21 : decode cX4_addStep 21 = .ok (.getfield 22, 3) := by decide +kernel
theorem dX4_addStep_24 : decode cX4_addStep 24 = .ok (.iconst 1, 1) := by decide +kernel
theorem dX4_addStep_25 : decode cX4_addStep 25 = .ok (.iadd, 1) := by decide +kernel
theorem dX4_addStep_26 : decode cX4_addStep 26 = .ok (.putfield 22, 3) := by decide +kernel
theorem dX4_addStep_29 : decode cX4_addStep 29 = .ok (.return_, 1) := by decide +kernel
theorem dX4_give_0 : decode cX4_give 0 = .ok (.iconst (-1), 1) := by decide +kernel
theorem dX4_give_1 : decode cX4_give 1 = .ok (.istore 4, 2) := by decide +kernel
theorem dX4_give_3 : decode cX4_give 3 = .ok (.iconst 0, 1) := by decide +kernel
theorem dX4_give_4 : decode cX4_give 4 = .ok (.istore 5, 2) := by decide +kernel
theorem dX4_give_6 : decode cX4_give 6 = .ok (.iload 5, 2) := by decide +kernel
theorem dX4_give_8 : decode cX4_give 8 = .ok (.aload_n 0, 1) := by decide +kernel
theorem dX4_give_9 : decode cX4_give 9 = .ok (.getfield 22, 3) := by decide +kernel
theorem dX4_give_12 : decode cX4_give 12 = .ok (.if_icmp .ge 162, 3) := by decide +kernel
theorem dX4_give_15 : decode cX4_give 15 = .ok (.iload 4, 2) := by decide +kernel
theorem dX4_give_17 : decode cX4_give 17 = .ok (.aload_n 0, 1) := by decide +kernel
theorem dX4_give_18 : decode cX4_give 18 = .ok (.getfield 15, 3) := by decide +kernel
theorem dX4_give_21 : decode cX4_give 21 = .ok (.arraylength, 1) := by decide +kernel
theorem dX4_give_22 : decode cX4_give 22 = .ok (.iconst 1, 1) := by decide +kernel
theorem dX4_give_23 : decode cX4_give 23 = .ok (.isub, 1) := by decide +kernel
theorem dX4_give_24 : decode cX4_give 24 = .ok (.if_icmp .ge 150, 3) := by decide +kernel
theorem dX4_give_27 : decode cX4_give 27 = .ok (.aload_n 0, 1) := by decide +kernel
theorem dX4_give_28 : decode cX4_give 28 = .ok (.getfield 11, 3) := by decide +kernel
theorem dX4_give_31 : decode cX4_give 31 = .ok (.iload 5, 2) := by decide +kernel
theorem dX4_give_33 : decode cX4_give 33 = .ok (.iaload, 1) := by decide +kernel
theorem dX4_give_34 : decode cX4_give 34 = .ok (.istore 6, 2) := by decide +kernel
theorem dX4_give_36 : decode cX4_give 36 = .ok (.iload 6, 2) := by decide +kernel
theorem dX4_give_38 : decode cX4_give 38 = .ok (.sipush 10000, 3) := by decide +kernel
theorem dX4_give_41 : decode cX4_give 41 = .ok (.if_icmp .ge 48, 3) := by decide +kernel
theorem dX4_give_44 : decode cX4_give 44 = .ok (.iinc 4 1, 3) := by decide +kernel
theorem dX4_give_47 : decode cX4_give 47 = .ok (.aload_n 0, 1) := by decide +kernel
theorem dX4_give_48 : decode cX4_give 48 = .ok (.getfield 15, 3) := by decide +kernel
theorem dX4_give_51 : decode cX4_give 51 = .ok (.iload 4, 2) := by decide +kernel
theorem dX4_give_53 : decode cX4_give 53 = .ok (.iload 6, 2) := by decide +kernel
theorem dX4_give_55 : decode cX4_give 55 = .ok (.ifCond .lt 8, 3) := by decide +kernel
theorem dX4_give_58 : decode cX4_give 58 = .ok (.iload 6, 2) := by decide +kernel
theorem dX4_give_60 : decode cX4_give 60 = .ok (.goto 25, 3) := by decide +kernel
theorem dX4_give_63 : decode cX4_give 63 = .ok (.iload 6, 2) := by decide +kernel
theorem dX4_give_65 : decode cX4_give 65 = .ok (.iconst (-1), 1) := by decide +kernel
theorem dX4_give_66 : decode cX4_give 66 = .ok (.if_icmp .ne 7, 3) := by decide +kernel
theorem dX4_give_69 : decode cX4_give 69 = .ok (.iload_n 1, 1) := by decide +kernel
theorem dX4_give_70 : decode cX4_give 70 = .ok (.goto 15, 3) := by decide +kernel
theorem dX4_give_73 : decode cX4_give 73 = .ok (.iload 6, 2) := by decide +kernel
theorem dX4_give_75 : decode cX4_give 75 = .ok (.bipush (-2), 2) := by decide +kernel
theorem dX4_give_77 : decode cX4_give 77 = .ok (.if_icmp .ne 7, 3) := by decide +kernel
theorem dX4_give_80 : decode cX4_give 80 = .ok (.iload_n 2, 1) := by decide +kernel
theorem dX4_give_81 : decode cX4_give 81 = .ok (.goto 4, 3) := by decide +kernel
theorem dX4_give_84 : decode cX4_give 84 = .ok (.iload_n 3, 1) := by decide +kernel
theorem dX4_give_85 : decode cX4_give 85 = .ok (.iastore, 1) := by decide +kernel
theorem dX4_give_86 : decode cX4_give 86 = .ok (.goto 82, 3) := by decide +kernel
theorem dX4_give_89 : decode cX4_give 89 = .ok (.iload 6, 2) := by decide +kernel
theorem dX4_give_91 : decode cX4_give 91 = .ok (.sipush 10033, 3) := by decide +kernel
theorem dX4_give_94 : decode cX4_give 94 = .ok (.if_icmp .ne 33, 3) := by decide +kernel
theorem dX4_give_97 : decode cX4_give 97 = .ok (.iload 4, 2) := by decide +kernel
theorem dX4_give_99 : decode cX4_give 99 = .ok (.ifCond .lt 28, 3) := by decide +kernel
theorem dX4_give_102 : decode cX4_give 102 = .ok (.aload_n 0, 1) := by decide +kernel
theorem dX4_give_103 : decode cX4_give 103 = .ok (.getfield 15, 3) := by decide +kernel
theorem dX4_give_106 : decode cX4_give 106 = .ok (.iload 4, 2) := by decide +kernel
theorem dX4_give_108 : decode cX4_give 108 = .ok (.aload_n 0, 1) := by decide +kernel
theorem dX4_give_109 : decode cX4_give 109 = .ok (.getfield 15, 3) := by decide +kernel
theorem dX4_give_112 : decode cX4_give 112 = .ok (.iload 4, 2) := by decide +kernel
theorem dX4_give_114 : decode cX4_give 114 = .ok (.iaload, 1) := by decide +kernel
theorem dX4_give_115 : decode cX4_give 115 = .ok (.ifCond .ne 7, 3) := by decide +kernel
theorem dX4_give_118 : decode cX4_give 118 = .ok (.iconst 1, 1) := by decide +kernel
theorem dX4_give_119 : decode cX4_give 119 = .ok (.goto 4, 3) := by decide +kernel
theorem dX4_give_122 : decode cX4_give 122 = .ok (.iconst 0, 1) := by decide +kernel
theorem dX4_give_123 : decode cX4_give 123 = .ok (.iastore, 1) := by decide +kernel
theorem dX4_give_124 : decode cX4_give 124 = .ok (.goto 44, 3) := by decide +kernel
theorem dX4_give_127 : decode cX4_give 127 = .ok (.iload 4, 2) := by decide +kernel
theorem dX4_give_129 : decode cX4_give 129 = .ok (.iconst 1, 1) := by decide +kernel
theorem dX4_give_130 : decode cX4_give 130 = .ok (.if_icmp .lt 38, 3) := by decide +kernel
theorem dX4_give_133 : decode cX4_give 133 = .ok (.iinc 4 (-1), 3) := by decide +kernel
theorem dX4_give_136 : decode cX4_give 136 = .ok (.aload_n 0, 1) := by decide +kernel
theorem dX4_give_137 : decode cX4_give 137 = .ok (.getfield 15, 3) := by decide +kernel
theorem dX4_give_140 : decode cX4_give 140 = .ok (.iload 4, 2) := by decide +kernel
theorem dX4_give_142 : decode cX4_give 142 = .ok (.iload 6, 2) := by decide +kernel
theorem dX4_give_144 : decode cX4_give 144 = .ok (.sipush 10000, 3) := by decide +kernel
theorem dX4_give_147 : decode cX4_give 147 = .ok (.isub, 1) := by decide +kernel
theorem dX4_give_148 : decode cX4_give 148 = .ok (.aload_n 0, 1) := by decide +kernel
theorem dX4_give_149 : decode cX4_give 149 = .ok (.getfield 15, 3) := by decide +kernel
theorem dX4_give_152 : decode cX4_give 152 = .ok (.iload 4, 2) := by decide +kernel
theorem dX4_give_154 : decode cX4_give 154 = .ok (.iaload, 1) := by decide +kernel
theorem dX4_give_155 : decode cX4_give 155 = .ok (.aload_n 0, 1) := by decide +kernel
theorem dX4_give_156 : decode cX4_give 156 = .ok (.getfield 15, 3) := by decide +kernel
theorem dX4_give_159 : decode cX4_give 159 = .ok (.iload 4, 2) := by decide +kernel
theorem dX4_give_161 : decode cX4_give 161 = .ok (.iconst 1, 1) := by decide +kernel
theorem dX4_give_162 : decode cX4_give 162 = .ok (.iadd, 1) := by decide +kernel
theorem dX4_give_163 : decode cX4_give 163 = .ok (.iaload, 1) := by decide +kernel
theorem dX4_give_164 : decode cX4_give 164 = .ok (.invokestatic 38, 3) := by decide +kernel
theorem dX4_give_167 : decode cX4_give 167 = .ok (.iastore, 1) := by decide +kernel
theorem dX4_give_168 : decode cX4_give 168 = .ok (.iinc 5 1, 3) := by decide +kernel
theorem dX4_give_171 : decode cX4_give 171 = .ok (.goto (-165), 3) := by decide +kernel
theorem dX4_give_174 : decode cX4_give 174 = .ok (.iload 4, 2) := by decide +kernel
theorem dX4_give_176 : decode cX4_give 176 = .ok (.ifCond .lt 13, 3) := by decide +kernel
theorem dX4_give_179 : decode cX4_give 179 = .ok (.aload_n 0, 1) := by decide +kernel
theorem dX4_give_180 : decode cX4_give 180 = .ok (.getfield 15, 3) := by decide +kernel
theorem dX4_give_183 : decode cX4_give 183 = .ok (.iload 4, 2) := by decide +kernel
theorem dX4_give_185 : decode cX4_give 185 = .ok (.iaload, 1) := by decide +kernel
theorem dX4_give_186 : decode cX4_give 186 = .ok (.goto 4, 3) := by decide +kernel
theorem dX4_give_189 : decode cX4_give 189 = .ok (.iconst 0, 1) := by decide +kernel
theorem dX4_give_190 : decode cX4_give 190 = .ok (.ireturn, 1) := by decide +kernel
theorem dX4_workOut_0 : decode cX4_workOut 0 = .ok (.iload_n 0, 1) := by decide +kernel
theorem dX4_workOut_1 : decode cX4_workOut 1 = .ok (.tableswitch 186 38 62 #[172, 186, 186, 186, 123, 115, 186, 119, 186, 127, 186, 186, 186, 186, 186, 186, 186, 186, 186, 186, 186, 186, 139, 150, 161], 115) := by decide +kernel
theorem dX4_workOut_116 : decode cX4_workOut 116 = .ok (.iload_n 1, 1) := by decide +kernel
theorem dX4_workOut_117 : decode cX4_workOut 117 = .ok (.iload_n 2, 1) := by decide +kernel
theorem dX4_workOut_118 : decode cX4_workOut 118 = .ok (.iadd, 1) := by decide +kernel
theorem dX4_workOut_119 : decode cX4_workOut 119 = .ok (.ireturn, 1) := by decide +kernel
theorem dX4_workOut_120 : decode cX4_workOut 120 = .ok (.iload_n 1, 1) := by decide +kernel
theorem dX4_workOut_121 : decode cX4_workOut 121 = .ok (.iload_n 2, 1) := by decide +kernel
theorem dX4_workOut_122 : decode cX4_workOut 122 = .ok (.isub, 1) := by decide +kernel
theorem dX4_workOut_123 : decode cX4_workOut 123 = .ok (.ireturn, 1) := by decide +kernel
theorem dX4_workOut_124 : decode cX4_workOut 124 = .ok (.iload_n 1, 1) := by decide +kernel
theorem dX4_workOut_125 : decode cX4_workOut 125 = .ok (.iload_n 2, 1) := by decide +kernel
theorem dX4_workOut_126 : decode cX4_workOut 126 = .ok (.imul, 1) := by decide +kernel
theorem dX4_workOut_127 : decode cX4_workOut 127 = .ok (.ireturn, 1) := by decide +kernel
theorem dX4_workOut_128 : decode cX4_workOut 128 = .ok (.iload_n 2, 1) := by decide +kernel
theorem dX4_workOut_129 : decode cX4_workOut 129 = .ok (.ifCond .ne 7, 3) := by decide +kernel
theorem dX4_workOut_132 : decode cX4_workOut 132 = .ok (.iconst 0, 1) := by decide +kernel
theorem dX4_workOut_133 : decode cX4_workOut 133 = .ok (.goto 6, 3) := by decide +kernel
theorem dX4_workOut_136 : decode cX4_workOut 136 = .ok (.iload_n 1, 1) := by decide +kernel
theorem dX4_workOut_137 : decode cX4_workOut 137 = .ok (.iload_n 2, 1) := by decide +kernel
theorem dX4_workOut_138 : decode cX4_workOut 138 = .ok (.idiv, 1) := by decide +kernel
theorem dX4_workOut_139 : decode cX4_workOut 139 = .ok (.ireturn, 1) := by decide +kernel
theorem dX4_workOut_140 : decode cX4_workOut 140 = .ok (.iload_n 1, 1) := by decide +kernel
theorem dX4_workOut_141 : decode cX4_workOut 141 = .ok (.iload_n 2, 1) := by decide +kernel
theorem dX4_workOut_142 : decode cX4_workOut 142 = .ok (.if_icmp .ge 7, 3) := by decide +kernel
theorem dX4_workOut_145 : decode cX4_workOut 145 = .ok (.iconst 1, 1) := by decide +kernel
theorem dX4_workOut_146 : decode cX4_workOut 146 = .ok (.goto 4, 3) := by decide +kernel
theorem dX4_workOut_149 : decode cX4_workOut 149 = .ok (.iconst 0, 1) := by decide +kernel
theorem dX4_workOut_150 : decode cX4_workOut 150 = .ok (.ireturn, 1) := by decide +kernel
theorem dX4_workOut_151 : decode cX4_workOut 151 = .ok (.iload_n 1, 1) := by decide +kernel
theorem dX4_workOut_152 : decode cX4_workOut 152 = .ok (.iload_n 2, 1) := by decide +kernel
theorem dX4_workOut_153 : decode cX4_workOut 153 = .ok (.if_icmp .ne 7, 3) := by decide +kernel
theorem dX4_workOut_156 : decode cX4_workOut 156 = .ok (.iconst 1, 1) := by decide +kernel
theorem dX4_workOut_157 : decode cX4_workOut 157 = .ok (.goto 4, 3) := by decide +kernel
theorem dX4_workOut_160 : decode cX4_workOut 160 = .ok (.iconst 0, 1) := by decide +kernel
theorem dX4_workOut_161 : decode cX4_workOut 161 = .ok (.ireturn, 1) := by decide +kernel
theorem dX4_workOut_162 : decode cX4_workOut 162 = .ok (.iload_n 1, 1) := by decide +kernel
theorem dX4_workOut_163 : decode cX4_workOut 163 = .ok (.iload_n 2, 1) := by decide +kernel
theorem dX4_workOut_164 : decode cX4_workOut 164 = .ok (.if_icmp .le 7, 3) := by decide +kernel
theorem dX4_workOut_167 : decode cX4_workOut 167 = .ok (.iconst 1, 1) := by decide +kernel
theorem dX4_workOut_168 : decode cX4_workOut 168 = .ok (.goto 4, 3) := by decide +kernel
theorem dX4_workOut_171 : decode cX4_workOut 171 = .ok (.iconst 0, 1) := by decide +kernel
theorem dX4_workOut_172 : decode cX4_workOut 172 = .ok (.ireturn, 1) := by decide +kernel
theorem dX4_workOut_173 : decode cX4_workOut 173 = .ok (.iload_n 1, 1) := by decide +kernel
theorem dX4_workOut_174 : decode cX4_workOut 174 = .ok (.ifCond .eq 11, 3) := by decide +kernel
theorem dX4_workOut_177 : decode cX4_workOut 177 = .ok (.iload_n 2, 1) := by decide +kernel
theorem dX4_workOut_178 : decode cX4_workOut 178 = .ok (.ifCond .eq 7, 3) := by decide +kernel
theorem dX4_workOut_181 : decode cX4_workOut 181 = .ok (.iconst 1, 1) := by decide +kernel
theorem dX4_workOut_182 : decode cX4_workOut 182 = .ok (.goto 4, 3) := by decide +kernel
theorem dX4_workOut_185 : decode cX4_workOut 185 = .ok (.iconst 0, 1) := by decide +kernel
theorem dX4_workOut_186 : decode cX4_workOut 186 = .ok (.ireturn, 1) := by decide +kernel
theorem dX4_workOut_187 : decode cX4_workOut 187 = .ok (.iload_n 1, 1) := by decide +kernel
theorem dX4_workOut_188 : decode cX4_workOut 188 = .ok (.ifCond .ne 7, 3) := by decide +kernel
theorem dX4_workOut_191 : decode cX4_workOut 191 = .ok (.iload_n 2, 1) := by decide +kernel
theorem dX4_workOut_192 : decode cX4_workOut 192 = .ok (.ifCond .eq 7, 3) := by decide +kernel
theorem dX4_workOut_195 : decode cX4_workOut 195 = .ok (.iconst 1, 1) := by decide +kernel
theorem dX4_workOut_196 : decode cX4_workOut 196 = .ok (.goto 4, 3) := by decide +kernel
theorem dX4_workOut_199 : decode cX4_workOut 199 = .ok (.iconst 0, 1) := by decide +kernel
theorem dX4_workOut_200 : decode cX4_workOut 200 = .ok (.ireturn, 1) := by decide +kernel
theorem dX5_init_0 : decode cX5_init 0 = .ok (.aload_n 0, 1) := by decide +kernel
theorem dX5_init_1 : decode cX5_init 1 = .ok (.invokespecial 3, 3) := by decide +kernel
theorem dX5_init_4 : decode cX5_init 4 = .ok (.aload_n 0, 1) := by decide +kernel
theorem dX5_init_5 : decode cX5_init 5 = .ok (.aload_n 1, 1) := by decide +kernel
theorem dX5_init_6 : decode cX5_init 6 = .ok (.putfield 9, 3) := by decide +kernel
theorem dX5_init_9 : decode cX5_init 9 = .ok (.aload_n 0, 1) := by decide +kernel
theorem dX5_init_10 : decode cX5_init 10 = .ok (.aload_n 2, 1) := by decide +kernel
theorem dX5_init_11 : decode cX5_init 11 = .ok (.putfield 15, 3) := by decide +kernel
theorem dX5_init_14 : decode cX5_init 14 = .ok (.return_, 1) := by decide +kernel
theorem dX5_readTape_0 : decode cX5_readTape 0 = .ok (.aload_n 0, 1) := by decide +kernel
theorem dX5_readTape_1 : decode cX5_readTape 1 = .ok (.iconst 0, 1) := by decide +kernel
theorem dX5_readTape_2 : decode cX5_readTape 2 = .ok (.putfield 19, 3) := by decide +kernel
theorem dX5_readTape_5 : decode cX5_readTape 5 = .ok (.aload_n 0, 1) := by decide +kernel
theorem dX5_readTape_6 : decode cX5_readTape 6 = .ok (.iconst 1, 1) := by decide +kernel
theorem dX5_readTape_7 : decode cX5_readTape 7 = .ok (.putfield 23, 3) := by decide +kernel
theorem dX5_readTape_10 : decode cX5_readTape 10 = .ok (.aload_n 0, 1) := by decide +kernel
theorem dX5_readTape_11 : decode cX5_readTape 11 = .ok (.invokevirtual 26, 3) := by decide +kernel
theorem dX5_readTape_14 : decode cX5_readTape 14 = .ok (.aload_n 0, 1) := by decide +kernel
theorem dX5_readTape_15 : decode cX5_readTape 15 = .ok (.invokevirtual 29, 3) := by decide +kernel
theorem dX5_readTape_18 : decode cX5_readTape 18 = .ok (.ifCond .eq 24, 3) := by decide +kernel
theorem dX5_readTape_21 : decode cX5_readTape 21 = .ok (.aload_n 0, 1) := by decide +kernel
theorem dX5_readTape_22 : decode cX5_readTape 22 = .ok (.iconst 0, 1) := by decide +kernel
theorem dX5_readTape_23 : decode cX5_readTape 23 = .ok (.iconst 0, 1) := by decide +kernel
theorem dX5_readTape_24 : decode cX5_readTape 24 = .ok (.iconst 0, 1) := by decide +kernel
theorem dX5_readTape_25 : decode cX5_readTape 25 = .ok (.invokevirtual 33, 3) := by decide +kernel
theorem dX5_readTape_28 : decode cX5_readTape 28 = .ok (.ifCond .eq 14, 3) := by decide +kernel
theorem dX5_readTape_31 : decode cX5_readTape 31 = .ok (.aload_n 0, 1) := by decide +kernel
theorem dX5_readTape_32 : decode cX5_readTape 32 = .ok (.getfield 23, 3) := by decide +kernel
theorem dX5_readTape_35 : decode cX5_readTape 35 = .ok (.ifCond .ne 7, 3) := by decide +kernel
theorem dX5_readTape_38 : decode cX5_readTape 38 = .ok (.iconst 1, 1) := by decide +kernel
theorem dX5_readTape_39 : decode cX5_readTape 39 = .ok (.goto 4, 3) := by decide +kernel
theorem dX5_readTape_42 : decode cX5_readTape 42 = .ok (.iconst 0, 1) := by decide +kernel
theorem dX5_readTape_43 : decode cX5_readTape 43 = .ok (.ireturn, 1) := by decide +kernel
theorem dX5_readKey_0 : decode cX5_readKey 0 = .ok (.iconst 0, 1) := by decide +kernel
theorem dX5_readKey_1 : decode cX5_readKey 1 = .ok (.istore_n 1, 1) := by decide +kernel
theorem dX5_readKey_2 : decode cX5_readKey 2 = .ok (.iload_n 1, 1) := by decide +kernel
theorem dX5_readKey_3 : decode cX5_readKey 3 = .ok (.iconst 3, 1) := by decide +kernel
theorem dX5_readKey_4 : decode cX5_readKey 4 = .ok (.if_icmp .ge 42, 3) := by decide +kernel
theorem dX5_readKey_7 : decode cX5_readKey 7 = .ok (.aload_n 0, 1) := by decide +kernel
theorem dX5_readKey_8 : decode cX5_readKey 8 = .ok (.getfield 23, 3) := by decide +kernel
theorem dX5_readKey_11 : decode cX5_readKey 11 = .ok (.iconst 2, 1) := by decide +kernel
theorem dX5_readKey_12 : decode cX5_readKey 12 = .ok (.if_icmp .ne 28, 3) := by decide +kernel
theorem dX5_readKey_15 : decode cX5_readKey 15 = .ok (.aload_n 0, 1) := by decide +kernel
theorem dX5_readKey_16 : decode cX5_readKey 16 = .ok (.iload_n 1, 1) := by decide +kernel
theorem dX5_readKey_17 : decode cX5_readKey 17 = .ok (.invokestatic 37, 3) := by decide +kernel
theorem dX5_readKey_20 : decode cX5_readKey 20 = .ok (.invokevirtual 41, 3) := by decide +kernel
theorem dX5_readKey_23 : decode cX5_readKey 23 = .ok (.ifCond .eq 17, 3) := by decide +kernel
theorem dX5_readKey_26 : decode cX5_readKey 26 = .ok (.aload_n 0, 1) := by decide +kernel
theorem dX5_readKey_27 : decode cX5_readKey 27 = .ok (.getfield 15, 3) := by decide +kernel
theorem dX5_readKey_30 : decode cX5_readKey 30 = .ok (.iload_n 1, 1) := by decide +kernel
theorem dX5_readKey_31 : decode cX5_readKey 31 = .ok (.invokevirtual 45, 3) := by decide +kernel
theorem dX5_readKey_34 : decode cX5_readKey 34 = .ok (.aload_n 0, 1) := by decide +kernel
theorem dX5_readKey_35 : decode cX5_readKey 35 = .ok (.invokevirtual 26, 3) := by decide +kernel
theorem dX5_readKey_38 : decode cX5_readKey 38 = .ok (.iconst 1, 1) := by decide +kernel
theorem dX5_readKey_39 : decode cX5_readKey 39 = .ok (.ireturn, 1) := by decide +kernel
theorem dX5_readKey_40 : decode cX5_readKey 40 = .ok (.iinc 1 1, 3) := by decide +kernel
theorem dX5_readKey_43 : decode cX5_readKey 43 = .ok (.goto (-41), 3) := by decide +kernel
theorem dX5_readKey_46 : decode cX5_readKey 46 = .ok (.iconst 0, 1) := by decide +kernel
theorem dX5_readKey_47 : decode cX5_readKey 47 = .ok (.ireturn, 1) := by decide +kernel
theorem dX5_readLevel_0 : decode cX5_readLevel 0 = .ok (.iload_n 1, 1) := by decide +kernel
theorem dX5_readLevel_1 : decode cX5_readLevel 1 = .ok (.iconst 5, 1) := by decide +kernel
theorem dX5_readLevel_2 : decode cX5_readLevel 2 = .ok (.if_icmp .lt 10, 3) := by decide +kernel
theorem dX5_readLevel_5 : decode cX5_readLevel 5 = .ok (.aload_n 0, 1) := by decide +kernel
theorem dX5_readLevel_6 : decode cX5_readLevel 6 = .ok (.iload_n 2, 1) := by decide +kernel
theorem dX5_readLevel_7 : decode cX5_readLevel 7 = .ok (.iload_n 3, 1) := by decide +kernel
theorem dX5_readLevel_8 : decode cX5_readLevel 8 = .ok (.invokevirtual 51, 3) := by decide +kernel
theorem dX5_readLevel_11 : decode cX5_readLevel 11 = .ok (.ireturn, 1) := by decide +kernel
theorem dX5_readLevel_12 : decode cX5_readLevel 12 = .ok (.aload_n 0, 1) := by decide +kernel
theorem dX5_readLevel_13 : decode cX5_readLevel 13 = .ok (.iload_n 1, 1) := by decide +kernel
theorem dX5_readLevel_14 : decode cX5_readLevel 14 = .ok (.iconst 1, 1) := by decide +kernel
theorem dX5_readLevel_15 : decode cX5_readLevel 15 = .ok (.iadd, 1) := by decide +kernel
theorem dX5_readLevel_16 : decode cX5_readLevel 16 = .ok (.iload_n 2, 1) := by decide +kernel
theorem dX5_readLevel_17 : decode cX5_readLevel 17 = .ok (.iload_n 3, 1) := by decide +kernel
theorem dX5_readLevel_18 : decode cX5_readLevel 18 = .ok (.invokevirtual 33, 3) := by decide +kernel
theorem dX5_readLevel_21 : decode cX5_readLevel 21 = .ok (.ifCond .ne 5, 3) := by decide +kernel
theorem dX5_readLevel_24 : decode cX5_readLevel 24 = .ok (.iconst 0, 1) := by decide +kernel
theorem dX5_readLevel_25 : decode cX5_readLevel 25 = .ok (.ireturn, 1) := by decide +kernel
theorem dX5_readLevel_26 : decode cX5_readLevel 26 = .ok (.iload_n 1, 1) := by decide +kernel
theorem dX5_readLevel_27 : decode cX5_readLevel 27 = .ok (.iconst 2, 1) := by decide +kernel
theorem dX5_readLevel_28 : decode cX5_readLevel 28 = .ok (.if_icmp .ne 7, 3) := by decide +kernel
theorem dX5_readLevel_31 : decode cX5_readLevel 31 = .ok (.iconst 1, 1) := by decide +kernel
theorem dX5_readLevel_32 : decode cX5_readLevel 32 = .ok (.goto 5, 3) := by decide +kernel
theorem dX5_readLevel_35 : decode cX5_readLevel 35 = .ok (.bipush 96, 2) := by decide +kernel
theorem dX5_readLevel_37 : decode cX5_readLevel 37 = .ok (.istore 4, 2) := by decide +kernel
theorem dX5_readLevel_39 : decode cX5_readLevel 39 = .ok (.iconst 0, 1) := by decide +kernel
theorem dX5_readLevel_40 : decode cX5_readLevel 40 = .ok (.istore 5, 2) := by decide +kernel
theorem dX5_readLevel_42 : decode cX5_readLevel 42 = .ok (.iload 5, 2) := by decide +kernel
theorem dX5_readLevel_44 : decode cX5_readLevel 44 = .ok (.iload 4, 2) := by decide +kernel
theorem dX5_readLevel_46 : decode cX5_readLevel 46 = .ok (.if_icmp .ge 60, 3) := by decide +kernel
theorem dX5_readLevel_49 : decode cX5_readLevel 49 = .ok (.aload_n 0, 1) := by decide +kernel
theorem dX5_readLevel_50 : decode cX5_readLevel 50 = .ok (.iload_n 1, 1) := by decide +kernel
theorem dX5_readLevel_51 : decode cX5_readLevel 51 = .ok (.invokestatic 55, 3) := by decide +kernel
theorem dX5_readLevel_54 : decode cX5_readLevel 54 = .ok (.invokevirtual 58, 3) := by decide +kernel
theorem dX5_readLevel_57 : decode cX5_readLevel 57 = .ok (.ifCond .eq 49, 3) := by decide +kernel
theorem dX5_readLevel_60 : decode cX5_readLevel 60 = .ok (.aload_n 0, 1) := by decide +kernel
theorem dX5_readLevel_61 : decode cX5_readLevel 61 = .ok (.getfield 9, 3) := by decide +kernel
theorem dX5_readLevel_64 : decode cX5_readLevel 64 = .ok (.aload_n 0, 1) := by decide +kernel
theorem dX5_readLevel_65 : decode cX5_readLevel 65 = .ok (.getfield 61, 3) := by decide +kernel
theorem dX5_readLevel_68 : decode cX5_readLevel 68 = .ok (.invokevirtual 64, 3) := by decide +kernel
theorem dX5_readLevel_71 : decode cX5_readLevel 71 = .ok (.istore 6, 2) := by decide +kernel
theorem dX5_readLevel_73 : decode cX5_readLevel 73 = .ok (.aload_n 0, 1) := by decide +kernel
theorem dX5_readLevel_74 : decode cX5_readLevel 74 = .ok (.invokevirtual 26, 3) := by decide +kernel
theorem dX5_readLevel_77 : decode cX5_readLevel 77 = .ok (.aload_n 0, 1) := by decide +kernel
theorem dX5_readLevel_78 : decode cX5_readLevel 78 = .ok (.iload_n 1, 1) := by decide +kernel
theorem dX5_readLevel_79 : decode cX5_readLevel 79 = .ok (.iconst 1, 1) := by decide +kernel
theorem dX5_readLevel_80 : decode cX5_readLevel 80 = .ok (.iadd, 1) := by decide +kernel
theorem dX5_readLevel_81 : decode cX5_readLevel 81 = .ok (.iload_n 2, 1) := by decide +kernel
theorem dX5_readLevel_82 : decode cX5_readLevel 82 = .ok (.iload_n 3, 1) := by decide +kernel
theorem dX5_readLevel_83 : decode cX5_readLevel 83 = .ok (.invokevirtual 33, 3) := by decide +kernel
theorem dX5_readLevel_86 : decode cX5_readLevel 86 = .ok (.ifCond .ne 5, 3) := by decide +kernel
theorem dX5_readLevel_89 : decode cX5_readLevel 89 = .ok (.iconst 0, 1) := by decide +kernel
theorem dX5_readLevel_90 : decode cX5_readLevel 90 = .ok (.ireturn, 1) := by decide +kernel
theorem dX5_readLevel_91 : decode cX5_readLevel 91 = .ok (.aload_n 0, 1) := by decide +kernel
theorem dX5_readLevel_92 : decode cX5_readLevel 92 = .ok (.getfield 15, 3) := by decide +kernel
theorem dX5_readLevel_95 : decode cX5_readLevel 95 = .ok (.iload 6, 2) := by decide +kernel
theorem dX5_readLevel_97 : decode cX5_readLevel 97 = .ok (.invokevirtual 70, 3) := by decide +kernel
theorem dX5_readLevel_100 : decode cX5_readLevel 100 = .ok (.iinc 5 1, 3) := by decide +kernel
theorem dX5_readLevel_103 : decode cX5_readLevel 103 = .ok (.goto (-61), 3) := by decide +kernel
theorem dX5_readLevel_106 : decode cX5_readLevel 106 = .ok (.iconst 1, 1) := by decide +kernel
theorem dX5_readLevel_107 : decode cX5_readLevel 107 = .ok (.ireturn, 1) := by decide +kernel
theorem dX5_readPiece_0 : decode cX5_readPiece 0 = .ok (.aload_n 0, 1) := by decide +kernel
theorem dX5_readPiece_1 : decode cX5_readPiece 1 = .ok (.getfield 23, 3) := by decide +kernel
theorem dX5_readPiece_4 : decode cX5_readPiece 4 = .ok (.iconst 3, 1) := by decide +kernel
theorem dX5_readPiece_5 : decode cX5_readPiece 5 = .ok (.if_icmp .ne 20, 3) := by decide +kernel
theorem dX5_readPiece_8 : decode cX5_readPiece 8 = .ok (.aload_n 0, 1) := by decide +kernel
theorem dX5_readPiece_9 : decode cX5_readPiece 9 = .ok (.getfield 15, 3) := by decide +kernel
theorem dX5_readPiece_12 : decode cX5_readPiece 12 = .ok (.aload_n 0, 1) := by decide +kernel
theorem dX5_readPiece_13 : decode cX5_readPiece 13 = .ok (.invokevirtual 73, 3) := by decide +kernel
theorem dX5_readPiece_16 : decode cX5_readPiece 16 = .ok (.invokevirtual 77, 3) := by decide +kernel
theorem dX5_readPiece_19 : decode cX5_readPiece 19 = .ok (.aload_n 0, 1) := by decide +kernel
theorem dX5_readPiece_20 : decode cX5_readPiece 20 = .ok (.invokevirtual 26, 3) := by decide +kernel
theorem dX5_readPiece_23 : decode cX5_readPiece 23 = .ok (.iconst 1, 1) := by decide +kernel
theorem dX5_readPiece_24 : decode cX5_readPiece 24 = .ok (.ireturn, 1) := by decide +kernel
theorem dX5_readPiece_25 : decode cX5_readPiece 25 = .ok (.aload_n 0, 1) := by decide +kernel
theorem dX5_readPiece_26 : decode cX5_readPiece 26 = .ok (.getfield 23, 3) := by decide +kernel
theorem dX5_readPiece_29 : decode cX5_readPiece 29 = .ok (.iconst 2, 1) := by decide +kernel
theorem dX5_readPiece_30 : decode cX5_readPiece 30 = .ok (.if_icmp .ne 8, 3) := by decide +kernel
theorem dX5_readPiece_33 : decode cX5_readPiece 33 = .ok (.aload_n 0, 1) := by decide +kernel
theorem dX5_readPiece_34 : decode cX5_readPiece 34 = .ok (.invokevirtual 80, 3) := by decide +kernel
theorem dX5_readPiece_37 : decode cX5_readPiece 37 = .ok (.ireturn, 1) := by decide +kernel
theorem dX5_readPiece_38 : decode cX5_readPiece 38 = .ok (.aload_n 0, 1) := by decide +kernel
theorem dX5_readPiece_39 : decode cX5_readPiece 39 = .ok (.ldc 83, 2) := by decide +kernel
theorem dX5_readPiece_41 : decode cX5_readPiece 41 = .ok (.invokevirtual 58, 3) := by decide +kernel
theorem dX5_readPiece_44 : decode cX5_readPiece 44 = .ok (.ifCond .eq 10, 3) := by decide +kernel
theorem dX5_readPiece_47 : decode cX5_readPiece 47 = .ok (.aload_n 0, 1) := by decide +kernel
theorem dX5_readPiece_48 : decode cX5_readPiece 48 = .ok (.iload_n 1, 1) := by decide +kernel
theorem dX5_readPiece_49 : decode cX5_readPiece 49 = .ok (.iload_n 2, 1) := by decide +kernel
theorem dX5_readPiece_50 : decode cX5_readPiece 50 = .ok (.invokevirtual 85, 3) := by decide +kernel
theorem dX5_readPiece_53 : decode cX5_readPiece 53 = .ok (.ireturn, 1) := by decide +kernel
theorem dX5_readPiece_54 : decode cX5_readPiece 54 = .ok (.aload_n 0, 1) := by decide +kernel
theorem dX5_readPiece_55 : decode cX5_readPiece 55 = .ok (.ldc 88, 2) := by decide +kernel
theorem dX5_readPiece_57 : decode cX5_readPiece 57 = .ok (.invokevirtual 58, 3) := by decide +kernel
theorem dX5_readPiece_60 : decode cX5_readPiece 60 = .ok (.ifCond .eq 16, 3) := by decide +kernel
theorem dX5_readPiece_63 : decode cX5_readPiece 63 = .ok (.aload_n 0, 1) := by decide +kernel
theorem dX5_readPiece_64 : decode cX5_readPiece 64 = .ok (.iload_n 1, 1) := by decide +kernel
theorem dX5_readPiece_65 : decode cX5_readPiece 65 = .ok (.iload_n 2, 1) := by decide +kernel
theorem dX5_readPiece_66 : decode cX5_readPiece 66 = .ok (.invokevirtual 90, 3) := by decide +kernel
theorem dX5_readPiece_69 : decode cX5_readPiece 69 = .ok (.ifCond .eq 7, 3) := by decide +kernel
theorem dX5_readPiece_72 : decode cX5_readPiece 72 = .ok (.iconst 1, 1) := by decide +kernel
theorem dX5_readPiece_73 : decode cX5_readPiece 73 = .ok (.goto 4, 3) := by decide +kernel
theorem dX5_readPiece_76 : decode cX5_readPiece 76 = .ok (.iconst 0, 1) := by decide +kernel
theorem dX5_readPiece_77 : decode cX5_readPiece 77 = .ok (.ireturn, 1) := by decide +kernel
theorem dX5_readName_0 : decode cX5_readName 0 = .ok (.aload_n 0, 1) := by decide +kernel
theorem dX5_readName_1 : decode cX5_readName 1 = .ok (.getfield 15, 3) := by decide +kernel
theorem dX5_readName_4 : decode cX5_readName 4 = .ok (.getfield 93, 3) := by decide +kernel
theorem dX5_readName_7 : decode cX5_readName 7 = .ok (.invokestatic 96, 3) := by decide +kernel
theorem dX5_readName_10 : decode cX5_readName 10 = .ok (.aload_n 0, 1) := by decide +kernel
theorem dX5_readName_11 : decode cX5_readName 11 = .ok (.getfield 9, 3) := by decide +kernel
theorem dX5_readName_14 : decode cX5_readName 14 = .ok (.aload_n 0, 1) := by decide +kernel
theorem dX5_readName_15 : decode cX5_readName 15 = .ok (.getfield 61, 3) := by decide +kernel
theorem dX5_readName_18 : decode cX5_readName 18 = .ok (.invokevirtual 64, 3) := by decide +kernel
theorem dX5_readName_21 : decode cX5_readName 21 = .ok (.i2c, 1) := by decide +kernel
theorem dX5_readName_22 : decode cX5_readName 22 = .ok (.invokevirtual 99, 3) := by decide +kernel
theorem dX5_readName_25 : decode cX5_readName 25 = .ok (.istore_n 1, 1) := by decide +kernel
theorem dX5_readName_26 : decode cX5_readName 26 = .ok (.aload_n 0, 1) := by decide +kernel
theorem dX5_readName_27 : decode cX5_readName 27 = .ok (.getfield 19, 3) := by decide +kernel
theorem dX5_readName_30 : decode cX5_readName 30 = .ok (.aload_n 0, 1) := by decide +kernel
theorem dX5_readName_31 : decode cX5_readName 31 = .ok (.getfield 61, 3) := by decide +kernel
theorem dX5_readName_34 : decode cX5_readName 34 = .ok (.isub, 1) := by decide +kernel
theorem dX5_readName_35 : decode cX5_readName 35 = .ok (.iconst 1, 1) := by decide +kernel
theorem dX5_readName_36 : decode cX5_readName 36 = .ok (.if_icmp .ne 7, 3) := by decide +kernel
theorem dX5_readName_39 : decode cX5_readName 39 = .ok (.iload_n 1, 1) := by decide +kernel
theorem dX5_readName_40 : decode cX5_readName 40 = .ok (.ifCond .ge 5, 3) := by decide +kernel
theorem dX5_readName_43 : decode cX5_readName 43 = .ok (.iconst 0, 1) := by decide +kernel
theorem dX5_readName_44 : decode cX5_readName 44 = .ok (.ireturn, 1) := by decide +kernel
theorem dX5_readName_45 : decode cX5_readName 45 = .ok (.aload_n 0, 1) := by decide +kernel
theorem dX5_readName_46 : decode cX5_readName 46 = .ok (.getfield 15, 3) := by decide +kernel
theorem dX5_readName_49 : decode cX5_readName 49 = .ok (.iload_n 1, 1) := by decide +kernel
theorem dX5_readName_50 : decode cX5_readName 50 = .ok (.invokevirtual 104, 3) := by decide +kernel
theorem dX5_readName_53 : decode cX5_readName 53 = .ok (.aload_n 0, 1) := by decide +kernel
theorem dX5_readName_54 : decode cX5_readName 54 = .ok (.invokevirtual 26, 3) := by decide +kernel
theorem dX5_readName_57 : decode cX5_readName 57 = .ok (.iconst 1, 1) := by decide +kernel
theorem dX5_readName_58 : decode cX5_readName 58 = .ok (.ireturn, 1) := by decide +kernel
theorem dX5_readNot_0 : decode cX5_readNot 0 = .ok (.iload_n 2, 1) := by decide +kernel
theorem dX5_readNot_1 : decode cX5_readNot 1 = .ok (.bipush 8, 2) := by decide +kernel
theorem dX5_readNot_3 : decode cX5_readNot 3 = .ok (.if_icmp .lt 5, 3) := by decide +kernel
theorem dX5_readNot_6 : decode cX5_readNot 6 = .ok (.iconst 0, 1) := by decide +kernel
theorem dX5_readNot_7 : decode cX5_readNot 7 = .ok (.ireturn, 1) := by decide +kernel
theorem dX5_readNot_8 : decode cX5_readNot 8 = .ok (.aload_n 0, 1) := by decide +kernel
theorem dX5_readNot_9 : decode cX5_readNot 9 = .ok (.invokevirtual 26, 3) := by decide +kernel
theorem dX5_readNot_12 : decode cX5_readNot 12 = .ok (.aload_n 0, 1) := by decide +kernel
theorem dX5_readNot_13 : decode cX5_readNot 13 = .ok (.iload_n 1, 1) := by decide +kernel
theorem dX5_readNot_14 : decode cX5_readNot 14 = .ok (.iload_n 2, 1) := by decide +kernel
theorem dX5_readNot_15 : decode cX5_readNot 15 = .ok (.iconst 1, 1) := by decide +kernel
theorem dX5_readNot_16 : decode cX5_readNot 16 = .ok (.iadd, 1) := by decide +kernel
theorem dX5_readNot_17 : decode cX5_readNot 17 = .ok (.invokevirtual 51, 3) := by decide +kernel
theorem dX5_readNot_20 : decode cX5_readNot 20 = .ok (.ifCond .ne 5, 3) := by decide +kernel
theorem dX5_readNot_23 : decode cX5_readNot 23 = .ok (.iconst 0, 1) := by decide +kernel
theorem dX5_readNot_24 : decode cX5_readNot 24 = .ok (.ireturn, 1) := by decide +kernel
theorem dX5_readNot_25 : decode cX5_readNot 25 = .ok (.aload_n 0, 1) := by decide +kernel
theorem dX5_readNot_26 : decode cX5_readNot 26 = .ok (.getfield 15, 3) := by decide +kernel
theorem dX5_readNot_29 : decode cX5_readNot 29 = .ok (.bipush 33, 2) := by decide +kernel
theorem dX5_readNot_31 : decode cX5_readNot 31 = .ok (.invokevirtual 70, 3) := by decide +kernel
theorem dX5_readNot_34 : decode cX5_readNot 34 = .ok (.iconst 1, 1) := by decide +kernel
theorem dX5_readNot_35 : decode cX5_readNot 35 = .ok (.ireturn, 1) := by decide +kernel
theorem dX5_readBrackets_0 : decode cX5_readBrackets 0 = .ok (.iload_n 1, 1) := by decide +kernel
theorem dX5_readBrackets_1 : decode cX5_readBrackets 1 = .ok (.bipush 8, 2) := by decide +kernel
theorem dX5_readBrackets_3 : decode cX5_readBrackets 3 = .ok (.if_icmp .lt 5, 3) := by decide +kernel
theorem dX5_readBrackets_6 : decode cX5_readBrackets 6 = .ok (.iconst 0, 1) := by decide +kernel
theorem dX5_readBrackets_7 : decode cX5_readBrackets 7 = .ok (.ireturn, 1) := by decide +kernel
theorem dX5_readBrackets_8 : decode cX5_readBrackets 8 = .ok (.aload_n 0, 1) := by decide +kernel
theorem dX5_readBrackets_9 : decode cX5_readBrackets 9 = .ok (.invokevirtual 26, 3) := by decide +kernel
theorem dX5_readBrackets_12 : decode cX5_readBrackets 12 = .ok (.aload_n 0, 1) := by decide +kernel
theorem dX5_readBrackets_13 : decode cX5_readBrackets 13 = .ok (.iconst 0, 1) := by decide +kernel
theorem dX5_readBrackets_14 : decode cX5_readBrackets 14 = .ok (.iload_n 1, 1) := by decide +kernel
theorem dX5_readBrackets_15 : decode cX5_readBrackets 15 = .ok (.iconst 1, 1) := by decide +kernel
theorem dX5_readBrackets_16 : decode cX5_readBrackets 16 = .ok (.iadd, 1) := by decide +kernel
theorem dX5_readBrackets_17 : decode cX5_readBrackets 17 = .ok (.iload_n 2, 1) := by decide +kernel
theorem dX5_readBrackets_18 : decode cX5_readBrackets 18 = .ok (.invokevirtual 33, 3) := by decide +kernel
theorem dX5_readBrackets_21 : decode cX5_readBrackets 21 = .ok (.ifCond .eq 12, 3) := by decide +kernel
theorem dX5_readBrackets_24 : decode cX5_readBrackets 24 = .ok (.aload_n 0, 1) := by decide +kernel
theorem dX5_readBrackets_25 : decode cX5_readBrackets 25 = .ok (.ldc 107, 2) := by decide +kernel
theorem dX5_readBrackets_27 : decode cX5_readBrackets 27 = .ok (.invokevirtual 58, 3) := by decide +kernel
theorem dX5_readBrackets_30 : decode cX5_readBrackets 30 = .ok (.ifCond .ne 5, 3) := by decide +kernel
theorem dX5_readBrackets_33 : decode cX5_readBrackets 33 = .ok (.iconst 0, 1) := by decide +kernel
theorem dX5_readBrackets_34 : decode cX5_readBrackets 34 = .ok (.ireturn, 1) := by decide +kernel
theorem dX5_readBrackets_35 : decode cX5_readBrackets 35 = .ok (.aload_n 0, 1) := by decide +kernel
theorem dX5_readBrackets_36 : decode cX5_readBrackets 36 = .ok (.invokevirtual 26, 3) := by decide +kernel
theorem dX5_readBrackets_39 : decode cX5_readBrackets 39 = .ok (.iconst 1, 1) := by decide +kernel
theorem dX5_readBrackets_40 : decode cX5_readBrackets 40 = .ok (.ireturn, 1) := by decide +kernel
theorem dX5_stepOn_0 : decode cX5_stepOn 0 = .ok (.aload_n 0, 1) := by decide +kernel
theorem dX5_stepOn_1 : decode cX5_stepOn 1 = .ok (.getfield 23, 3) := by decide +kernel
theorem dX5_stepOn_4 : decode cX5_stepOn 4 = .ok (.iconst 2, 1) := by decide +kernel
theorem dX5_stepOn_5 : decode cX5_stepOn 5 = .ok (.if_icmp .eq 11, 3) := by decide +kernel
theorem dX5_stepOn_8 : decode cX5_stepOn 8 = .ok (.aload_n 0, 1) := by decide +kernel
theorem dX5_stepOn_9 : decode cX5_stepOn 9 = .ok (.getfield 23, 3) := by decide +kernel
theorem dX5_stepOn_12 : decode cX5_stepOn 12 = .ok (.iconst 3, 1) := by decide +kernel
theorem dX5_stepOn_13 : decode cX5_stepOn 13 = .ok (.if_icmp .ne 7, 3) := by decide +kernel
theorem dX5_stepOn_16 : decode cX5_stepOn 16 = .ok (.iconst 1, 1) := by decide +kernel
theorem dX5_stepOn_17 : decode cX5_stepOn 17 = .ok (.goto 4, 3) := by decide +kernel
theorem dX5_stepOn_20 : decode cX5_stepOn 20 = .ok (.iconst 0, 1) := by decide +kernel
theorem dX5_stepOn_21 : decode cX5_stepOn 21 = .ok (.istore_n 1, 1) := by decide +kernel
theorem dX5_stepOn_22 : decode cX5_stepOn 22 = .ok (.aload_n 0, 1) := by decide +kernel
theorem dX5_stepOn_23 : decode cX5_stepOn 23 = .ok (.getfield 19, 3) := by decide +kernel
theorem dX5_stepOn_26 : decode cX5_stepOn 26 = .ok (.istore_n 2, 1) := by decide +kernel
theorem dX5_stepOn_27 : decode cX5_stepOn 27 = .ok (.aload_n 0, 1) := by decide +kernel
theorem dX5_stepOn_28 : decode cX5_stepOn 28 = .ok (.iload_n 2, 1) := by decide +kernel
theorem dX5_stepOn_29 : decode cX5_stepOn 29 = .ok (.putfield 61, 3) := by decide +kernel
theorem dX5_stepOn_32 : decode cX5_stepOn 32 = .ok (.aload_n 0, 1) := by decide +kernel
theorem dX5_stepOn_33 : decode cX5_stepOn 33 = .ok (.getfield 61, 3) := by decide +kernel
theorem dX5_stepOn_36 : decode cX5_stepOn 36 = .ok (.aload_n 0, 1) := by decide +kernel
theorem dX5_stepOn_37 : decode cX5_stepOn 37 = .ok (.getfield 9, 3) := by decide +kernel
theorem dX5_stepOn_40 : decode cX5_stepOn 40 = .ok (.getfield 109, 3) := by decide +kernel
theorem dX5_stepOn_43 : decode cX5_stepOn 43 = .ok (.if_icmp .ge 32, 3) := by decide +kernel
theorem dX5_stepOn_46 : decode cX5_stepOn 46 = .ok (.aload_n 0, 1) := by decide +kernel
theorem dX5_stepOn_47 : decode cX5_stepOn 47 = .ok (.getfield 9, 3) := by decide +kernel
theorem dX5_stepOn_50 : decode cX5_stepOn 50 = .ok (.aload_n 0, 1) := by decide +kernel
theorem dX5_stepOn_51 : decode cX5_stepOn 51 = .ok (.getfield 61, 3) := by decide +kernel
theorem dX5_stepOn_54 : decode cX5_stepOn 54 = .ok (.invokevirtual 64, 3) := by decide +kernel
theorem dX5_stepOn_57 : decode cX5_stepOn 57 = .ok (.bipush 32, 2) := by decide +kernel
theorem dX5_stepOn_59 : decode cX5_stepOn 59 = .ok (.if_icmp .ne 16, 3) := by decide +kernel
theorem dX5_stepOn_62 : decode cX5_stepOn 62 = .ok (.aload_n 0, 1) := by decide +kernel
theorem dX5_stepOn_63 : decode cX5_stepOn 63 = .ok (.dup, 1) := by decide +kernel
theorem dX5_stepOn_64 : decode cX5_stepOn 64 = .ok (.getfield 61, 3) := by decide +kernel
theorem dX5_stepOn_67 : decode cX5_stepOn 67 = .ok (.iconst 1, 1) := by decide +kernel
theorem dX5_stepOn_68 : decode cX5_stepOn 68 = .ok (.iadd, 1) := by decide +kernel
theorem dX5_stepOn_69 : decode cX5_stepOn 69 = .ok (.putfield 61, 3) := by decide +kernel
theorem dX5_stepOn_72 : decode cX5_stepOn 72 = .ok (.goto (-40), 3) := by decide +kernel
theorem dX5_stepOn_75 : decode cX5_stepOn 75 = .ok (.aload_n 0, 1) := by decide +kernel
theorem dX5_stepOn_76 : decode cX5_stepOn 76 = .ok (.aload_n 0, 1) := by decide +kernel
theorem dX5_stepOn_77 : decode cX5_stepOn 77 = .ok (.getfield 9, 3) := by decide +kernel
theorem dX5_stepOn_80 : decode cX5_stepOn 80 = .ok (.aload_n 0, 1) := by decide +kernel
theorem dX5_stepOn_81 : decode cX5_stepOn 81 = .ok (.getfield 61, 3) := by decide +kernel
theorem dX5_stepOn_84 : decode cX5_stepOn 84 = .ok (.invokevirtual 64, 3) := by decide +kernel
theorem dX5_stepOn_87 : decode cX5_stepOn 87 = .ok (.invokestatic 112, 3) := by decide +kernel
theorem dX5_stepOn_90 : decode cX5_stepOn 90 = .ok (.putfield 23, 3) := by decide +kernel
theorem dX5_stepOn_93 : decode cX5_stepOn 93 = .ok (.aload_n 0, 1) := by decide +kernel
theorem dX5_stepOn_94 : decode cX5_stepOn 94 = .ok (.aload_n 0, 1) := by decide +kernel
theorem dX5_stepOn_95 : decode cX5_stepOn 95 = .ok (.getfield 61, 3) := by decide +kernel
theorem dX5_stepOn_98 : decode cX5_stepOn 98 = .ok (.aload_n 0, 1) := by decide +kernel
theorem dX5_stepOn_99 : decode cX5_stepOn 99 = .ok (.getfield 9, 3) := by decide +kernel
theorem dX5_stepOn_102 : decode cX5_stepOn 102 = .ok (.getfield 109, 3) := by decide +kernel
theorem dX5_stepOn_105 : decode cX5_stepOn 105 = .ok (.if_icmp .ge 12, 3) := by decide +kernel
theorem dX5_stepOn_108 : decode cX5_stepOn 108 = .ok (.aload_n 0, 1) := by decide +kernel
theorem dX5_stepOn_109 : decode cX5_stepOn 109 = .ok (.getfield 61, 3) := by decide +kernel
theorem dX5_stepOn_112 : decode cX5_stepOn 112 = .ok (.iconst 1, 1) := by decide +kernel
theorem dX5_stepOn_113 : decode cX5_stepOn 113 = .ok (.iadd, 1) := by decide +kernel
theorem dX5_stepOn_114 : decode cX5_stepOn 114 = .ok (.goto 7, 3) := by decide +kernel
theorem dX5_stepOn_117 : decode cX5_stepOn 117 = .ok (.aload_n 0, 1) := by decide +kernel
theorem dX5_stepOn_118 : decode cX5_stepOn 118 = .ok (.getfield 61, 3) := by decide +kernel
theorem dX5_stepOn_121 : decode cX5_stepOn 121 = .ok (.putfield 19, 3) := by decide +kernel
theorem dX5_stepOn_124 : decode cX5_stepOn 124 = .ok (.aload_n 0, 1) := by decide +kernel
theorem dX5_stepOn_125 : decode cX5_stepOn 125 = .ok (.getfield 23, 3) := by decide +kernel
theorem dX5_stepOn_128 : decode cX5_stepOn 128 = .ok (.iconst 1, 1) := by decide +kernel
theorem dX5_stepOn_129 : decode cX5_stepOn 129 = .ok (.if_icmp .eq 10, 3) := by decide +kernel
theorem dX5_stepOn_132 : decode cX5_stepOn 132 = .ok (.aload_n 0, 1) := by decide +kernel
theorem dX5_stepOn_133 : decode cX5_stepOn 133 = .ok (.getfield 23, 3) := by decide +kernel
theorem dX5_stepOn_136 : decode cX5_stepOn 136 = .ok (.ifCond .ne 4, 3) := by decide +kernel
theorem dX5_stepOn_139 : decode cX5_stepOn 139 = .ok (.return_, 1) := by decide +kernel
theorem dX5_stepOn_140 : decode cX5_stepOn 140 = .ok (.aload_n 0, 1) := by decide +kernel
theorem dX5_stepOn_141 : decode cX5_stepOn 141 = .ok (.getfield 19, 3) := by decide +kernel
theorem dX5_stepOn_144 : decode cX5_stepOn 144 = .ok (.aload_n 0, 1) := by decide +kernel
theorem dX5_stepOn_145 : decode cX5_stepOn 145 = .ok (.getfield 9, 3) := by decide +kernel
theorem dX5_stepOn_148 : decode cX5_stepOn 148 = .ok (.getfield 109, 3) := by decide +kernel
theorem dX5_stepOn_151 : decode cX5_stepOn 151 = .ok (.if_icmp .ge 37, 3) := by decide +kernel
theorem dX5_stepOn_154 : decode cX5_stepOn 154 = .ok (.aload_n 0, 1) := by decide +kernel
theorem dX5_stepOn_155 : decode cX5_stepOn 155 = .ok (.getfield 9, 3) := by decide +kernel
theorem dX5_stepOn_158 : decode cX5_stepOn 158 = .ok (.aload_n 0, 1) := by decide +kernel
theorem dX5_stepOn_159 : decode cX5_stepOn 159 = .ok (.getfield 19, 3) := by decide +kernel
theorem dX5_stepOn_162 : decode cX5_stepOn 162 = .ok (.invokevirtual 64, 3) := by decide +kernel
theorem dX5_stepOn_165 : decode cX5_stepOn 165 = .ok (.invokestatic 112, 3) := by decide +kernel
theorem dX5_stepOn_168 : decode cX5_stepOn 168 = .ok (.aload_n 0, 1) := by decide +kernel
theorem dX5_stepOn_169 : decode cX5_stepOn 169 = .ok (.getfield 23, 3) := by decide +kernel
theorem dX5_stepOn_172 : decode cX5_stepOn 172 = .ok (.if_icmp .ne 16, 3) := by decide +kernel
theorem dX5_stepOn_175 : decode cX5_stepOn 175 = .ok (.aload_n 0, 1) := by decide +kernel
theorem dX5_stepOn_176 : decode cX5_stepOn 176 = .ok (.dup, 1) := by decide +kernel
theorem dX5_stepOn_177 : decode cX5_stepOn 177 = .ok (.getfield 19, 3) := by decide +kernel
theorem dX5_stepOn_180 : decode cX5_stepOn 180 = .ok (.iconst 1, 1) := by decide +kernel
theorem dX5_stepOn_181 : decode cX5_stepOn 181 = .ok (.iadd, 1) := by decide +kernel
theorem dX5_stepOn_182 : decode cX5_stepOn 182 = .ok (.putfield 19, 3) := by decide +kernel
theorem dX5_stepOn_185 : decode cX5_stepOn 185 = .ok (.goto (-45), 3) := by decide +kernel
theorem dX5_stepOn_188 : decode cX5_stepOn 188 = .ok (.iload_n 1, 1) := by decide +kernel
theorem dX5_stepOn_189 : decode cX5_stepOn 189 = .ok (.ifCond .eq 15, 3) := by decide +kernel
theorem dX5_stepOn_192 : decode cX5_stepOn 192 = .ok (.aload_n 0, 1) := by decide +kernel
theorem dX5_stepOn_193 : decode cX5_stepOn 193 = .ok (.getfield 61, 3) := by decide +kernel
theorem dX5_stepOn_196 : decode cX5_stepOn 196 = .ok (.iload_n 2, 1) := by decide +kernel
theorem dX5_stepOn_197 : decode cX5_stepOn 197 = .ok (.if_icmp .ne 7, 3) := by decide +kernel
theorem dX5_stepOn_200 : decode cX5_stepOn 200 = .ok (.iconst 1, 1) := by decide +kernel
theorem dX5_stepOn_201 : decode cX5_stepOn 201 = .ok (.goto 4, 3) := by decide +kernel
theorem dX5_stepOn_204 : decode cX5_stepOn 204 = .ok (.iconst 0, 1) := by decide +kernel
theorem dX5_stepOn_205 : decode cX5_stepOn 205 = .ok (.istore_n 3, 1) := by decide +kernel
theorem dX5_stepOn_206 : decode cX5_stepOn 206 = .ok (.iload_n 3, 1) := by decide +kernel
theorem dX5_stepOn_207 : decode cX5_stepOn 207 = .ok (.ifCond .ne 24, 3) := by decide +kernel
theorem dX5_stepOn_210 : decode cX5_stepOn 210 = .ok (.aload_n 0, 1) := by decide +kernel
theorem dX5_stepOn_211 : decode cX5_stepOn 211 = .ok (.getfield 23, 3) := by decide +kernel
theorem dX5_stepOn_214 : decode cX5_stepOn 214 = .ok (.iconst 3, 1) := by decide +kernel
theorem dX5_stepOn_215 : decode cX5_stepOn 215 = .ok (.if_icmp .ne 21, 3) := by decide +kernel
theorem dX5_stepOn_218 : decode cX5_stepOn 218 = .ok (.aload_n 0, 1) := by decide +kernel
theorem dX5_stepOn_219 : decode cX5_stepOn 219 = .ok (.getfield 19, 3) := by decide +kernel
theorem dX5_stepOn_222 : decode cX5_stepOn 222 = .ok (.aload_n 0, 1) := by decide +kernel
theorem dX5_stepOn_223 : decode cX5_stepOn 223 = .ok (.getfield 61, 3) := by decide +kernel
theorem dX5_stepOn_226 : decode cX5_stepOn 226 = .ok (.isub, 1) := by decide +kernel
theorem dX5_stepOn_227 : decode cX5_stepOn 227 = .ok (.iconst 4, 1) := by decide +kernel
theorem dX5_stepOn_228 : decode cX5_stepOn 228 = .ok (.if_icmp .le 8, 3) := by decide +kernel
theorem dX5_stepOn_231 : decode cX5_stepOn 231 = .ok (.aload_n 0, 1) := by decide +kernel
theorem dX5_stepOn_232 : decode cX5_stepOn 232 = .ok (.iconst 4, 1) := by decide +kernel
theorem dX5_stepOn_233 : decode cX5_stepOn 233 = .ok (.putfield 23, 3) := by decide +kernel
theorem dX5_stepOn_236 : decode cX5_stepOn 236 = .ok (.return_, 1) := by decide +kernel
theorem dX5_sortOf_0 : decode cX5_sortOf 0 = .ok (.iload_n 0, 1) := by decide +kernel
theorem dX5_sortOf_1 : decode cX5_sortOf 1 = .ok (.ifCond .ge 5, 3) := by decide +kernel
theorem dX5_sortOf_4 : decode cX5_sortOf 4 = .ok (.iconst 0, 1) := by decide +kernel
theorem dX5_sortOf_5 : decode cX5_sortOf 5 = .ok (.ireturn, 1) := by decide +kernel
theorem dX5_sortOf_6 : decode cX5_sortOf 6 = .ok (.iload_n 0, 1) := by decide +kernel
theorem dX5_sortOf_7 : decode cX5_sortOf 7 = .ok (.bipush 97, 2) := by decide +kernel
theorem dX5_sortOf_9 : decode cX5_sortOf 9 = .ok (.bipush 122, 2) := by decide +kernel
theorem dX5_sortOf_11 : decode cX5_sortOf 11 = .ok (.invokestatic 115, 3) := by decide +kernel
theorem dX5_sortOf_14 : decode cX5_sortOf 14 = .ok (.ifCond .eq 5, 3) := by decide +kernel
theorem dX5_sortOf_17 : decode cX5_sortOf 17 = .ok (.iconst 2, 1) := by decide +kernel
theorem dX5_sortOf_18 : decode cX5_sortOf 18 = .ok (.ireturn, 1) := by decide +kernel
theorem dX5_sortOf_19 : decode cX5_sortOf 19 = .ok (.iload_n 0, 1) := by decide +kernel
theorem dX5_sortOf_20 : decode cX5_sortOf 20 = .ok (.bipush 48, 2) := by decide +kernel
theorem dX5_sortOf_22 : decode cX5_sortOf 22 = .ok (.bipush 57, 2) := by decide +kernel
theorem dX5_sortOf_24 : decode cX5_sortOf 24 = .ok (.invokestatic 115, 3) := by decide +kernel
theorem dX5_sortOf_27 : decode cX5_sortOf 27 = .ok (.ifCond .eq 7, 3) := by decide +kernel
theorem dX5_sortOf_30 : decode cX5_sortOf 30 = .ok (.iconst 3, 1) := by decide +kernel
theorem dX5_sortOf_31 : decode cX5_sortOf 31 = .ok (.goto 4, 3) := by decide +kernel
theorem dX5_sortOf_34 : decode cX5_sortOf 34 = .ok (.iconst 1, 1) := by decide +kernel
theorem dX5_sortOf_35 : decode cX5_sortOf 35 = .ok (.ireturn, 1) := by decide +kernel
theorem dX5_isOneOf_0 : decode cX5_isOneOf 0 = .ok (.aload_n 0, 1) := by decide +kernel
theorem dX5_isOneOf_1 : decode cX5_isOneOf 1 = .ok (.getfield 23, 3) := by decide +kernel
theorem dX5_isOneOf_4 : decode cX5_isOneOf 4 = .ok (.iconst 1, 1) := by decide +kernel
theorem dX5_isOneOf_5 : decode cX5_isOneOf 5 = .ok (.if_icmp .ne 26, 3) := by decide +kernel
theorem dX5_isOneOf_8 : decode cX5_isOneOf 8 = .ok (.aload_n 1, 1) := by decide +kernel
theorem dX5_isOneOf_9 : decode cX5_isOneOf 9 = .ok (.aload_n 0, 1) := by decide +kernel
theorem dX5_isOneOf_10 : decode cX5_isOneOf 10 = .ok (.getfield 9, 3) := by decide +kernel
theorem dX5_isOneOf_13 : decode cX5_isOneOf 13 = .ok (.aload_n 0, 1) := by decide +kernel
theorem dX5_isOneOf_14 : decode cX5_isOneOf 14 = .ok (.getfield 61, 3) := by decide +kernel
theorem dX5_isOneOf_17 : decode cX5_isOneOf 17 = .ok (.invokevirtual 64, 3) := by decide +kernel
theorem dX5_isOneOf_20 : decode cX5_isOneOf 20 = .ok (.i2c, 1) := by decide +kernel
theorem dX5_isOneOf_21 : decode cX5_isOneOf 21 = .ok (.invokevirtual 99, 3) := by decide +kernel
theorem dX5_isOneOf_24 : decode cX5_isOneOf 24 = .ok (.ifCond .lt 7, 3) := by decide +kernel
theorem dX5_isOneOf_27 : decode cX5_isOneOf 27 = .ok (.iconst 1, 1) := by decide +kernel
theorem dX5_isOneOf_28 : decode cX5_isOneOf 28 = .ok (.goto 4, 3) := by decide +kernel
theorem dX5_isOneOf_31 : decode cX5_isOneOf 31 = .ok (.iconst 0, 1) := by decide +kernel
theorem dX5_isOneOf_32 : decode cX5_isOneOf 32 = .ok (.ireturn, 1) := by decide +kernel
theorem dX5_spells_0 : decode cX5_spells 0 = .ok (.aload_n 0, 1) := by decide +kernel
theorem dX5_spells_1 : decode cX5_spells 1 = .ok (.getfield 19, 3) := by decide +kernel
theorem dX5_spells_4 : decode cX5_spells 4 = .ok (.aload_n 0, 1) := by decide +kernel
theorem dX5_spells_5 : decode cX5_spells 5 = .ok (.getfield 61, 3) := by decide +kernel
theorem dX5_spells_8 : decode cX5_spells 8 = .ok (.isub, 1) := by decide +kernel
theorem dX5_spells_9 : decode cX5_spells 9 = .ok (.aload_n 1, 1) := by decide +kernel
theorem dX5_spells_10 : decode cX5_spells 10 = .ok (.invokevirtual 118, 3) := by decide +kernel
theorem dX5_spells_13 : decode cX5_spells 13 = .ok (.if_icmp .eq 5, 3) := by decide +kernel
theorem dX5_spells_16 : decode cX5_spells 16 = .ok (.iconst 0, 1) := by decide +kernel
theorem dX5_spells_17 : decode cX5_spells 17 = .ok (.ireturn, 1) := by decide +kernel
theorem dX5_spells_18 : decode cX5_spells 18 = .ok (.iconst 0, 1) := by decide +kernel
theorem dX5_spells_19 : decode cX5_spells 19 = .ok (.istore_n 2, 1) := by decide +kernel
theorem dX5_spells_20 : decode cX5_spells 20 = .ok (.iload_n 2, 1) := by decide +kernel
theorem dX5_spells_21 : decode cX5_spells 21 = .ok (.aload_n 1, 1) := by decide +kernel
theorem dX5_spells_22 : decode cX5_spells 22 = .ok (.invokevirtual 118, 3) := by decide +kernel
theorem dX5_spells_25 : decode cX5_spells 25 = .ok (.if_icmp .ge 32, 3) := by decide +kernel
theorem dX5_spells_28 : decode cX5_spells 28 = .ok (.aload_n 0, 1) := by decide +kernel
theorem dX5_spells_29 : decode cX5_spells 29 = .ok (.getfield 9, 3) := by decide +kernel
theorem dX5_spells_32 : decode cX5_spells 32 = .ok (.aload_n 0, 1) := by decide +kernel
theorem dX5_spells_33 : decode cX5_spells 33 = .ok (.getfield 61, 3) := by decide +kernel
theorem dX5_spells_36 : decode cX5_spells 36 = .ok (.iload_n 2, 1) := by decide +kernel
theorem dX5_spells_37 : decode cX5_spells 37 = .ok (.iadd, 1) := by decide +kernel
theorem dX5_spells_38 : decode cX5_spells 38 = .ok (.invokevirtual 64, 3) := by decide +kernel
theorem dX5_spells_41 : decode cX5_spells 41 = .ok (.aload_n 1, 1) := by decide +kernel
theorem dX5_spells_42 : decode cX5_spells 42 = .ok (.iload_n 2, 1) := by decide +kernel
theorem dX5_spells_43 : decode cX5_spells 43 = .ok (.invokevirtual 121, 3) := by decide +kernel
theorem dX5_spells_46 : decode cX5_spells 46 = .ok (.if_icmp .eq 5, 3) := by decide +kernel
theorem dX5_spells_49 : decode cX5_spells 49 = .ok (.iconst 0, 1) := by decide +kernel
theorem dX5_spells_50 : decode cX5_spells 50 = .ok (.ireturn, 1) := by decide +kernel
theorem dX5_spells_51 : decode cX5_spells 51 = .ok (.iinc 2 1, 3) := by decide +kernel
theorem dX5_spells_54 : decode cX5_spells 54 = .ok (.goto (-34), 3) := by decide +kernel
theorem dX5_spells_57 : decode cX5_spells 57 = .ok (.iconst 1, 1) := by decide +kernel
theorem dX5_spells_58 : decode cX5_spells 58 = .ok (.ireturn, 1) := by decide +kernel
theorem dX5_number_0 : decode cX5_number 0 = .ok (.iconst 0, 1) := by decide +kernel
theorem dX5_number_1 : decode cX5_number 1 = .ok (.istore_n 1, 1) := by decide +kernel
theorem dX5_number_2 : decode cX5_number 2 = .ok (.aload_n 0, 1) := by decide +kernel
theorem dX5_number_3 : decode cX5_number 3 = .ok (.getfield 61, 3) := by decide +kernel
theorem dX5_number_6 : decode cX5_number 6 = .ok (.istore_n 2, 1) := by decide +kernel
theorem dX5_number_7 : decode cX5_number 7 = .ok (.iload_n 2, 1) := by decide +kernel
theorem dX5_number_8 : decode cX5_number 8 = .ok (.aload_n 0, 1) := by decide +kernel
theorem dX5_number_9 : decode cX5_number 9 = .ok (.getfield 19, 3) := by decide +kernel
theorem dX5_number_12 : decode cX5_number 12 = .ok (.if_icmp .ge 26, 3) := by decide +kernel
theorem dX5_number_15 : decode cX5_number 15 = .ok (.iload_n 1, 1) := by decide +kernel
theorem dX5_number_16 : decode cX5_number 16 = .ok (.bipush 10, 2) := by decide +kernel
theorem dX5_number_18 : decode cX5_number 18 = .ok (.imul, 1) := by decide +kernel
theorem dX5_number_19 : decode cX5_number 19 = .ok (.aload_n 0, 1) := by decide +kernel
theorem dX5_number_20 : decode cX5_number 20 = .ok (.getfield 9, 3) := by decide +kernel
theorem dX5_number_23 : decode cX5_number 23 = .ok (.iload_n 2, 1) := by decide +kernel
theorem dX5_number_24 : decode cX5_number 24 = .ok (.invokevirtual 64, 3) := by decide +kernel
theorem dX5_number_27 : decode cX5_number 27 = .ok (.iadd, 1) := by decide +kernel
theorem dX5_number_28 : decode cX5_number 28 = .ok (.bipush 48, 2) := by decide +kernel
theorem dX5_number_30 : decode cX5_number 30 = .ok (.isub, 1) := by decide +kernel
theorem dX5_number_31 : decode cX5_number 31 = .ok (.istore_n 1, 1) := by decide +kernel
theorem dX5_number_32 : decode cX5_number 32 = .ok (.iinc 2 1, 3) := by decide +kernel
theorem dX5_number_35 : decode cX5_number 35 = .ok (.goto (-28), 3) := by decide +kernel
theorem dX5_number_38 : decode cX5_number 38 = .ok (.iload_n 1, 1) := by decide +kernel
theorem dX5_number_39 : decode cX5_number 39 = .ok (.ireturn, 1) := by decide +kernel
theorem dX5_wordOf_0 : decode cX5_wordOf 0 = .ok (.iload_n 0, 1) := by decide +kernel
theorem dX5_wordOf_1 : decode cX5_wordOf 1 = .ok (.lookupswitch 33 #[(0, 27), (1, 30)], 27) := by decide +kernel
theorem dX5_wordOf_28 : decode cX5_wordOf 28 = .ok (.ldc 125, 2) := by decide +kernel
theorem dX5_wordOf_30 : decode cX5_wordOf 30 = .ok (.areturn, 1) := by decide +kernel
theorem dX5_wordOf_31 : decode cX5_wordOf 31 = .ok (.ldc 127, 2) := by decide +kernel
theorem dX5_wordOf_33 : decode cX5_wordOf 33 = .ok (.areturn, 1) := by decide +kernel
theorem dX5_wordOf_34 : decode cX5_wordOf 34 = .ok (.ldc 129, 2) := by decide +kernel
theorem dX5_wordOf_36 : decode cX5_wordOf 36 = .ok (.areturn, 1) := by decide +kernel
theorem dX5_namesOf_0 : decode cX5_namesOf 0 = .ok (.iload_n 0, 1) := by decide +kernel
theorem dX5_namesOf_1 : decode cX5_namesOf 1 = .ok (.lookupswitch 33 #[(0, 27), (1, 30)], 27) := by decide +kernel
theorem dX5_namesOf_28 : decode cX5_namesOf 28 = .ok (.ldc 131, 2) := by decide +kernel
theorem dX5_namesOf_30 : decode cX5_namesOf 30 = .ok (.areturn, 1) := by decide +kernel
theorem dX5_namesOf_31 : decode cX5_namesOf 31 = .ok (.ldc 133, 2) := by decide +kernel
theorem dX5_namesOf_33 : decode cX5_namesOf 33 = .ok (.areturn, 1) := by decide +kernel
theorem dX5_namesOf_34 : decode cX5_namesOf 34 = .ok (.ldc 135, 2) := by decide +kernel
theorem dX5_namesOf_36 : decode cX5_namesOf 36 = .ok (.areturn, 1) := by decide +kernel
theorem dX5_signsOf_0 : decode cX5_signsOf 0 = .ok (.iload_n 0, 1) := by decide +kernel
theorem dX5_signsOf_1 : decode cX5_signsOf 1 = .ok (.tableswitch 43 0 3 #[31, 34, 37, 40], 31) := by decide +kernel
theorem dX5_signsOf_32 : decode cX5_signsOf 32 = .ok (.ldc 137, 2) := by decide +kernel
theorem dX5_signsOf_34 : decode cX5_signsOf 34 = .ok (.areturn, 1) := by decide +kernel
theorem dX5_signsOf_35 : decode cX5_signsOf 35 = .ok (.ldc 139, 2) := by decide +kernel
theorem dX5_signsOf_37 : decode cX5_signsOf 37 = .ok (.areturn, 1) := by decide +kernel
theorem dX5_signsOf_38 : decode cX5_signsOf 38 = .ok (.ldc 141, 2) := by decide +kernel
theorem dX5_signsOf_40 : decode cX5_signsOf 40 = .ok (.areturn, 1) := by decide +kernel
theorem dX5_signsOf_41 : decode cX5_signsOf 41 = .ok (.ldc 143, 2) := by decide +kernel
theorem dX5_signsOf_43 : decode cX5_signsOf 43 = .ok (.areturn, 1) := by decide +kernel
theorem dX5_signsOf_44 : decode cX5_signsOf 44 = .ok (.ldc 145, 2) := by decide +kernel
theorem dX5_signsOf_46 : decode cX5_signsOf 46 = .ok (.areturn, 1) := by decide +kernel
theorem dX6_init_0 : decode cX6_init 0 = .ok (.aload_n 0, 1) := by decide +kernel
theorem dX6_init_1 : decode cX6_init 1 = .ok (.invokespecial 3, 3) := by decide +kernel
theorem dX6_init_4 : decode cX6_init 4 = .ok (.aload_n 0, 1) := by decide +kernel
theorem dX6_init_5 : decode cX6_init 5 = .ok (.aload_n 1, 1) := by decide +kernel
theorem dX6_init_6 : decode cX6_init 6 = .ok (.putfield 9, 3) := by decide +kernel
theorem dX6_init_9 : decode cX6_init 9 = .ok (.aload_n 0, 1) := by decide +kernel
theorem dX6_init_10 : decode cX6_init 10 = .ok (.bipush 8, 2) := by decide +kernel
theorem dX6_init_12 : decode cX6_init 12 = .ok (.anewarray 15, 3) := by decide +kernel
theorem dX6_init_15 : decode cX6_init 15 = .ok (.putfield 17, 3) := by decide +kernel
theorem dX6_init_18 : decode cX6_init 18 = .ok (.iconst 0, 1) := by decide +kernel
theorem dX6_init_19 : decode cX6_init 19 = .ok (.istore_n 2, 1) := by decide +kernel
theorem dX6_init_20 : decode cX6_init 20 = .ok (.iload_n 2, 1) := by decide +kernel
theorem dX6_init_21 : decode cX6_init 21 = .ok (.bipush 8, 2) := by decide +kernel
theorem dX6_init_23 : decode cX6_init 23 = .ok (.if_icmp .ge 22, 3) := by decide +kernel
theorem dX6_init_26 : decode cX6_init 26 = .ok (.aload_n 0, 1) := by decide +kernel
theorem dX6_init_27 : decode cX6_init 27 = .ok (.getfield 17, 3) := by decide +kernel
theorem dX6_init_30 : decode cX6_init 30 = .ok (.iload_n 2, 1) := by decide +kernel
theorem dX6_init_31 : decode cX6_init 31 = .ok (.new 15, 3) := by decide +kernel
theorem dX6_init_34 : decode cX6_init 34 = .ok (.dup, 1) := by decide +kernel
theorem dX6_init_35 : decode cX6_init 35 = .ok (.invokespecial 21, 3) := by decide +kernel
theorem dX6_init_38 : decode cX6_init 38 = .ok (.aastore, 1) := by decide +kernel
theorem dX6_init_39 : decode cX6_init 39 = .ok (.iinc 2 1, 3) := by decide +kernel
theorem dX6_init_42 : decode cX6_init 42 = .ok (.goto (-22), 3) := by decide +kernel
theorem dX6_init_45 : decode cX6_init 45 = .ok (.aload_n 0, 1) := by decide +kernel
theorem dX6_init_46 : decode cX6_init 46 = .ok (.bipush 60, 2) := by decide +kernel
theorem dX6_init_48 : decode cX6_init 48 = .ok (.newarray .int, 2) := by decide +kernel
theorem dX6_init_50 : decode cX6_init 50 = .ok (.putfield 22, 3) := by decide +kernel
theorem dX6_init_53 : decode cX6_init 53 = .ok (.aload_n 0, 1) := by decide +kernel
theorem dX6_init_54 : decode cX6_init 54 = .ok (.bipush 60, 2) := by decide +kernel
theorem dX6_init_56 : decode cX6_init 56 = .ok (.newarray .int, 2) := by decide +kernel
theorem dX6_init_58 : decode cX6_init 58 = .ok (.putfield 26, 3) := by decide +kernel
theorem dX6_init_61 : decode cX6_init 61 = .ok (.aload_n 0, 1) := by decide +kernel
theorem dX6_init_62 : decode cX6_init 62 = .ok (.iconst 4, 1) := by decide +kernel
theorem dX6_init_63 : decode cX6_init 63 = .ok (.newarray .int, 2) := by decide +kernel
theorem dX6_init_65 : decode cX6_init 65 = .ok (.putfield 29, 3) := by decide +kernel
theorem dX6_init_68 : decode cX6_init 68 = .ok (.aload_n 0, 1) := by decide +kernel
theorem dX6_init_69 : decode cX6_init 69 = .ok (.iconst 3, 1) := by decide +kernel
theorem dX6_init_70 : decode cX6_init 70 = .ok (.newarray .int, 2) := by decide +kernel
theorem dX6_init_72 : decode cX6_init 72 = .ok (.putfield 32, 3) := by decide +kernel
theorem dX6_init_75 : decode cX6_init 75 = .ok (.aload_n 0, 1) := by decide +kernel
theorem dX6_init_76 : decode cX6_init 76 = .ok (.getfield 32, 3) := by decide +kernel
theorem dX6_init_79 : decode cX6_init 79 = .ok (.ldc 35, 2) := by decide +kernel
theorem dX6_init_81 : decode cX6_init 81 = .ok (.invokestatic 36, 3) := by decide +kernel
theorem dX6_init_84 : decode cX6_init 84 = .ok (.aload_n 0, 1) := by decide +kernel
theorem dX6_init_85 : decode cX6_init 85 = .ok (.iconst 1, 1) := by decide +kernel
theorem dX6_init_86 : decode cX6_init 86 = .ok (.putfield 42, 3) := by decide +kernel
theorem dX6_init_89 : decode cX6_init 89 = .ok (.return_, 1) := by decide +kernel
theorem dX6_become_0 : decode cX6_become 0 = .ok (.iconst 0, 1) := by decide +kernel
theorem dX6_become_1 : decode cX6_become 1 = .ok (.istore_n 2, 1) := by decide +kernel
theorem dX6_become_2 : decode cX6_become 2 = .ok (.iload_n 2, 1) := by decide +kernel
theorem dX6_become_3 : decode cX6_become 3 = .ok (.aload_n 1, 1) := by decide +kernel
theorem dX6_become_4 : decode cX6_become 4 = .ok (.getfield 46, 3) := by decide +kernel
theorem dX6_become_7 : decode cX6_become 7 = .ok (.if_icmp .ge 24, 3) := by decide +kernel
theorem dX6_become_10 : decode cX6_become 10 = .ok (.aload_n 0, 1) := by decide +kernel
theorem dX6_become_11 : decode cX6_become 11 = .ok (.getfield 17, 3) := by decide +kernel
theorem dX6_become_14 : decode cX6_become 14 = .ok (.iload_n 2, 1) := by decide +kernel
theorem dX6_become_15 : decode cX6_become 15 = .ok (.aaload, 1) := by decide +kernel
theorem dX6_become_16 : decode cX6_become 16 = .ok (.aload_n 1, 1) := by decide +kernel
theorem dX6_become_17 : decode cX6_become 17 = .ok (.getfield 17, 3) := by decide +kernel
theorem dX6_become_20 : decode cX6_become 20 = .ok (.iload_n 2, 1) := by decide +kernel
theorem dX6_become_21 : decode cX6_become 21 = .ok (.aaload, 1) := by decide +kernel
theorem dX6_become_22 : decode cX6_become 22 = .ok (.invokevirtual 49, 3) := by decide +kernel
theorem dX6_become_25 : decode cX6_become 25 = .ok (.iinc 2 1, 3) := by decide +kernel
theorem dX6_become_28 : decode cX6_become 28 = .ok (.goto (-26), 3) := by decide +kernel
theorem dX6_become_31 : decode cX6_become 31 = .ok (.aload_n 1, 1) := by decide +kernel
theorem dX6_become_32 : decode cX6_become 32 = .ok (.getfield 22, 3) := by decide +kernel
theorem dX6_become_35 : decode cX6_become 35 = .ok (.iconst 0, 1) := by decide +kernel
theorem dX6_become_36 : decode cX6_become 36 = .ok (.aload_n 0, 1) := by decide +kernel
theorem dX6_become_37 : decode cX6_become 37 = .ok (.getfield 22, 3) := by decide +kernel
theorem dX6_become_40 : decode cX6_become 40 = .ok (.iconst 0, 1) := by decide +kernel
theorem dX6_become_41 : decode cX6_become 41 = .ok (.bipush 60, 2) := by decide +kernel
theorem dX6_become_43 : decode cX6_become 43 = .ok (.invokestatic 53, 3) := by decide +kernel
theorem dX6_become_46 : decode cX6_become 46 = .ok (.aload_n 1, 1) := by decide +kernel
theorem dX6_become_47 : decode cX6_become 47 = .ok (.getfield 26, 3) := by decide +kernel
theorem dX6_become_50 : decode cX6_become 50 = .ok (.iconst 0, 1) := by decide +kernel
theorem dX6_become_51 : decode cX6_become 51 = .ok (.aload_n 0, 1) := by decide +kernel
theorem dX6_become_52 : decode cX6_become 52 = .ok (.getfield 26, 3) := by decide +kernel
theorem dX6_become_55 : decode cX6_become 55 = .ok (.iconst 0, 1) := by decide +kernel
theorem dX6_become_56 : decode cX6_become 56 = .ok (.bipush 60, 2) := by decide +kernel
theorem dX6_become_58 : decode cX6_become 58 = .ok (.invokestatic 53, 3) := by decide +kernel
theorem dX6_become_61 : decode cX6_become 61 = .ok (.aload_n 1, 1) := by decide +kernel
theorem dX6_become_62 : decode cX6_become 62 = .ok (.getfield 29, 3) := by decide +kernel
theorem dX6_become_65 : decode cX6_become 65 = .ok (.iconst 0, 1) := by decide +kernel
theorem dX6_become_66 : decode cX6_become 66 = .ok (.aload_n 0, 1) := by decide +kernel
theorem dX6_become_67 : decode cX6_become 67 = .ok (.getfield 29, 3) := by decide +kernel
theorem dX6_become_70 : decode cX6_become 70 = .ok (.iconst 0, 1) := by decide +kernel
theorem dX6_become_71 : decode cX6_become 71 = .ok (.iconst 4, 1) := by decide +kernel
theorem dX6_become_72 : decode cX6_become 72 = .ok (.invokestatic 53, 3) := by decide +kernel
theorem dX6_become_75 : decode cX6_become 75 = .ok (.aload_n 1, 1) := by decide +kernel
theorem dX6_become_76 : decode cX6_become 76 = .ok (.getfield 32, 3) := by decide +kernel
theorem dX6_become_79 : decode cX6_become 79 = .ok (.iconst 0, 1) := by decide +kernel
theorem dX6_become_80 : decode cX6_become 80 = .ok (.aload_n 0, 1) := by decide +kernel
theorem dX6_become_81 : decode cX6_become 81 = .ok (.getfield 32, 3) := by decide +kernel
theorem dX6_become_84 : decode cX6_become 84 = .ok (.iconst 0, 1) := by decide +kernel
theorem dX6_become_85 : decode cX6_become 85 = .ok (.iconst 3, 1) := by decide +kernel
theorem dX6_become_86 : decode cX6_become 86 = .ok (.invokestatic 53, 3) := by decide +kernel
theorem dX6_become_89 : decode cX6_become 89 = .ok (.aload_n 0, 1) := by decide +kernel
theorem dX6_become_90 : decode cX6_become 90 = .ok (.aload_n 1, 1) := by decide +kernel
theorem dX6_become_91 : decode cX6_become 91 = .ok (.getfield 46, 3) := by decide +kernel
theorem dX6_become_94 : decode cX6_become 94 = .ok (.putfield 46, 3) := by decide +kernel
theorem dX6_become_97 : decode cX6_become 97 = .ok (.aload_n 0, 1) := by decide +kernel
theorem dX6_become_98 : decode cX6_become 98 = .ok (.aload_n 1, 1) := by decide +kernel
theorem dX6_become_99 : decode cX6_become 99 = .ok (.getfield 59, 3) := by decide +kernel
theorem dX6_become_102 : decode cX6_become 102 = .ok (.putfield 59, 3) := by decide +kernel
theorem dX6_become_105 : decode cX6_become 105 = .ok (.aload_n 0, 1) := by decide +kernel
theorem dX6_become_106 : decode cX6_become 106 = .ok (.aload_n 1, 1) := by decide +kernel
theorem dX6_become_107 : decode cX6_become 107 = .ok (.getfield 62, 3) := by decide +kernel
theorem dX6_become_110 : decode cX6_become 110 = .ok (.putfield 62, 3) := by decide +kernel
theorem dX6_become_113 : decode cX6_become 113 = .ok (.aload_n 0, 1) := by decide +kernel
theorem dX6_become_114 : decode cX6_become 114 = .ok (.aload_n 1, 1) := by decide +kernel
theorem dX6_become_115 : decode cX6_become 115 = .ok (.getfield 65, 3) := by decide +kernel
theorem dX6_become_118 : decode cX6_become 118 = .ok (.putfield 65, 3) := by decide +kernel
theorem dX6_become_121 : decode cX6_become 121 = .ok (.aload_n 0, 1) := by decide +kernel
theorem dX6_become_122 : decode cX6_become 122 = .ok (.aload_n 1, 1) := by decide +kernel
theorem dX6_become_123 : decode cX6_become 123 = .ok (.getfield 68, 3) := by decide +kernel
theorem dX6_become_126 : decode cX6_become 126 = .ok (.putfield 68, 3) := by decide +kernel
theorem dX6_become_129 : decode cX6_become 129 = .ok (.aload_n 0, 1) := by decide +kernel
theorem dX6_become_130 : decode cX6_become 130 = .ok (.aload_n 1, 1) := by decide +kernel
theorem dX6_become_131 : decode cX6_become 131 = .ok (.getfield 42, 3) := by decide +kernel
theorem dX6_become_134 : decode cX6_become 134 = .ok (.putfield 42, 3) := by decide +kernel
theorem dX6_become_137 : decode cX6_become 137 = .ok (.aload_n 0, 1) := by decide +kernel
theorem dX6_become_138 : decode cX6_become 138 = .ok (.aload_n 1, 1) := by decide +kernel
theorem dX6_become_139 : decode cX6_become 139 = .ok (.getfield 71, 3) := by decide +kernel
theorem dX6_become_142 : decode cX6_become 142 = .ok (.putfield 71, 3) := by decide +kernel
theorem dX6_become_145 : decode cX6_become 145 = .ok (.return_, 1) := by decide +kernel
theorem dX6_addMule_0 : decode cX6_addMule 0 = .ok (.aload_n 0, 1) := by decide +kernel
theorem dX6_addMule_1 : decode cX6_addMule 1 = .ok (.getfield 46, 3) := by decide +kernel
theorem dX6_addMule_4 : decode cX6_addMule 4 = .ok (.bipush 8, 2) := by decide +kernel
theorem dX6_addMule_6 : decode cX6_addMule 6 = .ok (.if_icmp .lt 4, 3) := by decide +kernel
theorem dX6_addMule_9 : decode cX6_addMule 9 = .ok (.return_, 1) := by decide +kernel
theorem dX6_addMule_10 : decode cX6_addMule 10 = .ok (.aload_n 0, 1) := by decide +kernel
theorem dX6_addMule_11 : decode cX6_addMule 11 = .ok (.getfield 17, 3) := by decide +kernel
theorem dX6_addMule_14 : decode cX6_addMule 14 = .ok (.aload_n 0, 1) := by decide +kernel
theorem dX6_addMule_15 : decode cX6_addMule 15 = .ok (.getfield 46, 3) := by decide +kernel
theorem dX6_addMule_18 : decode cX6_addMule 18 = .ok (.aaload, 1) := by decide +kernel
theorem dX6_addMule_19 : decode cX6_addMule 19 = .ok (.astore 5, 2) := by decide +kernel
theorem dX6_addMule_21 : decode cX6_addMule 21 = .ok (.aload 5, 2) := by decide +kernel
theorem dX6_addMule_23 : decode cX6_addMule 23 = .ok (.iload_n 1, 1) := by decide +kernel
theorem dX6_addMule_24 : decode cX6_addMule 24 = .ok (.putfield 74, 3) := by decide +kernel
theorem dX6_addMule_27 : decode cX6_addMule 27 = .ok (.aload 5, 2) := by decide +kernel
theorem dX6_addMule_29 : decode cX6_addMule 29 = .ok (.iload_n 2, 1) := by decide +kernel
theorem dX6_addMule_30 : decode cX6_addMule 30 = .ok (.putfield 77, 3) := by decide +kernel
theorem dX6_addMule_33 : decode cX6_addMule 33 = .ok (.aload 5, 2) := by decide +kernel
theorem dX6_addMule_35 : decode cX6_addMule 35 = .ok (.iconst 0, 1) := by decide +kernel
theorem dX6_addMule_36 : decode cX6_addMule 36 = .ok (.putfield 80, 3) := by decide +kernel
theorem dX6_addMule_39 : decode cX6_addMule 39 = .ok (.aload 5, 2) := by decide +kernel
theorem dX6_addMule_41 : decode cX6_addMule 41 = .ok (.iload_n 3, 1) := by decide +kernel
theorem dX6_addMule_42 : decode cX6_addMule 42 = .ok (.putfield 83, 3) := by decide +kernel
theorem dX6_addMule_45 : decode cX6_addMule 45 = .ok (.aload 5, 2) := by decide +kernel
theorem dX6_addMule_47 : decode cX6_addMule 47 = .ok (.iload 4, 2) := by decide +kernel
theorem dX6_addMule_49 : decode cX6_addMule 49 = .ok (.putfield 86, 3) := by decide +kernel
theorem dX6_addMule_52 : decode cX6_addMule 52 = .ok (.aload_n 0, 1) := by decide +kernel
theorem dX6_addMule_53 : decode cX6_addMule 53 = .ok (.dup, 1) := by decide +kernel
theorem dX6_addMule_54 : decode cX6_addMule 54 = .ok (.getfield 46, 3) := by decide +kernel
theorem dX6_addMule_57 : decode cX6_addMule 57 = .ok (.iconst 1, 1) := by decide +kernel
theorem dX6_addMule_58 : decode cX6_addMule 58 = .ok (.iadd, 1) := by decide +kernel
theorem dX6_addMule_59 : decode cX6_addMule 59 = .ok (.putfield 46, 3) := by decide +kernel
theorem dX6_addMule_62 : decode cX6_addMule 62 = .ok (.return_, 1) := by decide +kernel
theorem dX6_drawMule_0 : decode cX6_drawMule 0 = .ok (.aload_n 0, 1) := by decide +kernel
theorem dX6_drawMule_1 : decode cX6_drawMule 1 = .ok (.invokevirtual 89, 3) := by decide +kernel
theorem dX6_drawMule_4 : decode cX6_drawMule 4 = .ok (.bipush 6, 2) := by decide +kernel
theorem dX6_drawMule_6 : decode cX6_drawMule 6 = .ok (.irem, 1) := by decide +kernel
theorem dX6_drawMule_7 : decode cX6_drawMule 7 = .ok (.istore_n 1, 1) := by decide +kernel
theorem dX6_drawMule_8 : decode cX6_drawMule 8 = .ok (.iconst 1, 1) := by decide +kernel
theorem dX6_drawMule_9 : decode cX6_drawMule 9 = .ok (.aload_n 0, 1) := by decide +kernel
theorem dX6_drawMule_10 : decode cX6_drawMule 10 = .ok (.invokevirtual 89, 3) := by decide +kernel
theorem dX6_drawMule_13 : decode cX6_drawMule 13 = .ok (.bipush 9, 2) := by decide +kernel
theorem dX6_drawMule_15 : decode cX6_drawMule 15 = .ok (.irem, 1) := by decide +kernel
theorem dX6_drawMule_16 : decode cX6_drawMule 16 = .ok (.iadd, 1) := by decide +kernel
theorem dX6_drawMule_17 : decode cX6_drawMule 17 = .ok (.istore_n 2, 1) := by decide +kernel
theorem dX6_drawMule_18 : decode cX6_drawMule 18 = .ok (.aload_n 0, 1) := by decide +kernel
theorem dX6_drawMule_19 : decode cX6_drawMule 19 = .ok (.invokevirtual 89, 3) := by decide +kernel
theorem dX6_drawMule_22 : decode cX6_drawMule 22 = .ok (.sipush 1000, 3) := by decide +kernel
theorem dX6_drawMule_25 : decode cX6_drawMule 25 = .ok (.irem, 1) := by decide +kernel
theorem dX6_drawMule_26 : decode cX6_drawMule 26 = .ok (.istore_n 3, 1) := by decide +kernel
theorem dX6_drawMule_27 : decode cX6_drawMule 27 = .ok (.aload_n 0, 1) := by decide +kernel
theorem dX6_drawMule_28 : decode cX6_drawMule 28 = .ok (.invokevirtual 89, 3) := by decide +kernel
theorem dX6_drawMule_31 : decode cX6_drawMule 31 = .ok (.bipush 30, 2) := by decide +kernel
theorem dX6_drawMule_33 : decode cX6_drawMule 33 = .ok (.irem, 1) := by decide +kernel
theorem dX6_drawMule_34 : decode cX6_drawMule 34 = .ok (.istore 4, 2) := by decide +kernel
theorem dX6_drawMule_36 : decode cX6_drawMule 36 = .ok (.aload_n 0, 1) := by decide +kernel
theorem dX6_drawMule_37 : decode cX6_drawMule 37 = .ok (.iload_n 1, 1) := by decide +kernel
theorem dX6_drawMule_38 : decode cX6_drawMule 38 = .ok (.iload_n 2, 1) := by decide +kernel
theorem dX6_drawMule_39 : decode cX6_drawMule 39 = .ok (.iload_n 3, 1) := by decide +kernel
theorem dX6_drawMule_40 : decode cX6_drawMule 40 = .ok (.iload 4, 2) := by decide +kernel
theorem dX6_drawMule_42 : decode cX6_drawMule 42 = .ok (.invokevirtual 93, 3) := by decide +kernel
theorem dX6_drawMule_45 : decode cX6_drawMule 45 = .ok (.return_, 1) := by decide +kernel
theorem dX6_draw_0 : decode cX6_draw 0 = .ok (.aload_n 0, 1) := by decide +kernel
theorem dX6_draw_1 : decode cX6_draw 1 = .ok (.aload_n 0, 1) := by decide +kernel
theorem dX6_draw_2 : decode cX6_draw 2 = .ok (.getfield 42, 3) := by decide +kernel
theorem dX6_draw_5 : decode cX6_draw 5 = .ok (.ldc 97, 2) := by decide +kernel
theorem dX6_draw_7 : decode cX6_draw 7 = .ok (.imul, 1) := by decide +kernel
theorem dX6_draw_8 : decode cX6_draw 8 = .ok (.sipush 12345, 3) := by decide +kernel
theorem dX6_draw_11 : decode cX6_draw 11 = .ok (.iadd, 1) := by decide +kernel
theorem dX6_draw_12 : decode cX6_draw 12 = .ok (.putfield 42, 3) := by decide +kernel
theorem dX6_draw_15 : decode cX6_draw 15 = .ok (.aload_n 0, 1) := by decide +kernel
theorem dX6_draw_16 : decode cX6_draw 16 = .ok (.getfield 42, 3) := by decide +kernel
theorem dX6_draw_19 : decode cX6_draw 19 = .ok (.bipush 8, 2) := by decide +kernel
theorem dX6_draw_21 : decode cX6_draw 21 = .ok (.iushr, 1) := by decide +kernel
theorem dX6_draw_22 : decode cX6_draw 22 = .ok (.ireturn, 1) := by decide +kernel
theorem dX6_leaksOf_0 : decode cX6_leaksOf 0 = .ok (.aload_n 0, 1) := by decide +kernel
theorem dX6_leaksOf_1 : decode cX6_leaksOf 1 = .ok (.iconst 0, 1) := by decide +kernel
theorem dX6_leaksOf_2 : decode cX6_leaksOf 2 = .ok (.aload_n 1, 1) := by decide +kernel
theorem dX6_leaksOf_3 : decode cX6_leaksOf 3 = .ok (.getfield 86, 3) := by decide +kernel
theorem dX6_leaksOf_6 : decode cX6_leaksOf 6 = .ok (.aload_n 1, 1) := by decide +kernel
theorem dX6_leaksOf_7 : decode cX6_leaksOf 7 = .ok (.getfield 86, 3) := by decide +kernel
theorem dX6_leaksOf_10 : decode cX6_leaksOf 10 = .ok (.aload_n 1, 1) := by decide +kernel
theorem dX6_leaksOf_11 : decode cX6_leaksOf 11 = .ok (.getfield 77, 3) := by decide +kernel
theorem dX6_leaksOf_14 : decode cX6_leaksOf 14 = .ok (.aload_n 1, 1) := by decide +kernel
theorem dX6_leaksOf_15 : decode cX6_leaksOf 15 = .ok (.getfield 83, 3) := by decide +kernel
theorem dX6_leaksOf_18 : decode cX6_leaksOf 18 = .ok (.invokevirtual 98, 3) := by decide +kernel
theorem dX6_leaksOf_21 : decode cX6_leaksOf 21 = .ok (.istore_n 2, 1) := by decide +kernel
theorem dX6_leaksOf_22 : decode cX6_leaksOf 22 = .ok (.aload_n 1, 1) := by decide +kernel
theorem dX6_leaksOf_23 : decode cX6_leaksOf 23 = .ok (.iload_n 2, 1) := by decide +kernel
theorem dX6_leaksOf_24 : decode cX6_leaksOf 24 = .ok (.iconst 0, 1) := by decide +kernel
theorem dX6_leaksOf_25 : decode cX6_leaksOf 25 = .ok (.sipush 999, 3) := by decide +kernel
theorem dX6_leaksOf_28 : decode cX6_leaksOf 28 = .ok (.invokestatic 102, 3) := by decide +kernel
theorem dX6_leaksOf_31 : decode cX6_leaksOf 31 = .ok (.invokevirtual 106, 3) := by decide +kernel
theorem dX6_leaksOf_34 : decode cX6_leaksOf 34 = .ok (.ireturn, 1) := by decide +kernel
theorem dX6_given_0 : decode cX6_given 0 = .ok (.aload_n 0, 1) := by decide +kernel
theorem dX6_given_1 : decode cX6_given 1 = .ok (.getfield 32, 3) := by decide +kernel
theorem dX6_given_4 : decode cX6_given 4 = .ok (.iload_n 1, 1) := by decide +kernel
theorem dX6_given_5 : decode cX6_given 5 = .ok (.iaload, 1) := by decide +kernel
theorem dX6_given_6 : decode cX6_given 6 = .ok (.istore 6, 2) := by decide +kernel
theorem dX6_given_8 : decode cX6_given 8 = .ok (.iload 6, 2) := by decide +kernel
theorem dX6_given_10 : decode cX6_given 10 = .ok (.iconst 0, 1) := by decide +kernel
theorem dX6_given_11 : decode cX6_given 11 = .ok (.bipush 13, 2) := by decide +kernel
theorem dX6_given_13 : decode cX6_given 13 = .ok (.invokestatic 110, 3) := by decide +kernel
theorem dX6_given_16 : decode cX6_given 16 = .ok (.ifCond .eq 21, 3) := by decide +kernel
theorem dX6_given_19 : decode cX6_given 19 = .ok (.aload_n 0, 1) := by decide +kernel
theorem dX6_given_20 : decode cX6_given 20 = .ok (.getfield 9, 3) := by decide +kernel
theorem dX6_given_23 : decode cX6_given 23 = .ok (.iload 6, 2) := by decide +kernel
theorem dX6_given_25 : decode cX6_given 25 = .ok (.aaload, 1) := by decide +kernel
theorem dX6_given_26 : decode cX6_given 26 = .ok (.iload_n 3, 1) := by decide +kernel
theorem dX6_given_27 : decode cX6_given 27 = .ok (.iload 4, 2) := by decide +kernel
theorem dX6_given_29 : decode cX6_given 29 = .ok (.iload 5, 2) := by decide +kernel
theorem dX6_given_31 : decode cX6_given 31 = .ok (.invokevirtual 114, 3) := by decide +kernel
theorem dX6_given_34 : decode cX6_given 34 = .ok (.goto 4, 3) := by decide +kernel
theorem dX6_given_37 : decode cX6_given 37 = .ok (.iload_n 2, 1) := by decide +kernel
theorem dX6_given_38 : decode cX6_given 38 = .ok (.ireturn, 1) := by decide +kernel
theorem dX6_roomFor_0 : decode cX6_roomFor 0 = .ok (.iload_n 1, 1) := by decide +kernel
theorem dX6_roomFor_1 : decode cX6_roomFor 1 = .ok (.sipush 9999, 3) := by decide +kernel
theorem dX6_roomFor_4 : decode cX6_roomFor 4 = .ok (.aload_n 0, 1) := by decide +kernel
theorem dX6_roomFor_5 : decode cX6_roomFor 5 = .ok (.getfield 68, 3) := by decide +kernel
theorem dX6_roomFor_8 : decode cX6_roomFor 8 = .ok (.isub, 1) := by decide +kernel
theorem dX6_roomFor_9 : decode cX6_roomFor 9 = .ok (.invokestatic 119, 3) := by decide +kernel
theorem dX6_roomFor_12 : decode cX6_roomFor 12 = .ok (.ireturn, 1) := by decide +kernel
theorem dX6_pass_0 : decode cX6_pass 0 = .ok (.iconst 0, 1) := by decide +kernel
theorem dX6_pass_1 : decode cX6_pass 1 = .ok (.istore_n 2, 1) := by decide +kernel
theorem dX6_pass_2 : decode cX6_pass 2 = .ok (.iload_n 2, 1) := by decide +kernel
theorem dX6_pass_3 : decode cX6_pass 3 = .ok (.iload_n 1, 1) := by decide +kernel
theorem dX6_pass_4 : decode cX6_pass 4 = .ok (.if_icmp .ge 67, 3) := by decide +kernel
theorem dX6_pass_7 : decode cX6_pass 7 = .ok (.iconst 0, 1) := by decide +kernel
theorem dX6_pass_8 : decode cX6_pass 8 = .ok (.istore_n 3, 1) := by decide +kernel
theorem dX6_pass_9 : decode cX6_pass 9 = .ok (.iload_n 3, 1) := by decide +kernel
theorem dX6_pass_10 : decode cX6_pass 10 = .ok (.aload_n 0, 1) := by decide +kernel
theorem dX6_pass_11 : decode cX6_pass 11 = .ok (.getfield 46, 3) := by decide +kernel
theorem dX6_pass_14 : decode cX6_pass 14 = .ok (.if_icmp .ge 19, 3) := by decide +kernel
theorem dX6_pass_17 : decode cX6_pass 17 = .ok (.aload_n 0, 1) := by decide +kernel
theorem dX6_pass_18 : decode cX6_pass 18 = .ok (.aload_n 0, 1) := by decide +kernel
theorem dX6_pass_19 : decode cX6_pass 19 = .ok (.getfield 17, 3) := by decide +kernel
theorem dX6_pass_22 : decode cX6_pass 22 = .ok (.iload_n 3, 1) := by decide +kernel
theorem dX6_pass_23 : decode cX6_pass 23 = .ok (.aaload, 1) := by decide +kernel
theorem dX6_pass_24 : decode cX6_pass 24 = .ok (.invokevirtual 125, 3) := by decide +kernel
theorem dX6_pass_27 : decode cX6_pass 27 = .ok (.iinc 3 1, 3) := by decide +kernel
theorem dX6_pass_30 : decode cX6_pass 30 = .ok (.goto (-21), 3) := by decide +kernel
theorem dX6_pass_33 : decode cX6_pass 33 = .ok (.aload_n 0, 1) := by decide +kernel
theorem dX6_pass_34 : decode cX6_pass 34 = .ok (.getfield 68, 3) := by decide +kernel
theorem dX6_pass_37 : decode cX6_pass 37 = .ok (.iconst 5, 1) := by decide +kernel
theorem dX6_pass_38 : decode cX6_pass 38 = .ok (.irem, 1) := by decide +kernel
theorem dX6_pass_39 : decode cX6_pass 39 = .ok (.iconst 4, 1) := by decide +kernel
theorem dX6_pass_40 : decode cX6_pass 40 = .ok (.if_icmp .ne 7, 3) := by decide +kernel
theorem dX6_pass_43 : decode cX6_pass 43 = .ok (.aload_n 0, 1) := by decide +kernel
theorem dX6_pass_44 : decode cX6_pass 44 = .ok (.invokevirtual 128, 3) := by decide +kernel
theorem dX6_pass_47 : decode cX6_pass 47 = .ok (.aload_n 0, 1) := by decide +kernel
theorem dX6_pass_48 : decode cX6_pass 48 = .ok (.invokevirtual 131, 3) := by decide +kernel
theorem dX6_pass_51 : decode cX6_pass 51 = .ok (.aload_n 0, 1) := by decide +kernel
theorem dX6_pass_52 : decode cX6_pass 52 = .ok (.invokevirtual 134, 3) := by decide +kernel
theorem dX6_pass_55 : decode cX6_pass 55 = .ok (.aload_n 0, 1) := by decide +kernel
theorem dX6_pass_56 : decode cX6_pass 56 = .ok (.dup, 1) := by decide +kernel
theorem dX6_pass_57 : decode cX6_pass 57 = .ok (.getfield 68, 3) := by decide +kernel
theorem dX6_pass_60 : decode cX6_pass 60 = .ok (.iconst 1, 1) := by decide +kernel
theorem dX6_pass_61 : decode cX6_pass 61 = .ok (.iadd, 1) := by decide +kernel
theorem dX6_pass_62 : decode cX6_pass 62 = .ok (.putfield 68, 3) := by decide +kernel
theorem dX6_pass_65 : decode cX6_pass 65 = .ok (.iinc 2 1, 3) := by decide +kernel
theorem dX6_pass_68 : decode cX6_pass 68 = .ok (.goto (-66), 3) := by decide +kernel
theorem dX6_pass_71 : decode cX6_pass 71 = .ok (.return_, 1) := by decide +kernel
theorem dX6_goOn_0 : decode cX6_goOn 0 = .ok (.aload_n 1, 1) := by decide +kernel
theorem dX6_goOn_1 : decode cX6_goOn 1 = .ok (.getfield 80, 3) := by decide +kernel
theorem dX6_goOn_4 : decode cX6_goOn 4 = .ok (.istore_n 2, 1) := by decide +kernel
theorem dX6_goOn_5 : decode cX6_goOn 5 = .ok (.iload_n 2, 1) := by decide +kernel
theorem dX6_goOn_6 : decode cX6_goOn 6 = .ok (.ifCond .lt 9, 3) := by decide +kernel
theorem dX6_goOn_9 : decode cX6_goOn 9 = .ok (.iload_n 2, 1) := by decide +kernel
theorem dX6_goOn_10 : decode cX6_goOn 10 = .ok (.bipush 59, 2) := by decide +kernel
theorem dX6_goOn_12 : decode cX6_goOn 12 = .ok (.if_icmp .lt 4, 3) := by decide +kernel
theorem dX6_goOn_15 : decode cX6_goOn 15 = .ok (.return_, 1) := by decide +kernel
theorem dX6_goOn_16 : decode cX6_goOn 16 = .ok (.aload_n 0, 1) := by decide +kernel
theorem dX6_goOn_17 : decode cX6_goOn 17 = .ok (.aload_n 1, 1) := by decide +kernel
theorem dX6_goOn_18 : decode cX6_goOn 18 = .ok (.invokevirtual 137, 3) := by decide +kernel
theorem dX6_goOn_21 : decode cX6_goOn 21 = .ok (.aload_n 1, 1) := by decide +kernel
theorem dX6_goOn_22 : decode cX6_goOn 22 = .ok (.getfield 83, 3) := by decide +kernel
theorem dX6_goOn_25 : decode cX6_goOn 25 = .ok (.invokestatic 119, 3) := by decide +kernel
theorem dX6_goOn_28 : decode cX6_goOn 28 = .ok (.istore_n 3, 1) := by decide +kernel
theorem dX6_goOn_29 : decode cX6_goOn 29 = .ok (.aload_n 1, 1) := by decide +kernel
theorem dX6_goOn_30 : decode cX6_goOn 30 = .ok (.dup, 1) := by decide +kernel
theorem dX6_goOn_31 : decode cX6_goOn 31 = .ok (.getfield 83, 3) := by decide +kernel
theorem dX6_goOn_34 : decode cX6_goOn 34 = .ok (.iload_n 3, 1) := by decide +kernel
theorem dX6_goOn_35 : decode cX6_goOn 35 = .ok (.isub, 1) := by decide +kernel
theorem dX6_goOn_36 : decode cX6_goOn 36 = .ok (.putfield 83, 3) := by decide +kernel
theorem dX6_goOn_39 : decode cX6_goOn 39 = .ok (.aload_n 0, 1) := by decide +kernel
theorem dX6_goOn_40 : decode cX6_goOn 40 = .ok (.dup, 1) := by decide +kernel
theorem dX6_goOn_41 : decode cX6_goOn 41 = .ok (.getfield 59, 3) := by decide +kernel
theorem dX6_goOn_44 : decode cX6_goOn 44 = .ok (.iload_n 3, 1) := by decide +kernel
theorem dX6_goOn_45 : decode cX6_goOn 45 = .ok (.iadd, 1) := by decide +kernel
theorem dX6_goOn_46 : decode cX6_goOn 46 = .ok (.putfield 59, 3) := by decide +kernel
theorem dX6_goOn_49 : decode cX6_goOn 49 = .ok (.aload_n 1, 1) := by decide +kernel
theorem dX6_goOn_50 : decode cX6_goOn 50 = .ok (.invokevirtual 141, 3) := by decide +kernel
theorem dX6_goOn_53 : decode cX6_goOn 53 = .ok (.bipush 59, 2) := by decide +kernel
theorem dX6_goOn_55 : decode cX6_goOn 55 = .ok (.iload_n 2, 1) := by decide +kernel
theorem dX6_goOn_56 : decode cX6_goOn 56 = .ok (.isub, 1) := by decide +kernel
theorem dX6_goOn_57 : decode cX6_goOn 57 = .ok (.invokestatic 119, 3) := by decide +kernel
theorem dX6_goOn_60 : decode cX6_goOn 60 = .ok (.istore 4, 2) := by decide +kernel
theorem dX6_goOn_62 : decode cX6_goOn 62 = .ok (.iload 4, 2) := by decide +kernel
theorem dX6_goOn_64 : decode cX6_goOn 64 = .ok (.ifCond .le 10, 3) := by decide +kernel
theorem dX6_goOn_67 : decode cX6_goOn 67 = .ok (.iload_n 3, 1) := by decide +kernel
theorem dX6_goOn_68 : decode cX6_goOn 68 = .ok (.iload 4, 2) := by decide +kernel
theorem dX6_goOn_70 : decode cX6_goOn 70 = .ok (.idiv, 1) := by decide +kernel
theorem dX6_goOn_71 : decode cX6_goOn 71 = .ok (.goto 4, 3) := by decide +kernel
theorem dX6_goOn_74 : decode cX6_goOn 74 = .ok (.iconst 0, 1) := by decide +kernel
theorem dX6_goOn_75 : decode cX6_goOn 75 = .ok (.istore 5, 2) := by decide +kernel
theorem dX6_goOn_77 : decode cX6_goOn 77 = .ok (.iconst 0, 1) := by decide +kernel
theorem dX6_goOn_78 : decode cX6_goOn 78 = .ok (.istore 6, 2) := by decide +kernel
theorem dX6_goOn_80 : decode cX6_goOn 80 = .ok (.iload 6, 2) := by decide +kernel
theorem dX6_goOn_82 : decode cX6_goOn 82 = .ok (.iload 4, 2) := by decide +kernel
theorem dX6_goOn_84 : decode cX6_goOn 84 = .ok (.if_icmp .ge 23, 3) := by decide +kernel
theorem dX6_goOn_87 : decode cX6_goOn 87 = .ok (.aload_n 0, 1) := by decide +kernel
theorem dX6_goOn_88 : decode cX6_goOn 88 = .ok (.getfield 22, 3) := by decide +kernel
theorem dX6_goOn_91 : decode cX6_goOn 91 = .ok (.iload_n 2, 1) := by decide +kernel
theorem dX6_goOn_92 : decode cX6_goOn 92 = .ok (.iload 6, 2) := by decide +kernel
theorem dX6_goOn_94 : decode cX6_goOn 94 = .ok (.iadd, 1) := by decide +kernel
theorem dX6_goOn_95 : decode cX6_goOn 95 = .ok (.dup2, 1) := by decide +kernel
theorem dX6_goOn_96 : decode cX6_goOn 96 = .ok (.iaload, 1) := by decide +kernel
theorem dX6_goOn_97 : decode cX6_goOn 97 = .ok (.iload 5, 2) := by decide +kernel
theorem dX6_goOn_99 : decode cX6_goOn 99 = .ok (.iadd, 1) := by decide +kernel
theorem dX6_goOn_100 : decode cX6_goOn 100 = .ok (.iastore, 1) := by decide +kernel
theorem dX6_goOn_101 : decode cX6_goOn 101 = .ok (.iinc 6 1, 3) := by decide +kernel
theorem dX6_goOn_104 : decode cX6_goOn 104 = .ok (.goto (-24), 3) := by decide +kernel
theorem dX6_goOn_107 : decode cX6_goOn 107 = .ok (.aload_n 0, 1) := by decide +kernel
theorem dX6_goOn_108 : decode cX6_goOn 108 = .ok (.getfield 22, 3) := by decide +kernel
theorem dX6_goOn_111 : decode cX6_goOn 111 = .ok (.iload_n 2, 1) := by decide +kernel
theorem dX6_goOn_112 : decode cX6_goOn 112 = .ok (.dup2, 1) := by decide +kernel
theorem dX6_goOn_113 : decode cX6_goOn 113 = .ok (.iaload, 1) := by decide +kernel
theorem dX6_goOn_114 : decode cX6_goOn 114 = .ok (.iload_n 3, 1) := by decide +kernel
theorem dX6_goOn_115 : decode cX6_goOn 115 = .ok (.iload 5, 2) := by decide +kernel
theorem dX6_goOn_117 : decode cX6_goOn 117 = .ok (.iload 4, 2) := by decide +kernel
theorem dX6_goOn_119 : decode cX6_goOn 119 = .ok (.imul, 1) := by decide +kernel
theorem dX6_goOn_120 : decode cX6_goOn 120 = .ok (.isub, 1) := by decide +kernel
theorem dX6_goOn_121 : decode cX6_goOn 121 = .ok (.iadd, 1) := by decide +kernel
theorem dX6_goOn_122 : decode cX6_goOn 122 = .ok (.iastore, 1) := by decide +kernel
theorem dX6_goOn_123 : decode cX6_goOn 123 = .ok (.aload_n 1, 1) := by decide +kernel
theorem dX6_goOn_124 : decode cX6_goOn 124 = .ok (.iload_n 2, 1) := by decide +kernel
theorem dX6_goOn_125 : decode cX6_goOn 125 = .ok (.iload 4, 2) := by decide +kernel
theorem dX6_goOn_127 : decode cX6_goOn 127 = .ok (.iadd, 1) := by decide +kernel
theorem dX6_goOn_128 : decode cX6_goOn 128 = .ok (.putfield 80, 3) := by decide +kernel
theorem dX6_goOn_131 : decode cX6_goOn 131 = .ok (.return_, 1) := by decide +kernel
theorem dX6_widenHoles_0 : decode cX6_widenHoles 0 = .ok (.iconst 0, 1) := by decide +kernel
theorem dX6_widenHoles_1 : decode cX6_widenHoles 1 = .ok (.istore_n 1, 1) := by decide +kernel
theorem dX6_widenHoles_2 : decode cX6_widenHoles 2 = .ok (.iload_n 1, 1) := by decide +kernel
theorem dX6_widenHoles_3 : decode cX6_widenHoles 3 = .ok (.aload_n 0, 1) := by decide +kernel
theorem dX6_widenHoles_4 : decode cX6_widenHoles 4 = .ok (.getfield 46, 3) := by decide +kernel
theorem dX6_widenHoles_7 : decode cX6_widenHoles 7 = .ok (.if_icmp .ge 39, 3) := by decide +kernel
theorem dX6_widenHoles_10 : decode cX6_widenHoles 10 = .ok (.aload_n 0, 1) := by decide +kernel
theorem dX6_widenHoles_11 : decode cX6_widenHoles 11 = .ok (.getfield 17, 3) := by decide +kernel
theorem dX6_widenHoles_14 : decode cX6_widenHoles 14 = .ok (.iload_n 1, 1) := by decide +kernel
theorem dX6_widenHoles_15 : decode cX6_widenHoles 15 = .ok (.aaload, 1) := by decide +kernel
theorem dX6_widenHoles_16 : decode cX6_widenHoles 16 = .ok (.bipush 50, 2) := by decide +kernel
theorem dX6_widenHoles_18 : decode cX6_widenHoles 18 = .ok (.aload_n 0, 1) := by decide +kernel
theorem dX6_widenHoles_19 : decode cX6_widenHoles 19 = .ok (.getfield 17, 3) := by decide +kernel
theorem dX6_widenHoles_22 : decode cX6_widenHoles 22 = .ok (.iload_n 1, 1) := by decide +kernel
theorem dX6_widenHoles_23 : decode cX6_widenHoles 23 = .ok (.aaload, 1) := by decide +kernel
theorem dX6_widenHoles_24 : decode cX6_widenHoles 24 = .ok (.getfield 86, 3) := by decide +kernel
theorem dX6_widenHoles_27 : decode cX6_widenHoles 27 = .ok (.aload_n 0, 1) := by decide +kernel
theorem dX6_widenHoles_28 : decode cX6_widenHoles 28 = .ok (.getfield 29, 3) := by decide +kernel
theorem dX6_widenHoles_31 : decode cX6_widenHoles 31 = .ok (.iconst 3, 1) := by decide +kernel
theorem dX6_widenHoles_32 : decode cX6_widenHoles 32 = .ok (.iaload, 1) := by decide +kernel
theorem dX6_widenHoles_33 : decode cX6_widenHoles 33 = .ok (.iadd, 1) := by decide +kernel
theorem dX6_widenHoles_34 : decode cX6_widenHoles 34 = .ok (.invokestatic 119, 3) := by decide +kernel
theorem dX6_widenHoles_37 : decode cX6_widenHoles 37 = .ok (.putfield 86, 3) := by decide +kernel
theorem dX6_widenHoles_40 : decode cX6_widenHoles 40 = .ok (.iinc 1 1, 3) := by decide +kernel
theorem dX6_widenHoles_43 : decode cX6_widenHoles 43 = .ok (.goto (-41), 3) := by decide +kernel
theorem dX6_widenHoles_46 : decode cX6_widenHoles 46 = .ok (.return_, 1) := by decide +kernel
theorem dX6_birdsEat_0 : decode cX6_birdsEat 0 = .ok (.aload_n 0, 1) := by decide +kernel
theorem dX6_birdsEat_1 : decode cX6_birdsEat 1 = .ok (.invokevirtual 89, 3) := by decide +kernel
theorem dX6_birdsEat_4 : decode cX6_birdsEat 4 = .ok (.bipush 60, 2) := by decide +kernel
theorem dX6_birdsEat_6 : decode cX6_birdsEat 6 = .ok (.irem, 1) := by decide +kernel
theorem dX6_birdsEat_7 : decode cX6_birdsEat 7 = .ok (.istore_n 1, 1) := by decide +kernel
theorem dX6_birdsEat_8 : decode cX6_birdsEat 8 = .ok (.aload_n 0, 1) := by decide +kernel
theorem dX6_birdsEat_9 : decode cX6_birdsEat 9 = .ok (.getfield 29, 3) := by decide +kernel
theorem dX6_birdsEat_12 : decode cX6_birdsEat 12 = .ok (.iconst 0, 1) := by decide +kernel
theorem dX6_birdsEat_13 : decode cX6_birdsEat 13 = .ok (.iaload, 1) := by decide +kernel
theorem dX6_birdsEat_14 : decode cX6_birdsEat 14 = .ok (.aload_n 0, 1) := by decide +kernel
theorem dX6_birdsEat_15 : decode cX6_birdsEat 15 = .ok (.getfield 22, 3) := by decide +kernel
theorem dX6_birdsEat_18 : decode cX6_birdsEat 18 = .ok (.iload_n 1, 1) := by decide +kernel
theorem dX6_birdsEat_19 : decode cX6_birdsEat 19 = .ok (.iaload, 1) := by decide +kernel
theorem dX6_birdsEat_20 : decode cX6_birdsEat 20 = .ok (.invokestatic 119, 3) := by decide +kernel
theorem dX6_birdsEat_23 : decode cX6_birdsEat 23 = .ok (.istore_n 2, 1) := by decide +kernel
theorem dX6_birdsEat_24 : decode cX6_birdsEat 24 = .ok (.aload_n 0, 1) := by decide +kernel
theorem dX6_birdsEat_25 : decode cX6_birdsEat 25 = .ok (.getfield 22, 3) := by decide +kernel
theorem dX6_birdsEat_28 : decode cX6_birdsEat 28 = .ok (.iload_n 1, 1) := by decide +kernel
theorem dX6_birdsEat_29 : decode cX6_birdsEat 29 = .ok (.dup2, 1) := by decide +kernel
theorem dX6_birdsEat_30 : decode cX6_birdsEat 30 = .ok (.iaload, 1) := by decide +kernel
theorem dX6_birdsEat_31 : decode cX6_birdsEat 31 = .ok (.iload_n 2, 1) := by decide +kernel
theorem dX6_birdsEat_32 : decode cX6_birdsEat 32 = .ok (.isub, 1) := by decide +kernel
theorem dX6_birdsEat_33 : decode cX6_birdsEat 33 = .ok (.iastore, 1) := by decide +kernel
theorem dX6_birdsEat_34 : decode cX6_birdsEat 34 = .ok (.aload_n 0, 1) := by decide +kernel
theorem dX6_birdsEat_35 : decode cX6_birdsEat 35 = .ok (.dup, 1) := by decide +kernel
theorem dX6_birdsEat_36 : decode cX6_birdsEat 36 = .ok (.getfield 62, 3) := by decide +kernel
theorem dX6_birdsEat_39 : decode cX6_birdsEat 39 = .ok (.iload_n 2, 1) := by decide +kernel
theorem dX6_birdsEat_40 : decode cX6_birdsEat 40 = .ok (.iadd, 1) := by decide +kernel
theorem dX6_birdsEat_41 : decode cX6_birdsEat 41 = .ok (.putfield 62, 3) := by decide +kernel
theorem dX6_birdsEat_44 : decode cX6_birdsEat 44 = .ok (.return_, 1) := by decide +kernel
theorem dX6_gustBlows_0 : decode cX6_gustBlows 0 = .ok (.aload_n 0, 1) := by decide +kernel
theorem dX6_gustBlows_1 : decode cX6_gustBlows 1 = .ok (.invokevirtual 89, 3) := by decide +kernel
theorem dX6_gustBlows_4 : decode cX6_gustBlows 4 = .ok (.bipush 100, 2) := by decide +kernel
theorem dX6_gustBlows_6 : decode cX6_gustBlows 6 = .ok (.irem, 1) := by decide +kernel
theorem dX6_gustBlows_7 : decode cX6_gustBlows 7 = .ok (.aload_n 0, 1) := by decide +kernel
theorem dX6_gustBlows_8 : decode cX6_gustBlows 8 = .ok (.getfield 29, 3) := by decide +kernel
theorem dX6_gustBlows_11 : decode cX6_gustBlows 11 = .ok (.iconst 1, 1) := by decide +kernel
theorem dX6_gustBlows_12 : decode cX6_gustBlows 12 = .ok (.iaload, 1) := by decide +kernel
theorem dX6_gustBlows_13 : decode cX6_gustBlows 13 = .ok (.if_icmp .lt 4, 3) := by decide +kernel
theorem dX6_gustBlows_16 : decode cX6_gustBlows 16 = .ok (.return_, 1) := by decide +kernel
theorem dX6_gustBlows_17 : decode cX6_gustBlows 17 = .ok (.aload_n 0, 1) := by decide +kernel
theorem dX6_gustBlows_18 : decode cX6_gustBlows 18 = .ok (.invokevirtual 89, 3) := by decide +kernel
theorem dX6_gustBlows_21 : decode cX6_gustBlows 21 = .ok (.bipush 60, 2) := by decide +kernel
theorem dX6_gustBlows_23 : decode cX6_gustBlows 23 = .ok (.irem, 1) := by decide +kernel
theorem dX6_gustBlows_24 : decode cX6_gustBlows 24 = .ok (.istore_n 1, 1) := by decide +kernel
theorem dX6_gustBlows_25 : decode cX6_gustBlows 25 = .ok (.aload_n 0, 1) := by decide +kernel
theorem dX6_gustBlows_26 : decode cX6_gustBlows 26 = .ok (.getfield 22, 3) := by decide +kernel
theorem dX6_gustBlows_29 : decode cX6_gustBlows 29 = .ok (.iload_n 1, 1) := by decide +kernel
theorem dX6_gustBlows_30 : decode cX6_gustBlows 30 = .ok (.iaload, 1) := by decide +kernel
theorem dX6_gustBlows_31 : decode cX6_gustBlows 31 = .ok (.iconst 2, 1) := by decide +kernel
theorem dX6_gustBlows_32 : decode cX6_gustBlows 32 = .ok (.idiv, 1) := by decide +kernel
theorem dX6_gustBlows_33 : decode cX6_gustBlows 33 = .ok (.istore_n 2, 1) := by decide +kernel
theorem dX6_gustBlows_34 : decode cX6_gustBlows 34 = .ok (.aload_n 0, 1) := by decide +kernel
theorem dX6_gustBlows_35 : decode cX6_gustBlows 35 = .ok (.getfield 22, 3) := by decide +kernel
theorem dX6_gustBlows_38 : decode cX6_gustBlows 38 = .ok (.iload_n 1, 1) := by decide +kernel
theorem dX6_gustBlows_39 : decode cX6_gustBlows 39 = .ok (.dup2, 1) := by decide +kernel
theorem dX6_gustBlows_40 : decode cX6_gustBlows 40 = .ok (.iaload, 1) := by decide +kernel
theorem dX6_gustBlows_41 : decode cX6_gustBlows 41 = .ok (.iload_n 2, 1) := by decide +kernel
theorem dX6_gustBlows_42 : decode cX6_gustBlows 42 = .ok (.isub, 1) := by decide +kernel
theorem dX6_gustBlows_43 : decode cX6_gustBlows 43 = .ok (.iastore, 1) := by decide +kernel
theorem dX6_gustBlows_44 : decode cX6_gustBlows 44 = .ok (.iload_n 1, 1) := by decide +kernel
theorem dX6_gustBlows_45 : decode cX6_gustBlows 45 = .ok (.aload_n 0, 1) := by decide +kernel
theorem dX6_gustBlows_46 : decode cX6_gustBlows 46 = .ok (.getfield 29, 3) := by decide +kernel
theorem dX6_gustBlows_49 : decode cX6_gustBlows 49 = .ok (.iconst 2, 1) := by decide +kernel
theorem dX6_gustBlows_50 : decode cX6_gustBlows 50 = .ok (.iaload, 1) := by decide +kernel
theorem dX6_gustBlows_51 : decode cX6_gustBlows 51 = .ok (.iadd, 1) := by decide +kernel
theorem dX6_gustBlows_52 : decode cX6_gustBlows 52 = .ok (.istore_n 3, 1) := by decide +kernel
theorem dX6_gustBlows_53 : decode cX6_gustBlows 53 = .ok (.iload_n 3, 1) := by decide +kernel
theorem dX6_gustBlows_54 : decode cX6_gustBlows 54 = .ok (.invokestatic 144, 3) := by decide +kernel
theorem dX6_gustBlows_57 : decode cX6_gustBlows 57 = .ok (.ifCond .eq 16, 3) := by decide +kernel
theorem dX6_gustBlows_60 : decode cX6_gustBlows 60 = .ok (.aload_n 0, 1) := by decide +kernel
theorem dX6_gustBlows_61 : decode cX6_gustBlows 61 = .ok (.getfield 22, 3) := by decide +kernel
theorem dX6_gustBlows_64 : decode cX6_gustBlows 64 = .ok (.iload_n 3, 1) := by decide +kernel
theorem dX6_gustBlows_65 : decode cX6_gustBlows 65 = .ok (.dup2, 1) := by decide +kernel
theorem dX6_gustBlows_66 : decode cX6_gustBlows 66 = .ok (.iaload, 1) := by decide +kernel
theorem dX6_gustBlows_67 : decode cX6_gustBlows 67 = .ok (.iload_n 2, 1) := by decide +kernel
theorem dX6_gustBlows_68 : decode cX6_gustBlows 68 = .ok (.iadd, 1) := by decide +kernel
theorem dX6_gustBlows_69 : decode cX6_gustBlows 69 = .ok (.iastore, 1) := by decide +kernel
theorem dX6_gustBlows_70 : decode cX6_gustBlows 70 = .ok (.goto 13, 3) := by decide +kernel
theorem dX6_gustBlows_73 : decode cX6_gustBlows 73 = .ok (.aload_n 0, 1) := by decide +kernel
theorem dX6_gustBlows_74 : decode cX6_gustBlows 74 = .ok (.dup, 1) := by decide +kernel
theorem dX6_gustBlows_75 : decode cX6_gustBlows 75 = .ok (.getfield 65, 3) := by decide +kernel
theorem dX6_gustBlows_78 : decode cX6_gustBlows 78 = .ok (.iload_n 2, 1) := by decide +kernel
theorem dX6_gustBlows_79 : decode cX6_gustBlows 79 = .ok (.iadd, 1) := by decide +kernel
theorem dX6_gustBlows_80 : decode cX6_gustBlows 80 = .ok (.putfield 65, 3) := by decide +kernel
theorem dX6_gustBlows_83 : decode cX6_gustBlows 83 = .ok (.return_, 1) := by decide +kernel
theorem dX6_sprout_0 : decode cX6_sprout 0 = .ok (.iconst 0, 1) := by decide +kernel
theorem dX6_sprout_1 : decode cX6_sprout 1 = .ok (.istore_n 1, 1) := by decide +kernel
theorem dX6_sprout_2 : decode cX6_sprout 2 = .ok (.iconst 0, 1) := by decide +kernel
theorem dX6_sprout_3 : decode cX6_sprout 3 = .ok (.istore_n 2, 1) := by decide +kernel
theorem dX6_sprout_4 : decode cX6_sprout 4 = .ok (.iload_n 2, 1) := by decide +kernel
theorem dX6_sprout_5 : decode cX6_sprout 5 = .ok (.bipush 60, 2) := by decide +kernel
theorem dX6_sprout_7 : decode cX6_sprout 7 = .ok (.if_icmp .ge 43, 3) := by decide +kernel
theorem dX6_sprout_10 : decode cX6_sprout 10 = .ok (.aload_n 0, 1) := by decide +kernel
theorem dX6_sprout_11 : decode cX6_sprout 11 = .ok (.getfield 22, 3) := by decide +kernel
theorem dX6_sprout_14 : decode cX6_sprout 14 = .ok (.iload_n 2, 1) := by decide +kernel
theorem dX6_sprout_15 : decode cX6_sprout 15 = .ok (.iaload, 1) := by decide +kernel
theorem dX6_sprout_16 : decode cX6_sprout 16 = .ok (.bipush 10, 2) := by decide +kernel
theorem dX6_sprout_18 : decode cX6_sprout 18 = .ok (.idiv, 1) := by decide +kernel
theorem dX6_sprout_19 : decode cX6_sprout 19 = .ok (.istore_n 3, 1) := by decide +kernel
theorem dX6_sprout_20 : decode cX6_sprout 20 = .ok (.aload_n 0, 1) := by decide +kernel
theorem dX6_sprout_21 : decode cX6_sprout 21 = .ok (.getfield 22, 3) := by decide +kernel
theorem dX6_sprout_24 : decode cX6_sprout 24 = .ok (.iload_n 2, 1) := by decide +kernel
theorem dX6_sprout_25 : decode cX6_sprout 25 = .ok (.dup2, 1) := by decide +kernel
theorem dX6_sprout_26 : decode cX6_sprout 26 = .ok (.iaload, 1) := by decide +kernel
theorem dX6_sprout_27 : decode cX6_sprout 27 = .ok (.iload_n 3, 1) := by decide +kernel
theorem dX6_sprout_28 : decode cX6_sprout 28 = .ok (.isub, 1) := by decide +kernel
theorem dX6_sprout_29 : decode cX6_sprout 29 = .ok (.iastore, 1) := by decide +kernel
theorem dX6_sprout_30 : decode cX6_sprout 30 = .ok (.aload_n 0, 1) := by decide +kernel
theorem dX6_sprout_31 : decode cX6_sprout 31 = .ok (.getfield 26, 3) := by decide +kernel
theorem dX6_sprout_34 : decode cX6_sprout 34 = .ok (.iload_n 2, 1) := by decide +kernel
theorem dX6_sprout_35 : decode cX6_sprout 35 = .ok (.dup2, 1) := by decide +kernel
theorem dX6_sprout_36 : decode cX6_sprout 36 = .ok (.iaload, 1) := by decide +kernel
theorem dX6_sprout_37 : decode cX6_sprout 37 = .ok (.iload_n 3, 1) := by decide +kernel
theorem dX6_sprout_38 : decode cX6_sprout 38 = .ok (.iadd, 1) := by decide +kernel
theorem dX6_sprout_39 : decode cX6_sprout 39 = .ok (.iastore, 1) := by decide +kernel
theorem dX6_sprout_40 : decode cX6_sprout 40 = .ok (.iload_n 1, 1) := by decide +kernel
theorem dX6_sprout_41 : decode cX6_sprout 41 = .ok (.iload_n 3, 1) := by decide +kernel
theorem dX6_sprout_42 : decode cX6_sprout 42 = .ok (.iadd, 1) := by decide +kernel
theorem dX6_sprout_43 : decode cX6_sprout 43 = .ok (.istore_n 1, 1) := by decide +kernel
theorem dX6_sprout_44 : decode cX6_sprout 44 = .ok (.iinc 2 1, 3) := by decide +kernel
theorem dX6_sprout_47 : decode cX6_sprout 47 = .ok (.goto (-43), 3) := by decide +kernel
theorem dX6_sprout_50 : decode cX6_sprout 50 = .ok (.iload_n 1, 1) := by decide +kernel
theorem dX6_sprout_51 : decode cX6_sprout 51 = .ok (.ireturn, 1) := by decide +kernel
theorem dX6_takeAll_0 : decode cX6_takeAll 0 = .ok (.iload_n 1, 1) := by decide +kernel
theorem dX6_takeAll_1 : decode cX6_takeAll 1 = .ok (.invokestatic 144, 3) := by decide +kernel
theorem dX6_takeAll_4 : decode cX6_takeAll 4 = .ok (.ifCond .ne 5, 3) := by decide +kernel
theorem dX6_takeAll_7 : decode cX6_takeAll 7 = .ok (.iconst 0, 1) := by decide +kernel
theorem dX6_takeAll_8 : decode cX6_takeAll 8 = .ok (.ireturn, 1) := by decide +kernel
theorem dX6_takeAll_9 : decode cX6_takeAll 9 = .ok (.aload_n 0, 1) := by decide +kernel
theorem dX6_takeAll_10 : decode cX6_takeAll 10 = .ok (.getfield 22, 3) := by decide +kernel
theorem dX6_takeAll_13 : decode cX6_takeAll 13 = .ok (.iload_n 1, 1) := by decide +kernel
theorem dX6_takeAll_14 : decode cX6_takeAll 14 = .ok (.iaload, 1) := by decide +kernel
theorem dX6_takeAll_15 : decode cX6_takeAll 15 = .ok (.istore_n 2, 1) := by decide +kernel
theorem dX6_takeAll_16 : decode cX6_takeAll 16 = .ok (.aload_n 0, 1) := by decide +kernel
theorem dX6_takeAll_17 : decode cX6_takeAll 17 = .ok (.getfield 22, 3) := by decide +kernel
theorem dX6_takeAll_20 : decode cX6_takeAll 20 = .ok (.iload_n 1, 1) := by decide +kernel
theorem dX6_takeAll_21 : decode cX6_takeAll 21 = .ok (.iconst 0, 1) := by decide +kernel
theorem dX6_takeAll_22 : decode cX6_takeAll 22 = .ok (.iastore, 1) := by decide +kernel
theorem dX6_takeAll_23 : decode cX6_takeAll 23 = .ok (.iload_n 2, 1) := by decide +kernel
theorem dX6_takeAll_24 : decode cX6_takeAll 24 = .ok (.ireturn, 1) := by decide +kernel
theorem dX6_grainOfAll_0 : decode cX6_grainOfAll 0 = .ok (.iconst 0, 1) := by decide +kernel
theorem dX6_grainOfAll_1 : decode cX6_grainOfAll 1 = .ok (.istore_n 1, 1) := by decide +kernel
theorem dX6_grainOfAll_2 : decode cX6_grainOfAll 2 = .ok (.iconst 0, 1) := by decide +kernel
theorem dX6_grainOfAll_3 : decode cX6_grainOfAll 3 = .ok (.istore_n 2, 1) := by decide +kernel
theorem dX6_grainOfAll_4 : decode cX6_grainOfAll 4 = .ok (.iload_n 2, 1) := by decide +kernel
theorem dX6_grainOfAll_5 : decode cX6_grainOfAll 5 = .ok (.aload_n 0, 1) := by decide +kernel
theorem dX6_grainOfAll_6 : decode cX6_grainOfAll 6 = .ok (.getfield 46, 3) := by decide +kernel
theorem dX6_grainOfAll_9 : decode cX6_grainOfAll 9 = .ok (.if_icmp .ge 21, 3) := by decide +kernel
theorem dX6_grainOfAll_12 : decode cX6_grainOfAll 12 = .ok (.iload_n 1, 1) := by decide +kernel
theorem dX6_grainOfAll_13 : decode cX6_grainOfAll 13 = .ok (.aload_n 0, 1) := by decide +kernel
theorem dX6_grainOfAll_14 : decode cX6_grainOfAll 14 = .ok (.getfield 17, 3) := by decide +kernel
theorem dX6_grainOfAll_17 : decode cX6_grainOfAll 17 = .ok (.iload_n 2, 1) := by decide +kernel
theorem dX6_grainOfAll_18 : decode cX6_grainOfAll 18 = .ok (.aaload, 1) := by decide +kernel
theorem dX6_grainOfAll_19 : decode cX6_grainOfAll 19 = .ok (.getfield 83, 3) := by decide +kernel
theorem dX6_grainOfAll_22 : decode cX6_grainOfAll 22 = .ok (.iadd, 1) := by decide +kernel
theorem dX6_grainOfAll_23 : decode cX6_grainOfAll 23 = .ok (.istore_n 1, 1) := by decide +kernel
theorem dX6_grainOfAll_24 : decode cX6_grainOfAll 24 = .ok (.iinc 2 1, 3) := by decide +kernel
theorem dX6_grainOfAll_27 : decode cX6_grainOfAll 27 = .ok (.goto (-23), 3) := by decide +kernel
theorem dX6_grainOfAll_30 : decode cX6_grainOfAll 30 = .ok (.iload_n 1, 1) := by decide +kernel
theorem dX6_grainOfAll_31 : decode cX6_grainOfAll 31 = .ok (.ireturn, 1) := by decide +kernel
theorem dX6_trail_0 : decode cX6_trail 0 = .ok (.iconst 0, 1) := by decide +kernel
theorem dX6_trail_1 : decode cX6_trail 1 = .ok (.istore_n 1, 1) := by decide +kernel
theorem dX6_trail_2 : decode cX6_trail 2 = .ok (.iconst 0, 1) := by decide +kernel
theorem dX6_trail_3 : decode cX6_trail 3 = .ok (.istore_n 2, 1) := by decide +kernel
theorem dX6_trail_4 : decode cX6_trail 4 = .ok (.iconst 0, 1) := by decide +kernel
theorem dX6_trail_5 : decode cX6_trail 5 = .ok (.istore_n 3, 1) := by decide +kernel
theorem dX6_trail_6 : decode cX6_trail 6 = .ok (.iload_n 3, 1) := by decide +kernel
theorem dX6_trail_7 : decode cX6_trail 7 = .ok (.bipush 60, 2) := by decide +kernel
theorem dX6_trail_9 : decode cX6_trail 9 = .ok (.if_icmp .ge 32, 3) := by decide +kernel
theorem dX6_trail_12 : decode cX6_trail 12 = .ok (.aload_n 0, 1) := by decide +kernel
theorem dX6_trail_13 : decode cX6_trail 13 = .ok (.getfield 22, 3) := by decide +kernel
theorem dX6_trail_16 : decode cX6_trail 16 = .ok (.iload_n 3, 1) := by decide +kernel
theorem dX6_trail_17 : decode cX6_trail 17 = .ok (.iaload, 1) := by decide +kernel
theorem dX6_trail_18 : decode cX6_trail 18 = .ok (.ifCond .le 9, 3) := by decide +kernel
theorem dX6_trail_21 : decode cX6_trail 21 = .ok (.iload_n 2, 1) := by decide +kernel
theorem dX6_trail_22 : decode cX6_trail 22 = .ok (.iconst 1, 1) := by decide +kernel
theorem dX6_trail_23 : decode cX6_trail 23 = .ok (.iadd, 1) := by decide +kernel
theorem dX6_trail_24 : decode cX6_trail 24 = .ok (.goto 4, 3) := by decide +kernel
theorem dX6_trail_27 : decode cX6_trail 27 = .ok (.iconst 0, 1) := by decide +kernel
theorem dX6_trail_28 : decode cX6_trail 28 = .ok (.istore_n 2, 1) := by decide +kernel
theorem dX6_trail_29 : decode cX6_trail 29 = .ok (.iload_n 1, 1) := by decide +kernel
theorem dX6_trail_30 : decode cX6_trail 30 = .ok (.iload_n 2, 1) := by decide +kernel
theorem dX6_trail_31 : decode cX6_trail 31 = .ok (.invokestatic 148, 3) := by decide +kernel
theorem dX6_trail_34 : decode cX6_trail 34 = .ok (.istore_n 1, 1) := by decide +kernel
theorem dX6_trail_35 : decode cX6_trail 35 = .ok (.iinc 3 1, 3) := by decide +kernel
theorem dX6_trail_38 : decode cX6_trail 38 = .ok (.goto (-32), 3) := by decide +kernel
theorem dX6_trail_41 : decode cX6_trail 41 = .ok (.iload_n 1, 1) := by decide +kernel
theorem dX6_trail_42 : decode cX6_trail 42 = .ok (.ireturn, 1) := by decide +kernel
theorem dX6_fullestYard_0 : decode cX6_fullestYard 0 = .ok (.iconst 0, 1) := by decide +kernel
theorem dX6_fullestYard_1 : decode cX6_fullestYard 1 = .ok (.istore_n 1, 1) := by decide +kernel
theorem dX6_fullestYard_2 : decode cX6_fullestYard 2 = .ok (.iconst 1, 1) := by decide +kernel
theorem dX6_fullestYard_3 : decode cX6_fullestYard 3 = .ok (.istore_n 2, 1) := by decide +kernel
theorem dX6_fullestYard_4 : decode cX6_fullestYard 4 = .ok (.iload_n 2, 1) := by decide +kernel
theorem dX6_fullestYard_5 : decode cX6_fullestYard 5 = .ok (.bipush 60, 2) := by decide +kernel
theorem dX6_fullestYard_7 : decode cX6_fullestYard 7 = .ok (.if_icmp .ge 26, 3) := by decide +kernel
theorem dX6_fullestYard_10 : decode cX6_fullestYard 10 = .ok (.aload_n 0, 1) := by decide +kernel
theorem dX6_fullestYard_11 : decode cX6_fullestYard 11 = .ok (.getfield 22, 3) := by decide +kernel
theorem dX6_fullestYard_14 : decode cX6_fullestYard 14 = .ok (.iload_n 2, 1) := by decide +kernel
theorem dX6_fullestYard_15 : decode cX6_fullestYard 15 = .ok (.iaload, 1) := by decide +kernel
theorem dX6_fullestYard_16 : decode cX6_fullestYard 16 = .ok (.aload_n 0, 1) := by decide +kernel
theorem dX6_fullestYard_17 : decode cX6_fullestYard 17 = .ok (.getfield 22, 3) := by decide +kernel
theorem dX6_fullestYard_20 : decode cX6_fullestYard 20 = .ok (.iload_n 1, 1) := by decide +kernel
theorem dX6_fullestYard_21 : decode cX6_fullestYard 21 = .ok (.iaload, 1) := by decide +kernel
theorem dX6_fullestYard_22 : decode cX6_fullestYard 22 = .ok (.if_icmp .le 5, 3) := by decide +kernel
theorem dX6_fullestYard_25 : decode cX6_fullestYard 25 = .ok (.iload_n 2, 1) := by decide +kernel
theorem dX6_fullestYard_26 : decode cX6_fullestYard 26 = .ok (.istore_n 1, 1) := by decide +kernel
theorem dX6_fullestYard_27 : decode cX6_fullestYard 27 = .ok (.iinc 2 1, 3) := by decide +kernel
theorem dX6_fullestYard_30 : decode cX6_fullestYard 30 = .ok (.goto (-26), 3) := by decide +kernel
theorem dX6_fullestYard_33 : decode cX6_fullestYard 33 = .ok (.iload_n 1, 1) := by decide +kernel
theorem dX6_fullestYard_34 : decode cX6_fullestYard 34 = .ok (.ireturn, 1) := by decide +kernel
theorem dX6_isThrough_0 : decode cX6_isThrough 0 = .ok (.iconst 0, 1) := by decide +kernel
theorem dX6_isThrough_1 : decode cX6_isThrough 1 = .ok (.istore_n 1, 1) := by decide +kernel
theorem dX6_isThrough_2 : decode cX6_isThrough 2 = .ok (.iload_n 1, 1) := by decide +kernel
theorem dX6_isThrough_3 : decode cX6_isThrough 3 = .ok (.aload_n 0, 1) := by decide +kernel
theorem dX6_isThrough_4 : decode cX6_isThrough 4 = .ok (.getfield 46, 3) := by decide +kernel
theorem dX6_isThrough_7 : decode cX6_isThrough 7 = .ok (.if_icmp .ge 37, 3) := by decide +kernel
theorem dX6_isThrough_10 : decode cX6_isThrough 10 = .ok (.aload_n 0, 1) := by decide +kernel
theorem dX6_isThrough_11 : decode cX6_isThrough 11 = .ok (.getfield 17, 3) := by decide +kernel
theorem dX6_isThrough_14 : decode cX6_isThrough 14 = .ok (.iload_n 1, 1) := by decide +kernel
theorem dX6_isThrough_15 : decode cX6_isThrough 15 = .ok (.aaload, 1) := by decide +kernel
theorem dX6_isThrough_16 : decode cX6_isThrough 16 = .ok (.getfield 83, 3) := by decide +kernel
theorem dX6_isThrough_19 : decode cX6_isThrough 19 = .ok (.ifCond .le 19, 3) := by decide +kernel
theorem dX6_isThrough_22 : decode cX6_isThrough 22 = .ok (.aload_n 0, 1) := by decide +kernel
theorem dX6_isThrough_23 : decode cX6_isThrough 23 = .ok (.getfield 17, 3) := by decide +kernel
theorem dX6_isThrough_26 : decode cX6_isThrough 26 = .ok (.iload_n 1, 1) := by decide +kernel
theorem dX6_isThrough_27 : decode cX6_isThrough 27 = .ok (.aaload, 1) := by decide +kernel
theorem dX6_isThrough_28 : decode cX6_isThrough 28 = .ok (.getfield 80, 3) := by decide +kernel
theorem dX6_isThrough_31 : decode cX6_isThrough 31 = .ok (.bipush 59, 2) := by decide +kernel
theorem dX6_isThrough_33 : decode cX6_isThrough 33 = .ok (.if_icmp .ge 5, 3) := by decide +kernel
theorem dX6_isThrough_36 : decode cX6_isThrough 36 = .ok (.iconst 0, 1) := by decide +kernel
theorem dX6_isThrough_37 : decode cX6_isThrough 37 = .ok (.ireturn, 1) := by decide +kernel
theorem dX6_isThrough_38 : decode cX6_isThrough 38 = .ok (.iinc 1 1, 3) := by decide +kernel
theorem dX6_isThrough_41 : decode cX6_isThrough 41 = .ok (.goto (-39), 3) := by decide +kernel
theorem dX6_isThrough_44 : decode cX6_isThrough 44 = .ok (.iconst 1, 1) := by decide +kernel
theorem dX6_isThrough_45 : decode cX6_isThrough 45 = .ok (.ireturn, 1) := by decide +kernel
